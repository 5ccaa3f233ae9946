/-! A sum that isn't negative, over a count that isn't 0, as doubles: no NaN, and not below 0. -/
/-- a number with the sign + -/
def fPl (d : FP.Core.Datum) : Prop := d = .inf false ∨ ∃ c q, d = .fin false c q
theorem fRat (num den : Nat) (e : Int) : fPl (FP.Core.roundRatio FP.Core.b64 false num den e) := by
  unfold FP.Core.roundRatio
  split
  · exact Or.inr ⟨_, _, rfl⟩
  · unfold FP.Core.roundAt FP.Core.settle FP.Core.bound
    split
    · split
      · exact Or.inr ⟨_, _, rfl⟩
      · exact Or.inl rfl
    · split
      · exact Or.inr ⟨_, _, rfl⟩
      · exact Or.inl rfl
theorem fEnc {d : FP.Core.Datum} (hp : fPl d) (hf : FP.Core.fits FP.Core.b64 d) : FP.Core.encode FP.Core.b64 d ≤ 9218868437227405312 := by
  rcases hp with rfl | ⟨c, q, rfl⟩
  · decide +kernel
  · obtain ⟨h1, h2, h3, h4⟩ := hf
    have e1 : (2 : Nat) ^ FP.Core.b64.p = 9007199254740992 := by decide +kernel
    have e2 : FP.Core.b64.qmin = -1074 := by decide +kernel
    have e3 : FP.Core.b64.qmax = 971 := by decide +kernel
    have e4 : FP.Core.b64.tails = 4503599627370496 := by decide +kernel
    have e5 : FP.Core.b64.exps = 2048 := by decide +kernel
    rw [e1] at h1
    rw [e2] at h2
    rw [e3] at h3
    unfold FP.Core.encode
    dsimp only
    rw [e2, e4]
    have hs : ∀ e t : Nat, FP.Core.assemble FP.Core.b64 false e t = e * 4503599627370496 + t := fun e t => by
      unfold FP.Core.assemble
      rw [e4, e5]
      show (0 * 2048 + e) * 4503599627370496 + t = _
      rw [Nat.zero_mul, Nat.zero_add]
    split
    · rw [hs]; omega
    · rw [hs]
      have h5 : (q - -1074).toNat + 1 ≤ 2046 := by omega
      have h6 := Nat.mul_le_mul_right 4503599627370496 h5
      have h7 : c - 4503599627370496 ≤ 4503599627370496 := Nat.sub_le_iff_le_add.mpr (Nat.le_trans (Nat.le_of_lt h1) (by decide +kernel))
      exact Nat.le_trans (Nat.add_le_add h6 h7) (by decide +kernel)
theorem fN64 {d : FP.Core.Datum} (hp : fPl d) (hf : FP.Core.fits FP.Core.b64 d) : vf_n64 (FP.Core.of64 d) := by
  have h1 := fEnc hp hf
  have h2 : (FP.Core.of64 d).toNat = FP.Core.encode FP.Core.b64 d := by
    unfold FP.Core.of64
    exact UInt64.toNat_ofNat_of_lt' (by show _ < 2 ^ 64; omega)
  show FP.Core.of64 d &&& 0x7fffffffffffffff ≤ 0x7ff0000000000000
  rw [UInt64.le_iff_toNat_le, UInt64.toNat_and]
  refine Nat.le_trans Nat.and_le_left ?_
  rw [h2]
  exact h1
/-- not below 0 -/
def dNN (r : UInt64) : Prop := FP.dcmp r FP.dconst0 = some .eq ∨ FP.dcmp r FP.dconst0 = some .gt
theorem fCmp {d : FP.Core.Datum} (hp : fPl d) (hf : FP.Core.fits FP.Core.b64 d) : dNN (FP.Core.of64 d) := by
  have h1 : FP.dcmp (FP.Core.of64 d) FP.dconst0 = FP.Core.order (FP.Core.val64 (FP.Core.of64 d)) (FP.Core.val64 FP.dconst0) := rfl
  have h0 : FP.Core.val64 FP.dconst0 = .fin false 0 (-1074) := by decide +kernel
  unfold dNN
  rw [h1, FP.Core.val64_of64 hf, h0]
  rcases hp with rfl | ⟨c, q, rfl⟩
  · exact Or.inr (by decide +kernel)
  · have h2 : FP.Core.order (.fin false c q) (.fin false 0 (-1074)) = some (compare ((c * 2 ^ (q - min q (-1074)).toNat : Nat) : Int) ((0 * 2 ^ (-1074 - min q (-1074)).toNat : Nat) : Int)) := rfl
    rw [h2, Nat.zero_mul]
    generalize c * 2 ^ (q - min q (-1074)).toNat = k
    by_cases hk : k = 0
    · subst hk; exact Or.inl rfl
    · refine Or.inr (congrArg some ?_)
      show compareOfLessAndEq ((k : Int)) 0 = .gt
      unfold compareOfLessAndEq
      rw [if_neg (by omega), if_neg (by omega)]
theorem fInt {z : Int} (h0 : 0 ≤ z) (h1 : z < 2147483648) : fPl (FP.Core.val64 (FP.i2d (iI z))) := by
  have h2 : FP.Core.val64 (FP.i2d (iI z)) = FP.Core.round FP.Core.b64 (FP.Core.ofInt (iI z).toInt) := FP.Core.val64_i2d _
  rw [h2, iI_toInt (by omega) h1]
  have h3 : FP.Core.round FP.Core.b64 (FP.Core.ofInt z) = FP.Core.roundRatio FP.Core.b64 (decide (z < 0)) z.natAbs 1 0 := rfl
  rw [h3, show decide (z < 0) = false from decide_eq_false (by omega)]
  exact fRat _ _ _
theorem fCnt {k : Nat} (h0 : 0 < k) (h6 : k ≤ 6) : ∃ c q, 0 < c ∧ FP.Core.val64 (FP.i2d (nI k)) = .fin false c q := by
  rcases (show k = 1 ∨ k = 2 ∨ k = 3 ∨ k = 4 ∨ k = 5 ∨ k = 6 by omega) with rfl | rfl | rfl | rfl | rfl | rfl
  · exact ⟨4503599627370496, -52, by decide, by decide +kernel⟩
  · exact ⟨4503599627370496, -51, by decide, by decide +kernel⟩
  · exact ⟨6755399441055744, -51, by decide, by decide +kernel⟩
  · exact ⟨4503599627370496, -50, by decide, by decide +kernel⟩
  · exact ⟨5629499534213120, -50, by decide, by decide +kernel⟩
  · exact ⟨6755399441055744, -50, by decide, by decide +kernel⟩
theorem fDiv {z : Int} {k : Nat} (h0 : 0 ≤ z) (h1 : z < 2147483648) (hk : 0 < k) (h6 : k ≤ 6) : vf_n64 (FP.ddiv (FP.i2d (iI z)) (FP.i2d (nI k))) ∧ dNN (FP.ddiv (FP.i2d (iI z)) (FP.i2d (nI k))) := by
  obtain ⟨c, q, hc, he⟩ := fCnt hk h6
  have h2 : FP.ddiv (FP.i2d (iI z)) (FP.i2d (nI k)) = FP.Core.of64 (FP.Core.quotient FP.Core.b64 (FP.Core.val64 (FP.i2d (iI z))) (FP.Core.val64 (FP.i2d (nI k)))) := rfl
  have hf := FP.Core.quotient_fits FP.Core.good_b64 (FP.Core.val64 (FP.i2d (iI z))) (FP.Core.val64 (FP.i2d (nI k)))
  have hp : fPl (FP.Core.quotient FP.Core.b64 (FP.Core.val64 (FP.i2d (iI z))) (FP.Core.val64 (FP.i2d (nI k)))) := by
    rw [he]
    rcases fInt h0 h1 with e | ⟨c1, q1, e⟩
    · rw [e]; exact Or.inl rfl
    · rw [e]
      show fPl (if c = 0 then (if c1 = 0 then FP.Core.Datum.nan else .inf (false != false)) else FP.Core.roundRatio FP.Core.b64 (false != false) c1 c (q1 - q))
      rw [if_neg (by omega)]
      exact fRat _ _ _
  rw [h2]
  exact ⟨fN64 hp hf, fCmp hp hf⟩
theorem dX8_meanWait_0 : decode cX8_meanWait 0 = .ok (.aload_n 0, 1) := by decide +kernel
theorem dX8_meanWait_1 : decode cX8_meanWait 1 = .ok (.getfield 57, 3) := by decide +kernel
theorem dX8_meanWait_4 : decode cX8_meanWait 4 = .ok (.getfield 218, 3) := by decide +kernel
theorem dX8_meanWait_7 : decode cX8_meanWait 7 = .ok (.ifCond .eq 10, 3) := by decide +kernel
theorem dX8_meanWait_10 : decode cX8_meanWait 10 = .ok (.aload_n 0, 1) := by decide +kernel
theorem dX8_meanWait_11 : decode cX8_meanWait 11 = .ok (.getfield 95, 3) := by decide +kernel
theorem dX8_meanWait_14 : decode cX8_meanWait 14 = .ok (.ifCond .gt 5, 3) := by decide +kernel
theorem dX8_meanWait_19 : decode cX8_meanWait 19 = .ok (.iconst 0, 1) := by decide +kernel
theorem dX8_meanWait_20 : decode cX8_meanWait 20 = .ok (.istore_n 1, 1) := by decide +kernel
theorem dX8_meanWait_21 : decode cX8_meanWait 21 = .ok (.iconst 0, 1) := by decide +kernel
theorem dX8_meanWait_22 : decode cX8_meanWait 22 = .ok (.istore_n 2, 1) := by decide +kernel
theorem dX8_meanWait_23 : decode cX8_meanWait 23 = .ok (.iload_n 2, 1) := by decide +kernel
theorem dX8_meanWait_24 : decode cX8_meanWait 24 = .ok (.aload_n 0, 1) := by decide +kernel
theorem dX8_meanWait_25 : decode cX8_meanWait 25 = .ok (.getfield 95, 3) := by decide +kernel
theorem dX8_meanWait_28 : decode cX8_meanWait 28 = .ok (.if_icmp .ge 31, 3) := by decide +kernel
theorem dX8_meanWait_59 : decode cX8_meanWait 59 = .ok (.iload_n 1, 1) := by decide +kernel
theorem dX8_meanWait_60 : decode cX8_meanWait 60 = .ok (.i2d, 1) := by decide +kernel
theorem dX8_meanWait_61 : decode cX8_meanWait 61 = .ok (.aload_n 0, 1) := by decide +kernel
theorem dX8_meanWait_62 : decode cX8_meanWait 62 = .ok (.getfield 95, 3) := by decide +kernel
theorem dX8_meanWait_65 : decode cX8_meanWait 65 = .ok (.i2d, 1) := by decide +kernel
theorem dX8_meanWait_66 : decode cX8_meanWait 66 = .ok (.ddiv, 1) := by decide +kernel
theorem dX8_meanWait_67 : decode cX8_meanWait 67 = .ok (.dreturn, 1) := by decide +kernel
theorem dX8_meanWait_31 : decode cX8_meanWait 31 = .ok (.iload_n 1, 1) := by decide +kernel
theorem dX8_meanWait_32 : decode cX8_meanWait 32 = .ok (.aload_n 0, 1) := by decide +kernel
theorem dX8_meanWait_33 : decode cX8_meanWait 33 = .ok (.getfield 57, 3) := by decide +kernel
theorem dX8_meanWait_36 : decode cX8_meanWait 36 = .ok (.getfield 230, 3) := by decide +kernel
theorem dX8_meanWait_39 : decode cX8_meanWait 39 = .ok (.iload_n 2, 1) := by decide +kernel
theorem dX8_meanWait_40 : decode cX8_meanWait 40 = .ok (.iaload, 1) := by decide +kernel
theorem dX8_meanWait_41 : decode cX8_meanWait 41 = .ok (.aload_n 0, 1) := by decide +kernel
theorem dX8_meanWait_42 : decode cX8_meanWait 42 = .ok (.getfield 18, 3) := by decide +kernel
theorem dX8_meanWait_45 : decode cX8_meanWait 45 = .ok (.iload_n 2, 1) := by decide +kernel
theorem dX8_meanWait_46 : decode cX8_meanWait 46 = .ok (.aaload, 1) := by decide +kernel
theorem dX8_meanWait_47 : decode cX8_meanWait 47 = .ok (.getfield 105, 3) := by decide +kernel
theorem dX8_meanWait_50 : decode cX8_meanWait 50 = .ok (.isub, 1) := by decide +kernel
theorem dX8_meanWait_51 : decode cX8_meanWait 51 = .ok (.iadd, 1) := by decide +kernel
theorem dX8_meanWait_52 : decode cX8_meanWait 52 = .ok (.istore_n 1, 1) := by decide +kernel
theorem dX8_meanWait_53 : decode cX8_meanWait 53 = .ok (.iinc 2 1, 3) := by decide +kernel
theorem dX8_meanWait_56 : decode cX8_meanWait 56 = .ok (.goto (-33), 3) := by decide +kernel
set_option maxHeartbeats 4000000 in
set_option maxRecDepth 100000 in
theorem t_meanWait (l : Launch) (g : xG) (sz : Nat) (st : Nat) (fl : Nat) (pn : Nat) (ps : Nat) (vc : Nat) (vr : Nat → Nat) (wb : Nat → Nat) (fr : Nat → Nat) (bg : Nat → Nat) (s0 : Value) (s1 : Value) (s4 : Value) (s5 : Value) (s6 : Value) (s7 : Value) (s9 : Value) (s10 : Value) (s11 : Value) (s12 : Value) (s13 : Value) (s14 : Value) (q1 : Value) (q3 : Value) (Var : Nat → Int) (Vba : Nat → Nat) (Vrk : Nat → Int) (Vwa : Nat → Nat) (Vrc : Nat → Nat) (Vgl : Nat → Int) (Vhd : Nat → Int) (Vwt : Nat → Int) (qta : Nat → Int)  (hvc : vc ≤ 6) (hv0 : 0 < vc) (hav : ∀ j, j < vc → Var j ≤ qta j) (hV : ∀ j, (0 ≤ Var j ∧ Var j ≤ 400) ∧ Vba j ≤ 10 ∧ (0 ≤ Vrk j ∧ Vrk j ≤ 9) ∧ Vwa j ≤ 4 ∧ Vrc j ≤ 4 ∧ (0 ≤ Vhd j ∧ Vhd j ≤ 10100) ∧ (0 ≤ Vwt j ∧ Vwt j ≤ 40000)) (b_qta : ∀ j, 0 ≤ qta j ∧ qta j ≤ 1000000) : Met l yX8_meanWait wsX8_meanWait ({ frames := 0, cells := 0, slots := 0, locals := 0 }) (va_Pc [.ref st] (fun U => xB g ([(st, .inr (8, [s0, s1, .int (nI vc), .ref fl, s4, s5, s6, s7, .ref pn, s9, s10, s11, s12, s13, s14])), (pn, .inr (4, [.int 1, q1, .ref ps, q3])), (ps, .inl (xI g, 6, .inl (fun j => iI (qta j)))), (fl, .inl (xV g, 6, .inr (.inr (.inr (.inr (fun i => if i < 6 then some (vr i) else none))))))] ++ (xR 6 (fun i => (vr i, .inr (6, [.int (iI (Var i)), .int (nI (Vba i)), .int (iI (Vrk i)), .int (nI (Vwa i)), .int (nI (Vrc i)), .int (iI (Vgl i)), .int (iI (Vhd i)), .int (iI (Vwt i)), .ref (wb i), .ref (fr i), .ref (bg i)]))) ++ [])) sz U)) (va_Qd (fun (r : UInt64) (_ : Unit) => dNN r) (fun (_ : Unit) (_ : State) => True) (va_A [] sz)) 0 0 (va_A [] sz) := by
  refine Met.ofW (cc := cX8_meanWait) (maxL := 3) (ret := (some .double)) (by decide) rfl ?_
  intro p e s m args below meth c s₁ B hml hv
  obtain ⟨rfl, hsz, hP, hK, hD0⟩ := hv
  have hx := B.exec
  have hb := B.bytes
  have hr := B.returns
  have hts := atoms_spec (ws := wsX8_meanWait) B.pre
  have hown : s.vm.findClass RX8 = some m.cls := findClass_of_methodNamed B.named
  have hlocks := B.notSynchronized
  subst hsz
  have hD := hD0
  generalize hAe : va_A [] s.heap.size = A
  have hA : ∀ q : Nat, s.heap.size ≤ q → A q := fun q h => by rw [← hAe]; exact Or.inr h
  have hS : va_S A s.heap s.heap [] := va_S.rf
  have hl := lv_entry ([.ref st]) (n := 3) (Nat.le_of_ble_eq_true rfl)
  rw [lg_entry_eq]
  generalize (lg_sl ([.ref st]) ++ List.replicate (3 - (lg_sl ([.ref st])).length) Slot.unset).toArray = ls at hl ⊢
  have hl : lv_has ls 3 [(0, .ref st)] := hl
  have hFX4 : ∀ w ∈ u_ws RX4 TX4 4, w ∈ wsX8_meanWait := by decide +kernel
  have hFX6 : ∀ w ∈ u_ws RX6 TX6 11, w ∈ wsX8_meanWait := by decide +kernel
  have hFX8 : ∀ w ∈ u_ws RX8 TX8 15, w ∈ wsX8_meanWait := by decide +kernel
  refine lv_aload_n hx hb dX8_meanWait_0 rfl (lv_at hl 0 rfl) ?_
  refine va_get (D := xD g) (ci := 8) (v := .ref pn) (C := RX8) (T := TX8) (N := 15) hx hb hts hFX8 hown hK hP 0 rfl rfl 8 (by decide) (hts (.fieldLink RX8 57 "Stevedore" "plan" "LStevedore$Plan;") (by decide +kernel)) (fun _ h9 => h9) rfl dX8_meanWait_1 ?_
  refine va_get (D := xD g) (ci := 4) (v := .int 1) (C := RX4) (T := TX4) (N := 4) hx hb hts hFX4 hown hK hP 1 rfl rfl 0 (by decide) (hts (.fieldLink RX8 218 "Stevedore$Plan" "isMade" "Z") (by decide +kernel)) (fun _ h9 => h9) rfl dX8_meanWait_4 ?_
  refine lv_if_eq (tgt := 17) hx hb dX8_meanWait_7 (by decide) (fun c0 => absurd c0 (by decide)) (fun _ => ?_)
  refine lv_aload_n hx hb dX8_meanWait_10 rfl (lv_at hl 0 rfl) ?_
  refine va_get (D := xD g) (ci := 8) (v := .int (nI vc)) (C := RX8) (T := TX8) (N := 15) hx hb hts hFX8 hown hK hP 0 rfl rfl 2 (by decide) (hts (.fieldLink RX8 95 "Stevedore" "vesselCount" "I") (by decide +kernel)) (fun _ h9 => h9) rfl dX8_meanWait_11 ?_
  refine lv_if_gt (tgt := 19) hx hb dX8_meanWait_14 (by decide) (fun c_1 => ?_) (fun c_1 => ?_)
  · have nc_1 := (nI_ltI (a := 0) (b := vc) (by omega) (by omega)).mp c_1
    refine lv_iconst (v := 0) hx hb dX8_meanWait_19 (by decide) ?_
    refine lv_istore_n (lv' := [(1, .int 0), (0, .ref st)]) hx hb dX8_meanWait_20 rfl hl (by decide) rfl (fun ls hl => ?_)
    refine lv_iconst (v := 0) hx hb dX8_meanWait_21 (by decide) ?_
    refine lv_istore_n (lv' := [(2, .int 0), (1, .int 0), (0, .ref st)]) hx hb dX8_meanWait_22 rfl hl (by decide) rfl (fun ls hl => ?_)
    have hloop23 : ∀ (n9 : Nat) (k : Nat) (sm : Int) (H : Heap) (locs : List Loc) (ls : Array Slot), vc - k < n9 → (k ≤ vc) → (0 ≤ sm ∧ sm ≤ 1000000 * ((k : Nat) : Int)) → va_P (xD g) vwCl ([(st, .inr (8, [s0, s1, .int (nI vc), .ref fl, s4, s5, s6, s7, .ref pn, s9, s10, s11, s12, s13, s14])), (pn, .inr (4, [.int 1, q1, .ref ps, q3])), (ps, .inl (xI g, 6, .inl (fun j => iI (qta j)))), (fl, .inl (xV g, 6, .inr (.inr (.inr (.inr (fun i => if i < 6 then some (vr i) else none))))))] ++ (xR 6 (fun i => (vr i, .inr (6, [.int (iI (Var i)), .int (nI (Vba i)), .int (iI (Vrk i)), .int (nI (Vwa i)), .int (nI (Vrc i)), .int (iI (Vgl i)), .int (iI (Vhd i)), .int (iI (Vwt i)), .ref (wb i), .ref (fr i), .ref (bg i)]))) ++ [])) H → va_D (fun _ => True) ([(st, .inr (8, [s0, s1, .int (nI vc), .ref fl, s4, s5, s6, s7, .ref pn, s9, s10, s11, s12, s13, s14])), (pn, .inr (4, [.int 1, q1, .ref ps, q3])), (ps, .inl (xI g, 6, .inl (fun j => iI (qta j)))), (fl, .inl (xV g, 6, .inr (.inr (.inr (.inr (fun i => if i < 6 then some (vr i) else none))))))] ++ (xR 6 (fun i => (vr i, .inr (6, [.int (iI (Var i)), .int (nI (Vba i)), .int (iI (Vrk i)), .int (nI (Vwa i)), .int (nI (Vrc i)), .int (iI (Vgl i)), .int (iI (Vhd i)), .int (iI (Vwt i)), .ref (wb i), .ref (fr i), .ref (bg i)]))) ++ [])) → va_S A s.heap H locs → lv_has ls 3 [(2, .int (nI k)), (0, .ref st), (1, .int (iI sm))] → W p l e (headSpec wsX8_meanWait ({ frames := 0, cells := 0, slots := 0, locals := 0 })).room s m ([.ref st] : List Value).toArray below meth c H locs 0 0 (MQ below (va_Qd (fun (r : UInt64) (_ : Unit) => dNN r) (fun (_ : Unit) (_ : State) => True) (A)) ([.ref st] : List Value).toArray s 0 0 A) (F0 m 23 ls []) := by
      intro n9
      induction n9 with
      | zero =>
        intro k sm H locs ls hm hk hsm hP hD hS hl
        exact absurd hm (Nat.not_lt_zero _)
      | succ n9 ih23 =>
        intro k sm H locs ls hm hk hsm hP hD hS hl
        have hVk := hV k
        have hbs := b_qta k
        refine lv_iload_n hx hb dX8_meanWait_23 rfl (lv_at hl 0 rfl) ?_
        refine lv_aload_n hx hb dX8_meanWait_24 rfl (lv_at hl 1 rfl) ?_
        refine va_get (D := xD g) (ci := 8) (v := .int (nI vc)) (C := RX8) (T := TX8) (N := 15) hx hb hts hFX8 hown hK hP 0 rfl rfl 2 (by decide) (hts (.fieldLink RX8 95 "Stevedore" "vesselCount" "I") (by decide +kernel)) (fun _ h9 => h9) rfl dX8_meanWait_25 ?_
        refine lv_icmp_ge (tgt := 59) hx hb dX8_meanWait_28 (by decide) (fun c_2 => ?_) (fun c_2 => ?_)
        · have nc_2 := (nI_leI (a := vc) (b := k) (by omega) (by omega)).mp c_2
          refine lv_iload_n hx hb dX8_meanWait_59 rfl (lv_at hl 2 rfl) ?_
          refine lv_i2d hx hb dX8_meanWait_60 ?_
          refine lv_aload_n hx hb dX8_meanWait_61 rfl (lv_at hl 1 rfl) ?_
          refine va_get (D := xD g) (ci := 8) (v := .int (nI vc)) (C := RX8) (T := TX8) (N := 15) hx hb hts hFX8 hown hK hP 0 rfl rfl 2 (by decide) (hts (.fieldLink RX8 95 "Stevedore" "vesselCount" "I") (by decide +kernel)) (fun _ h9 => h9) rfl dX8_meanWait_62 ?_
          refine lv_i2d hx hb dX8_meanWait_65 ?_
          refine lv_ddiv hx hb dX8_meanWait_66 (fDiv (by omega) (by omega) hv0 hvc).1 ?_
          exact W.dret (v := FP.ddiv (FP.i2d (iI sm)) (FP.i2d (nI vc))) hx hb hr (fun t ht hW => ⟨⟨FP.ddiv (FP.i2d (iI sm)) (FP.i2d (nI vc)), (), rfl, ((fDiv (by omega) (by omega) hv0 hvc).2), trivial⟩, hS.F ht⟩) hS.2.2 dX8_meanWait_67
        · have nc_2 := mt (nI_leI (a := vc) (b := k) (by omega) (by omega)).mpr c_2
          refine lv_iload_n hx hb dX8_meanWait_31 rfl (lv_at hl 2 rfl) ?_
          refine lv_aload_n hx hb dX8_meanWait_32 rfl (lv_at hl 1 rfl) ?_
          refine va_get (D := xD g) (ci := 8) (v := .ref pn) (C := RX8) (T := TX8) (N := 15) hx hb hts hFX8 hown hK hP 0 rfl rfl 8 (by decide) (hts (.fieldLink RX8 57 "Stevedore" "plan" "LStevedore$Plan;") (by decide +kernel)) (fun _ h9 => h9) rfl dX8_meanWait_33 ?_
          refine va_get (D := xD g) (ci := 4) (v := .ref ps) (C := RX4) (T := TX4) (N := 4) hx hb hts hFX4 hown hK hP 1 rfl rfl 2 (by decide) (hts (.fieldLink RX8 230 "Stevedore$Plan" "start" "[I") (by decide +kernel)) (fun _ h9 => h9) rfl dX8_meanWait_36 ?_
          refine lv_iload_n hx hb dX8_meanWait_39 rfl (lv_at hl 0 rfl) ?_
          refine va_iald hx hb hK hP 2 0 rfl rfl (vp_in_nI (by omega) (by omega)) dX8_meanWait_40 ?_
          refine lv_topi (fun v_3 ev => ?_)
          obtain rfl : v_3 = iI (qta k) := ev.trans (congrArg (fun q9 => iI (qta q9)) (nI_clamp (by omega)))
          have b_4 := b_qta k
          refine lv_aload_n hx hb dX8_meanWait_41 rfl (lv_at hl 1 rfl) ?_
          refine va_get (D := xD g) (ci := 8) (v := .ref fl) (C := RX8) (T := TX8) (N := 15) hx hb hts hFX8 hown hK hP 0 rfl rfl 3 (by decide) (hts (.fieldLink RX8 18 "Stevedore" "fleet" "[LStevedore$Vessel;") (by decide +kernel)) (fun _ h9 => h9) rfl dX8_meanWait_42 ?_
          refine lv_iload_n hx hb dX8_meanWait_45 rfl (lv_at hl 0 rfl) ?_
          refine va_aldq hx hb hK hP 3 2 rfl rfl (vp_in_nI (by omega) (by omega)) dX8_meanWait_46 ?_
          refine W.eq (g2 := F0 m 47 ls (.ref (vr k) :: .int (iI (qta k)) :: .int (iI sm) :: [])) (congrArg (fun q9 => F0 m 47 ls (q9 :: .int (iI (qta k)) :: .int (iI sm) :: [])) (xRow (n := 6) (k := k) (nI_clamp (by omega)) (by omega))) ?_
          refine va_get (D := xD g) (ci := 6) (v := .int (iI (Var k))) (C := RX6) (T := TX6) (N := 11) hx hb hts hFX6 hown hK hP _ (xR_ap (X := [(st, .inr (8, [s0, s1, .int (nI vc), .ref fl, s4, s5, s6, s7, .ref pn, s9, s10, s11, s12, s13, s14])), (pn, .inr (4, [.int 1, q1, .ref ps, q3])), (ps, .inl (xI g, 6, .inl (fun j => iI (qta j)))), (fl, .inl (xV g, 6, .inr (.inr (.inr (.inr (fun i => if i < 6 then some (vr i) else none))))))]) (xR_get0 (i := k) (by omega))) rfl 0 (by decide) (hts (.fieldLink RX8 105 "Stevedore$Vessel" "arrival" "I") (by decide +kernel)) (fun _ h9 => h9) rfl dX8_meanWait_47 ?_
          refine lv_isub hx hb dX8_meanWait_50 ?_
          refine lv_topi (fun v_5 ev => ?_)
          obtain rfl : v_5 = iI (qta k - (Var k)) := ev.trans (iS rfl rfl)
          refine lv_iadd hx hb dX8_meanWait_51 ?_
          refine lv_topi (fun v_6 ev => ?_)
          obtain rfl : v_6 = iI (sm + (qta k - (Var k))) := ev.trans (iA rfl rfl)
          refine lv_istore_n (lv' := [(1, .int (iI (sm + (qta k - (Var k))))), (2, .int (nI k)), (0, .ref st)]) hx hb dX8_meanWait_52 rfl hl (by decide) rfl (fun ls hl => ?_)
          refine lv_iinc (v := nI (k + 1)) (lv' := [(2, .int (nI (k + 1))), (1, .int (iI (sm + (qta k - (Var k))))), (0, .ref st)]) hx hb dX8_meanWait_53 hl (k := 1) rfl (nI_add k 1) (by decide) rfl (fun ls hl => ?_)
          refine lv_goto (tgt := 23) hx hb dX8_meanWait_56 (by decide) ?_
          exact ih23 (k + 1) (sm + (qta k - (Var k))) _ _ _ (by omega) (by omega) (by have z := hav k (by omega); omega) hP hD hS (lv_sub hl [0, 2, 1] rfl)
    exact hloop23 (vc + 1) 0 0 _ _ _ (by omega) (Nat.zero_le _) (by omega) hP hD hS (by rw [(show nI 0 = (0 : Int32) from by decide), (show iI 0 = (0 : Int32) from by decide)]; exact lv_sub hl [0, 2, 1] rfl)
  · have nc_1 := mt (nI_ltI (a := 0) (b := vc) (by omega) (by omega)).mpr c_1
    exfalso; omega
