/-- the first k are at most 10 each -/
def xInv (k : Nat) (f : Nat → Int32) : Prop := ∀ i : Nat, i < k → ∃ x : Nat, x ≤ 10 ∧ f i = nI x
theorem xInv_mono {k j : Nat} {f : Nat → Int32} (h : xInv k f) (hj : j ≤ k) : xInv j f := fun i hi => h i (Nat.lt_of_lt_of_le hi hj)
theorem xInv_set {k i : Nat} {f g : Nat → Int32} {x : Nat} (h : xInv k f) (hx : x ≤ 10) (hg : g = upd f i (nI x)) : xInv k g := fun j hj => by
  subst hg; by_cases q : j = i
  · exact ⟨x, hx, by simp [upd, q]⟩
  · obtain ⟨y, hy, e⟩ := h j hj; exact ⟨y, hy, by simp [upd, q]; exact e⟩
theorem xInv_grow {k : Nat} {f g : Nat → Int32} {x : Nat} (h : xInv k f) (hx : x ≤ 10) (hk : k < 2 ^ 31) (hg : g = upd f (nI k).toNatClampNeg (nI x)) : xInv (k + 1) g := fun j hj => by
  rw [nI_clamp hk] at hg; subst hg; by_cases q : j = k
  · exact ⟨x, hx, by simp [upd, q]⟩
  · obtain ⟨y, hy, e⟩ := h j (by omega); exact ⟨y, hy, by simp [upd, q]; exact e⟩
section XALD
variable {p : Program} {l : Launch} {e : Env} {R : Room} {s : State} {m : MethodId} {args : Array Value} {below : List Frame} {meth : Method} {c : Code} {H : Heap} {locs : List Loc} {cells slots : Nat} {Q : State → Prop}
variable {cc : ByteArray} {pc : Nat} {ls : Array Slot} {rest : List Value} {D : va_G} {cl : List vw_C} {a : Nat} {tys : List (ClassId × FieldType)} {ws : va_W}
/-- a row of an array of arrays -/
theorem xAldM (hexec : p.tables.exec = Jvm.exec) (hb : c.code = cc) (hK : va_K D cl tys s) (hP : va_P D cl ws H) (q0 t0 : Nat) {cA : ClassId} {n : Nat} {f : Nat → Option Nat} (ha : ws[q0]? = some (a, .inl (cA, n, .inr (.inr (.inr (.inr f)))))) (ht : tys[t0]? = some (cA, .array .int)) {i : Int32} (hin : vp_in i n) (hdg : decode cc pc = .ok (.aaload, 1))
    (kk : W p l e R s m args below meth c H locs cells slots Q (F0 m (pc + 1) ls (va_rf (f i.toNatClampNeg) :: rest))) : W p l e R s m args below meth c H locs cells slots Q (F0 m pc ls (.int i :: .ref a :: rest)) := by
  have hlt : i.toNatClampNeg < n := Nat.not_le.mp fun q => hin (Or.inr q)
  exact W.aald (v := va_rf (f i.toNatClampNeg)) (ty := .array .int) hexec hb (hP q0 _ ha) ((hK.2 t0 _ ht).1 n (fun j => va_rf (f j))) rfl (fun q => by cases q) (by show ¬ (i < 0 ∨ (arrV _ _ _).slots.size ≤ _); rw [arrV_size]; exact hin) (by show (arrV _ _ _).slots[_]? = _; rw [arrV_read _ _ hlt]) rfl rfl hdg kk
end XALD
def xP (n : Nat) : Int32 := nI n + (-1)
theorem xP_0 : xP 0 = -1 := by decide
theorem xP_s (n : Nat) : xP (n + 1) = nI n := pk_m1 n
theorem xP_sub (n : Nat) : nI n - 1 = xP n := Int32.sub_eq_add_neg _ _
theorem x_nat {x M : Int32} {n : Nat} (hM : M.toInt = n) (h1 : ¬ x < 1) (h2 : ¬ M < x) : ∃ B : Nat, 1 ≤ B ∧ B ≤ n ∧ x = nI B := by
  obtain ⟨j, hj, rfl⟩ := nI_of2 (x := x) (M := M) (n := n) hM (by simp only [Int32.lt_iff_toInt_lt, Int32.reduceToInt] at *; omega) (by simp only [Int32.le_iff_toInt_le, Int32.lt_iff_toInt_lt, Int32.reduceToInt] at *; omega)
  refine ⟨j, ?_, hj, rfl⟩
  rcases Nat.eq_zero_or_pos j with h | h
  · subst h; exact absurd (by decide) h1
  · exact h
theorem dX6_ticksIn_0 : decode cX6_ticksIn 0 = .ok (.iconst 1, 1) := by decide +kernel
theorem dX6_ticksIn_1 : decode cX6_ticksIn 1 = .ok (.aload_n 0, 1) := by decide +kernel
theorem dX6_ticksIn_2 : decode cX6_ticksIn 2 = .ok (.getfield 9, 3) := by decide +kernel
theorem dX6_ticksIn_5 : decode cX6_ticksIn 5 = .ok (.iload_n 1, 1) := by decide +kernel
theorem dX6_ticksIn_6 : decode cX6_ticksIn 6 = .ok (.iaload, 1) := by decide +kernel
theorem dX6_ticksIn_7 : decode cX6_ticksIn 7 = .ok (.invokestatic 21, 3) := by decide +kernel
theorem dX6_ticksIn_10 : decode cX6_ticksIn 10 = .ok (.ireturn, 1) := by decide +kernel
set_option maxHeartbeats 4000000 in
set_option maxRecDepth 100000 in
theorem s_ticksIn (l : Launch) (g : xG) (sz : Nat) (ve : Nat) (wb : Nat) (x : Nat) (v0 : Value) (v1 : Value) (v2 : Value) (v3 : Value) (v4 : Value) (v5 : Value) (v6 : Value) (v7 : Value) (v9 : Value) (v10 : Value) (fa : Nat → Int32)  (hx10 : x < 10) : Met l yX6_ticksIn wsX6_ticksIn ({ frames := 1, cells := 0, slots := 0, locals := 24 }) (va_Pc [.ref ve, .int (nI x)] (fun U => xB g [(ve, .inr (6, [v0, v1, v2, v3, v4, v5, v6, v7, .ref wb, v9, v10])), (wb, .inl (xI g, 10, .inl fa))] sz U)) (va_Qi (fun (r : Int32) (u : Unit) => True) (fun _ _ => True) (va_A [] sz)) 0 0 (va_A [] sz) := by
  refine Met.ofW (cc := cX6_ticksIn) (maxL := 2) (ret := (some .int)) (by decide) rfl ?_
  intro p e s m args below meth c s₁ B hml hv
  obtain ⟨rfl, ⟨hsz, hP, hK, hD0⟩⟩ := hv
  have hx := B.exec
  have hb := B.bytes
  have hr := B.returns
  have hts := atoms_spec (ws := wsX6_ticksIn) B.pre
  have hown : s.vm.findClass RX6 = some m.cls := findClass_of_methodNamed B.named
  have hlocks := B.notSynchronized
  subst hsz
  have hD := hD0
  generalize hAe : va_A [] s.heap.size = A
  have hA : ∀ q : Nat, s.heap.size ≤ q → A q := fun q h => by rw [← hAe]; exact Or.inr h
  have hS : va_S A s.heap s.heap [] := va_S.rf
  have hl := lv_entry ([.ref ve, .int (nI x)]) (n := 2) (Nat.le_of_ble_eq_true rfl)
  rw [lg_entry_eq]
  generalize (lg_sl ([.ref ve, .int (nI x)]) ++ List.replicate (2 - (lg_sl ([.ref ve, .int (nI x)])).length) Slot.unset).toArray = ls at hl ⊢
  have hl : lv_has ls 2 [(0, .ref ve), (1, .int (nI x))] := hl
  have hFX6 : ∀ w ∈ u_ws RX6 TX6 11, w ∈ wsX6_ticksIn := by decide +kernel
  refine lv_iconst (v := 1) hx hb dX6_ticksIn_0 (by decide) ?_
  refine lv_aload_n hx hb dX6_ticksIn_1 rfl (lv_at hl 0 rfl) ?_
  refine va_get (D := xD g) (ci := 6) (v := .ref wb) (C := RX6) (T := TX6) (N := 11) hx hb hts hFX6 hown hK hP 0 rfl rfl 8 (by decide) (hts (.fieldLink RX6 9 "Stevedore$Vessel" "workOfBay" "[I") (by decide +kernel)) (fun _ h9 => h9) rfl dX6_ticksIn_2 ?_
  refine lv_iload_n hx hb dX6_ticksIn_5 rfl (lv_at hl 1 rfl) ?_
  refine va_iald hx hb hK hP 1 0 rfl rfl (vp_in_nI (by omega) (by omega)) dX6_ticksIn_6 ?_
  refine lv_topi (fun v_1 ev_1 => ?_)
  refine va_mmax hx hb (by rw [hml]; exact hl.1.symm) hown (hts (.methodLink RX6 21 Lib.Math.max.name) (by decide +kernel)) (hts (.static Lib.Math.max.name) (by decide +kernel)) (hts (.initialized "java/lang/Math") (by decide +kernel)) (hts (.code Lib.Math.max.name Lib.Math.max.code 2 (some .int)) (by decide +kernel)) (Nat.le_of_ble_eq_true rfl) (Nat.le_of_ble_eq_true rfl) (Nat.le_of_ble_eq_true rfl) (Nat.le_of_ble_eq_true rfl) dX6_ticksIn_7 ?_
  refine lv_topi (fun v_2 ev_2 => ?_)
  exact W.iret (v := v_2) hx hb hr (fun t ht hW => ⟨⟨v_2, (), rfl, (by first | trivial | rfl | assumption | omega | simp_all), trivial⟩, hS.F ht⟩) hS.2.2 dX6_ticksIn_10
theorem dX6_end_0 : decode cX6_end 0 = .ok (.aload_n 0, 1) := by decide +kernel
theorem dX6_end_1 : decode cX6_end 1 = .ok (.getfield 18, 3) := by decide +kernel
theorem dX6_end_4 : decode cX6_end 4 = .ok (.iload_n 1, 1) := by decide +kernel
theorem dX6_end_5 : decode cX6_end 5 = .ok (.iaload, 1) := by decide +kernel
theorem dX6_end_6 : decode cX6_end 6 = .ok (.aload_n 0, 1) := by decide +kernel
theorem dX6_end_7 : decode cX6_end 7 = .ok (.iload_n 1, 1) := by decide +kernel
theorem dX6_end_8 : decode cX6_end 8 = .ok (.invokevirtual 27, 3) := by decide +kernel
set_option maxRecDepth 20000 in
theorem ggX6_end_X6_ticksIn : GoodIn wsX6_end wsX6_ticksIn := goodIn_r _ [6, 7, 8, 9, 10, 11, 12, 13, 14, 15, 16, 17, 18, 19, 20, 21, 22] rfl (by decide +kernel)
set_option maxRecDepth 20000 in
theorem gX6_end_X6_ticksIn : GoodIn wsX6_end (wsV RX6 27 RX6 yX6_ticksIn wsX6_ticksIn) := goodIn_app (goodIn_of _ (by decide +kernel)) ggX6_end_X6_ticksIn
theorem dX6_end_11 : decode cX6_end 11 = .ok (.iadd, 1) := by decide +kernel
theorem dX6_end_12 : decode cX6_end 12 = .ok (.ireturn, 1) := by decide +kernel
set_option maxHeartbeats 4000000 in
set_option maxRecDepth 100000 in
theorem s_end (l : Launch) (g : xG) (sz : Nat) (ve : Nat) (wb : Nat) (bg : Nat) (x : Nat) (v0 : Value) (v1 : Value) (v2 : Value) (v3 : Value) (v4 : Value) (v5 : Value) (v6 : Value) (v7 : Value) (v9 : Value) (fa : Nat → Int32) (fc : Nat → Int32)  (hx10 : x < 10) : Met l yX6_end wsX6_end ({ frames := 2, cells := 0, slots := 0, locals := 45 }) (va_Pc [.ref ve, .int (nI x)] (fun U => xB g [(ve, .inr (6, [v0, v1, v2, v3, v4, v5, v6, v7, .ref wb, v9, .ref bg])), (wb, .inl (xI g, 10, .inl fa)), (bg, .inl (xI g, 10, .inl fc))] sz U)) (va_Qi (fun (r : Int32) (u : Unit) => True) (fun _ _ => True) (va_A [] sz)) 0 0 (va_A [] sz) := by
  refine Met.ofW (cc := cX6_end) (maxL := 2) (ret := (some .int)) (by decide) rfl ?_
  intro p e s m args below meth c s₁ B hml hv
  obtain ⟨rfl, ⟨hsz, hP, hK, hD0⟩⟩ := hv
  have hx := B.exec
  have hb := B.bytes
  have hr := B.returns
  have hts := atoms_spec (ws := wsX6_end) B.pre
  have hown : s.vm.findClass RX6 = some m.cls := findClass_of_methodNamed B.named
  have hlocks := B.notSynchronized
  subst hsz
  have hD := hD0
  generalize hAe : va_A [] s.heap.size = A
  have hA : ∀ q : Nat, s.heap.size ≤ q → A q := fun q h => by rw [← hAe]; exact Or.inr h
  have hS : va_S A s.heap s.heap [] := va_S.rf
  have hl := lv_entry ([.ref ve, .int (nI x)]) (n := 2) (Nat.le_of_ble_eq_true rfl)
  rw [lg_entry_eq]
  generalize (lg_sl ([.ref ve, .int (nI x)]) ++ List.replicate (2 - (lg_sl ([.ref ve, .int (nI x)])).length) Slot.unset).toArray = ls at hl ⊢
  have hl : lv_has ls 2 [(0, .ref ve), (1, .int (nI x))] := hl
  have hFX6 : ∀ w ∈ u_ws RX6 TX6 11, w ∈ wsX6_end := by decide +kernel
  refine lv_aload_n hx hb dX6_end_0 rfl (lv_at hl 0 rfl) ?_
  refine va_get (D := xD g) (ci := 6) (v := .ref bg) (C := RX6) (T := TX6) (N := 11) hx hb hts hFX6 hown hK hP 0 rfl rfl 10 (by decide) (hts (.fieldLink RX6 18 "Stevedore$Vessel" "begin" "[I") (by decide +kernel)) (fun _ h9 => h9) rfl dX6_end_1 ?_
  refine lv_iload_n hx hb dX6_end_4 rfl (lv_at hl 1 rfl) ?_
  refine va_iald hx hb hK hP 2 0 rfl rfl (vp_in_nI (by omega) (by omega)) dX6_end_5 ?_
  refine lv_topi (fun v_1 ev_1 => ?_)
  refine lv_aload_n hx hb dX6_end_6 rfl (lv_at hl 0 rfl) ?_
  refine lv_iload_n hx hb dX6_end_7 rfl (lv_at hl 1 rfl) ?_
  have hPc := hP.sub (ws' := [(ve, .inr (6, [v0, v1, v2, v3, v4, v5, v6, v7, .ref wb, v9, .ref bg])), (wb, .inl (xI g, 10, .inl fa))]) [0, 1] rfl
  have hDc := hD.sub (ws' := [(ve, .inr (6, [v0, v1, v2, v3, v4, v5, v6, v7, .ref wb, v9, .ref bg])), (wb, .inl (xI g, 10, .inl fa))]) [0, 1] (by decide) rfl
  have hFc := xFree hS hA
  refine va_calli (va_runV (As := [.int (nI x)]) (rest := [.int v_1]) ⟨hx, hb, hml, hown, hts⟩ (s_ticksIn l g s.heap.size ve wb x v0 v1 v2 v3 v4 v5 v6 v7 v9 (.ref bg) fa (by first | assumption | decide | omega | simp_all)) (cwV 1 hts gX6_end_X6_ticksIn rfl rfl rfl (by decide +kernel) ⟨Nat.le_of_ble_eq_true rfl, Nat.le_of_ble_eq_true rfl⟩) ⟨xB.blind, va_recv hK hPc (ci := 6) (q0 := 0) rfl rfl, fun U9 hU9 hW9 => ⟨rfl, xB.mk hPc hK hDc hU9 hW9⟩⟩ rfl rfl hl.1 rfl (lv_room (Nat.le_of_ble_eq_true rfl)) dX6_end_8 ⟨Nat.le_of_ble_eq_true rfl, Nat.le_of_ble_eq_true rfl⟩) hS (fun q _ h => hFc q h) hFc (fun r_2 u_3 t H1 locs ht hvm hw_4 hB hz1 hk1 hS => ?_)
  have hP := xSame hP hk1
  generalize H1 = H at hP hS ⊢
  have hP : va_P (xD g) vwCl [(ve, .inr (6, [v0, v1, v2, v3, v4, v5, v6, v7, .ref wb, v9, .ref bg])), (wb, .inl (xI g, 10, .inl fa)), (bg, .inl (xI g, 10, .inl fc))] H := hP
  try dsimp only at hw_4
  refine lv_iadd hx hb dX6_end_11 ?_
  refine lv_topi (fun v_5 ev_5 => ?_)
  exact W.iret (v := v_5) hx hb hr (fun t ht hW => ⟨⟨v_5, (), rfl, (by first | trivial | rfl | assumption | omega | simp_all), trivial⟩, hS.F ht⟩) hS.2.2 dX6_end_12
theorem dX6_endOfRange_0 : decode cX6_endOfRange 0 = .ok (.iload_n 1, 1) := by decide +kernel
theorem dX6_endOfRange_1 : decode cX6_endOfRange 1 = .ok (.iconst 1, 1) := by decide +kernel
theorem dX6_endOfRange_2 : decode cX6_endOfRange 2 = .ok (.iadd, 1) := by decide +kernel
theorem dX6_endOfRange_3 : decode cX6_endOfRange 3 = .ok (.aload_n 0, 1) := by decide +kernel
theorem dX6_endOfRange_4 : decode cX6_endOfRange 4 = .ok (.getfield 31, 3) := by decide +kernel
theorem dX6_endOfRange_7 : decode cX6_endOfRange 7 = .ok (.if_icmp .ge 14, 3) := by decide +kernel
theorem dX6_endOfRange_21 : decode cX6_endOfRange 21 = .ok (.aload_n 0, 1) := by decide +kernel
theorem dX6_endOfRange_22 : decode cX6_endOfRange 22 = .ok (.getfield 35, 3) := by decide +kernel
theorem dX6_endOfRange_25 : decode cX6_endOfRange 25 = .ok (.ireturn, 1) := by decide +kernel
theorem dX6_endOfRange_10 : decode cX6_endOfRange 10 = .ok (.aload_n 0, 1) := by decide +kernel
theorem dX6_endOfRange_11 : decode cX6_endOfRange 11 = .ok (.getfield 15, 3) := by decide +kernel
theorem dX6_endOfRange_14 : decode cX6_endOfRange 14 = .ok (.iload_n 1, 1) := by decide +kernel
theorem dX6_endOfRange_15 : decode cX6_endOfRange 15 = .ok (.iconst 1, 1) := by decide +kernel
theorem dX6_endOfRange_16 : decode cX6_endOfRange 16 = .ok (.iadd, 1) := by decide +kernel
theorem dX6_endOfRange_17 : decode cX6_endOfRange 17 = .ok (.iaload, 1) := by decide +kernel
theorem dX6_endOfRange_18 : decode cX6_endOfRange 18 = .ok (.goto 7, 3) := by decide +kernel
set_option maxHeartbeats 4000000 in
set_option maxRecDepth 100000 in
theorem s_endOfRange (l : Launch) (g : xG) (sz : Nat) (ve : Nat) (fr : Nat) (Nb : Nat) (R : Nat) (x : Nat) (v0 : Value) (v2 : Value) (v3 : Value) (v5 : Value) (v6 : Value) (v7 : Value) (v8 : Value) (v10 : Value) (fb : Nat → Int32)  (hxR : x < R) (hR : R ≤ 4) (hB : Nb ≤ 10) (hfb : xInv R fb) : Met l yX6_endOfRange wsX6_endOfRange ({ frames := 0, cells := 0, slots := 0, locals := 0 }) (va_Pc [.ref ve, .int (nI x)] (fun U => xB g [(ve, .inr (6, [v0, .int (nI Nb), v2, v3, .int (nI R), v5, v6, v7, v8, .ref fr, v10])), (fr, .inl (xI g, 4, .inl fb))] sz U)) (va_Qi (fun (r : Int32) (u : Unit) => ∃ E : Nat, E ≤ 10 ∧ r = nI E) (fun _ _ => True) (va_A [] sz)) 0 0 (va_A [] sz) := by
  refine Met.ofW (cc := cX6_endOfRange) (maxL := 2) (ret := (some .int)) (by decide) rfl ?_
  intro p e s m args below meth c s₁ B hml hv
  obtain ⟨rfl, ⟨hsz, hP, hK, hD0⟩⟩ := hv
  have hx := B.exec
  have hb := B.bytes
  have hr := B.returns
  have hts := atoms_spec (ws := wsX6_endOfRange) B.pre
  have hown : s.vm.findClass RX6 = some m.cls := findClass_of_methodNamed B.named
  have hlocks := B.notSynchronized
  subst hsz
  have hD := hD0
  generalize hAe : va_A [] s.heap.size = A
  have hA : ∀ q : Nat, s.heap.size ≤ q → A q := fun q h => by rw [← hAe]; exact Or.inr h
  have hS : va_S A s.heap s.heap [] := va_S.rf
  have hl := lv_entry ([.ref ve, .int (nI x)]) (n := 2) (Nat.le_of_ble_eq_true rfl)
  rw [lg_entry_eq]
  generalize (lg_sl ([.ref ve, .int (nI x)]) ++ List.replicate (2 - (lg_sl ([.ref ve, .int (nI x)])).length) Slot.unset).toArray = ls at hl ⊢
  have hl : lv_has ls 2 [(0, .ref ve), (1, .int (nI x))] := hl
  have hFX6 : ∀ w ∈ u_ws RX6 TX6 11, w ∈ wsX6_endOfRange := by decide +kernel
  refine lv_iload_n hx hb dX6_endOfRange_0 rfl (lv_at hl 1 rfl) ?_
  refine lv_iconst (v := 1) hx hb dX6_endOfRange_1 (by decide) ?_
  refine lv_iadd hx hb dX6_endOfRange_2 ?_
  refine lv_topi (fun v_1 ev => ?_)
  obtain rfl : v_1 = nI (x + 1) := ev.trans (nI_1 x)
  refine lv_aload_n hx hb dX6_endOfRange_3 rfl (lv_at hl 0 rfl) ?_
  refine va_get (D := xD g) (ci := 6) (v := .int (nI R)) (C := RX6) (T := TX6) (N := 11) hx hb hts hFX6 hown hK hP 0 rfl rfl 4 (by decide) (hts (.fieldLink RX6 31 "Stevedore$Vessel" "rangeCount" "I") (by decide +kernel)) (fun _ h9 => h9) rfl dX6_endOfRange_4 ?_
  refine lv_icmp_ge (tgt := 21) hx hb dX6_endOfRange_7 (by decide) (fun c_2 => ?_) (fun c_2 => ?_)
  · have nc_2 := (nI_leI (a := R) (b := x + 1) (by omega) (by omega)).mp c_2
    refine lv_aload_n hx hb dX6_endOfRange_21 rfl (lv_at hl 0 rfl) ?_
    refine va_get (D := xD g) (ci := 6) (v := .int (nI Nb)) (C := RX6) (T := TX6) (N := 11) hx hb hts hFX6 hown hK hP 0 rfl rfl 1 (by decide) (hts (.fieldLink RX6 35 "Stevedore$Vessel" "bays" "I") (by decide +kernel)) (fun _ h9 => h9) rfl dX6_endOfRange_22 ?_
    exact W.iret (v := nI Nb) hx hb hr (fun t ht hW => ⟨⟨nI Nb, (), rfl, ⟨Nb, hB, rfl⟩, trivial⟩, hS.F ht⟩) hS.2.2 dX6_endOfRange_25
  · have nc_2 := mt (nI_leI (a := R) (b := x + 1) (by omega) (by omega)).mpr c_2
    refine lv_aload_n hx hb dX6_endOfRange_10 rfl (lv_at hl 0 rfl) ?_
    refine va_get (D := xD g) (ci := 6) (v := .ref fr) (C := RX6) (T := TX6) (N := 11) hx hb hts hFX6 hown hK hP 0 rfl rfl 9 (by decide) (hts (.fieldLink RX6 15 "Stevedore$Vessel" "firstOfRange" "[I") (by decide +kernel)) (fun _ h9 => h9) rfl dX6_endOfRange_11 ?_
    refine lv_iload_n hx hb dX6_endOfRange_14 rfl (lv_at hl 1 rfl) ?_
    refine lv_iconst (v := 1) hx hb dX6_endOfRange_15 (by decide) ?_
    refine lv_iadd hx hb dX6_endOfRange_16 ?_
    refine lv_topi (fun v_3 ev => ?_)
    obtain rfl : v_3 = nI (x + 1) := ev.trans (nI_1 x)
    refine va_iald hx hb hK hP 1 0 rfl rfl (vp_in_nI (by omega) (by omega)) dX6_endOfRange_17 ?_
    refine lv_topi (fun v_4 ev_4 => ?_)
    refine lv_goto (tgt := 25) hx hb dX6_endOfRange_18 (by decide) ?_
    exact W.iret (v := v_4) hx hb hr (fun t ht hW => ⟨⟨v_4, (), rfl, (by obtain ⟨E, h1, h2⟩ := hfb (x + 1) (by omega); exact ⟨E, h1, by rw [ev_4, nI_clamp (by omega)]; exact h2⟩), trivial⟩, hS.F ht⟩) hS.2.2 dX6_endOfRange_25
theorem dX3_leastLoad_0 : decode cX3_leastLoad 0 = .ok (.ldc 46, 2) := by decide +kernel
theorem dX3_leastLoad_2 : decode cX3_leastLoad 2 = .ok (.istore 4, 2) := by decide +kernel
theorem dX3_leastLoad_4 : decode cX3_leastLoad 4 = .ok (.iconst (-1), 1) := by decide +kernel
theorem dX3_leastLoad_5 : decode cX3_leastLoad 5 = .ok (.istore 5, 2) := by decide +kernel
theorem dX3_leastLoad_7 : decode cX3_leastLoad 7 = .ok (.iload_n 3, 1) := by decide +kernel
theorem dX3_leastLoad_8 : decode cX3_leastLoad 8 = .ok (.istore 6, 2) := by decide +kernel
theorem dX3_leastLoad_10 : decode cX3_leastLoad 10 = .ok (.iload 6, 2) := by decide +kernel
theorem dX3_leastLoad_12 : decode cX3_leastLoad 12 = .ok (.aload_n 1, 1) := by decide +kernel
theorem dX3_leastLoad_13 : decode cX3_leastLoad 13 = .ok (.getfield 40, 3) := by decide +kernel
theorem dX3_leastLoad_16 : decode cX3_leastLoad 16 = .ok (.if_icmp .ge 47, 3) := by decide +kernel
theorem dX3_leastLoad_63 : decode cX3_leastLoad 63 = .ok (.iload 4, 2) := by decide +kernel
theorem dX3_leastLoad_65 : decode cX3_leastLoad 65 = .ok (.ireturn, 1) := by decide +kernel
theorem dX3_leastLoad_19 : decode cX3_leastLoad 19 = .ok (.iload 5, 2) := by decide +kernel
theorem dX3_leastLoad_21 : decode cX3_leastLoad 21 = .ok (.aload_n 1, 1) := by decide +kernel
theorem dX3_leastLoad_22 : decode cX3_leastLoad 22 = .ok (.iload 6, 2) := by decide +kernel
theorem dX3_leastLoad_24 : decode cX3_leastLoad 24 = .ok (.invokevirtual 54, 3) := by decide +kernel
set_option maxRecDepth 20000 in
theorem ggX3_leastLoad_X6_ticksIn : GoodIn wsX3_leastLoad wsX6_ticksIn := goodIn_r _ [15, 16, 17, 5, 6, 7, 18, 19, 20, 21, 22, 23, 24, 25, 26, 27, 28] rfl (by decide +kernel)
set_option maxRecDepth 20000 in
theorem gX3_leastLoad_X6_ticksIn : GoodIn wsX3_leastLoad (wsV RX3 54 RX6 yX6_ticksIn wsX6_ticksIn) := goodIn_app (goodIn_of _ (by decide +kernel)) ggX3_leastLoad_X6_ticksIn
theorem dX3_leastLoad_27 : decode cX3_leastLoad 27 = .ok (.iconst 1, 1) := by decide +kernel
theorem dX3_leastLoad_28 : decode cX3_leastLoad 28 = .ok (.iadd, 1) := by decide +kernel
theorem dX3_leastLoad_29 : decode cX3_leastLoad 29 = .ok (.iadd, 1) := by decide +kernel
theorem dX3_leastLoad_30 : decode cX3_leastLoad 30 = .ok (.istore 5, 2) := by decide +kernel
theorem dX3_leastLoad_32 : decode cX3_leastLoad 32 = .ok (.iload 4, 2) := by decide +kernel
theorem dX3_leastLoad_34 : decode cX3_leastLoad 34 = .ok (.iload 5, 2) := by decide +kernel
theorem dX3_leastLoad_36 : decode cX3_leastLoad 36 = .ok (.aload_n 0, 1) := by decide +kernel
theorem dX3_leastLoad_37 : decode cX3_leastLoad 37 = .ok (.getfield 11, 3) := by decide +kernel
theorem dX3_leastLoad_40 : decode cX3_leastLoad 40 = .ok (.iload_n 2, 1) := by decide +kernel
theorem dX3_leastLoad_41 : decode cX3_leastLoad 41 = .ok (.iconst 1, 1) := by decide +kernel
theorem dX3_leastLoad_42 : decode cX3_leastLoad 42 = .ok (.isub, 1) := by decide +kernel
theorem dX3_leastLoad_43 : decode cX3_leastLoad 43 = .ok (.aaload, 1) := by decide +kernel
theorem dX3_leastLoad_44 : decode cX3_leastLoad 44 = .ok (.iload 6, 2) := by decide +kernel
theorem dX3_leastLoad_46 : decode cX3_leastLoad 46 = .ok (.iconst 1, 1) := by decide +kernel
theorem dX3_leastLoad_47 : decode cX3_leastLoad 47 = .ok (.iadd, 1) := by decide +kernel
theorem dX3_leastLoad_48 : decode cX3_leastLoad 48 = .ok (.iaload, 1) := by decide +kernel
theorem dX3_leastLoad_49 : decode cX3_leastLoad 49 = .ok (.invokestatic 58, 3) := by decide +kernel
theorem dX3_leastLoad_52 : decode cX3_leastLoad 52 = .ok (.invokestatic 64, 3) := by decide +kernel
theorem dX3_leastLoad_55 : decode cX3_leastLoad 55 = .ok (.istore 4, 2) := by decide +kernel
theorem dX3_leastLoad_57 : decode cX3_leastLoad 57 = .ok (.iinc 6 1, 3) := by decide +kernel
theorem dX3_leastLoad_60 : decode cX3_leastLoad 60 = .ok (.goto (-50), 3) := by decide +kernel
set_option maxHeartbeats 4000000 in
set_option maxRecDepth 100000 in
theorem s_leastLoad1 (l : Launch) (g : xG) (sz : Nat) (h0 : Nat) (le : Nat) (l0 : Nat) (l1 : Nat) (l2 : Nat) (l3 : Nat) (l4 : Nat) (ve : Nat) (wb : Nat) (Nb : Nat) (F : Nat) (w1 : Value) (w2 : Value) (w3 : Value) (v0 : Value) (v2 : Value) (v3 : Value) (v4 : Value) (v5 : Value) (v6 : Value) (v7 : Value) (v9 : Value) (v10 : Value) (g0 : Nat → Int32) (g1 : Nat → Int32) (g2 : Nat → Int32) (g3 : Nat → Int32) (g4 : Nat → Int32) (fa : Nat → Int32)  (hB : Nb ≤ 10) (hF : F ≤ 10) : Met l yX3_leastLoad wsX3_leastLoad ({ frames := 2, cells := 0, slots := 0, locals := 45 }) (va_Pc [.ref h0, .ref ve, .int 1, .int (nI F)] (fun U => xB g [(h0, .inr (3, [.ref le, w1, w2, w3])), (le, .inl (xM g, 5, .inr (.inr (.inr (.inr (xOut5 l0 l1 l2 l3 l4)))))), (l0, .inl (xI g, 11, .inl g0)), (l1, .inl (xI g, 11, .inl g1)), (l2, .inl (xI g, 11, .inl g2)), (l3, .inl (xI g, 11, .inl g3)), (l4, .inl (xI g, 11, .inl g4)), (ve, .inr (6, [v0, .int (nI Nb), v2, v3, v4, v5, v6, v7, .ref wb, v9, v10])), (wb, .inl (xI g, 10, .inl fa))] sz U)) (va_Qi (fun (r : Int32) (u : Unit) => True) (fun _ _ => True) (va_A [] sz)) 0 0 (va_A [] sz) := by
  refine Met.ofW (cc := cX3_leastLoad) (maxL := 7) (ret := (some .int)) (by decide) rfl ?_
  intro p e s m args below meth c s₁ B hml hv
  obtain ⟨rfl, ⟨hsz, hP, hK, hD0⟩⟩ := hv
  have hx := B.exec
  have hb := B.bytes
  have hr := B.returns
  have hts := atoms_spec (ws := wsX3_leastLoad) B.pre
  have hown : s.vm.findClass RX3 = some m.cls := findClass_of_methodNamed B.named
  have hlocks := B.notSynchronized
  subst hsz
  have hD := hD0
  generalize hAe : va_A [] s.heap.size = A
  have hA : ∀ q : Nat, s.heap.size ≤ q → A q := fun q h => by rw [← hAe]; exact Or.inr h
  have hS : va_S A s.heap s.heap [] := va_S.rf
  have hl := lv_entry ([.ref h0, .ref ve, .int 1, .int (nI F)]) (n := 7) (Nat.le_of_ble_eq_true rfl)
  rw [lg_entry_eq]
  generalize (lg_sl ([.ref h0, .ref ve, .int 1, .int (nI F)]) ++ List.replicate (7 - (lg_sl ([.ref h0, .ref ve, .int 1, .int (nI F)])).length) Slot.unset).toArray = ls at hl ⊢
  have hl : lv_has ls 7 [(0, .ref h0), (1, .ref ve), (2, .int 1), (3, .int (nI F))] := hl
  have hFX3 : ∀ w ∈ u_ws RX3 TX3 4, w ∈ wsX3_leastLoad := by decide +kernel
  have hFX6 : ∀ w ∈ u_ws RX6 TX6 11, w ∈ wsX3_leastLoad := by decide +kernel
  refine lv_ldc (v := 1000000) hx hb hown (hts (.constant RX3 46 (1000000)) (by decide +kernel)) dX3_leastLoad_0 ?_
  refine lv_istore (lv' := [(4, .int 1000000), (0, .ref h0), (1, .ref ve), (2, .int 1), (3, .int (nI F))]) hx hb dX3_leastLoad_2 hl (by decide) rfl (fun ls hl => ?_)
  refine lv_iconst (v := (-1)) hx hb dX3_leastLoad_4 (by decide) ?_
  refine lv_istore (lv' := [(5, .int (-1)), (4, .int 1000000), (0, .ref h0), (1, .ref ve), (2, .int 1), (3, .int (nI F))]) hx hb dX3_leastLoad_5 hl (by decide) rfl (fun ls hl => ?_)
  refine lv_iload_n hx hb dX3_leastLoad_7 rfl (lv_at hl 5 rfl) ?_
  refine lv_istore (lv' := [(6, .int (nI F)), (5, .int (-1)), (4, .int 1000000), (0, .ref h0), (1, .ref ve), (2, .int 1), (3, .int (nI F))]) hx hb dX3_leastLoad_8 hl (by decide) rfl (fun ls hl => ?_)
  have hloop10 : ∀ (n9 : Nat) (b : Nat) (fo : Int32) (ld : Int32) (H : Heap) (locs : List Loc) (ls : Array Slot), Nb - b < n9 → (b ≤ 10) → va_P (xD g) vwCl [(h0, .inr (3, [.ref le, w1, w2, w3])), (le, .inl (xM g, 5, .inr (.inr (.inr (.inr (xOut5 l0 l1 l2 l3 l4)))))), (l0, .inl (xI g, 11, .inl g0)), (l1, .inl (xI g, 11, .inl g1)), (l2, .inl (xI g, 11, .inl g2)), (l3, .inl (xI g, 11, .inl g3)), (l4, .inl (xI g, 11, .inl g4)), (ve, .inr (6, [v0, .int (nI Nb), v2, v3, v4, v5, v6, v7, .ref wb, v9, v10])), (wb, .inl (xI g, 10, .inl fa))] H → va_D (fun _ => True) [(h0, .inr (3, [.ref le, w1, w2, w3])), (le, .inl (xM g, 5, .inr (.inr (.inr (.inr (xOut5 l0 l1 l2 l3 l4)))))), (l0, .inl (xI g, 11, .inl g0)), (l1, .inl (xI g, 11, .inl g1)), (l2, .inl (xI g, 11, .inl g2)), (l3, .inl (xI g, 11, .inl g3)), (l4, .inl (xI g, 11, .inl g4)), (ve, .inr (6, [v0, .int (nI Nb), v2, v3, v4, v5, v6, v7, .ref wb, v9, v10])), (wb, .inl (xI g, 10, .inl fa))] → va_S A s.heap H locs → lv_has ls 7 [(6, .int (nI b)), (0, .ref h0), (1, .ref ve), (2, .int 1), (4, .int fo), (5, .int ld)] → W p l e (headSpec wsX3_leastLoad ({ frames := 2, cells := 0, slots := 0, locals := 45 })).room s m ([.ref h0, .ref ve, .int 1, .int (nI F)] : List Value).toArray below meth c H locs 0 0 (MQ below (va_Qi (fun (r : Int32) (u : Unit) => True) (fun _ _ => True) A) ([.ref h0, .ref ve, .int 1, .int (nI F)] : List Value).toArray s 0 0 A) (F0 m 10 ls []) := by
    intro n9
    induction n9 with
    | zero =>
      intro b fo ld H locs ls hm hi1 hP hD hS hl
      exact absurd hm (Nat.not_lt_zero _)
    | succ n9 ih10 =>
      intro b fo ld H locs ls hm hi1 hP hD hS hl
      refine lv_iload hx hb dX3_leastLoad_10 (lv_at hl 0 rfl) ?_
      refine lv_aload_n hx hb dX3_leastLoad_12 rfl (lv_at hl 2 rfl) ?_
      refine va_get (D := xD g) (ci := 6) (v := .int (nI Nb)) (C := RX6) (T := TX6) (N := 11) hx hb hts hFX6 hown hK hP 7 rfl rfl 1 (by decide) (hts (.fieldLink RX3 40 "Stevedore$Vessel" "bays" "I") (by decide +kernel)) (fun _ h9 => h9) rfl dX3_leastLoad_13 ?_
      refine lv_icmp_ge (tgt := 63) hx hb dX3_leastLoad_16 (by decide) (fun c_1 => ?_) (fun c_1 => ?_)
      · have nc_1 := (nI_leI (a := Nb) (b := b) (by omega) (by omega)).mp c_1
        refine lv_iload hx hb dX3_leastLoad_63 (lv_at hl 4 rfl) ?_
        exact W.iret (v := fo) hx hb hr (fun t ht hW => ⟨⟨fo, (), rfl, (by first | trivial | rfl | assumption | omega | simp_all), trivial⟩, hS.F ht⟩) hS.2.2 dX3_leastLoad_65
      · have nc_1 := mt (nI_leI (a := Nb) (b := b) (by omega) (by omega)).mpr c_1
        refine lv_iload hx hb dX3_leastLoad_19 (lv_at hl 5 rfl) ?_
        refine lv_aload_n hx hb dX3_leastLoad_21 rfl (lv_at hl 2 rfl) ?_
        refine lv_iload hx hb dX3_leastLoad_22 (lv_at hl 0 rfl) ?_
        have hPc := hP.sub (ws' := [(ve, .inr (6, [v0, .int (nI Nb), v2, v3, v4, v5, v6, v7, .ref wb, v9, v10])), (wb, .inl (xI g, 10, .inl fa))]) [7, 8] rfl
        have hDc := hD.sub (ws' := [(ve, .inr (6, [v0, .int (nI Nb), v2, v3, v4, v5, v6, v7, .ref wb, v9, v10])), (wb, .inl (xI g, 10, .inl fa))]) [7, 8] (by decide) rfl
        have hFc := xFree hS hA
        refine va_calli (va_runV (As := [.int (nI b)]) (rest := [.int ld]) ⟨hx, hb, hml, hown, hts⟩ (s_ticksIn l g H.size ve wb b v0 (.int (nI Nb)) v2 v3 v4 v5 v6 v7 v9 v10 fa (by first | assumption | decide | omega | simp_all)) (cwV 1 hts gX3_leastLoad_X6_ticksIn rfl rfl rfl (by decide +kernel) ⟨Nat.le_of_ble_eq_true rfl, Nat.le_of_ble_eq_true rfl⟩) ⟨xB.blind, va_recv hK hPc (ci := 6) (q0 := 0) rfl rfl, fun U9 hU9 hW9 => ⟨rfl, xB.mk hPc hK hDc hU9 hW9⟩⟩ rfl rfl hl.1 rfl (lv_room (Nat.le_of_ble_eq_true rfl)) dX3_leastLoad_24 ⟨Nat.le_of_ble_eq_true rfl, Nat.le_of_ble_eq_true rfl⟩) hS (fun q _ h => hFc q h) hFc (fun r_2 u_3 t H1 locs ht hvm hw_4 hB hz1 hk1 hS => ?_)
        have hP := xSame hP hk1
        generalize H1 = H at hP hS ⊢
        have hP : va_P (xD g) vwCl [(h0, .inr (3, [.ref le, w1, w2, w3])), (le, .inl (xM g, 5, .inr (.inr (.inr (.inr (xOut5 l0 l1 l2 l3 l4)))))), (l0, .inl (xI g, 11, .inl g0)), (l1, .inl (xI g, 11, .inl g1)), (l2, .inl (xI g, 11, .inl g2)), (l3, .inl (xI g, 11, .inl g3)), (l4, .inl (xI g, 11, .inl g4)), (ve, .inr (6, [v0, .int (nI Nb), v2, v3, v4, v5, v6, v7, .ref wb, v9, v10])), (wb, .inl (xI g, 10, .inl fa))] H := hP
        try dsimp only at hw_4
        refine lv_iconst (v := 1) hx hb dX3_leastLoad_27 (by decide) ?_
        refine lv_iadd hx hb dX3_leastLoad_28 ?_
        refine lv_topi (fun v_5 ev_5 => ?_)
        refine lv_iadd hx hb dX3_leastLoad_29 ?_
        refine lv_topi (fun v_6 ev_6 => ?_)
        refine lv_istore (lv' := [(5, .int v_6), (6, .int (nI b)), (0, .ref h0), (1, .ref ve), (2, .int 1), (4, .int fo)]) hx hb dX3_leastLoad_30 hl (by decide) rfl (fun ls hl => ?_)
        refine lv_iload hx hb dX3_leastLoad_32 (lv_at hl 5 rfl) ?_
        refine lv_iload hx hb dX3_leastLoad_34 (lv_at hl 0 rfl) ?_
        refine lv_aload_n hx hb dX3_leastLoad_36 rfl (lv_at hl 2 rfl) ?_
        refine va_get (D := xD g) (ci := 3) (v := .ref le) (C := RX3) (T := TX3) (N := 4) hx hb hts hFX3 hown hK hP 0 rfl rfl 0 (by decide) (hts (.fieldLink RX3 11 "Stevedore$CraneWalk" "least" "[[I") (by decide +kernel)) (fun _ h9 => h9) rfl dX3_leastLoad_37 ?_
        refine lv_iload_n hx hb dX3_leastLoad_40 rfl (lv_at hl 4 rfl) ?_
        refine lv_iconst (v := 1) hx hb dX3_leastLoad_41 (by decide) ?_
        refine lv_isub hx hb dX3_leastLoad_42 ?_
        refine lv_topi (fun v_7 ev => ?_)
        obtain rfl : v_7 = (0 : Int32) := ev.trans (by decide)
        refine xAldM hx hb hK hP 1 3 rfl rfl (by unfold vp_in; decide) dX3_leastLoad_43 ?_
        refine W.eq (g2 := F0 m 44 ls (.ref l0 :: .int v_6 :: .int fo :: [])) (by rfl) ?_
        refine lv_iload hx hb dX3_leastLoad_44 (lv_at hl 1 rfl) ?_
        refine lv_iconst (v := 1) hx hb dX3_leastLoad_46 (by decide) ?_
        refine lv_iadd hx hb dX3_leastLoad_47 ?_
        refine lv_topi (fun v_8 ev => ?_)
        obtain rfl : v_8 = nI (b + 1) := ev.trans (nI_1 b)
        refine va_iald hx hb hK hP 2 0 rfl rfl (vp_in_nI (by omega) (by omega)) dX3_leastLoad_48 ?_
        refine lv_topi (fun v_9 ev_9 => ?_)
        refine va_mmax hx hb (by rw [hml]; exact hl.1.symm) hown (hts (.methodLink RX3 58 Lib.Math.max.name) (by decide +kernel)) (hts (.static Lib.Math.max.name) (by decide +kernel)) (hts (.initialized "java/lang/Math") (by decide +kernel)) (hts (.code Lib.Math.max.name Lib.Math.max.code 2 (some .int)) (by decide +kernel)) (Nat.le_of_ble_eq_true rfl) (Nat.le_of_ble_eq_true rfl) (Nat.le_of_ble_eq_true rfl) (Nat.le_of_ble_eq_true rfl) dX3_leastLoad_49 ?_
        refine lv_topi (fun v_10 ev_10 => ?_)
        refine va_mmin hx hb (by rw [hml]; exact hl.1.symm) hown (hts (.methodLink RX3 64 Lib.Math.min.name) (by decide +kernel)) (hts (.static Lib.Math.min.name) (by decide +kernel)) (hts (.initialized "java/lang/Math") (by decide +kernel)) (hts (.code Lib.Math.min.name Lib.Math.min.code 2 (some .int)) (by decide +kernel)) (Nat.le_of_ble_eq_true rfl) (Nat.le_of_ble_eq_true rfl) (Nat.le_of_ble_eq_true rfl) (Nat.le_of_ble_eq_true rfl) dX3_leastLoad_52 ?_
        refine lv_topi (fun v_11 ev_11 => ?_)
        refine lv_istore (lv' := [(4, .int v_11), (5, .int v_6), (6, .int (nI b)), (0, .ref h0), (1, .ref ve), (2, .int 1)]) hx hb dX3_leastLoad_55 hl (by decide) rfl (fun ls hl => ?_)
        refine lv_iinc (v := nI (b + 1)) (lv' := [(6, .int (nI (b + 1))), (4, .int v_11), (5, .int v_6), (0, .ref h0), (1, .ref ve), (2, .int 1)]) hx hb dX3_leastLoad_57 hl (k := 2) rfl (nI_1 b) (by decide) rfl (fun ls hl => ?_)
        refine lv_goto (tgt := 10) hx hb dX3_leastLoad_60 (by decide) ?_
        exact ih10 (b + 1) v_11 v_6 _ _ _ (by omega) (by omega) hP hD hS (lv_sub hl [0, 3, 4, 5, 1, 2] rfl)
  exact hloop10 (Nb + 1) F 1000000 (-1) _ _ _ (by omega) hF hP hD hS (lv_sub hl [0, 3, 4, 5, 2, 1] rfl)
set_option maxHeartbeats 4000000 in
set_option maxRecDepth 100000 in
theorem s_leastLoad2 (l : Launch) (g : xG) (sz : Nat) (h0 : Nat) (le : Nat) (l0 : Nat) (l1 : Nat) (l2 : Nat) (l3 : Nat) (l4 : Nat) (ve : Nat) (wb : Nat) (Nb : Nat) (F : Nat) (w1 : Value) (w2 : Value) (w3 : Value) (v0 : Value) (v2 : Value) (v3 : Value) (v4 : Value) (v5 : Value) (v6 : Value) (v7 : Value) (v9 : Value) (v10 : Value) (g0 : Nat → Int32) (g1 : Nat → Int32) (g2 : Nat → Int32) (g3 : Nat → Int32) (g4 : Nat → Int32) (fa : Nat → Int32)  (hB : Nb ≤ 10) (hF : F ≤ 10) : Met l yX3_leastLoad wsX3_leastLoad ({ frames := 2, cells := 0, slots := 0, locals := 45 }) (va_Pc [.ref h0, .ref ve, .int 2, .int (nI F)] (fun U => xB g [(h0, .inr (3, [.ref le, w1, w2, w3])), (le, .inl (xM g, 5, .inr (.inr (.inr (.inr (xOut5 l0 l1 l2 l3 l4)))))), (l0, .inl (xI g, 11, .inl g0)), (l1, .inl (xI g, 11, .inl g1)), (l2, .inl (xI g, 11, .inl g2)), (l3, .inl (xI g, 11, .inl g3)), (l4, .inl (xI g, 11, .inl g4)), (ve, .inr (6, [v0, .int (nI Nb), v2, v3, v4, v5, v6, v7, .ref wb, v9, v10])), (wb, .inl (xI g, 10, .inl fa))] sz U)) (va_Qi (fun (r : Int32) (u : Unit) => True) (fun _ _ => True) (va_A [] sz)) 0 0 (va_A [] sz) := by
  refine Met.ofW (cc := cX3_leastLoad) (maxL := 7) (ret := (some .int)) (by decide) rfl ?_
  intro p e s m args below meth c s₁ B hml hv
  obtain ⟨rfl, ⟨hsz, hP, hK, hD0⟩⟩ := hv
  have hx := B.exec
  have hb := B.bytes
  have hr := B.returns
  have hts := atoms_spec (ws := wsX3_leastLoad) B.pre
  have hown : s.vm.findClass RX3 = some m.cls := findClass_of_methodNamed B.named
  have hlocks := B.notSynchronized
  subst hsz
  have hD := hD0
  generalize hAe : va_A [] s.heap.size = A
  have hA : ∀ q : Nat, s.heap.size ≤ q → A q := fun q h => by rw [← hAe]; exact Or.inr h
  have hS : va_S A s.heap s.heap [] := va_S.rf
  have hl := lv_entry ([.ref h0, .ref ve, .int 2, .int (nI F)]) (n := 7) (Nat.le_of_ble_eq_true rfl)
  rw [lg_entry_eq]
  generalize (lg_sl ([.ref h0, .ref ve, .int 2, .int (nI F)]) ++ List.replicate (7 - (lg_sl ([.ref h0, .ref ve, .int 2, .int (nI F)])).length) Slot.unset).toArray = ls at hl ⊢
  have hl : lv_has ls 7 [(0, .ref h0), (1, .ref ve), (2, .int 2), (3, .int (nI F))] := hl
  have hFX3 : ∀ w ∈ u_ws RX3 TX3 4, w ∈ wsX3_leastLoad := by decide +kernel
  have hFX6 : ∀ w ∈ u_ws RX6 TX6 11, w ∈ wsX3_leastLoad := by decide +kernel
  refine lv_ldc (v := 1000000) hx hb hown (hts (.constant RX3 46 (1000000)) (by decide +kernel)) dX3_leastLoad_0 ?_
  refine lv_istore (lv' := [(4, .int 1000000), (0, .ref h0), (1, .ref ve), (2, .int 2), (3, .int (nI F))]) hx hb dX3_leastLoad_2 hl (by decide) rfl (fun ls hl => ?_)
  refine lv_iconst (v := (-1)) hx hb dX3_leastLoad_4 (by decide) ?_
  refine lv_istore (lv' := [(5, .int (-1)), (4, .int 1000000), (0, .ref h0), (1, .ref ve), (2, .int 2), (3, .int (nI F))]) hx hb dX3_leastLoad_5 hl (by decide) rfl (fun ls hl => ?_)
  refine lv_iload_n hx hb dX3_leastLoad_7 rfl (lv_at hl 5 rfl) ?_
  refine lv_istore (lv' := [(6, .int (nI F)), (5, .int (-1)), (4, .int 1000000), (0, .ref h0), (1, .ref ve), (2, .int 2), (3, .int (nI F))]) hx hb dX3_leastLoad_8 hl (by decide) rfl (fun ls hl => ?_)
  have hloop10 : ∀ (n9 : Nat) (b : Nat) (fo : Int32) (ld : Int32) (H : Heap) (locs : List Loc) (ls : Array Slot), Nb - b < n9 → (b ≤ 10) → va_P (xD g) vwCl [(h0, .inr (3, [.ref le, w1, w2, w3])), (le, .inl (xM g, 5, .inr (.inr (.inr (.inr (xOut5 l0 l1 l2 l3 l4)))))), (l0, .inl (xI g, 11, .inl g0)), (l1, .inl (xI g, 11, .inl g1)), (l2, .inl (xI g, 11, .inl g2)), (l3, .inl (xI g, 11, .inl g3)), (l4, .inl (xI g, 11, .inl g4)), (ve, .inr (6, [v0, .int (nI Nb), v2, v3, v4, v5, v6, v7, .ref wb, v9, v10])), (wb, .inl (xI g, 10, .inl fa))] H → va_D (fun _ => True) [(h0, .inr (3, [.ref le, w1, w2, w3])), (le, .inl (xM g, 5, .inr (.inr (.inr (.inr (xOut5 l0 l1 l2 l3 l4)))))), (l0, .inl (xI g, 11, .inl g0)), (l1, .inl (xI g, 11, .inl g1)), (l2, .inl (xI g, 11, .inl g2)), (l3, .inl (xI g, 11, .inl g3)), (l4, .inl (xI g, 11, .inl g4)), (ve, .inr (6, [v0, .int (nI Nb), v2, v3, v4, v5, v6, v7, .ref wb, v9, v10])), (wb, .inl (xI g, 10, .inl fa))] → va_S A s.heap H locs → lv_has ls 7 [(6, .int (nI b)), (0, .ref h0), (1, .ref ve), (2, .int 2), (4, .int fo), (5, .int ld)] → W p l e (headSpec wsX3_leastLoad ({ frames := 2, cells := 0, slots := 0, locals := 45 })).room s m ([.ref h0, .ref ve, .int 2, .int (nI F)] : List Value).toArray below meth c H locs 0 0 (MQ below (va_Qi (fun (r : Int32) (u : Unit) => True) (fun _ _ => True) A) ([.ref h0, .ref ve, .int 2, .int (nI F)] : List Value).toArray s 0 0 A) (F0 m 10 ls []) := by
    intro n9
    induction n9 with
    | zero =>
      intro b fo ld H locs ls hm hi1 hP hD hS hl
      exact absurd hm (Nat.not_lt_zero _)
    | succ n9 ih10 =>
      intro b fo ld H locs ls hm hi1 hP hD hS hl
      refine lv_iload hx hb dX3_leastLoad_10 (lv_at hl 0 rfl) ?_
      refine lv_aload_n hx hb dX3_leastLoad_12 rfl (lv_at hl 2 rfl) ?_
      refine va_get (D := xD g) (ci := 6) (v := .int (nI Nb)) (C := RX6) (T := TX6) (N := 11) hx hb hts hFX6 hown hK hP 7 rfl rfl 1 (by decide) (hts (.fieldLink RX3 40 "Stevedore$Vessel" "bays" "I") (by decide +kernel)) (fun _ h9 => h9) rfl dX3_leastLoad_13 ?_
      refine lv_icmp_ge (tgt := 63) hx hb dX3_leastLoad_16 (by decide) (fun c_1 => ?_) (fun c_1 => ?_)
      · have nc_1 := (nI_leI (a := Nb) (b := b) (by omega) (by omega)).mp c_1
        refine lv_iload hx hb dX3_leastLoad_63 (lv_at hl 4 rfl) ?_
        exact W.iret (v := fo) hx hb hr (fun t ht hW => ⟨⟨fo, (), rfl, (by first | trivial | rfl | assumption | omega | simp_all), trivial⟩, hS.F ht⟩) hS.2.2 dX3_leastLoad_65
      · have nc_1 := mt (nI_leI (a := Nb) (b := b) (by omega) (by omega)).mpr c_1
        refine lv_iload hx hb dX3_leastLoad_19 (lv_at hl 5 rfl) ?_
        refine lv_aload_n hx hb dX3_leastLoad_21 rfl (lv_at hl 2 rfl) ?_
        refine lv_iload hx hb dX3_leastLoad_22 (lv_at hl 0 rfl) ?_
        have hPc := hP.sub (ws' := [(ve, .inr (6, [v0, .int (nI Nb), v2, v3, v4, v5, v6, v7, .ref wb, v9, v10])), (wb, .inl (xI g, 10, .inl fa))]) [7, 8] rfl
        have hDc := hD.sub (ws' := [(ve, .inr (6, [v0, .int (nI Nb), v2, v3, v4, v5, v6, v7, .ref wb, v9, v10])), (wb, .inl (xI g, 10, .inl fa))]) [7, 8] (by decide) rfl
        have hFc := xFree hS hA
        refine va_calli (va_runV (As := [.int (nI b)]) (rest := [.int ld]) ⟨hx, hb, hml, hown, hts⟩ (s_ticksIn l g H.size ve wb b v0 (.int (nI Nb)) v2 v3 v4 v5 v6 v7 v9 v10 fa (by first | assumption | decide | omega | simp_all)) (cwV 1 hts gX3_leastLoad_X6_ticksIn rfl rfl rfl (by decide +kernel) ⟨Nat.le_of_ble_eq_true rfl, Nat.le_of_ble_eq_true rfl⟩) ⟨xB.blind, va_recv hK hPc (ci := 6) (q0 := 0) rfl rfl, fun U9 hU9 hW9 => ⟨rfl, xB.mk hPc hK hDc hU9 hW9⟩⟩ rfl rfl hl.1 rfl (lv_room (Nat.le_of_ble_eq_true rfl)) dX3_leastLoad_24 ⟨Nat.le_of_ble_eq_true rfl, Nat.le_of_ble_eq_true rfl⟩) hS (fun q _ h => hFc q h) hFc (fun r_2 u_3 t H1 locs ht hvm hw_4 hB hz1 hk1 hS => ?_)
        have hP := xSame hP hk1
        generalize H1 = H at hP hS ⊢
        have hP : va_P (xD g) vwCl [(h0, .inr (3, [.ref le, w1, w2, w3])), (le, .inl (xM g, 5, .inr (.inr (.inr (.inr (xOut5 l0 l1 l2 l3 l4)))))), (l0, .inl (xI g, 11, .inl g0)), (l1, .inl (xI g, 11, .inl g1)), (l2, .inl (xI g, 11, .inl g2)), (l3, .inl (xI g, 11, .inl g3)), (l4, .inl (xI g, 11, .inl g4)), (ve, .inr (6, [v0, .int (nI Nb), v2, v3, v4, v5, v6, v7, .ref wb, v9, v10])), (wb, .inl (xI g, 10, .inl fa))] H := hP
        try dsimp only at hw_4
        refine lv_iconst (v := 1) hx hb dX3_leastLoad_27 (by decide) ?_
        refine lv_iadd hx hb dX3_leastLoad_28 ?_
        refine lv_topi (fun v_5 ev_5 => ?_)
        refine lv_iadd hx hb dX3_leastLoad_29 ?_
        refine lv_topi (fun v_6 ev_6 => ?_)
        refine lv_istore (lv' := [(5, .int v_6), (6, .int (nI b)), (0, .ref h0), (1, .ref ve), (2, .int 2), (4, .int fo)]) hx hb dX3_leastLoad_30 hl (by decide) rfl (fun ls hl => ?_)
        refine lv_iload hx hb dX3_leastLoad_32 (lv_at hl 5 rfl) ?_
        refine lv_iload hx hb dX3_leastLoad_34 (lv_at hl 0 rfl) ?_
        refine lv_aload_n hx hb dX3_leastLoad_36 rfl (lv_at hl 2 rfl) ?_
        refine va_get (D := xD g) (ci := 3) (v := .ref le) (C := RX3) (T := TX3) (N := 4) hx hb hts hFX3 hown hK hP 0 rfl rfl 0 (by decide) (hts (.fieldLink RX3 11 "Stevedore$CraneWalk" "least" "[[I") (by decide +kernel)) (fun _ h9 => h9) rfl dX3_leastLoad_37 ?_
        refine lv_iload_n hx hb dX3_leastLoad_40 rfl (lv_at hl 4 rfl) ?_
        refine lv_iconst (v := 1) hx hb dX3_leastLoad_41 (by decide) ?_
        refine lv_isub hx hb dX3_leastLoad_42 ?_
        refine lv_topi (fun v_7 ev => ?_)
        obtain rfl : v_7 = (1 : Int32) := ev.trans (by decide)
        refine xAldM hx hb hK hP 1 3 rfl rfl (by unfold vp_in; decide) dX3_leastLoad_43 ?_
        refine W.eq (g2 := F0 m 44 ls (.ref l1 :: .int v_6 :: .int fo :: [])) (by rfl) ?_
        refine lv_iload hx hb dX3_leastLoad_44 (lv_at hl 1 rfl) ?_
        refine lv_iconst (v := 1) hx hb dX3_leastLoad_46 (by decide) ?_
        refine lv_iadd hx hb dX3_leastLoad_47 ?_
        refine lv_topi (fun v_8 ev => ?_)
        obtain rfl : v_8 = nI (b + 1) := ev.trans (nI_1 b)
        refine va_iald hx hb hK hP 3 0 rfl rfl (vp_in_nI (by omega) (by omega)) dX3_leastLoad_48 ?_
        refine lv_topi (fun v_9 ev_9 => ?_)
        refine va_mmax hx hb (by rw [hml]; exact hl.1.symm) hown (hts (.methodLink RX3 58 Lib.Math.max.name) (by decide +kernel)) (hts (.static Lib.Math.max.name) (by decide +kernel)) (hts (.initialized "java/lang/Math") (by decide +kernel)) (hts (.code Lib.Math.max.name Lib.Math.max.code 2 (some .int)) (by decide +kernel)) (Nat.le_of_ble_eq_true rfl) (Nat.le_of_ble_eq_true rfl) (Nat.le_of_ble_eq_true rfl) (Nat.le_of_ble_eq_true rfl) dX3_leastLoad_49 ?_
        refine lv_topi (fun v_10 ev_10 => ?_)
        refine va_mmin hx hb (by rw [hml]; exact hl.1.symm) hown (hts (.methodLink RX3 64 Lib.Math.min.name) (by decide +kernel)) (hts (.static Lib.Math.min.name) (by decide +kernel)) (hts (.initialized "java/lang/Math") (by decide +kernel)) (hts (.code Lib.Math.min.name Lib.Math.min.code 2 (some .int)) (by decide +kernel)) (Nat.le_of_ble_eq_true rfl) (Nat.le_of_ble_eq_true rfl) (Nat.le_of_ble_eq_true rfl) (Nat.le_of_ble_eq_true rfl) dX3_leastLoad_52 ?_
        refine lv_topi (fun v_11 ev_11 => ?_)
        refine lv_istore (lv' := [(4, .int v_11), (5, .int v_6), (6, .int (nI b)), (0, .ref h0), (1, .ref ve), (2, .int 2)]) hx hb dX3_leastLoad_55 hl (by decide) rfl (fun ls hl => ?_)
        refine lv_iinc (v := nI (b + 1)) (lv' := [(6, .int (nI (b + 1))), (4, .int v_11), (5, .int v_6), (0, .ref h0), (1, .ref ve), (2, .int 2)]) hx hb dX3_leastLoad_57 hl (k := 2) rfl (nI_1 b) (by decide) rfl (fun ls hl => ?_)
        refine lv_goto (tgt := 10) hx hb dX3_leastLoad_60 (by decide) ?_
        exact ih10 (b + 1) v_11 v_6 _ _ _ (by omega) (by omega) hP hD hS (lv_sub hl [0, 3, 4, 5, 1, 2] rfl)
  exact hloop10 (Nb + 1) F 1000000 (-1) _ _ _ (by omega) hF hP hD hS (lv_sub hl [0, 3, 4, 5, 2, 1] rfl)
set_option maxHeartbeats 4000000 in
set_option maxRecDepth 100000 in
theorem s_leastLoad3 (l : Launch) (g : xG) (sz : Nat) (h0 : Nat) (le : Nat) (l0 : Nat) (l1 : Nat) (l2 : Nat) (l3 : Nat) (l4 : Nat) (ve : Nat) (wb : Nat) (Nb : Nat) (F : Nat) (w1 : Value) (w2 : Value) (w3 : Value) (v0 : Value) (v2 : Value) (v3 : Value) (v4 : Value) (v5 : Value) (v6 : Value) (v7 : Value) (v9 : Value) (v10 : Value) (g0 : Nat → Int32) (g1 : Nat → Int32) (g2 : Nat → Int32) (g3 : Nat → Int32) (g4 : Nat → Int32) (fa : Nat → Int32)  (hB : Nb ≤ 10) (hF : F ≤ 10) : Met l yX3_leastLoad wsX3_leastLoad ({ frames := 2, cells := 0, slots := 0, locals := 45 }) (va_Pc [.ref h0, .ref ve, .int 3, .int (nI F)] (fun U => xB g [(h0, .inr (3, [.ref le, w1, w2, w3])), (le, .inl (xM g, 5, .inr (.inr (.inr (.inr (xOut5 l0 l1 l2 l3 l4)))))), (l0, .inl (xI g, 11, .inl g0)), (l1, .inl (xI g, 11, .inl g1)), (l2, .inl (xI g, 11, .inl g2)), (l3, .inl (xI g, 11, .inl g3)), (l4, .inl (xI g, 11, .inl g4)), (ve, .inr (6, [v0, .int (nI Nb), v2, v3, v4, v5, v6, v7, .ref wb, v9, v10])), (wb, .inl (xI g, 10, .inl fa))] sz U)) (va_Qi (fun (r : Int32) (u : Unit) => True) (fun _ _ => True) (va_A [] sz)) 0 0 (va_A [] sz) := by
  refine Met.ofW (cc := cX3_leastLoad) (maxL := 7) (ret := (some .int)) (by decide) rfl ?_
  intro p e s m args below meth c s₁ B hml hv
  obtain ⟨rfl, ⟨hsz, hP, hK, hD0⟩⟩ := hv
  have hx := B.exec
  have hb := B.bytes
  have hr := B.returns
  have hts := atoms_spec (ws := wsX3_leastLoad) B.pre
  have hown : s.vm.findClass RX3 = some m.cls := findClass_of_methodNamed B.named
  have hlocks := B.notSynchronized
  subst hsz
  have hD := hD0
  generalize hAe : va_A [] s.heap.size = A
  have hA : ∀ q : Nat, s.heap.size ≤ q → A q := fun q h => by rw [← hAe]; exact Or.inr h
  have hS : va_S A s.heap s.heap [] := va_S.rf
  have hl := lv_entry ([.ref h0, .ref ve, .int 3, .int (nI F)]) (n := 7) (Nat.le_of_ble_eq_true rfl)
  rw [lg_entry_eq]
  generalize (lg_sl ([.ref h0, .ref ve, .int 3, .int (nI F)]) ++ List.replicate (7 - (lg_sl ([.ref h0, .ref ve, .int 3, .int (nI F)])).length) Slot.unset).toArray = ls at hl ⊢
  have hl : lv_has ls 7 [(0, .ref h0), (1, .ref ve), (2, .int 3), (3, .int (nI F))] := hl
  have hFX3 : ∀ w ∈ u_ws RX3 TX3 4, w ∈ wsX3_leastLoad := by decide +kernel
  have hFX6 : ∀ w ∈ u_ws RX6 TX6 11, w ∈ wsX3_leastLoad := by decide +kernel
  refine lv_ldc (v := 1000000) hx hb hown (hts (.constant RX3 46 (1000000)) (by decide +kernel)) dX3_leastLoad_0 ?_
  refine lv_istore (lv' := [(4, .int 1000000), (0, .ref h0), (1, .ref ve), (2, .int 3), (3, .int (nI F))]) hx hb dX3_leastLoad_2 hl (by decide) rfl (fun ls hl => ?_)
  refine lv_iconst (v := (-1)) hx hb dX3_leastLoad_4 (by decide) ?_
  refine lv_istore (lv' := [(5, .int (-1)), (4, .int 1000000), (0, .ref h0), (1, .ref ve), (2, .int 3), (3, .int (nI F))]) hx hb dX3_leastLoad_5 hl (by decide) rfl (fun ls hl => ?_)
  refine lv_iload_n hx hb dX3_leastLoad_7 rfl (lv_at hl 5 rfl) ?_
  refine lv_istore (lv' := [(6, .int (nI F)), (5, .int (-1)), (4, .int 1000000), (0, .ref h0), (1, .ref ve), (2, .int 3), (3, .int (nI F))]) hx hb dX3_leastLoad_8 hl (by decide) rfl (fun ls hl => ?_)
  have hloop10 : ∀ (n9 : Nat) (b : Nat) (fo : Int32) (ld : Int32) (H : Heap) (locs : List Loc) (ls : Array Slot), Nb - b < n9 → (b ≤ 10) → va_P (xD g) vwCl [(h0, .inr (3, [.ref le, w1, w2, w3])), (le, .inl (xM g, 5, .inr (.inr (.inr (.inr (xOut5 l0 l1 l2 l3 l4)))))), (l0, .inl (xI g, 11, .inl g0)), (l1, .inl (xI g, 11, .inl g1)), (l2, .inl (xI g, 11, .inl g2)), (l3, .inl (xI g, 11, .inl g3)), (l4, .inl (xI g, 11, .inl g4)), (ve, .inr (6, [v0, .int (nI Nb), v2, v3, v4, v5, v6, v7, .ref wb, v9, v10])), (wb, .inl (xI g, 10, .inl fa))] H → va_D (fun _ => True) [(h0, .inr (3, [.ref le, w1, w2, w3])), (le, .inl (xM g, 5, .inr (.inr (.inr (.inr (xOut5 l0 l1 l2 l3 l4)))))), (l0, .inl (xI g, 11, .inl g0)), (l1, .inl (xI g, 11, .inl g1)), (l2, .inl (xI g, 11, .inl g2)), (l3, .inl (xI g, 11, .inl g3)), (l4, .inl (xI g, 11, .inl g4)), (ve, .inr (6, [v0, .int (nI Nb), v2, v3, v4, v5, v6, v7, .ref wb, v9, v10])), (wb, .inl (xI g, 10, .inl fa))] → va_S A s.heap H locs → lv_has ls 7 [(6, .int (nI b)), (0, .ref h0), (1, .ref ve), (2, .int 3), (4, .int fo), (5, .int ld)] → W p l e (headSpec wsX3_leastLoad ({ frames := 2, cells := 0, slots := 0, locals := 45 })).room s m ([.ref h0, .ref ve, .int 3, .int (nI F)] : List Value).toArray below meth c H locs 0 0 (MQ below (va_Qi (fun (r : Int32) (u : Unit) => True) (fun _ _ => True) A) ([.ref h0, .ref ve, .int 3, .int (nI F)] : List Value).toArray s 0 0 A) (F0 m 10 ls []) := by
    intro n9
    induction n9 with
    | zero =>
      intro b fo ld H locs ls hm hi1 hP hD hS hl
      exact absurd hm (Nat.not_lt_zero _)
    | succ n9 ih10 =>
      intro b fo ld H locs ls hm hi1 hP hD hS hl
      refine lv_iload hx hb dX3_leastLoad_10 (lv_at hl 0 rfl) ?_
      refine lv_aload_n hx hb dX3_leastLoad_12 rfl (lv_at hl 2 rfl) ?_
      refine va_get (D := xD g) (ci := 6) (v := .int (nI Nb)) (C := RX6) (T := TX6) (N := 11) hx hb hts hFX6 hown hK hP 7 rfl rfl 1 (by decide) (hts (.fieldLink RX3 40 "Stevedore$Vessel" "bays" "I") (by decide +kernel)) (fun _ h9 => h9) rfl dX3_leastLoad_13 ?_
      refine lv_icmp_ge (tgt := 63) hx hb dX3_leastLoad_16 (by decide) (fun c_1 => ?_) (fun c_1 => ?_)
      · have nc_1 := (nI_leI (a := Nb) (b := b) (by omega) (by omega)).mp c_1
        refine lv_iload hx hb dX3_leastLoad_63 (lv_at hl 4 rfl) ?_
        exact W.iret (v := fo) hx hb hr (fun t ht hW => ⟨⟨fo, (), rfl, (by first | trivial | rfl | assumption | omega | simp_all), trivial⟩, hS.F ht⟩) hS.2.2 dX3_leastLoad_65
      · have nc_1 := mt (nI_leI (a := Nb) (b := b) (by omega) (by omega)).mpr c_1
        refine lv_iload hx hb dX3_leastLoad_19 (lv_at hl 5 rfl) ?_
        refine lv_aload_n hx hb dX3_leastLoad_21 rfl (lv_at hl 2 rfl) ?_
        refine lv_iload hx hb dX3_leastLoad_22 (lv_at hl 0 rfl) ?_
        have hPc := hP.sub (ws' := [(ve, .inr (6, [v0, .int (nI Nb), v2, v3, v4, v5, v6, v7, .ref wb, v9, v10])), (wb, .inl (xI g, 10, .inl fa))]) [7, 8] rfl
        have hDc := hD.sub (ws' := [(ve, .inr (6, [v0, .int (nI Nb), v2, v3, v4, v5, v6, v7, .ref wb, v9, v10])), (wb, .inl (xI g, 10, .inl fa))]) [7, 8] (by decide) rfl
        have hFc := xFree hS hA
        refine va_calli (va_runV (As := [.int (nI b)]) (rest := [.int ld]) ⟨hx, hb, hml, hown, hts⟩ (s_ticksIn l g H.size ve wb b v0 (.int (nI Nb)) v2 v3 v4 v5 v6 v7 v9 v10 fa (by first | assumption | decide | omega | simp_all)) (cwV 1 hts gX3_leastLoad_X6_ticksIn rfl rfl rfl (by decide +kernel) ⟨Nat.le_of_ble_eq_true rfl, Nat.le_of_ble_eq_true rfl⟩) ⟨xB.blind, va_recv hK hPc (ci := 6) (q0 := 0) rfl rfl, fun U9 hU9 hW9 => ⟨rfl, xB.mk hPc hK hDc hU9 hW9⟩⟩ rfl rfl hl.1 rfl (lv_room (Nat.le_of_ble_eq_true rfl)) dX3_leastLoad_24 ⟨Nat.le_of_ble_eq_true rfl, Nat.le_of_ble_eq_true rfl⟩) hS (fun q _ h => hFc q h) hFc (fun r_2 u_3 t H1 locs ht hvm hw_4 hB hz1 hk1 hS => ?_)
        have hP := xSame hP hk1
        generalize H1 = H at hP hS ⊢
        have hP : va_P (xD g) vwCl [(h0, .inr (3, [.ref le, w1, w2, w3])), (le, .inl (xM g, 5, .inr (.inr (.inr (.inr (xOut5 l0 l1 l2 l3 l4)))))), (l0, .inl (xI g, 11, .inl g0)), (l1, .inl (xI g, 11, .inl g1)), (l2, .inl (xI g, 11, .inl g2)), (l3, .inl (xI g, 11, .inl g3)), (l4, .inl (xI g, 11, .inl g4)), (ve, .inr (6, [v0, .int (nI Nb), v2, v3, v4, v5, v6, v7, .ref wb, v9, v10])), (wb, .inl (xI g, 10, .inl fa))] H := hP
        try dsimp only at hw_4
        refine lv_iconst (v := 1) hx hb dX3_leastLoad_27 (by decide) ?_
        refine lv_iadd hx hb dX3_leastLoad_28 ?_
        refine lv_topi (fun v_5 ev_5 => ?_)
        refine lv_iadd hx hb dX3_leastLoad_29 ?_
        refine lv_topi (fun v_6 ev_6 => ?_)
        refine lv_istore (lv' := [(5, .int v_6), (6, .int (nI b)), (0, .ref h0), (1, .ref ve), (2, .int 3), (4, .int fo)]) hx hb dX3_leastLoad_30 hl (by decide) rfl (fun ls hl => ?_)
        refine lv_iload hx hb dX3_leastLoad_32 (lv_at hl 5 rfl) ?_
        refine lv_iload hx hb dX3_leastLoad_34 (lv_at hl 0 rfl) ?_
        refine lv_aload_n hx hb dX3_leastLoad_36 rfl (lv_at hl 2 rfl) ?_
        refine va_get (D := xD g) (ci := 3) (v := .ref le) (C := RX3) (T := TX3) (N := 4) hx hb hts hFX3 hown hK hP 0 rfl rfl 0 (by decide) (hts (.fieldLink RX3 11 "Stevedore$CraneWalk" "least" "[[I") (by decide +kernel)) (fun _ h9 => h9) rfl dX3_leastLoad_37 ?_
        refine lv_iload_n hx hb dX3_leastLoad_40 rfl (lv_at hl 4 rfl) ?_
        refine lv_iconst (v := 1) hx hb dX3_leastLoad_41 (by decide) ?_
        refine lv_isub hx hb dX3_leastLoad_42 ?_
        refine lv_topi (fun v_7 ev => ?_)
        obtain rfl : v_7 = (2 : Int32) := ev.trans (by decide)
        refine xAldM hx hb hK hP 1 3 rfl rfl (by unfold vp_in; decide) dX3_leastLoad_43 ?_
        refine W.eq (g2 := F0 m 44 ls (.ref l2 :: .int v_6 :: .int fo :: [])) (by rfl) ?_
        refine lv_iload hx hb dX3_leastLoad_44 (lv_at hl 1 rfl) ?_
        refine lv_iconst (v := 1) hx hb dX3_leastLoad_46 (by decide) ?_
        refine lv_iadd hx hb dX3_leastLoad_47 ?_
        refine lv_topi (fun v_8 ev => ?_)
        obtain rfl : v_8 = nI (b + 1) := ev.trans (nI_1 b)
        refine va_iald hx hb hK hP 4 0 rfl rfl (vp_in_nI (by omega) (by omega)) dX3_leastLoad_48 ?_
        refine lv_topi (fun v_9 ev_9 => ?_)
        refine va_mmax hx hb (by rw [hml]; exact hl.1.symm) hown (hts (.methodLink RX3 58 Lib.Math.max.name) (by decide +kernel)) (hts (.static Lib.Math.max.name) (by decide +kernel)) (hts (.initialized "java/lang/Math") (by decide +kernel)) (hts (.code Lib.Math.max.name Lib.Math.max.code 2 (some .int)) (by decide +kernel)) (Nat.le_of_ble_eq_true rfl) (Nat.le_of_ble_eq_true rfl) (Nat.le_of_ble_eq_true rfl) (Nat.le_of_ble_eq_true rfl) dX3_leastLoad_49 ?_
        refine lv_topi (fun v_10 ev_10 => ?_)
        refine va_mmin hx hb (by rw [hml]; exact hl.1.symm) hown (hts (.methodLink RX3 64 Lib.Math.min.name) (by decide +kernel)) (hts (.static Lib.Math.min.name) (by decide +kernel)) (hts (.initialized "java/lang/Math") (by decide +kernel)) (hts (.code Lib.Math.min.name Lib.Math.min.code 2 (some .int)) (by decide +kernel)) (Nat.le_of_ble_eq_true rfl) (Nat.le_of_ble_eq_true rfl) (Nat.le_of_ble_eq_true rfl) (Nat.le_of_ble_eq_true rfl) dX3_leastLoad_52 ?_
        refine lv_topi (fun v_11 ev_11 => ?_)
        refine lv_istore (lv' := [(4, .int v_11), (5, .int v_6), (6, .int (nI b)), (0, .ref h0), (1, .ref ve), (2, .int 3)]) hx hb dX3_leastLoad_55 hl (by decide) rfl (fun ls hl => ?_)
        refine lv_iinc (v := nI (b + 1)) (lv' := [(6, .int (nI (b + 1))), (4, .int v_11), (5, .int v_6), (0, .ref h0), (1, .ref ve), (2, .int 3)]) hx hb dX3_leastLoad_57 hl (k := 2) rfl (nI_1 b) (by decide) rfl (fun ls hl => ?_)
        refine lv_goto (tgt := 10) hx hb dX3_leastLoad_60 (by decide) ?_
        exact ih10 (b + 1) v_11 v_6 _ _ _ (by omega) (by omega) hP hD hS (lv_sub hl [0, 3, 4, 5, 1, 2] rfl)
  exact hloop10 (Nb + 1) F 1000000 (-1) _ _ _ (by omega) hF hP hD hS (lv_sub hl [0, 3, 4, 5, 2, 1] rfl)
set_option maxHeartbeats 4000000 in
set_option maxRecDepth 100000 in
theorem s_leastLoad4 (l : Launch) (g : xG) (sz : Nat) (h0 : Nat) (le : Nat) (l0 : Nat) (l1 : Nat) (l2 : Nat) (l3 : Nat) (l4 : Nat) (ve : Nat) (wb : Nat) (Nb : Nat) (F : Nat) (w1 : Value) (w2 : Value) (w3 : Value) (v0 : Value) (v2 : Value) (v3 : Value) (v4 : Value) (v5 : Value) (v6 : Value) (v7 : Value) (v9 : Value) (v10 : Value) (g0 : Nat → Int32) (g1 : Nat → Int32) (g2 : Nat → Int32) (g3 : Nat → Int32) (g4 : Nat → Int32) (fa : Nat → Int32)  (hB : Nb ≤ 10) (hF : F ≤ 10) : Met l yX3_leastLoad wsX3_leastLoad ({ frames := 2, cells := 0, slots := 0, locals := 45 }) (va_Pc [.ref h0, .ref ve, .int 4, .int (nI F)] (fun U => xB g [(h0, .inr (3, [.ref le, w1, w2, w3])), (le, .inl (xM g, 5, .inr (.inr (.inr (.inr (xOut5 l0 l1 l2 l3 l4)))))), (l0, .inl (xI g, 11, .inl g0)), (l1, .inl (xI g, 11, .inl g1)), (l2, .inl (xI g, 11, .inl g2)), (l3, .inl (xI g, 11, .inl g3)), (l4, .inl (xI g, 11, .inl g4)), (ve, .inr (6, [v0, .int (nI Nb), v2, v3, v4, v5, v6, v7, .ref wb, v9, v10])), (wb, .inl (xI g, 10, .inl fa))] sz U)) (va_Qi (fun (r : Int32) (u : Unit) => True) (fun _ _ => True) (va_A [] sz)) 0 0 (va_A [] sz) := by
  refine Met.ofW (cc := cX3_leastLoad) (maxL := 7) (ret := (some .int)) (by decide) rfl ?_
  intro p e s m args below meth c s₁ B hml hv
  obtain ⟨rfl, ⟨hsz, hP, hK, hD0⟩⟩ := hv
  have hx := B.exec
  have hb := B.bytes
  have hr := B.returns
  have hts := atoms_spec (ws := wsX3_leastLoad) B.pre
  have hown : s.vm.findClass RX3 = some m.cls := findClass_of_methodNamed B.named
  have hlocks := B.notSynchronized
  subst hsz
  have hD := hD0
  generalize hAe : va_A [] s.heap.size = A
  have hA : ∀ q : Nat, s.heap.size ≤ q → A q := fun q h => by rw [← hAe]; exact Or.inr h
  have hS : va_S A s.heap s.heap [] := va_S.rf
  have hl := lv_entry ([.ref h0, .ref ve, .int 4, .int (nI F)]) (n := 7) (Nat.le_of_ble_eq_true rfl)
  rw [lg_entry_eq]
  generalize (lg_sl ([.ref h0, .ref ve, .int 4, .int (nI F)]) ++ List.replicate (7 - (lg_sl ([.ref h0, .ref ve, .int 4, .int (nI F)])).length) Slot.unset).toArray = ls at hl ⊢
  have hl : lv_has ls 7 [(0, .ref h0), (1, .ref ve), (2, .int 4), (3, .int (nI F))] := hl
  have hFX3 : ∀ w ∈ u_ws RX3 TX3 4, w ∈ wsX3_leastLoad := by decide +kernel
  have hFX6 : ∀ w ∈ u_ws RX6 TX6 11, w ∈ wsX3_leastLoad := by decide +kernel
  refine lv_ldc (v := 1000000) hx hb hown (hts (.constant RX3 46 (1000000)) (by decide +kernel)) dX3_leastLoad_0 ?_
  refine lv_istore (lv' := [(4, .int 1000000), (0, .ref h0), (1, .ref ve), (2, .int 4), (3, .int (nI F))]) hx hb dX3_leastLoad_2 hl (by decide) rfl (fun ls hl => ?_)
  refine lv_iconst (v := (-1)) hx hb dX3_leastLoad_4 (by decide) ?_
  refine lv_istore (lv' := [(5, .int (-1)), (4, .int 1000000), (0, .ref h0), (1, .ref ve), (2, .int 4), (3, .int (nI F))]) hx hb dX3_leastLoad_5 hl (by decide) rfl (fun ls hl => ?_)
  refine lv_iload_n hx hb dX3_leastLoad_7 rfl (lv_at hl 5 rfl) ?_
  refine lv_istore (lv' := [(6, .int (nI F)), (5, .int (-1)), (4, .int 1000000), (0, .ref h0), (1, .ref ve), (2, .int 4), (3, .int (nI F))]) hx hb dX3_leastLoad_8 hl (by decide) rfl (fun ls hl => ?_)
  have hloop10 : ∀ (n9 : Nat) (b : Nat) (fo : Int32) (ld : Int32) (H : Heap) (locs : List Loc) (ls : Array Slot), Nb - b < n9 → (b ≤ 10) → va_P (xD g) vwCl [(h0, .inr (3, [.ref le, w1, w2, w3])), (le, .inl (xM g, 5, .inr (.inr (.inr (.inr (xOut5 l0 l1 l2 l3 l4)))))), (l0, .inl (xI g, 11, .inl g0)), (l1, .inl (xI g, 11, .inl g1)), (l2, .inl (xI g, 11, .inl g2)), (l3, .inl (xI g, 11, .inl g3)), (l4, .inl (xI g, 11, .inl g4)), (ve, .inr (6, [v0, .int (nI Nb), v2, v3, v4, v5, v6, v7, .ref wb, v9, v10])), (wb, .inl (xI g, 10, .inl fa))] H → va_D (fun _ => True) [(h0, .inr (3, [.ref le, w1, w2, w3])), (le, .inl (xM g, 5, .inr (.inr (.inr (.inr (xOut5 l0 l1 l2 l3 l4)))))), (l0, .inl (xI g, 11, .inl g0)), (l1, .inl (xI g, 11, .inl g1)), (l2, .inl (xI g, 11, .inl g2)), (l3, .inl (xI g, 11, .inl g3)), (l4, .inl (xI g, 11, .inl g4)), (ve, .inr (6, [v0, .int (nI Nb), v2, v3, v4, v5, v6, v7, .ref wb, v9, v10])), (wb, .inl (xI g, 10, .inl fa))] → va_S A s.heap H locs → lv_has ls 7 [(6, .int (nI b)), (0, .ref h0), (1, .ref ve), (2, .int 4), (4, .int fo), (5, .int ld)] → W p l e (headSpec wsX3_leastLoad ({ frames := 2, cells := 0, slots := 0, locals := 45 })).room s m ([.ref h0, .ref ve, .int 4, .int (nI F)] : List Value).toArray below meth c H locs 0 0 (MQ below (va_Qi (fun (r : Int32) (u : Unit) => True) (fun _ _ => True) A) ([.ref h0, .ref ve, .int 4, .int (nI F)] : List Value).toArray s 0 0 A) (F0 m 10 ls []) := by
    intro n9
    induction n9 with
    | zero =>
      intro b fo ld H locs ls hm hi1 hP hD hS hl
      exact absurd hm (Nat.not_lt_zero _)
    | succ n9 ih10 =>
      intro b fo ld H locs ls hm hi1 hP hD hS hl
      refine lv_iload hx hb dX3_leastLoad_10 (lv_at hl 0 rfl) ?_
      refine lv_aload_n hx hb dX3_leastLoad_12 rfl (lv_at hl 2 rfl) ?_
      refine va_get (D := xD g) (ci := 6) (v := .int (nI Nb)) (C := RX6) (T := TX6) (N := 11) hx hb hts hFX6 hown hK hP 7 rfl rfl 1 (by decide) (hts (.fieldLink RX3 40 "Stevedore$Vessel" "bays" "I") (by decide +kernel)) (fun _ h9 => h9) rfl dX3_leastLoad_13 ?_
      refine lv_icmp_ge (tgt := 63) hx hb dX3_leastLoad_16 (by decide) (fun c_1 => ?_) (fun c_1 => ?_)
      · have nc_1 := (nI_leI (a := Nb) (b := b) (by omega) (by omega)).mp c_1
        refine lv_iload hx hb dX3_leastLoad_63 (lv_at hl 4 rfl) ?_
        exact W.iret (v := fo) hx hb hr (fun t ht hW => ⟨⟨fo, (), rfl, (by first | trivial | rfl | assumption | omega | simp_all), trivial⟩, hS.F ht⟩) hS.2.2 dX3_leastLoad_65
      · have nc_1 := mt (nI_leI (a := Nb) (b := b) (by omega) (by omega)).mpr c_1
        refine lv_iload hx hb dX3_leastLoad_19 (lv_at hl 5 rfl) ?_
        refine lv_aload_n hx hb dX3_leastLoad_21 rfl (lv_at hl 2 rfl) ?_
        refine lv_iload hx hb dX3_leastLoad_22 (lv_at hl 0 rfl) ?_
        have hPc := hP.sub (ws' := [(ve, .inr (6, [v0, .int (nI Nb), v2, v3, v4, v5, v6, v7, .ref wb, v9, v10])), (wb, .inl (xI g, 10, .inl fa))]) [7, 8] rfl
        have hDc := hD.sub (ws' := [(ve, .inr (6, [v0, .int (nI Nb), v2, v3, v4, v5, v6, v7, .ref wb, v9, v10])), (wb, .inl (xI g, 10, .inl fa))]) [7, 8] (by decide) rfl
        have hFc := xFree hS hA
        refine va_calli (va_runV (As := [.int (nI b)]) (rest := [.int ld]) ⟨hx, hb, hml, hown, hts⟩ (s_ticksIn l g H.size ve wb b v0 (.int (nI Nb)) v2 v3 v4 v5 v6 v7 v9 v10 fa (by first | assumption | decide | omega | simp_all)) (cwV 1 hts gX3_leastLoad_X6_ticksIn rfl rfl rfl (by decide +kernel) ⟨Nat.le_of_ble_eq_true rfl, Nat.le_of_ble_eq_true rfl⟩) ⟨xB.blind, va_recv hK hPc (ci := 6) (q0 := 0) rfl rfl, fun U9 hU9 hW9 => ⟨rfl, xB.mk hPc hK hDc hU9 hW9⟩⟩ rfl rfl hl.1 rfl (lv_room (Nat.le_of_ble_eq_true rfl)) dX3_leastLoad_24 ⟨Nat.le_of_ble_eq_true rfl, Nat.le_of_ble_eq_true rfl⟩) hS (fun q _ h => hFc q h) hFc (fun r_2 u_3 t H1 locs ht hvm hw_4 hB hz1 hk1 hS => ?_)
        have hP := xSame hP hk1
        generalize H1 = H at hP hS ⊢
        have hP : va_P (xD g) vwCl [(h0, .inr (3, [.ref le, w1, w2, w3])), (le, .inl (xM g, 5, .inr (.inr (.inr (.inr (xOut5 l0 l1 l2 l3 l4)))))), (l0, .inl (xI g, 11, .inl g0)), (l1, .inl (xI g, 11, .inl g1)), (l2, .inl (xI g, 11, .inl g2)), (l3, .inl (xI g, 11, .inl g3)), (l4, .inl (xI g, 11, .inl g4)), (ve, .inr (6, [v0, .int (nI Nb), v2, v3, v4, v5, v6, v7, .ref wb, v9, v10])), (wb, .inl (xI g, 10, .inl fa))] H := hP
        try dsimp only at hw_4
        refine lv_iconst (v := 1) hx hb dX3_leastLoad_27 (by decide) ?_
        refine lv_iadd hx hb dX3_leastLoad_28 ?_
        refine lv_topi (fun v_5 ev_5 => ?_)
        refine lv_iadd hx hb dX3_leastLoad_29 ?_
        refine lv_topi (fun v_6 ev_6 => ?_)
        refine lv_istore (lv' := [(5, .int v_6), (6, .int (nI b)), (0, .ref h0), (1, .ref ve), (2, .int 4), (4, .int fo)]) hx hb dX3_leastLoad_30 hl (by decide) rfl (fun ls hl => ?_)
        refine lv_iload hx hb dX3_leastLoad_32 (lv_at hl 5 rfl) ?_
        refine lv_iload hx hb dX3_leastLoad_34 (lv_at hl 0 rfl) ?_
        refine lv_aload_n hx hb dX3_leastLoad_36 rfl (lv_at hl 2 rfl) ?_
        refine va_get (D := xD g) (ci := 3) (v := .ref le) (C := RX3) (T := TX3) (N := 4) hx hb hts hFX3 hown hK hP 0 rfl rfl 0 (by decide) (hts (.fieldLink RX3 11 "Stevedore$CraneWalk" "least" "[[I") (by decide +kernel)) (fun _ h9 => h9) rfl dX3_leastLoad_37 ?_
        refine lv_iload_n hx hb dX3_leastLoad_40 rfl (lv_at hl 4 rfl) ?_
        refine lv_iconst (v := 1) hx hb dX3_leastLoad_41 (by decide) ?_
        refine lv_isub hx hb dX3_leastLoad_42 ?_
        refine lv_topi (fun v_7 ev => ?_)
        obtain rfl : v_7 = (3 : Int32) := ev.trans (by decide)
        refine xAldM hx hb hK hP 1 3 rfl rfl (by unfold vp_in; decide) dX3_leastLoad_43 ?_
        refine W.eq (g2 := F0 m 44 ls (.ref l3 :: .int v_6 :: .int fo :: [])) (by rfl) ?_
        refine lv_iload hx hb dX3_leastLoad_44 (lv_at hl 1 rfl) ?_
        refine lv_iconst (v := 1) hx hb dX3_leastLoad_46 (by decide) ?_
        refine lv_iadd hx hb dX3_leastLoad_47 ?_
        refine lv_topi (fun v_8 ev => ?_)
        obtain rfl : v_8 = nI (b + 1) := ev.trans (nI_1 b)
        refine va_iald hx hb hK hP 5 0 rfl rfl (vp_in_nI (by omega) (by omega)) dX3_leastLoad_48 ?_
        refine lv_topi (fun v_9 ev_9 => ?_)
        refine va_mmax hx hb (by rw [hml]; exact hl.1.symm) hown (hts (.methodLink RX3 58 Lib.Math.max.name) (by decide +kernel)) (hts (.static Lib.Math.max.name) (by decide +kernel)) (hts (.initialized "java/lang/Math") (by decide +kernel)) (hts (.code Lib.Math.max.name Lib.Math.max.code 2 (some .int)) (by decide +kernel)) (Nat.le_of_ble_eq_true rfl) (Nat.le_of_ble_eq_true rfl) (Nat.le_of_ble_eq_true rfl) (Nat.le_of_ble_eq_true rfl) dX3_leastLoad_49 ?_
        refine lv_topi (fun v_10 ev_10 => ?_)
        refine va_mmin hx hb (by rw [hml]; exact hl.1.symm) hown (hts (.methodLink RX3 64 Lib.Math.min.name) (by decide +kernel)) (hts (.static Lib.Math.min.name) (by decide +kernel)) (hts (.initialized "java/lang/Math") (by decide +kernel)) (hts (.code Lib.Math.min.name Lib.Math.min.code 2 (some .int)) (by decide +kernel)) (Nat.le_of_ble_eq_true rfl) (Nat.le_of_ble_eq_true rfl) (Nat.le_of_ble_eq_true rfl) (Nat.le_of_ble_eq_true rfl) dX3_leastLoad_52 ?_
        refine lv_topi (fun v_11 ev_11 => ?_)
        refine lv_istore (lv' := [(4, .int v_11), (5, .int v_6), (6, .int (nI b)), (0, .ref h0), (1, .ref ve), (2, .int 4)]) hx hb dX3_leastLoad_55 hl (by decide) rfl (fun ls hl => ?_)
        refine lv_iinc (v := nI (b + 1)) (lv' := [(6, .int (nI (b + 1))), (4, .int v_11), (5, .int v_6), (0, .ref h0), (1, .ref ve), (2, .int 4)]) hx hb dX3_leastLoad_57 hl (k := 2) rfl (nI_1 b) (by decide) rfl (fun ls hl => ?_)
        refine lv_goto (tgt := 10) hx hb dX3_leastLoad_60 (by decide) ?_
        exact ih10 (b + 1) v_11 v_6 _ _ _ (by omega) (by omega) hP hD hS (lv_sub hl [0, 3, 4, 5, 1, 2] rfl)
  exact hloop10 (Nb + 1) F 1000000 (-1) _ _ _ (by omega) hF hP hD hS (lv_sub hl [0, 3, 4, 5, 2, 1] rfl)
theorem dX3_findLeastLoads_0 : decode cX3_findLeastLoads 0 = .ok (.iconst 0, 1) := by decide +kernel
theorem dX3_findLeastLoads_1 : decode cX3_findLeastLoads 1 = .ok (.istore_n 2, 1) := by decide +kernel
theorem dX3_findLeastLoads_2 : decode cX3_findLeastLoads 2 = .ok (.iload_n 2, 1) := by decide +kernel
theorem dX3_findLeastLoads_3 : decode cX3_findLeastLoads 3 = .ok (.aload_n 1, 1) := by decide +kernel
theorem dX3_findLeastLoads_4 : decode cX3_findLeastLoads 4 = .ok (.getfield 40, 3) := by decide +kernel
theorem dX3_findLeastLoads_7 : decode cX3_findLeastLoads 7 = .ok (.if_icmp .gt 31, 3) := by decide +kernel
theorem dX3_findLeastLoads_38 : decode cX3_findLeastLoads 38 = .ok (.iconst 1, 1) := by decide +kernel
theorem dX3_findLeastLoads_39 : decode cX3_findLeastLoads 39 = .ok (.istore_n 2, 1) := by decide +kernel
theorem dX3_findLeastLoads_40 : decode cX3_findLeastLoads 40 = .ok (.iload_n 2, 1) := by decide +kernel
theorem dX3_findLeastLoads_41 : decode cX3_findLeastLoads 41 = .ok (.aload_n 1, 1) := by decide +kernel
theorem dX3_findLeastLoads_42 : decode cX3_findLeastLoads 42 = .ok (.getfield 47, 3) := by decide +kernel
theorem dX3_findLeastLoads_45 : decode cX3_findLeastLoads 45 = .ok (.if_icmp .gt 53, 3) := by decide +kernel
theorem dX3_findLeastLoads_98 : decode cX3_findLeastLoads 98 = .ok (.return_, 1) := by decide +kernel
theorem dX3_findLeastLoads_48 : decode cX3_findLeastLoads 48 = .ok (.aload_n 0, 1) := by decide +kernel
theorem dX3_findLeastLoads_49 : decode cX3_findLeastLoads 49 = .ok (.getfield 11, 3) := by decide +kernel
theorem dX3_findLeastLoads_52 : decode cX3_findLeastLoads 52 = .ok (.iload_n 2, 1) := by decide +kernel
theorem dX3_findLeastLoads_53 : decode cX3_findLeastLoads 53 = .ok (.aaload, 1) := by decide +kernel
theorem dX3_findLeastLoads_54 : decode cX3_findLeastLoads 54 = .ok (.aload_n 1, 1) := by decide +kernel
theorem dX3_findLeastLoads_55 : decode cX3_findLeastLoads 55 = .ok (.getfield 40, 3) := by decide +kernel
theorem dX3_findLeastLoads_58 : decode cX3_findLeastLoads 58 = .ok (.ldc 46, 2) := by decide +kernel
theorem dX3_findLeastLoads_60 : decode cX3_findLeastLoads 60 = .ok (.iastore, 1) := by decide +kernel
theorem dX3_findLeastLoads_61 : decode cX3_findLeastLoads 61 = .ok (.iconst 0, 1) := by decide +kernel
theorem dX3_findLeastLoads_62 : decode cX3_findLeastLoads 62 = .ok (.istore_n 3, 1) := by decide +kernel
theorem dX3_findLeastLoads_63 : decode cX3_findLeastLoads 63 = .ok (.iload_n 3, 1) := by decide +kernel
theorem dX3_findLeastLoads_64 : decode cX3_findLeastLoads 64 = .ok (.aload_n 1, 1) := by decide +kernel
theorem dX3_findLeastLoads_65 : decode cX3_findLeastLoads 65 = .ok (.getfield 40, 3) := by decide +kernel
theorem dX3_findLeastLoads_68 : decode cX3_findLeastLoads 68 = .ok (.if_icmp .ge 24, 3) := by decide +kernel
theorem dX3_findLeastLoads_92 : decode cX3_findLeastLoads 92 = .ok (.iinc 2 1, 3) := by decide +kernel
theorem dX3_findLeastLoads_95 : decode cX3_findLeastLoads 95 = .ok (.goto (-55), 3) := by decide +kernel
theorem dX3_findLeastLoads_71 : decode cX3_findLeastLoads 71 = .ok (.aload_n 0, 1) := by decide +kernel
theorem dX3_findLeastLoads_72 : decode cX3_findLeastLoads 72 = .ok (.getfield 11, 3) := by decide +kernel
theorem dX3_findLeastLoads_75 : decode cX3_findLeastLoads 75 = .ok (.iload_n 2, 1) := by decide +kernel
theorem dX3_findLeastLoads_76 : decode cX3_findLeastLoads 76 = .ok (.aaload, 1) := by decide +kernel
theorem dX3_findLeastLoads_77 : decode cX3_findLeastLoads 77 = .ok (.iload_n 3, 1) := by decide +kernel
theorem dX3_findLeastLoads_78 : decode cX3_findLeastLoads 78 = .ok (.aload_n 0, 1) := by decide +kernel
theorem dX3_findLeastLoads_79 : decode cX3_findLeastLoads 79 = .ok (.aload_n 1, 1) := by decide +kernel
theorem dX3_findLeastLoads_80 : decode cX3_findLeastLoads 80 = .ok (.iload_n 2, 1) := by decide +kernel
theorem dX3_findLeastLoads_81 : decode cX3_findLeastLoads 81 = .ok (.iload_n 3, 1) := by decide +kernel
theorem dX3_findLeastLoads_82 : decode cX3_findLeastLoads 82 = .ok (.invokevirtual 50, 3) := by decide +kernel
set_option maxRecDepth 20000 in
theorem ggX3_findLeastLoads_X3_leastLoad : GoodIn wsX3_findLeastLoads wsX3_leastLoad := goodIn_r _ [9, 3, 1, 2, 10, 11, 12, 13, 14, 15, 16, 17, 18, 19, 20, 21, 22, 23, 24, 25, 26, 27, 28, 29, 30, 31, 32, 33, 34, 35, 36, 37, 38] rfl (by decide +kernel)
set_option maxRecDepth 20000 in
theorem gX3_findLeastLoads_X3_leastLoad : GoodIn wsX3_findLeastLoads (wsV RX3 50 RX3 yX3_leastLoad wsX3_leastLoad) := goodIn_app (goodIn_of _ (by decide +kernel)) ggX3_findLeastLoads_X3_leastLoad
theorem dX3_findLeastLoads_85 : decode cX3_findLeastLoads 85 = .ok (.iastore, 1) := by decide +kernel
theorem dX3_findLeastLoads_86 : decode cX3_findLeastLoads 86 = .ok (.iinc 3 1, 3) := by decide +kernel
theorem dX3_findLeastLoads_89 : decode cX3_findLeastLoads 89 = .ok (.goto (-26), 3) := by decide +kernel
theorem dX3_findLeastLoads_10 : decode cX3_findLeastLoads 10 = .ok (.aload_n 0, 1) := by decide +kernel
theorem dX3_findLeastLoads_11 : decode cX3_findLeastLoads 11 = .ok (.getfield 11, 3) := by decide +kernel
theorem dX3_findLeastLoads_14 : decode cX3_findLeastLoads 14 = .ok (.iconst 0, 1) := by decide +kernel
theorem dX3_findLeastLoads_15 : decode cX3_findLeastLoads 15 = .ok (.aaload, 1) := by decide +kernel
theorem dX3_findLeastLoads_16 : decode cX3_findLeastLoads 16 = .ok (.iload_n 2, 1) := by decide +kernel
theorem dX3_findLeastLoads_17 : decode cX3_findLeastLoads 17 = .ok (.iload_n 2, 1) := by decide +kernel
theorem dX3_findLeastLoads_18 : decode cX3_findLeastLoads 18 = .ok (.aload_n 1, 1) := by decide +kernel
theorem dX3_findLeastLoads_19 : decode cX3_findLeastLoads 19 = .ok (.getfield 40, 3) := by decide +kernel
theorem dX3_findLeastLoads_22 : decode cX3_findLeastLoads 22 = .ok (.if_icmp .ne 7, 3) := by decide +kernel
theorem dX3_findLeastLoads_29 : decode cX3_findLeastLoads 29 = .ok (.ldc 46, 2) := by decide +kernel
theorem dX3_findLeastLoads_31 : decode cX3_findLeastLoads 31 = .ok (.iastore, 1) := by decide +kernel
theorem dX3_findLeastLoads_32 : decode cX3_findLeastLoads 32 = .ok (.iinc 2 1, 3) := by decide +kernel
theorem dX3_findLeastLoads_35 : decode cX3_findLeastLoads 35 = .ok (.goto (-33), 3) := by decide +kernel
theorem dX3_findLeastLoads_25 : decode cX3_findLeastLoads 25 = .ok (.iconst 0, 1) := by decide +kernel
theorem dX3_findLeastLoads_26 : decode cX3_findLeastLoads 26 = .ok (.goto 5, 3) := by decide +kernel
set_option maxHeartbeats 4000000 in
set_option maxRecDepth 100000 in
theorem s_findLeastLoads (l : Launch) (g : xG) (sz : Nat) (h0 : Nat) (le : Nat) (l0 : Nat) (l1 : Nat) (l2 : Nat) (l3 : Nat) (l4 : Nat) (ve : Nat) (wb : Nat) (Nb : Nat) (Wn : Nat) (w1 : Value) (w2 : Value) (w3 : Value) (v0 : Value) (v2 : Value) (v4 : Value) (v5 : Value) (v6 : Value) (v7 : Value) (v9 : Value) (v10 : Value) (g0 : Nat → Int32) (g1 : Nat → Int32) (g2 : Nat → Int32) (g3 : Nat → Int32) (g4 : Nat → Int32) (fa : Nat → Int32)  (hB1 : 1 ≤ Nb) (hB : Nb ≤ 10) (hWn : Wn ≤ 4) : Met l yX3_findLeastLoads wsX3_findLeastLoads ({ frames := 3, cells := 0, slots := 0, locals := 71 }) (va_Pc [.ref h0, .ref ve] (fun U => xB g [(h0, .inr (3, [.ref le, w1, w2, w3])), (le, .inl (xM g, 5, .inr (.inr (.inr (.inr (xOut5 l0 l1 l2 l3 l4)))))), (l0, .inl (xI g, 11, .inl g0)), (l1, .inl (xI g, 11, .inl g1)), (l2, .inl (xI g, 11, .inl g2)), (l3, .inl (xI g, 11, .inl g3)), (l4, .inl (xI g, 11, .inl g4)), (ve, .inr (6, [v0, .int (nI Nb), v2, .int (nI Wn), v4, v5, v6, v7, .ref wb, v9, v10])), (wb, .inl (xI g, 10, .inl fa))] sz U)) (va_Qv (fun (u : Unit) => True) (fun (u : Unit) (t : State) => ∃ (m0 : Nat → Int32) (m1 : Nat → Int32) (m2 : Nat → Int32) (m3 : Nat → Int32) (m4 : Nat → Int32), xE g [(h0, .inr (3, [.ref le, w1, w2, w3])), (le, .inl (xM g, 5, .inr (.inr (.inr (.inr (xOut5 l0 l1 l2 l3 l4)))))), (l0, .inl (xI g, 11, .inl m0)), (l1, .inl (xI g, 11, .inl m1)), (l2, .inl (xI g, 11, .inl m2)), (l3, .inl (xI g, 11, .inl m3)), (l4, .inl (xI g, 11, .inl m4)), (ve, .inr (6, [v0, .int (nI Nb), v2, .int (nI Wn), v4, v5, v6, v7, .ref wb, v9, v10])), (wb, .inl (xI g, 10, .inl fa))] (va_A [(h0, .inr (3, [.ref le, w1, w2, w3])), (le, .inl (xM g, 5, .inr (.inr (.inr (.inr (xOut5 l0 l1 l2 l3 l4)))))), (l0, .inl (xI g, 11, .inl g0)), (l1, .inl (xI g, 11, .inl g1)), (l2, .inl (xI g, 11, .inl g2)), (l3, .inl (xI g, 11, .inl g3)), (l4, .inl (xI g, 11, .inl g4)), (ve, .inr (6, [v0, .int (nI Nb), v2, .int (nI Wn), v4, v5, v6, v7, .ref wb, v9, v10])), (wb, .inl (xI g, 10, .inl fa))] sz) t) (va_A [(h0, .inr (3, [.ref le, w1, w2, w3])), (le, .inl (xM g, 5, .inr (.inr (.inr (.inr (xOut5 l0 l1 l2 l3 l4)))))), (l0, .inl (xI g, 11, .inl g0)), (l1, .inl (xI g, 11, .inl g1)), (l2, .inl (xI g, 11, .inl g2)), (l3, .inl (xI g, 11, .inl g3)), (l4, .inl (xI g, 11, .inl g4)), (ve, .inr (6, [v0, .int (nI Nb), v2, .int (nI Wn), v4, v5, v6, v7, .ref wb, v9, v10])), (wb, .inl (xI g, 10, .inl fa))] sz)) 0 0 (va_A [(h0, .inr (3, [.ref le, w1, w2, w3])), (le, .inl (xM g, 5, .inr (.inr (.inr (.inr (xOut5 l0 l1 l2 l3 l4)))))), (l0, .inl (xI g, 11, .inl g0)), (l1, .inl (xI g, 11, .inl g1)), (l2, .inl (xI g, 11, .inl g2)), (l3, .inl (xI g, 11, .inl g3)), (l4, .inl (xI g, 11, .inl g4)), (ve, .inr (6, [v0, .int (nI Nb), v2, .int (nI Wn), v4, v5, v6, v7, .ref wb, v9, v10])), (wb, .inl (xI g, 10, .inl fa))] sz) := by
  refine Met.ofW (cc := cX3_findLeastLoads) (maxL := 4) (ret := none) (by decide) rfl ?_
  intro p e s m args below meth c s₁ B hml hv
  obtain ⟨rfl, ⟨hsz, hP, hK, hD0⟩⟩ := hv
  have hx := B.exec
  have hb := B.bytes
  have hr := B.returns
  have hts := atoms_spec (ws := wsX3_findLeastLoads) B.pre
  have hown : s.vm.findClass RX3 = some m.cls := findClass_of_methodNamed B.named
  have hlocks := B.notSynchronized
  subst hsz
  have hD := hD0.self (sz := s.heap.size)
  generalize hAe : va_A [(h0, .inr (3, [.ref le, w1, w2, w3])), (le, .inl (xM g, 5, .inr (.inr (.inr (.inr (xOut5 l0 l1 l2 l3 l4)))))), (l0, .inl (xI g, 11, .inl g0)), (l1, .inl (xI g, 11, .inl g1)), (l2, .inl (xI g, 11, .inl g2)), (l3, .inl (xI g, 11, .inl g3)), (l4, .inl (xI g, 11, .inl g4)), (ve, .inr (6, [v0, .int (nI Nb), v2, .int (nI Wn), v4, v5, v6, v7, .ref wb, v9, v10])), (wb, .inl (xI g, 10, .inl fa))] s.heap.size = A at hD ⊢
  have hA : ∀ q : Nat, s.heap.size ≤ q → A q := fun q h => by rw [← hAe]; exact Or.inr h
  have hS : va_S A s.heap s.heap [] := va_S.rf
  have hl := lv_entry ([.ref h0, .ref ve]) (n := 4) (Nat.le_of_ble_eq_true rfl)
  rw [lg_entry_eq]
  generalize (lg_sl ([.ref h0, .ref ve]) ++ List.replicate (4 - (lg_sl ([.ref h0, .ref ve])).length) Slot.unset).toArray = ls at hl ⊢
  have hl : lv_has ls 4 [(0, .ref h0), (1, .ref ve)] := hl
  have hFX3 : ∀ w ∈ u_ws RX3 TX3 4, w ∈ wsX3_findLeastLoads := by decide +kernel
  have hFX6 : ∀ w ∈ u_ws RX6 TX6 11, w ∈ wsX3_findLeastLoads := by decide +kernel
  refine lv_iconst (v := 0) hx hb dX3_findLeastLoads_0 (by decide) ?_
  refine lv_istore_n (lv' := [(2, .int 0), (0, .ref h0), (1, .ref ve)]) hx hb dX3_findLeastLoads_1 rfl hl (by decide) rfl (fun ls hl => ?_)
  have hloop2 : ∀ (n9 : Nat) (b : Nat) (g0 : Nat → Int32) (H : Heap) (locs : List Loc) (ls : Array Slot), 12 - b < n9 → (b ≤ 11) → va_P (xD g) vwCl [(h0, .inr (3, [.ref le, w1, w2, w3])), (le, .inl (xM g, 5, .inr (.inr (.inr (.inr (xOut5 l0 l1 l2 l3 l4)))))), (l0, .inl (xI g, 11, .inl g0)), (l1, .inl (xI g, 11, .inl g1)), (l2, .inl (xI g, 11, .inl g2)), (l3, .inl (xI g, 11, .inl g3)), (l4, .inl (xI g, 11, .inl g4)), (ve, .inr (6, [v0, .int (nI Nb), v2, .int (nI Wn), v4, v5, v6, v7, .ref wb, v9, v10])), (wb, .inl (xI g, 10, .inl fa))] H → va_D A [(h0, .inr (3, [.ref le, w1, w2, w3])), (le, .inl (xM g, 5, .inr (.inr (.inr (.inr (xOut5 l0 l1 l2 l3 l4)))))), (l0, .inl (xI g, 11, .inl g0)), (l1, .inl (xI g, 11, .inl g1)), (l2, .inl (xI g, 11, .inl g2)), (l3, .inl (xI g, 11, .inl g3)), (l4, .inl (xI g, 11, .inl g4)), (ve, .inr (6, [v0, .int (nI Nb), v2, .int (nI Wn), v4, v5, v6, v7, .ref wb, v9, v10])), (wb, .inl (xI g, 10, .inl fa))] → va_S A s.heap H locs → lv_has ls 4 [(2, .int (nI b)), (0, .ref h0), (1, .ref ve)] → W p l e (headSpec wsX3_findLeastLoads ({ frames := 3, cells := 0, slots := 0, locals := 71 })).room s m ([.ref h0, .ref ve] : List Value).toArray below meth c H locs 0 0 (MQ below (va_Qv (fun (u : Unit) => True) (fun (u : Unit) (t : State) => ∃ (m0 : Nat → Int32) (m1 : Nat → Int32) (m2 : Nat → Int32) (m3 : Nat → Int32) (m4 : Nat → Int32), xE g [(h0, .inr (3, [.ref le, w1, w2, w3])), (le, .inl (xM g, 5, .inr (.inr (.inr (.inr (xOut5 l0 l1 l2 l3 l4)))))), (l0, .inl (xI g, 11, .inl m0)), (l1, .inl (xI g, 11, .inl m1)), (l2, .inl (xI g, 11, .inl m2)), (l3, .inl (xI g, 11, .inl m3)), (l4, .inl (xI g, 11, .inl m4)), (ve, .inr (6, [v0, .int (nI Nb), v2, .int (nI Wn), v4, v5, v6, v7, .ref wb, v9, v10])), (wb, .inl (xI g, 10, .inl fa))] A t) A) ([.ref h0, .ref ve] : List Value).toArray s 0 0 A) (F0 m 2 ls []) := by
    intro n9
    induction n9 with
    | zero =>
      intro b g0 H locs ls hm hi1 hP hD hS hl
      exact absurd hm (Nat.not_lt_zero _)
    | succ n9 ih2 =>
      intro b g0 H locs ls hm hi1 hP hD hS hl
      refine lv_iload_n hx hb dX3_findLeastLoads_2 rfl (lv_at hl 0 rfl) ?_
      refine lv_aload_n hx hb dX3_findLeastLoads_3 rfl (lv_at hl 2 rfl) ?_
      refine va_get (D := xD g) (ci := 6) (v := .int (nI Nb)) (C := RX6) (T := TX6) (N := 11) hx hb hts hFX6 hown hK hP 7 rfl rfl 1 (by decide) (hts (.fieldLink RX3 40 "Stevedore$Vessel" "bays" "I") (by decide +kernel)) (fun _ h9 => h9) rfl dX3_findLeastLoads_4 ?_
      refine lv_icmp_gt (tgt := 38) hx hb dX3_findLeastLoads_7 (by decide) (fun c_1 => ?_) (fun c_1 => ?_)
      · have nc_1 := (nI_ltI (a := Nb) (b := b) (by omega) (by omega)).mp c_1
        refine lv_iconst (v := 1) hx hb dX3_findLeastLoads_38 (by decide) ?_
        refine lv_istore_n (lv' := [(2, .int 1), (0, .ref h0), (1, .ref ve)]) hx hb dX3_findLeastLoads_39 rfl hl (by decide) rfl (fun ls hl => ?_)
        have hloop40 : ∀ (n9 : Nat) (r : Nat) (k1 : Nat → Int32) (k2 : Nat → Int32) (k3 : Nat → Int32) (k4 : Nat → Int32) (H : Heap) (locs : List Loc) (ls : Array Slot), 5 - r < n9 → (1 ≤ r) → (r ≤ 5) → va_P (xD g) vwCl [(h0, .inr (3, [.ref le, w1, w2, w3])), (le, .inl (xM g, 5, .inr (.inr (.inr (.inr (xOut5 l0 l1 l2 l3 l4)))))), (l0, .inl (xI g, 11, .inl g0)), (l1, .inl (xI g, 11, .inl k1)), (l2, .inl (xI g, 11, .inl k2)), (l3, .inl (xI g, 11, .inl k3)), (l4, .inl (xI g, 11, .inl k4)), (ve, .inr (6, [v0, .int (nI Nb), v2, .int (nI Wn), v4, v5, v6, v7, .ref wb, v9, v10])), (wb, .inl (xI g, 10, .inl fa))] H → va_D A [(h0, .inr (3, [.ref le, w1, w2, w3])), (le, .inl (xM g, 5, .inr (.inr (.inr (.inr (xOut5 l0 l1 l2 l3 l4)))))), (l0, .inl (xI g, 11, .inl g0)), (l1, .inl (xI g, 11, .inl k1)), (l2, .inl (xI g, 11, .inl k2)), (l3, .inl (xI g, 11, .inl k3)), (l4, .inl (xI g, 11, .inl k4)), (ve, .inr (6, [v0, .int (nI Nb), v2, .int (nI Wn), v4, v5, v6, v7, .ref wb, v9, v10])), (wb, .inl (xI g, 10, .inl fa))] → va_S A s.heap H locs → lv_has ls 4 [(2, .int (nI r)), (0, .ref h0), (1, .ref ve)] → W p l e (headSpec wsX3_findLeastLoads ({ frames := 3, cells := 0, slots := 0, locals := 71 })).room s m ([.ref h0, .ref ve] : List Value).toArray below meth c H locs 0 0 (MQ below (va_Qv (fun (u : Unit) => True) (fun (u : Unit) (t : State) => ∃ (m0 : Nat → Int32) (m1 : Nat → Int32) (m2 : Nat → Int32) (m3 : Nat → Int32) (m4 : Nat → Int32), xE g [(h0, .inr (3, [.ref le, w1, w2, w3])), (le, .inl (xM g, 5, .inr (.inr (.inr (.inr (xOut5 l0 l1 l2 l3 l4)))))), (l0, .inl (xI g, 11, .inl m0)), (l1, .inl (xI g, 11, .inl m1)), (l2, .inl (xI g, 11, .inl m2)), (l3, .inl (xI g, 11, .inl m3)), (l4, .inl (xI g, 11, .inl m4)), (ve, .inr (6, [v0, .int (nI Nb), v2, .int (nI Wn), v4, v5, v6, v7, .ref wb, v9, v10])), (wb, .inl (xI g, 10, .inl fa))] A t) A) ([.ref h0, .ref ve] : List Value).toArray s 0 0 A) (F0 m 40 ls []) := by
          intro n9
          induction n9 with
          | zero =>
            intro r k1 k2 k3 k4 H locs ls hm hi1 hi2 hP hD hS hl
            exact absurd hm (Nat.not_lt_zero _)
          | succ n9 ih40 =>
            intro r k1 k2 k3 k4 H locs ls hm hi1 hi2 hP hD hS hl
            refine lv_iload_n hx hb dX3_findLeastLoads_40 rfl (lv_at hl 0 rfl) ?_
            refine lv_aload_n hx hb dX3_findLeastLoads_41 rfl (lv_at hl 2 rfl) ?_
            refine va_get (D := xD g) (ci := 6) (v := .int (nI Wn)) (C := RX6) (T := TX6) (N := 11) hx hb hts hFX6 hown hK hP 7 rfl rfl 3 (by decide) (hts (.fieldLink RX3 47 "Stevedore$Vessel" "wanted" "I") (by decide +kernel)) (fun _ h9 => h9) rfl dX3_findLeastLoads_42 ?_
            refine lv_icmp_gt (tgt := 98) hx hb dX3_findLeastLoads_45 (by decide) (fun c_2 => ?_) (fun c_2 => ?_)
            · have nc_2 := (nI_ltI (a := Wn) (b := r) (by omega) (by omega)).mp c_2
              have hP9 := hP.sub (ws' := [(h0, .inr (3, [.ref le, w1, w2, w3])), (le, .inl (xM g, 5, .inr (.inr (.inr (.inr (xOut5 l0 l1 l2 l3 l4)))))), (l0, .inl (xI g, 11, .inl g0)), (l1, .inl (xI g, 11, .inl k1)), (l2, .inl (xI g, 11, .inl k2)), (l3, .inl (xI g, 11, .inl k3)), (l4, .inl (xI g, 11, .inl k4)), (ve, .inr (6, [v0, .int (nI Nb), v2, .int (nI Wn), v4, v5, v6, v7, .ref wb, v9, v10])), (wb, .inl (xI g, 10, .inl fa))]) [0, 1, 2, 3, 4, 5, 6, 7, 8] rfl
              have hD9 := hD.sub (ws' := [(h0, .inr (3, [.ref le, w1, w2, w3])), (le, .inl (xM g, 5, .inr (.inr (.inr (.inr (xOut5 l0 l1 l2 l3 l4)))))), (l0, .inl (xI g, 11, .inl g0)), (l1, .inl (xI g, 11, .inl k1)), (l2, .inl (xI g, 11, .inl k2)), (l3, .inl (xI g, 11, .inl k3)), (l4, .inl (xI g, 11, .inl k4)), (ve, .inr (6, [v0, .int (nI Nb), v2, .int (nI Wn), v4, v5, v6, v7, .ref wb, v9, v10])), (wb, .inl (xI g, 10, .inl fa))]) [0, 1, 2, 3, 4, 5, 6, 7, 8] (by decide) rfl
              exact W.vret hx hb hr (fun t ht hW => ⟨⟨(), rfl, (by first | trivial | rfl | assumption | omega | simp_all), ⟨g0, k1, k2, k3, k4, by rw [ht]; exact hP9, va_K.moved hW.alike hK, hD9⟩⟩, hS.F ht⟩) hS.2.2 dX3_findLeastLoads_98
            · have nc_2 := mt (nI_ltI (a := Wn) (b := r) (by omega) (by omega)).mpr c_2
              have hs_3 : r = 1 ∨ r = 2 ∨ r = 3 ∨ r = 4 := by omega
              rcases hs_3 with rfl | rfl | rfl | rfl
              · have hl : lv_has ls 4 [(2, .int 1), (0, .ref h0), (1, .ref ve)] := hl
                refine lv_aload_n hx hb dX3_findLeastLoads_48 rfl (lv_at hl 1 rfl) ?_
                refine va_get (D := xD g) (ci := 3) (v := .ref le) (C := RX3) (T := TX3) (N := 4) hx hb hts hFX3 hown hK hP 0 rfl rfl 0 (by decide) (hts (.fieldLink RX3 11 "Stevedore$CraneWalk" "least" "[[I") (by decide +kernel)) (fun _ h9 => h9) rfl dX3_findLeastLoads_49 ?_
                refine lv_iload_n hx hb dX3_findLeastLoads_52 rfl (lv_at hl 0 rfl) ?_
                refine xAldM hx hb hK hP 1 3 rfl rfl (by unfold vp_in; decide) dX3_findLeastLoads_53 ?_
                refine W.eq (g2 := F0 m 54 ls (.ref l1 :: [])) (by rfl) ?_
                refine lv_aload_n hx hb dX3_findLeastLoads_54 rfl (lv_at hl 2 rfl) ?_
                refine va_get (D := xD g) (ci := 6) (v := .int (nI Nb)) (C := RX6) (T := TX6) (N := 11) hx hb hts hFX6 hown hK hP 7 rfl rfl 1 (by decide) (hts (.fieldLink RX3 40 "Stevedore$Vessel" "bays" "I") (by decide +kernel)) (fun _ h9 => h9) rfl dX3_findLeastLoads_55 ?_
                refine lv_ldc (v := 1000000) hx hb hown (hts (.constant RX3 46 (1000000)) (by decide +kernel)) dX3_findLeastLoads_58 ?_
                refine va_iast (x := 1000000) hx hb hK hP hD hS 3 0 rfl rfl (vp_in_nI (by omega) (by omega)) dX3_findLeastLoads_60 (fun H locs hP hD hS => ?_)
                have hP : va_P (xD g) vwCl [(h0, .inr (3, [.ref le, w1, w2, w3])), (le, .inl (xM g, 5, .inr (.inr (.inr (.inr (xOut5 l0 l1 l2 l3 l4)))))), (l0, .inl (xI g, 11, .inl g0)), (l1, .inl (xI g, 11, .inl (upd k1 (nI Nb).toNatClampNeg 1000000))), (l2, .inl (xI g, 11, .inl k2)), (l3, .inl (xI g, 11, .inl k3)), (l4, .inl (xI g, 11, .inl k4)), (ve, .inr (6, [v0, .int (nI Nb), v2, .int (nI Wn), v4, v5, v6, v7, .ref wb, v9, v10])), (wb, .inl (xI g, 10, .inl fa))] H := hP
                have hD : va_D A [(h0, .inr (3, [.ref le, w1, w2, w3])), (le, .inl (xM g, 5, .inr (.inr (.inr (.inr (xOut5 l0 l1 l2 l3 l4)))))), (l0, .inl (xI g, 11, .inl g0)), (l1, .inl (xI g, 11, .inl (upd k1 (nI Nb).toNatClampNeg 1000000))), (l2, .inl (xI g, 11, .inl k2)), (l3, .inl (xI g, 11, .inl k3)), (l4, .inl (xI g, 11, .inl k4)), (ve, .inr (6, [v0, .int (nI Nb), v2, .int (nI Wn), v4, v5, v6, v7, .ref wb, v9, v10])), (wb, .inl (xI g, 10, .inl fa))] := hD
                obtain ⟨g_4, eg_4⟩ : ∃ y : Nat → Int32, y = upd k1 (nI Nb).toNatClampNeg 1000000 := ⟨_, rfl⟩
                rw [← eg_4] at hP hD
                refine lv_iconst (v := 0) hx hb dX3_findLeastLoads_61 (by decide) ?_
                refine lv_istore_n (lv' := [(3, .int 0), (2, .int 1), (0, .ref h0), (1, .ref ve)]) hx hb dX3_findLeastLoads_62 rfl hl (by decide) rfl (fun ls hl => ?_)
                have hloop63 : ∀ (n9 : Nat) (b2 : Nat) (gx : Nat → Int32) (H : Heap) (locs : List Loc) (ls : Array Slot), Nb - b2 < n9 → (b2 ≤ 10) → va_P (xD g) vwCl [(h0, .inr (3, [.ref le, w1, w2, w3])), (le, .inl (xM g, 5, .inr (.inr (.inr (.inr (xOut5 l0 l1 l2 l3 l4)))))), (l0, .inl (xI g, 11, .inl g0)), (l1, .inl (xI g, 11, .inl gx)), (l2, .inl (xI g, 11, .inl k2)), (l3, .inl (xI g, 11, .inl k3)), (l4, .inl (xI g, 11, .inl k4)), (ve, .inr (6, [v0, .int (nI Nb), v2, .int (nI Wn), v4, v5, v6, v7, .ref wb, v9, v10])), (wb, .inl (xI g, 10, .inl fa))] H → va_D A [(h0, .inr (3, [.ref le, w1, w2, w3])), (le, .inl (xM g, 5, .inr (.inr (.inr (.inr (xOut5 l0 l1 l2 l3 l4)))))), (l0, .inl (xI g, 11, .inl g0)), (l1, .inl (xI g, 11, .inl gx)), (l2, .inl (xI g, 11, .inl k2)), (l3, .inl (xI g, 11, .inl k3)), (l4, .inl (xI g, 11, .inl k4)), (ve, .inr (6, [v0, .int (nI Nb), v2, .int (nI Wn), v4, v5, v6, v7, .ref wb, v9, v10])), (wb, .inl (xI g, 10, .inl fa))] → va_S A s.heap H locs → lv_has ls 4 [(3, .int (nI b2)), (0, .ref h0), (1, .ref ve), (2, .int 1)] → W p l e (headSpec wsX3_findLeastLoads ({ frames := 3, cells := 0, slots := 0, locals := 71 })).room s m ([.ref h0, .ref ve] : List Value).toArray below meth c H locs 0 0 (MQ below (va_Qv (fun (u : Unit) => True) (fun (u : Unit) (t : State) => ∃ (m0 : Nat → Int32) (m1 : Nat → Int32) (m2 : Nat → Int32) (m3 : Nat → Int32) (m4 : Nat → Int32), xE g [(h0, .inr (3, [.ref le, w1, w2, w3])), (le, .inl (xM g, 5, .inr (.inr (.inr (.inr (xOut5 l0 l1 l2 l3 l4)))))), (l0, .inl (xI g, 11, .inl m0)), (l1, .inl (xI g, 11, .inl m1)), (l2, .inl (xI g, 11, .inl m2)), (l3, .inl (xI g, 11, .inl m3)), (l4, .inl (xI g, 11, .inl m4)), (ve, .inr (6, [v0, .int (nI Nb), v2, .int (nI Wn), v4, v5, v6, v7, .ref wb, v9, v10])), (wb, .inl (xI g, 10, .inl fa))] A t) A) ([.ref h0, .ref ve] : List Value).toArray s 0 0 A) (F0 m 63 ls []) := by
                  intro n9
                  induction n9 with
                  | zero =>
                    intro b2 gx H locs ls hm hi5 hP hD hS hl
                    exact absurd hm (Nat.not_lt_zero _)
                  | succ n9 ih63 =>
                    intro b2 gx H locs ls hm hi5 hP hD hS hl
                    refine lv_iload_n hx hb dX3_findLeastLoads_63 rfl (lv_at hl 0 rfl) ?_
                    refine lv_aload_n hx hb dX3_findLeastLoads_64 rfl (lv_at hl 2 rfl) ?_
                    refine va_get (D := xD g) (ci := 6) (v := .int (nI Nb)) (C := RX6) (T := TX6) (N := 11) hx hb hts hFX6 hown hK hP 7 rfl rfl 1 (by decide) (hts (.fieldLink RX3 40 "Stevedore$Vessel" "bays" "I") (by decide +kernel)) (fun _ h9 => h9) rfl dX3_findLeastLoads_65 ?_
                    refine lv_icmp_ge (tgt := 92) hx hb dX3_findLeastLoads_68 (by decide) (fun c_5 => ?_) (fun c_5 => ?_)
                    · have nc_5 := (nI_leI (a := Nb) (b := b2) (by omega) (by omega)).mp c_5
                      refine lv_iinc (v := 2) (lv' := [(2, .int 2), (3, .int (nI b2)), (0, .ref h0), (1, .ref ve)]) hx hb dX3_findLeastLoads_92 hl (k := 3) rfl (by decide) (by decide) rfl (fun ls hl => ?_)
                      refine lv_goto (tgt := 40) hx hb dX3_findLeastLoads_95 (by decide) ?_
                      exact ih40 2 gx k2 k3 k4 _ _ _ (by omega) (by omega) (by omega) hP hD hS (lv_sub hl [0, 2, 3] rfl)
                    · have nc_5 := mt (nI_leI (a := Nb) (b := b2) (by omega) (by omega)).mpr c_5
                      refine lv_aload_n hx hb dX3_findLeastLoads_71 rfl (lv_at hl 1 rfl) ?_
                      refine va_get (D := xD g) (ci := 3) (v := .ref le) (C := RX3) (T := TX3) (N := 4) hx hb hts hFX3 hown hK hP 0 rfl rfl 0 (by decide) (hts (.fieldLink RX3 11 "Stevedore$CraneWalk" "least" "[[I") (by decide +kernel)) (fun _ h9 => h9) rfl dX3_findLeastLoads_72 ?_
                      refine lv_iload_n hx hb dX3_findLeastLoads_75 rfl (lv_at hl 3 rfl) ?_
                      refine xAldM hx hb hK hP 1 3 rfl rfl (by unfold vp_in; decide) dX3_findLeastLoads_76 ?_
                      refine W.eq (g2 := F0 m 77 ls (.ref l1 :: [])) (by rfl) ?_
                      refine lv_iload_n hx hb dX3_findLeastLoads_77 rfl (lv_at hl 0 rfl) ?_
                      refine lv_aload_n hx hb dX3_findLeastLoads_78 rfl (lv_at hl 1 rfl) ?_
                      refine lv_aload_n hx hb dX3_findLeastLoads_79 rfl (lv_at hl 2 rfl) ?_
                      refine lv_iload_n hx hb dX3_findLeastLoads_80 rfl (lv_at hl 3 rfl) ?_
                      refine lv_iload_n hx hb dX3_findLeastLoads_81 rfl (lv_at hl 0 rfl) ?_
                      have hPc := hP.sub (ws' := [(h0, .inr (3, [.ref le, w1, w2, w3])), (le, .inl (xM g, 5, .inr (.inr (.inr (.inr (xOut5 l0 l1 l2 l3 l4)))))), (l0, .inl (xI g, 11, .inl g0)), (l1, .inl (xI g, 11, .inl gx)), (l2, .inl (xI g, 11, .inl k2)), (l3, .inl (xI g, 11, .inl k3)), (l4, .inl (xI g, 11, .inl k4)), (ve, .inr (6, [v0, .int (nI Nb), v2, .int (nI Wn), v4, v5, v6, v7, .ref wb, v9, v10])), (wb, .inl (xI g, 10, .inl fa))]) [0, 1, 2, 3, 4, 5, 6, 7, 8] rfl
                      have hDc := hD.sub (ws' := [(h0, .inr (3, [.ref le, w1, w2, w3])), (le, .inl (xM g, 5, .inr (.inr (.inr (.inr (xOut5 l0 l1 l2 l3 l4)))))), (l0, .inl (xI g, 11, .inl g0)), (l1, .inl (xI g, 11, .inl gx)), (l2, .inl (xI g, 11, .inl k2)), (l3, .inl (xI g, 11, .inl k3)), (l4, .inl (xI g, 11, .inl k4)), (ve, .inr (6, [v0, .int (nI Nb), v2, .int (nI Wn), v4, v5, v6, v7, .ref wb, v9, v10])), (wb, .inl (xI g, 10, .inl fa))]) [0, 1, 2, 3, 4, 5, 6, 7, 8] (by decide) rfl
                      have hFc := xFree hS hA
                      refine va_calli (va_runV (As := [.ref ve, .int 1, .int (nI b2)]) (rest := [.int (nI b2), .ref l1]) ⟨hx, hb, hml, hown, hts⟩ (s_leastLoad1 l g H.size h0 le l0 l1 l2 l3 l4 ve wb Nb b2 w1 w2 w3 v0 v2 (.int (nI Wn)) v4 v5 v6 v7 v9 v10 g0 gx k2 k3 k4 fa (by first | assumption | decide | omega | simp_all) (by first | assumption | decide | omega | simp_all)) (cwV 3 hts gX3_findLeastLoads_X3_leastLoad rfl rfl rfl (by decide +kernel) ⟨Nat.le_of_ble_eq_true rfl, Nat.le_of_ble_eq_true rfl⟩) ⟨xB.blind, va_recv hK hPc (ci := 3) (q0 := 0) rfl rfl, fun U9 hU9 hW9 => ⟨rfl, xB.mk hPc hK hDc hU9 hW9⟩⟩ rfl rfl hl.1 rfl (lv_room (Nat.le_of_ble_eq_true rfl)) dX3_findLeastLoads_82 ⟨Nat.le_of_ble_eq_true rfl, Nat.le_of_ble_eq_true rfl⟩) hS (fun q _ h => hFc q h) hFc (fun r_6 u_7 t H1 locs ht hvm hw_8 hB hz1 hk1 hS => ?_)
                      have hP := xSame hP hk1
                      generalize H1 = H at hP hS ⊢
                      have hP : va_P (xD g) vwCl [(h0, .inr (3, [.ref le, w1, w2, w3])), (le, .inl (xM g, 5, .inr (.inr (.inr (.inr (xOut5 l0 l1 l2 l3 l4)))))), (l0, .inl (xI g, 11, .inl g0)), (l1, .inl (xI g, 11, .inl gx)), (l2, .inl (xI g, 11, .inl k2)), (l3, .inl (xI g, 11, .inl k3)), (l4, .inl (xI g, 11, .inl k4)), (ve, .inr (6, [v0, .int (nI Nb), v2, .int (nI Wn), v4, v5, v6, v7, .ref wb, v9, v10])), (wb, .inl (xI g, 10, .inl fa))] H := hP
                      have hD : va_D A [(h0, .inr (3, [.ref le, w1, w2, w3])), (le, .inl (xM g, 5, .inr (.inr (.inr (.inr (xOut5 l0 l1 l2 l3 l4)))))), (l0, .inl (xI g, 11, .inl g0)), (l1, .inl (xI g, 11, .inl gx)), (l2, .inl (xI g, 11, .inl k2)), (l3, .inl (xI g, 11, .inl k3)), (l4, .inl (xI g, 11, .inl k4)), (ve, .inr (6, [v0, .int (nI Nb), v2, .int (nI Wn), v4, v5, v6, v7, .ref wb, v9, v10])), (wb, .inl (xI g, 10, .inl fa))] := hD
                      try dsimp only at hw_8
                      refine va_iast (x := r_6) hx hb hK hP hD hS 3 0 rfl rfl (vp_in_nI (by omega) (by omega)) dX3_findLeastLoads_85 (fun H locs hP hD hS => ?_)
                      have hP : va_P (xD g) vwCl [(h0, .inr (3, [.ref le, w1, w2, w3])), (le, .inl (xM g, 5, .inr (.inr (.inr (.inr (xOut5 l0 l1 l2 l3 l4)))))), (l0, .inl (xI g, 11, .inl g0)), (l1, .inl (xI g, 11, .inl (upd gx (nI b2).toNatClampNeg r_6))), (l2, .inl (xI g, 11, .inl k2)), (l3, .inl (xI g, 11, .inl k3)), (l4, .inl (xI g, 11, .inl k4)), (ve, .inr (6, [v0, .int (nI Nb), v2, .int (nI Wn), v4, v5, v6, v7, .ref wb, v9, v10])), (wb, .inl (xI g, 10, .inl fa))] H := hP
                      have hD : va_D A [(h0, .inr (3, [.ref le, w1, w2, w3])), (le, .inl (xM g, 5, .inr (.inr (.inr (.inr (xOut5 l0 l1 l2 l3 l4)))))), (l0, .inl (xI g, 11, .inl g0)), (l1, .inl (xI g, 11, .inl (upd gx (nI b2).toNatClampNeg r_6))), (l2, .inl (xI g, 11, .inl k2)), (l3, .inl (xI g, 11, .inl k3)), (l4, .inl (xI g, 11, .inl k4)), (ve, .inr (6, [v0, .int (nI Nb), v2, .int (nI Wn), v4, v5, v6, v7, .ref wb, v9, v10])), (wb, .inl (xI g, 10, .inl fa))] := hD
                      obtain ⟨g_9, eg_9⟩ : ∃ y : Nat → Int32, y = upd gx (nI b2).toNatClampNeg r_6 := ⟨_, rfl⟩
                      rw [← eg_9] at hP hD
                      refine lv_iinc (v := nI (b2 + 1)) (lv' := [(3, .int (nI (b2 + 1))), (0, .ref h0), (1, .ref ve), (2, .int 1)]) hx hb dX3_findLeastLoads_86 hl (k := 0) rfl (nI_1 b2) (by decide) rfl (fun ls hl => ?_)
                      refine lv_goto (tgt := 63) hx hb dX3_findLeastLoads_89 (by decide) ?_
                      exact ih63 (b2 + 1) g_9 _ _ _ (by omega) (by omega) hP hD hS (lv_sub hl [0, 1, 2, 3] rfl)
                exact hloop63 (Nb + 1) 0 g_4 _ _ _ (by omega) (by omega) hP hD hS (lv_sub hl [0, 2, 3, 1] rfl)
              · have hl : lv_has ls 4 [(2, .int 2), (0, .ref h0), (1, .ref ve)] := hl
                refine lv_aload_n hx hb dX3_findLeastLoads_48 rfl (lv_at hl 1 rfl) ?_
                refine va_get (D := xD g) (ci := 3) (v := .ref le) (C := RX3) (T := TX3) (N := 4) hx hb hts hFX3 hown hK hP 0 rfl rfl 0 (by decide) (hts (.fieldLink RX3 11 "Stevedore$CraneWalk" "least" "[[I") (by decide +kernel)) (fun _ h9 => h9) rfl dX3_findLeastLoads_49 ?_
                refine lv_iload_n hx hb dX3_findLeastLoads_52 rfl (lv_at hl 0 rfl) ?_
                refine xAldM hx hb hK hP 1 3 rfl rfl (by unfold vp_in; decide) dX3_findLeastLoads_53 ?_
                refine W.eq (g2 := F0 m 54 ls (.ref l2 :: [])) (by rfl) ?_
                refine lv_aload_n hx hb dX3_findLeastLoads_54 rfl (lv_at hl 2 rfl) ?_
                refine va_get (D := xD g) (ci := 6) (v := .int (nI Nb)) (C := RX6) (T := TX6) (N := 11) hx hb hts hFX6 hown hK hP 7 rfl rfl 1 (by decide) (hts (.fieldLink RX3 40 "Stevedore$Vessel" "bays" "I") (by decide +kernel)) (fun _ h9 => h9) rfl dX3_findLeastLoads_55 ?_
                refine lv_ldc (v := 1000000) hx hb hown (hts (.constant RX3 46 (1000000)) (by decide +kernel)) dX3_findLeastLoads_58 ?_
                refine va_iast (x := 1000000) hx hb hK hP hD hS 4 0 rfl rfl (vp_in_nI (by omega) (by omega)) dX3_findLeastLoads_60 (fun H locs hP hD hS => ?_)
                have hP : va_P (xD g) vwCl [(h0, .inr (3, [.ref le, w1, w2, w3])), (le, .inl (xM g, 5, .inr (.inr (.inr (.inr (xOut5 l0 l1 l2 l3 l4)))))), (l0, .inl (xI g, 11, .inl g0)), (l1, .inl (xI g, 11, .inl k1)), (l2, .inl (xI g, 11, .inl (upd k2 (nI Nb).toNatClampNeg 1000000))), (l3, .inl (xI g, 11, .inl k3)), (l4, .inl (xI g, 11, .inl k4)), (ve, .inr (6, [v0, .int (nI Nb), v2, .int (nI Wn), v4, v5, v6, v7, .ref wb, v9, v10])), (wb, .inl (xI g, 10, .inl fa))] H := hP
                have hD : va_D A [(h0, .inr (3, [.ref le, w1, w2, w3])), (le, .inl (xM g, 5, .inr (.inr (.inr (.inr (xOut5 l0 l1 l2 l3 l4)))))), (l0, .inl (xI g, 11, .inl g0)), (l1, .inl (xI g, 11, .inl k1)), (l2, .inl (xI g, 11, .inl (upd k2 (nI Nb).toNatClampNeg 1000000))), (l3, .inl (xI g, 11, .inl k3)), (l4, .inl (xI g, 11, .inl k4)), (ve, .inr (6, [v0, .int (nI Nb), v2, .int (nI Wn), v4, v5, v6, v7, .ref wb, v9, v10])), (wb, .inl (xI g, 10, .inl fa))] := hD
                obtain ⟨g_10, eg_10⟩ : ∃ y : Nat → Int32, y = upd k2 (nI Nb).toNatClampNeg 1000000 := ⟨_, rfl⟩
                rw [← eg_10] at hP hD
                refine lv_iconst (v := 0) hx hb dX3_findLeastLoads_61 (by decide) ?_
                refine lv_istore_n (lv' := [(3, .int 0), (2, .int 2), (0, .ref h0), (1, .ref ve)]) hx hb dX3_findLeastLoads_62 rfl hl (by decide) rfl (fun ls hl => ?_)
                have hloop63 : ∀ (n9 : Nat) (b2 : Nat) (gx : Nat → Int32) (H : Heap) (locs : List Loc) (ls : Array Slot), Nb - b2 < n9 → (b2 ≤ 10) → va_P (xD g) vwCl [(h0, .inr (3, [.ref le, w1, w2, w3])), (le, .inl (xM g, 5, .inr (.inr (.inr (.inr (xOut5 l0 l1 l2 l3 l4)))))), (l0, .inl (xI g, 11, .inl g0)), (l1, .inl (xI g, 11, .inl k1)), (l2, .inl (xI g, 11, .inl gx)), (l3, .inl (xI g, 11, .inl k3)), (l4, .inl (xI g, 11, .inl k4)), (ve, .inr (6, [v0, .int (nI Nb), v2, .int (nI Wn), v4, v5, v6, v7, .ref wb, v9, v10])), (wb, .inl (xI g, 10, .inl fa))] H → va_D A [(h0, .inr (3, [.ref le, w1, w2, w3])), (le, .inl (xM g, 5, .inr (.inr (.inr (.inr (xOut5 l0 l1 l2 l3 l4)))))), (l0, .inl (xI g, 11, .inl g0)), (l1, .inl (xI g, 11, .inl k1)), (l2, .inl (xI g, 11, .inl gx)), (l3, .inl (xI g, 11, .inl k3)), (l4, .inl (xI g, 11, .inl k4)), (ve, .inr (6, [v0, .int (nI Nb), v2, .int (nI Wn), v4, v5, v6, v7, .ref wb, v9, v10])), (wb, .inl (xI g, 10, .inl fa))] → va_S A s.heap H locs → lv_has ls 4 [(3, .int (nI b2)), (0, .ref h0), (1, .ref ve), (2, .int 2)] → W p l e (headSpec wsX3_findLeastLoads ({ frames := 3, cells := 0, slots := 0, locals := 71 })).room s m ([.ref h0, .ref ve] : List Value).toArray below meth c H locs 0 0 (MQ below (va_Qv (fun (u : Unit) => True) (fun (u : Unit) (t : State) => ∃ (m0 : Nat → Int32) (m1 : Nat → Int32) (m2 : Nat → Int32) (m3 : Nat → Int32) (m4 : Nat → Int32), xE g [(h0, .inr (3, [.ref le, w1, w2, w3])), (le, .inl (xM g, 5, .inr (.inr (.inr (.inr (xOut5 l0 l1 l2 l3 l4)))))), (l0, .inl (xI g, 11, .inl m0)), (l1, .inl (xI g, 11, .inl m1)), (l2, .inl (xI g, 11, .inl m2)), (l3, .inl (xI g, 11, .inl m3)), (l4, .inl (xI g, 11, .inl m4)), (ve, .inr (6, [v0, .int (nI Nb), v2, .int (nI Wn), v4, v5, v6, v7, .ref wb, v9, v10])), (wb, .inl (xI g, 10, .inl fa))] A t) A) ([.ref h0, .ref ve] : List Value).toArray s 0 0 A) (F0 m 63 ls []) := by
                  intro n9
                  induction n9 with
                  | zero =>
                    intro b2 gx H locs ls hm hi5 hP hD hS hl
                    exact absurd hm (Nat.not_lt_zero _)
                  | succ n9 ih63 =>
                    intro b2 gx H locs ls hm hi5 hP hD hS hl
                    refine lv_iload_n hx hb dX3_findLeastLoads_63 rfl (lv_at hl 0 rfl) ?_
                    refine lv_aload_n hx hb dX3_findLeastLoads_64 rfl (lv_at hl 2 rfl) ?_
                    refine va_get (D := xD g) (ci := 6) (v := .int (nI Nb)) (C := RX6) (T := TX6) (N := 11) hx hb hts hFX6 hown hK hP 7 rfl rfl 1 (by decide) (hts (.fieldLink RX3 40 "Stevedore$Vessel" "bays" "I") (by decide +kernel)) (fun _ h9 => h9) rfl dX3_findLeastLoads_65 ?_
                    refine lv_icmp_ge (tgt := 92) hx hb dX3_findLeastLoads_68 (by decide) (fun c_11 => ?_) (fun c_11 => ?_)
                    · have nc_11 := (nI_leI (a := Nb) (b := b2) (by omega) (by omega)).mp c_11
                      refine lv_iinc (v := 3) (lv' := [(2, .int 3), (3, .int (nI b2)), (0, .ref h0), (1, .ref ve)]) hx hb dX3_findLeastLoads_92 hl (k := 3) rfl (by decide) (by decide) rfl (fun ls hl => ?_)
                      refine lv_goto (tgt := 40) hx hb dX3_findLeastLoads_95 (by decide) ?_
                      exact ih40 3 k1 gx k3 k4 _ _ _ (by omega) (by omega) (by omega) hP hD hS (lv_sub hl [0, 2, 3] rfl)
                    · have nc_11 := mt (nI_leI (a := Nb) (b := b2) (by omega) (by omega)).mpr c_11
                      refine lv_aload_n hx hb dX3_findLeastLoads_71 rfl (lv_at hl 1 rfl) ?_
                      refine va_get (D := xD g) (ci := 3) (v := .ref le) (C := RX3) (T := TX3) (N := 4) hx hb hts hFX3 hown hK hP 0 rfl rfl 0 (by decide) (hts (.fieldLink RX3 11 "Stevedore$CraneWalk" "least" "[[I") (by decide +kernel)) (fun _ h9 => h9) rfl dX3_findLeastLoads_72 ?_
                      refine lv_iload_n hx hb dX3_findLeastLoads_75 rfl (lv_at hl 3 rfl) ?_
                      refine xAldM hx hb hK hP 1 3 rfl rfl (by unfold vp_in; decide) dX3_findLeastLoads_76 ?_
                      refine W.eq (g2 := F0 m 77 ls (.ref l2 :: [])) (by rfl) ?_
                      refine lv_iload_n hx hb dX3_findLeastLoads_77 rfl (lv_at hl 0 rfl) ?_
                      refine lv_aload_n hx hb dX3_findLeastLoads_78 rfl (lv_at hl 1 rfl) ?_
                      refine lv_aload_n hx hb dX3_findLeastLoads_79 rfl (lv_at hl 2 rfl) ?_
                      refine lv_iload_n hx hb dX3_findLeastLoads_80 rfl (lv_at hl 3 rfl) ?_
                      refine lv_iload_n hx hb dX3_findLeastLoads_81 rfl (lv_at hl 0 rfl) ?_
                      have hPc := hP.sub (ws' := [(h0, .inr (3, [.ref le, w1, w2, w3])), (le, .inl (xM g, 5, .inr (.inr (.inr (.inr (xOut5 l0 l1 l2 l3 l4)))))), (l0, .inl (xI g, 11, .inl g0)), (l1, .inl (xI g, 11, .inl k1)), (l2, .inl (xI g, 11, .inl gx)), (l3, .inl (xI g, 11, .inl k3)), (l4, .inl (xI g, 11, .inl k4)), (ve, .inr (6, [v0, .int (nI Nb), v2, .int (nI Wn), v4, v5, v6, v7, .ref wb, v9, v10])), (wb, .inl (xI g, 10, .inl fa))]) [0, 1, 2, 3, 4, 5, 6, 7, 8] rfl
                      have hDc := hD.sub (ws' := [(h0, .inr (3, [.ref le, w1, w2, w3])), (le, .inl (xM g, 5, .inr (.inr (.inr (.inr (xOut5 l0 l1 l2 l3 l4)))))), (l0, .inl (xI g, 11, .inl g0)), (l1, .inl (xI g, 11, .inl k1)), (l2, .inl (xI g, 11, .inl gx)), (l3, .inl (xI g, 11, .inl k3)), (l4, .inl (xI g, 11, .inl k4)), (ve, .inr (6, [v0, .int (nI Nb), v2, .int (nI Wn), v4, v5, v6, v7, .ref wb, v9, v10])), (wb, .inl (xI g, 10, .inl fa))]) [0, 1, 2, 3, 4, 5, 6, 7, 8] (by decide) rfl
                      have hFc := xFree hS hA
                      refine va_calli (va_runV (As := [.ref ve, .int 2, .int (nI b2)]) (rest := [.int (nI b2), .ref l2]) ⟨hx, hb, hml, hown, hts⟩ (s_leastLoad2 l g H.size h0 le l0 l1 l2 l3 l4 ve wb Nb b2 w1 w2 w3 v0 v2 (.int (nI Wn)) v4 v5 v6 v7 v9 v10 g0 k1 gx k3 k4 fa (by first | assumption | decide | omega | simp_all) (by first | assumption | decide | omega | simp_all)) (cwV 3 hts gX3_findLeastLoads_X3_leastLoad rfl rfl rfl (by decide +kernel) ⟨Nat.le_of_ble_eq_true rfl, Nat.le_of_ble_eq_true rfl⟩) ⟨xB.blind, va_recv hK hPc (ci := 3) (q0 := 0) rfl rfl, fun U9 hU9 hW9 => ⟨rfl, xB.mk hPc hK hDc hU9 hW9⟩⟩ rfl rfl hl.1 rfl (lv_room (Nat.le_of_ble_eq_true rfl)) dX3_findLeastLoads_82 ⟨Nat.le_of_ble_eq_true rfl, Nat.le_of_ble_eq_true rfl⟩) hS (fun q _ h => hFc q h) hFc (fun r_12 u_13 t H1 locs ht hvm hw_14 hB hz1 hk1 hS => ?_)
                      have hP := xSame hP hk1
                      generalize H1 = H at hP hS ⊢
                      have hP : va_P (xD g) vwCl [(h0, .inr (3, [.ref le, w1, w2, w3])), (le, .inl (xM g, 5, .inr (.inr (.inr (.inr (xOut5 l0 l1 l2 l3 l4)))))), (l0, .inl (xI g, 11, .inl g0)), (l1, .inl (xI g, 11, .inl k1)), (l2, .inl (xI g, 11, .inl gx)), (l3, .inl (xI g, 11, .inl k3)), (l4, .inl (xI g, 11, .inl k4)), (ve, .inr (6, [v0, .int (nI Nb), v2, .int (nI Wn), v4, v5, v6, v7, .ref wb, v9, v10])), (wb, .inl (xI g, 10, .inl fa))] H := hP
                      have hD : va_D A [(h0, .inr (3, [.ref le, w1, w2, w3])), (le, .inl (xM g, 5, .inr (.inr (.inr (.inr (xOut5 l0 l1 l2 l3 l4)))))), (l0, .inl (xI g, 11, .inl g0)), (l1, .inl (xI g, 11, .inl k1)), (l2, .inl (xI g, 11, .inl gx)), (l3, .inl (xI g, 11, .inl k3)), (l4, .inl (xI g, 11, .inl k4)), (ve, .inr (6, [v0, .int (nI Nb), v2, .int (nI Wn), v4, v5, v6, v7, .ref wb, v9, v10])), (wb, .inl (xI g, 10, .inl fa))] := hD
                      try dsimp only at hw_14
                      refine va_iast (x := r_12) hx hb hK hP hD hS 4 0 rfl rfl (vp_in_nI (by omega) (by omega)) dX3_findLeastLoads_85 (fun H locs hP hD hS => ?_)
                      have hP : va_P (xD g) vwCl [(h0, .inr (3, [.ref le, w1, w2, w3])), (le, .inl (xM g, 5, .inr (.inr (.inr (.inr (xOut5 l0 l1 l2 l3 l4)))))), (l0, .inl (xI g, 11, .inl g0)), (l1, .inl (xI g, 11, .inl k1)), (l2, .inl (xI g, 11, .inl (upd gx (nI b2).toNatClampNeg r_12))), (l3, .inl (xI g, 11, .inl k3)), (l4, .inl (xI g, 11, .inl k4)), (ve, .inr (6, [v0, .int (nI Nb), v2, .int (nI Wn), v4, v5, v6, v7, .ref wb, v9, v10])), (wb, .inl (xI g, 10, .inl fa))] H := hP
                      have hD : va_D A [(h0, .inr (3, [.ref le, w1, w2, w3])), (le, .inl (xM g, 5, .inr (.inr (.inr (.inr (xOut5 l0 l1 l2 l3 l4)))))), (l0, .inl (xI g, 11, .inl g0)), (l1, .inl (xI g, 11, .inl k1)), (l2, .inl (xI g, 11, .inl (upd gx (nI b2).toNatClampNeg r_12))), (l3, .inl (xI g, 11, .inl k3)), (l4, .inl (xI g, 11, .inl k4)), (ve, .inr (6, [v0, .int (nI Nb), v2, .int (nI Wn), v4, v5, v6, v7, .ref wb, v9, v10])), (wb, .inl (xI g, 10, .inl fa))] := hD
                      obtain ⟨g_15, eg_15⟩ : ∃ y : Nat → Int32, y = upd gx (nI b2).toNatClampNeg r_12 := ⟨_, rfl⟩
                      rw [← eg_15] at hP hD
                      refine lv_iinc (v := nI (b2 + 1)) (lv' := [(3, .int (nI (b2 + 1))), (0, .ref h0), (1, .ref ve), (2, .int 2)]) hx hb dX3_findLeastLoads_86 hl (k := 0) rfl (nI_1 b2) (by decide) rfl (fun ls hl => ?_)
                      refine lv_goto (tgt := 63) hx hb dX3_findLeastLoads_89 (by decide) ?_
                      exact ih63 (b2 + 1) g_15 _ _ _ (by omega) (by omega) hP hD hS (lv_sub hl [0, 1, 2, 3] rfl)
                exact hloop63 (Nb + 1) 0 g_10 _ _ _ (by omega) (by omega) hP hD hS (lv_sub hl [0, 2, 3, 1] rfl)
              · have hl : lv_has ls 4 [(2, .int 3), (0, .ref h0), (1, .ref ve)] := hl
                refine lv_aload_n hx hb dX3_findLeastLoads_48 rfl (lv_at hl 1 rfl) ?_
                refine va_get (D := xD g) (ci := 3) (v := .ref le) (C := RX3) (T := TX3) (N := 4) hx hb hts hFX3 hown hK hP 0 rfl rfl 0 (by decide) (hts (.fieldLink RX3 11 "Stevedore$CraneWalk" "least" "[[I") (by decide +kernel)) (fun _ h9 => h9) rfl dX3_findLeastLoads_49 ?_
                refine lv_iload_n hx hb dX3_findLeastLoads_52 rfl (lv_at hl 0 rfl) ?_
                refine xAldM hx hb hK hP 1 3 rfl rfl (by unfold vp_in; decide) dX3_findLeastLoads_53 ?_
                refine W.eq (g2 := F0 m 54 ls (.ref l3 :: [])) (by rfl) ?_
                refine lv_aload_n hx hb dX3_findLeastLoads_54 rfl (lv_at hl 2 rfl) ?_
                refine va_get (D := xD g) (ci := 6) (v := .int (nI Nb)) (C := RX6) (T := TX6) (N := 11) hx hb hts hFX6 hown hK hP 7 rfl rfl 1 (by decide) (hts (.fieldLink RX3 40 "Stevedore$Vessel" "bays" "I") (by decide +kernel)) (fun _ h9 => h9) rfl dX3_findLeastLoads_55 ?_
                refine lv_ldc (v := 1000000) hx hb hown (hts (.constant RX3 46 (1000000)) (by decide +kernel)) dX3_findLeastLoads_58 ?_
                refine va_iast (x := 1000000) hx hb hK hP hD hS 5 0 rfl rfl (vp_in_nI (by omega) (by omega)) dX3_findLeastLoads_60 (fun H locs hP hD hS => ?_)
                have hP : va_P (xD g) vwCl [(h0, .inr (3, [.ref le, w1, w2, w3])), (le, .inl (xM g, 5, .inr (.inr (.inr (.inr (xOut5 l0 l1 l2 l3 l4)))))), (l0, .inl (xI g, 11, .inl g0)), (l1, .inl (xI g, 11, .inl k1)), (l2, .inl (xI g, 11, .inl k2)), (l3, .inl (xI g, 11, .inl (upd k3 (nI Nb).toNatClampNeg 1000000))), (l4, .inl (xI g, 11, .inl k4)), (ve, .inr (6, [v0, .int (nI Nb), v2, .int (nI Wn), v4, v5, v6, v7, .ref wb, v9, v10])), (wb, .inl (xI g, 10, .inl fa))] H := hP
                have hD : va_D A [(h0, .inr (3, [.ref le, w1, w2, w3])), (le, .inl (xM g, 5, .inr (.inr (.inr (.inr (xOut5 l0 l1 l2 l3 l4)))))), (l0, .inl (xI g, 11, .inl g0)), (l1, .inl (xI g, 11, .inl k1)), (l2, .inl (xI g, 11, .inl k2)), (l3, .inl (xI g, 11, .inl (upd k3 (nI Nb).toNatClampNeg 1000000))), (l4, .inl (xI g, 11, .inl k4)), (ve, .inr (6, [v0, .int (nI Nb), v2, .int (nI Wn), v4, v5, v6, v7, .ref wb, v9, v10])), (wb, .inl (xI g, 10, .inl fa))] := hD
                obtain ⟨g_16, eg_16⟩ : ∃ y : Nat → Int32, y = upd k3 (nI Nb).toNatClampNeg 1000000 := ⟨_, rfl⟩
                rw [← eg_16] at hP hD
                refine lv_iconst (v := 0) hx hb dX3_findLeastLoads_61 (by decide) ?_
                refine lv_istore_n (lv' := [(3, .int 0), (2, .int 3), (0, .ref h0), (1, .ref ve)]) hx hb dX3_findLeastLoads_62 rfl hl (by decide) rfl (fun ls hl => ?_)
                have hloop63 : ∀ (n9 : Nat) (b2 : Nat) (gx : Nat → Int32) (H : Heap) (locs : List Loc) (ls : Array Slot), Nb - b2 < n9 → (b2 ≤ 10) → va_P (xD g) vwCl [(h0, .inr (3, [.ref le, w1, w2, w3])), (le, .inl (xM g, 5, .inr (.inr (.inr (.inr (xOut5 l0 l1 l2 l3 l4)))))), (l0, .inl (xI g, 11, .inl g0)), (l1, .inl (xI g, 11, .inl k1)), (l2, .inl (xI g, 11, .inl k2)), (l3, .inl (xI g, 11, .inl gx)), (l4, .inl (xI g, 11, .inl k4)), (ve, .inr (6, [v0, .int (nI Nb), v2, .int (nI Wn), v4, v5, v6, v7, .ref wb, v9, v10])), (wb, .inl (xI g, 10, .inl fa))] H → va_D A [(h0, .inr (3, [.ref le, w1, w2, w3])), (le, .inl (xM g, 5, .inr (.inr (.inr (.inr (xOut5 l0 l1 l2 l3 l4)))))), (l0, .inl (xI g, 11, .inl g0)), (l1, .inl (xI g, 11, .inl k1)), (l2, .inl (xI g, 11, .inl k2)), (l3, .inl (xI g, 11, .inl gx)), (l4, .inl (xI g, 11, .inl k4)), (ve, .inr (6, [v0, .int (nI Nb), v2, .int (nI Wn), v4, v5, v6, v7, .ref wb, v9, v10])), (wb, .inl (xI g, 10, .inl fa))] → va_S A s.heap H locs → lv_has ls 4 [(3, .int (nI b2)), (0, .ref h0), (1, .ref ve), (2, .int 3)] → W p l e (headSpec wsX3_findLeastLoads ({ frames := 3, cells := 0, slots := 0, locals := 71 })).room s m ([.ref h0, .ref ve] : List Value).toArray below meth c H locs 0 0 (MQ below (va_Qv (fun (u : Unit) => True) (fun (u : Unit) (t : State) => ∃ (m0 : Nat → Int32) (m1 : Nat → Int32) (m2 : Nat → Int32) (m3 : Nat → Int32) (m4 : Nat → Int32), xE g [(h0, .inr (3, [.ref le, w1, w2, w3])), (le, .inl (xM g, 5, .inr (.inr (.inr (.inr (xOut5 l0 l1 l2 l3 l4)))))), (l0, .inl (xI g, 11, .inl m0)), (l1, .inl (xI g, 11, .inl m1)), (l2, .inl (xI g, 11, .inl m2)), (l3, .inl (xI g, 11, .inl m3)), (l4, .inl (xI g, 11, .inl m4)), (ve, .inr (6, [v0, .int (nI Nb), v2, .int (nI Wn), v4, v5, v6, v7, .ref wb, v9, v10])), (wb, .inl (xI g, 10, .inl fa))] A t) A) ([.ref h0, .ref ve] : List Value).toArray s 0 0 A) (F0 m 63 ls []) := by
                  intro n9
                  induction n9 with
                  | zero =>
                    intro b2 gx H locs ls hm hi5 hP hD hS hl
                    exact absurd hm (Nat.not_lt_zero _)
                  | succ n9 ih63 =>
                    intro b2 gx H locs ls hm hi5 hP hD hS hl
                    refine lv_iload_n hx hb dX3_findLeastLoads_63 rfl (lv_at hl 0 rfl) ?_
                    refine lv_aload_n hx hb dX3_findLeastLoads_64 rfl (lv_at hl 2 rfl) ?_
                    refine va_get (D := xD g) (ci := 6) (v := .int (nI Nb)) (C := RX6) (T := TX6) (N := 11) hx hb hts hFX6 hown hK hP 7 rfl rfl 1 (by decide) (hts (.fieldLink RX3 40 "Stevedore$Vessel" "bays" "I") (by decide +kernel)) (fun _ h9 => h9) rfl dX3_findLeastLoads_65 ?_
                    refine lv_icmp_ge (tgt := 92) hx hb dX3_findLeastLoads_68 (by decide) (fun c_17 => ?_) (fun c_17 => ?_)
                    · have nc_17 := (nI_leI (a := Nb) (b := b2) (by omega) (by omega)).mp c_17
                      refine lv_iinc (v := 4) (lv' := [(2, .int 4), (3, .int (nI b2)), (0, .ref h0), (1, .ref ve)]) hx hb dX3_findLeastLoads_92 hl (k := 3) rfl (by decide) (by decide) rfl (fun ls hl => ?_)
                      refine lv_goto (tgt := 40) hx hb dX3_findLeastLoads_95 (by decide) ?_
                      exact ih40 4 k1 k2 gx k4 _ _ _ (by omega) (by omega) (by omega) hP hD hS (lv_sub hl [0, 2, 3] rfl)
                    · have nc_17 := mt (nI_leI (a := Nb) (b := b2) (by omega) (by omega)).mpr c_17
                      refine lv_aload_n hx hb dX3_findLeastLoads_71 rfl (lv_at hl 1 rfl) ?_
                      refine va_get (D := xD g) (ci := 3) (v := .ref le) (C := RX3) (T := TX3) (N := 4) hx hb hts hFX3 hown hK hP 0 rfl rfl 0 (by decide) (hts (.fieldLink RX3 11 "Stevedore$CraneWalk" "least" "[[I") (by decide +kernel)) (fun _ h9 => h9) rfl dX3_findLeastLoads_72 ?_
                      refine lv_iload_n hx hb dX3_findLeastLoads_75 rfl (lv_at hl 3 rfl) ?_
                      refine xAldM hx hb hK hP 1 3 rfl rfl (by unfold vp_in; decide) dX3_findLeastLoads_76 ?_
                      refine W.eq (g2 := F0 m 77 ls (.ref l3 :: [])) (by rfl) ?_
                      refine lv_iload_n hx hb dX3_findLeastLoads_77 rfl (lv_at hl 0 rfl) ?_
                      refine lv_aload_n hx hb dX3_findLeastLoads_78 rfl (lv_at hl 1 rfl) ?_
                      refine lv_aload_n hx hb dX3_findLeastLoads_79 rfl (lv_at hl 2 rfl) ?_
                      refine lv_iload_n hx hb dX3_findLeastLoads_80 rfl (lv_at hl 3 rfl) ?_
                      refine lv_iload_n hx hb dX3_findLeastLoads_81 rfl (lv_at hl 0 rfl) ?_
                      have hPc := hP.sub (ws' := [(h0, .inr (3, [.ref le, w1, w2, w3])), (le, .inl (xM g, 5, .inr (.inr (.inr (.inr (xOut5 l0 l1 l2 l3 l4)))))), (l0, .inl (xI g, 11, .inl g0)), (l1, .inl (xI g, 11, .inl k1)), (l2, .inl (xI g, 11, .inl k2)), (l3, .inl (xI g, 11, .inl gx)), (l4, .inl (xI g, 11, .inl k4)), (ve, .inr (6, [v0, .int (nI Nb), v2, .int (nI Wn), v4, v5, v6, v7, .ref wb, v9, v10])), (wb, .inl (xI g, 10, .inl fa))]) [0, 1, 2, 3, 4, 5, 6, 7, 8] rfl
                      have hDc := hD.sub (ws' := [(h0, .inr (3, [.ref le, w1, w2, w3])), (le, .inl (xM g, 5, .inr (.inr (.inr (.inr (xOut5 l0 l1 l2 l3 l4)))))), (l0, .inl (xI g, 11, .inl g0)), (l1, .inl (xI g, 11, .inl k1)), (l2, .inl (xI g, 11, .inl k2)), (l3, .inl (xI g, 11, .inl gx)), (l4, .inl (xI g, 11, .inl k4)), (ve, .inr (6, [v0, .int (nI Nb), v2, .int (nI Wn), v4, v5, v6, v7, .ref wb, v9, v10])), (wb, .inl (xI g, 10, .inl fa))]) [0, 1, 2, 3, 4, 5, 6, 7, 8] (by decide) rfl
                      have hFc := xFree hS hA
                      refine va_calli (va_runV (As := [.ref ve, .int 3, .int (nI b2)]) (rest := [.int (nI b2), .ref l3]) ⟨hx, hb, hml, hown, hts⟩ (s_leastLoad3 l g H.size h0 le l0 l1 l2 l3 l4 ve wb Nb b2 w1 w2 w3 v0 v2 (.int (nI Wn)) v4 v5 v6 v7 v9 v10 g0 k1 k2 gx k4 fa (by first | assumption | decide | omega | simp_all) (by first | assumption | decide | omega | simp_all)) (cwV 3 hts gX3_findLeastLoads_X3_leastLoad rfl rfl rfl (by decide +kernel) ⟨Nat.le_of_ble_eq_true rfl, Nat.le_of_ble_eq_true rfl⟩) ⟨xB.blind, va_recv hK hPc (ci := 3) (q0 := 0) rfl rfl, fun U9 hU9 hW9 => ⟨rfl, xB.mk hPc hK hDc hU9 hW9⟩⟩ rfl rfl hl.1 rfl (lv_room (Nat.le_of_ble_eq_true rfl)) dX3_findLeastLoads_82 ⟨Nat.le_of_ble_eq_true rfl, Nat.le_of_ble_eq_true rfl⟩) hS (fun q _ h => hFc q h) hFc (fun r_18 u_19 t H1 locs ht hvm hw_20 hB hz1 hk1 hS => ?_)
                      have hP := xSame hP hk1
                      generalize H1 = H at hP hS ⊢
                      have hP : va_P (xD g) vwCl [(h0, .inr (3, [.ref le, w1, w2, w3])), (le, .inl (xM g, 5, .inr (.inr (.inr (.inr (xOut5 l0 l1 l2 l3 l4)))))), (l0, .inl (xI g, 11, .inl g0)), (l1, .inl (xI g, 11, .inl k1)), (l2, .inl (xI g, 11, .inl k2)), (l3, .inl (xI g, 11, .inl gx)), (l4, .inl (xI g, 11, .inl k4)), (ve, .inr (6, [v0, .int (nI Nb), v2, .int (nI Wn), v4, v5, v6, v7, .ref wb, v9, v10])), (wb, .inl (xI g, 10, .inl fa))] H := hP
                      have hD : va_D A [(h0, .inr (3, [.ref le, w1, w2, w3])), (le, .inl (xM g, 5, .inr (.inr (.inr (.inr (xOut5 l0 l1 l2 l3 l4)))))), (l0, .inl (xI g, 11, .inl g0)), (l1, .inl (xI g, 11, .inl k1)), (l2, .inl (xI g, 11, .inl k2)), (l3, .inl (xI g, 11, .inl gx)), (l4, .inl (xI g, 11, .inl k4)), (ve, .inr (6, [v0, .int (nI Nb), v2, .int (nI Wn), v4, v5, v6, v7, .ref wb, v9, v10])), (wb, .inl (xI g, 10, .inl fa))] := hD
                      try dsimp only at hw_20
                      refine va_iast (x := r_18) hx hb hK hP hD hS 5 0 rfl rfl (vp_in_nI (by omega) (by omega)) dX3_findLeastLoads_85 (fun H locs hP hD hS => ?_)
                      have hP : va_P (xD g) vwCl [(h0, .inr (3, [.ref le, w1, w2, w3])), (le, .inl (xM g, 5, .inr (.inr (.inr (.inr (xOut5 l0 l1 l2 l3 l4)))))), (l0, .inl (xI g, 11, .inl g0)), (l1, .inl (xI g, 11, .inl k1)), (l2, .inl (xI g, 11, .inl k2)), (l3, .inl (xI g, 11, .inl (upd gx (nI b2).toNatClampNeg r_18))), (l4, .inl (xI g, 11, .inl k4)), (ve, .inr (6, [v0, .int (nI Nb), v2, .int (nI Wn), v4, v5, v6, v7, .ref wb, v9, v10])), (wb, .inl (xI g, 10, .inl fa))] H := hP
                      have hD : va_D A [(h0, .inr (3, [.ref le, w1, w2, w3])), (le, .inl (xM g, 5, .inr (.inr (.inr (.inr (xOut5 l0 l1 l2 l3 l4)))))), (l0, .inl (xI g, 11, .inl g0)), (l1, .inl (xI g, 11, .inl k1)), (l2, .inl (xI g, 11, .inl k2)), (l3, .inl (xI g, 11, .inl (upd gx (nI b2).toNatClampNeg r_18))), (l4, .inl (xI g, 11, .inl k4)), (ve, .inr (6, [v0, .int (nI Nb), v2, .int (nI Wn), v4, v5, v6, v7, .ref wb, v9, v10])), (wb, .inl (xI g, 10, .inl fa))] := hD
                      obtain ⟨g_21, eg_21⟩ : ∃ y : Nat → Int32, y = upd gx (nI b2).toNatClampNeg r_18 := ⟨_, rfl⟩
                      rw [← eg_21] at hP hD
                      refine lv_iinc (v := nI (b2 + 1)) (lv' := [(3, .int (nI (b2 + 1))), (0, .ref h0), (1, .ref ve), (2, .int 3)]) hx hb dX3_findLeastLoads_86 hl (k := 0) rfl (nI_1 b2) (by decide) rfl (fun ls hl => ?_)
                      refine lv_goto (tgt := 63) hx hb dX3_findLeastLoads_89 (by decide) ?_
                      exact ih63 (b2 + 1) g_21 _ _ _ (by omega) (by omega) hP hD hS (lv_sub hl [0, 1, 2, 3] rfl)
                exact hloop63 (Nb + 1) 0 g_16 _ _ _ (by omega) (by omega) hP hD hS (lv_sub hl [0, 2, 3, 1] rfl)
              · have hl : lv_has ls 4 [(2, .int 4), (0, .ref h0), (1, .ref ve)] := hl
                refine lv_aload_n hx hb dX3_findLeastLoads_48 rfl (lv_at hl 1 rfl) ?_
                refine va_get (D := xD g) (ci := 3) (v := .ref le) (C := RX3) (T := TX3) (N := 4) hx hb hts hFX3 hown hK hP 0 rfl rfl 0 (by decide) (hts (.fieldLink RX3 11 "Stevedore$CraneWalk" "least" "[[I") (by decide +kernel)) (fun _ h9 => h9) rfl dX3_findLeastLoads_49 ?_
                refine lv_iload_n hx hb dX3_findLeastLoads_52 rfl (lv_at hl 0 rfl) ?_
                refine xAldM hx hb hK hP 1 3 rfl rfl (by unfold vp_in; decide) dX3_findLeastLoads_53 ?_
                refine W.eq (g2 := F0 m 54 ls (.ref l4 :: [])) (by rfl) ?_
                refine lv_aload_n hx hb dX3_findLeastLoads_54 rfl (lv_at hl 2 rfl) ?_
                refine va_get (D := xD g) (ci := 6) (v := .int (nI Nb)) (C := RX6) (T := TX6) (N := 11) hx hb hts hFX6 hown hK hP 7 rfl rfl 1 (by decide) (hts (.fieldLink RX3 40 "Stevedore$Vessel" "bays" "I") (by decide +kernel)) (fun _ h9 => h9) rfl dX3_findLeastLoads_55 ?_
                refine lv_ldc (v := 1000000) hx hb hown (hts (.constant RX3 46 (1000000)) (by decide +kernel)) dX3_findLeastLoads_58 ?_
                refine va_iast (x := 1000000) hx hb hK hP hD hS 6 0 rfl rfl (vp_in_nI (by omega) (by omega)) dX3_findLeastLoads_60 (fun H locs hP hD hS => ?_)
                have hP : va_P (xD g) vwCl [(h0, .inr (3, [.ref le, w1, w2, w3])), (le, .inl (xM g, 5, .inr (.inr (.inr (.inr (xOut5 l0 l1 l2 l3 l4)))))), (l0, .inl (xI g, 11, .inl g0)), (l1, .inl (xI g, 11, .inl k1)), (l2, .inl (xI g, 11, .inl k2)), (l3, .inl (xI g, 11, .inl k3)), (l4, .inl (xI g, 11, .inl (upd k4 (nI Nb).toNatClampNeg 1000000))), (ve, .inr (6, [v0, .int (nI Nb), v2, .int (nI Wn), v4, v5, v6, v7, .ref wb, v9, v10])), (wb, .inl (xI g, 10, .inl fa))] H := hP
                have hD : va_D A [(h0, .inr (3, [.ref le, w1, w2, w3])), (le, .inl (xM g, 5, .inr (.inr (.inr (.inr (xOut5 l0 l1 l2 l3 l4)))))), (l0, .inl (xI g, 11, .inl g0)), (l1, .inl (xI g, 11, .inl k1)), (l2, .inl (xI g, 11, .inl k2)), (l3, .inl (xI g, 11, .inl k3)), (l4, .inl (xI g, 11, .inl (upd k4 (nI Nb).toNatClampNeg 1000000))), (ve, .inr (6, [v0, .int (nI Nb), v2, .int (nI Wn), v4, v5, v6, v7, .ref wb, v9, v10])), (wb, .inl (xI g, 10, .inl fa))] := hD
                obtain ⟨g_22, eg_22⟩ : ∃ y : Nat → Int32, y = upd k4 (nI Nb).toNatClampNeg 1000000 := ⟨_, rfl⟩
                rw [← eg_22] at hP hD
                refine lv_iconst (v := 0) hx hb dX3_findLeastLoads_61 (by decide) ?_
                refine lv_istore_n (lv' := [(3, .int 0), (2, .int 4), (0, .ref h0), (1, .ref ve)]) hx hb dX3_findLeastLoads_62 rfl hl (by decide) rfl (fun ls hl => ?_)
                have hloop63 : ∀ (n9 : Nat) (b2 : Nat) (gx : Nat → Int32) (H : Heap) (locs : List Loc) (ls : Array Slot), Nb - b2 < n9 → (b2 ≤ 10) → va_P (xD g) vwCl [(h0, .inr (3, [.ref le, w1, w2, w3])), (le, .inl (xM g, 5, .inr (.inr (.inr (.inr (xOut5 l0 l1 l2 l3 l4)))))), (l0, .inl (xI g, 11, .inl g0)), (l1, .inl (xI g, 11, .inl k1)), (l2, .inl (xI g, 11, .inl k2)), (l3, .inl (xI g, 11, .inl k3)), (l4, .inl (xI g, 11, .inl gx)), (ve, .inr (6, [v0, .int (nI Nb), v2, .int (nI Wn), v4, v5, v6, v7, .ref wb, v9, v10])), (wb, .inl (xI g, 10, .inl fa))] H → va_D A [(h0, .inr (3, [.ref le, w1, w2, w3])), (le, .inl (xM g, 5, .inr (.inr (.inr (.inr (xOut5 l0 l1 l2 l3 l4)))))), (l0, .inl (xI g, 11, .inl g0)), (l1, .inl (xI g, 11, .inl k1)), (l2, .inl (xI g, 11, .inl k2)), (l3, .inl (xI g, 11, .inl k3)), (l4, .inl (xI g, 11, .inl gx)), (ve, .inr (6, [v0, .int (nI Nb), v2, .int (nI Wn), v4, v5, v6, v7, .ref wb, v9, v10])), (wb, .inl (xI g, 10, .inl fa))] → va_S A s.heap H locs → lv_has ls 4 [(3, .int (nI b2)), (0, .ref h0), (1, .ref ve), (2, .int 4)] → W p l e (headSpec wsX3_findLeastLoads ({ frames := 3, cells := 0, slots := 0, locals := 71 })).room s m ([.ref h0, .ref ve] : List Value).toArray below meth c H locs 0 0 (MQ below (va_Qv (fun (u : Unit) => True) (fun (u : Unit) (t : State) => ∃ (m0 : Nat → Int32) (m1 : Nat → Int32) (m2 : Nat → Int32) (m3 : Nat → Int32) (m4 : Nat → Int32), xE g [(h0, .inr (3, [.ref le, w1, w2, w3])), (le, .inl (xM g, 5, .inr (.inr (.inr (.inr (xOut5 l0 l1 l2 l3 l4)))))), (l0, .inl (xI g, 11, .inl m0)), (l1, .inl (xI g, 11, .inl m1)), (l2, .inl (xI g, 11, .inl m2)), (l3, .inl (xI g, 11, .inl m3)), (l4, .inl (xI g, 11, .inl m4)), (ve, .inr (6, [v0, .int (nI Nb), v2, .int (nI Wn), v4, v5, v6, v7, .ref wb, v9, v10])), (wb, .inl (xI g, 10, .inl fa))] A t) A) ([.ref h0, .ref ve] : List Value).toArray s 0 0 A) (F0 m 63 ls []) := by
                  intro n9
                  induction n9 with
                  | zero =>
                    intro b2 gx H locs ls hm hi5 hP hD hS hl
                    exact absurd hm (Nat.not_lt_zero _)
                  | succ n9 ih63 =>
                    intro b2 gx H locs ls hm hi5 hP hD hS hl
                    refine lv_iload_n hx hb dX3_findLeastLoads_63 rfl (lv_at hl 0 rfl) ?_
                    refine lv_aload_n hx hb dX3_findLeastLoads_64 rfl (lv_at hl 2 rfl) ?_
                    refine va_get (D := xD g) (ci := 6) (v := .int (nI Nb)) (C := RX6) (T := TX6) (N := 11) hx hb hts hFX6 hown hK hP 7 rfl rfl 1 (by decide) (hts (.fieldLink RX3 40 "Stevedore$Vessel" "bays" "I") (by decide +kernel)) (fun _ h9 => h9) rfl dX3_findLeastLoads_65 ?_
                    refine lv_icmp_ge (tgt := 92) hx hb dX3_findLeastLoads_68 (by decide) (fun c_23 => ?_) (fun c_23 => ?_)
                    · have nc_23 := (nI_leI (a := Nb) (b := b2) (by omega) (by omega)).mp c_23
                      refine lv_iinc (v := 5) (lv' := [(2, .int 5), (3, .int (nI b2)), (0, .ref h0), (1, .ref ve)]) hx hb dX3_findLeastLoads_92 hl (k := 3) rfl (by decide) (by decide) rfl (fun ls hl => ?_)
                      refine lv_goto (tgt := 40) hx hb dX3_findLeastLoads_95 (by decide) ?_
                      exact ih40 5 k1 k2 k3 gx _ _ _ (by omega) (by omega) (by omega) hP hD hS (lv_sub hl [0, 2, 3] rfl)
                    · have nc_23 := mt (nI_leI (a := Nb) (b := b2) (by omega) (by omega)).mpr c_23
                      refine lv_aload_n hx hb dX3_findLeastLoads_71 rfl (lv_at hl 1 rfl) ?_
                      refine va_get (D := xD g) (ci := 3) (v := .ref le) (C := RX3) (T := TX3) (N := 4) hx hb hts hFX3 hown hK hP 0 rfl rfl 0 (by decide) (hts (.fieldLink RX3 11 "Stevedore$CraneWalk" "least" "[[I") (by decide +kernel)) (fun _ h9 => h9) rfl dX3_findLeastLoads_72 ?_
                      refine lv_iload_n hx hb dX3_findLeastLoads_75 rfl (lv_at hl 3 rfl) ?_
                      refine xAldM hx hb hK hP 1 3 rfl rfl (by unfold vp_in; decide) dX3_findLeastLoads_76 ?_
                      refine W.eq (g2 := F0 m 77 ls (.ref l4 :: [])) (by rfl) ?_
                      refine lv_iload_n hx hb dX3_findLeastLoads_77 rfl (lv_at hl 0 rfl) ?_
                      refine lv_aload_n hx hb dX3_findLeastLoads_78 rfl (lv_at hl 1 rfl) ?_
                      refine lv_aload_n hx hb dX3_findLeastLoads_79 rfl (lv_at hl 2 rfl) ?_
                      refine lv_iload_n hx hb dX3_findLeastLoads_80 rfl (lv_at hl 3 rfl) ?_
                      refine lv_iload_n hx hb dX3_findLeastLoads_81 rfl (lv_at hl 0 rfl) ?_
                      have hPc := hP.sub (ws' := [(h0, .inr (3, [.ref le, w1, w2, w3])), (le, .inl (xM g, 5, .inr (.inr (.inr (.inr (xOut5 l0 l1 l2 l3 l4)))))), (l0, .inl (xI g, 11, .inl g0)), (l1, .inl (xI g, 11, .inl k1)), (l2, .inl (xI g, 11, .inl k2)), (l3, .inl (xI g, 11, .inl k3)), (l4, .inl (xI g, 11, .inl gx)), (ve, .inr (6, [v0, .int (nI Nb), v2, .int (nI Wn), v4, v5, v6, v7, .ref wb, v9, v10])), (wb, .inl (xI g, 10, .inl fa))]) [0, 1, 2, 3, 4, 5, 6, 7, 8] rfl
                      have hDc := hD.sub (ws' := [(h0, .inr (3, [.ref le, w1, w2, w3])), (le, .inl (xM g, 5, .inr (.inr (.inr (.inr (xOut5 l0 l1 l2 l3 l4)))))), (l0, .inl (xI g, 11, .inl g0)), (l1, .inl (xI g, 11, .inl k1)), (l2, .inl (xI g, 11, .inl k2)), (l3, .inl (xI g, 11, .inl k3)), (l4, .inl (xI g, 11, .inl gx)), (ve, .inr (6, [v0, .int (nI Nb), v2, .int (nI Wn), v4, v5, v6, v7, .ref wb, v9, v10])), (wb, .inl (xI g, 10, .inl fa))]) [0, 1, 2, 3, 4, 5, 6, 7, 8] (by decide) rfl
                      have hFc := xFree hS hA
                      refine va_calli (va_runV (As := [.ref ve, .int 4, .int (nI b2)]) (rest := [.int (nI b2), .ref l4]) ⟨hx, hb, hml, hown, hts⟩ (s_leastLoad4 l g H.size h0 le l0 l1 l2 l3 l4 ve wb Nb b2 w1 w2 w3 v0 v2 (.int (nI Wn)) v4 v5 v6 v7 v9 v10 g0 k1 k2 k3 gx fa (by first | assumption | decide | omega | simp_all) (by first | assumption | decide | omega | simp_all)) (cwV 3 hts gX3_findLeastLoads_X3_leastLoad rfl rfl rfl (by decide +kernel) ⟨Nat.le_of_ble_eq_true rfl, Nat.le_of_ble_eq_true rfl⟩) ⟨xB.blind, va_recv hK hPc (ci := 3) (q0 := 0) rfl rfl, fun U9 hU9 hW9 => ⟨rfl, xB.mk hPc hK hDc hU9 hW9⟩⟩ rfl rfl hl.1 rfl (lv_room (Nat.le_of_ble_eq_true rfl)) dX3_findLeastLoads_82 ⟨Nat.le_of_ble_eq_true rfl, Nat.le_of_ble_eq_true rfl⟩) hS (fun q _ h => hFc q h) hFc (fun r_24 u_25 t H1 locs ht hvm hw_26 hB hz1 hk1 hS => ?_)
                      have hP := xSame hP hk1
                      generalize H1 = H at hP hS ⊢
                      have hP : va_P (xD g) vwCl [(h0, .inr (3, [.ref le, w1, w2, w3])), (le, .inl (xM g, 5, .inr (.inr (.inr (.inr (xOut5 l0 l1 l2 l3 l4)))))), (l0, .inl (xI g, 11, .inl g0)), (l1, .inl (xI g, 11, .inl k1)), (l2, .inl (xI g, 11, .inl k2)), (l3, .inl (xI g, 11, .inl k3)), (l4, .inl (xI g, 11, .inl gx)), (ve, .inr (6, [v0, .int (nI Nb), v2, .int (nI Wn), v4, v5, v6, v7, .ref wb, v9, v10])), (wb, .inl (xI g, 10, .inl fa))] H := hP
                      have hD : va_D A [(h0, .inr (3, [.ref le, w1, w2, w3])), (le, .inl (xM g, 5, .inr (.inr (.inr (.inr (xOut5 l0 l1 l2 l3 l4)))))), (l0, .inl (xI g, 11, .inl g0)), (l1, .inl (xI g, 11, .inl k1)), (l2, .inl (xI g, 11, .inl k2)), (l3, .inl (xI g, 11, .inl k3)), (l4, .inl (xI g, 11, .inl gx)), (ve, .inr (6, [v0, .int (nI Nb), v2, .int (nI Wn), v4, v5, v6, v7, .ref wb, v9, v10])), (wb, .inl (xI g, 10, .inl fa))] := hD
                      try dsimp only at hw_26
                      refine va_iast (x := r_24) hx hb hK hP hD hS 6 0 rfl rfl (vp_in_nI (by omega) (by omega)) dX3_findLeastLoads_85 (fun H locs hP hD hS => ?_)
                      have hP : va_P (xD g) vwCl [(h0, .inr (3, [.ref le, w1, w2, w3])), (le, .inl (xM g, 5, .inr (.inr (.inr (.inr (xOut5 l0 l1 l2 l3 l4)))))), (l0, .inl (xI g, 11, .inl g0)), (l1, .inl (xI g, 11, .inl k1)), (l2, .inl (xI g, 11, .inl k2)), (l3, .inl (xI g, 11, .inl k3)), (l4, .inl (xI g, 11, .inl (upd gx (nI b2).toNatClampNeg r_24))), (ve, .inr (6, [v0, .int (nI Nb), v2, .int (nI Wn), v4, v5, v6, v7, .ref wb, v9, v10])), (wb, .inl (xI g, 10, .inl fa))] H := hP
                      have hD : va_D A [(h0, .inr (3, [.ref le, w1, w2, w3])), (le, .inl (xM g, 5, .inr (.inr (.inr (.inr (xOut5 l0 l1 l2 l3 l4)))))), (l0, .inl (xI g, 11, .inl g0)), (l1, .inl (xI g, 11, .inl k1)), (l2, .inl (xI g, 11, .inl k2)), (l3, .inl (xI g, 11, .inl k3)), (l4, .inl (xI g, 11, .inl (upd gx (nI b2).toNatClampNeg r_24))), (ve, .inr (6, [v0, .int (nI Nb), v2, .int (nI Wn), v4, v5, v6, v7, .ref wb, v9, v10])), (wb, .inl (xI g, 10, .inl fa))] := hD
                      obtain ⟨g_27, eg_27⟩ : ∃ y : Nat → Int32, y = upd gx (nI b2).toNatClampNeg r_24 := ⟨_, rfl⟩
                      rw [← eg_27] at hP hD
                      refine lv_iinc (v := nI (b2 + 1)) (lv' := [(3, .int (nI (b2 + 1))), (0, .ref h0), (1, .ref ve), (2, .int 4)]) hx hb dX3_findLeastLoads_86 hl (k := 0) rfl (nI_1 b2) (by decide) rfl (fun ls hl => ?_)
                      refine lv_goto (tgt := 63) hx hb dX3_findLeastLoads_89 (by decide) ?_
                      exact ih63 (b2 + 1) g_27 _ _ _ (by omega) (by omega) hP hD hS (lv_sub hl [0, 1, 2, 3] rfl)
                exact hloop63 (Nb + 1) 0 g_22 _ _ _ (by omega) (by omega) hP hD hS (lv_sub hl [0, 2, 3, 1] rfl)
        exact hloop40 (6) 1 g1 g2 g3 g4 _ _ _ (by omega) (by omega) (by omega) hP hD hS (lv_sub hl [0, 1, 2] rfl)
      · have nc_1 := mt (nI_ltI (a := Nb) (b := b) (by omega) (by omega)).mpr c_1
        refine lv_aload_n hx hb dX3_findLeastLoads_10 rfl (lv_at hl 1 rfl) ?_
        refine va_get (D := xD g) (ci := 3) (v := .ref le) (C := RX3) (T := TX3) (N := 4) hx hb hts hFX3 hown hK hP 0 rfl rfl 0 (by decide) (hts (.fieldLink RX3 11 "Stevedore$CraneWalk" "least" "[[I") (by decide +kernel)) (fun _ h9 => h9) rfl dX3_findLeastLoads_11 ?_
        refine lv_iconst (v := 0) hx hb dX3_findLeastLoads_14 (by decide) ?_
        refine xAldM hx hb hK hP 1 3 rfl rfl (by unfold vp_in; decide) dX3_findLeastLoads_15 ?_
        refine W.eq (g2 := F0 m 16 ls (.ref l0 :: [])) (by rfl) ?_
        refine lv_iload_n hx hb dX3_findLeastLoads_16 rfl (lv_at hl 0 rfl) ?_
        refine lv_iload_n hx hb dX3_findLeastLoads_17 rfl (lv_at hl 0 rfl) ?_
        refine lv_aload_n hx hb dX3_findLeastLoads_18 rfl (lv_at hl 2 rfl) ?_
        refine va_get (D := xD g) (ci := 6) (v := .int (nI Nb)) (C := RX6) (T := TX6) (N := 11) hx hb hts hFX6 hown hK hP 7 rfl rfl 1 (by decide) (hts (.fieldLink RX3 40 "Stevedore$Vessel" "bays" "I") (by decide +kernel)) (fun _ h9 => h9) rfl dX3_findLeastLoads_19 ?_
        refine lv_icmp_ne (tgt := 29) hx hb dX3_findLeastLoads_22 (by decide) (fun c_28 => ?_) (fun c_28 => ?_)
        · have nc_28 := mt (nI_eq (a := b) (b := Nb) (by omega) (by omega)).mpr c_28
          refine lv_ldc (v := 1000000) hx hb hown (hts (.constant RX3 46 (1000000)) (by decide +kernel)) dX3_findLeastLoads_29 ?_
          refine va_iast (x := 1000000) hx hb hK hP hD hS 2 0 rfl rfl (vp_in_nI (by omega) (by omega)) dX3_findLeastLoads_31 (fun H locs hP hD hS => ?_)
          have hP : va_P (xD g) vwCl [(h0, .inr (3, [.ref le, w1, w2, w3])), (le, .inl (xM g, 5, .inr (.inr (.inr (.inr (xOut5 l0 l1 l2 l3 l4)))))), (l0, .inl (xI g, 11, .inl (upd g0 (nI b).toNatClampNeg 1000000))), (l1, .inl (xI g, 11, .inl g1)), (l2, .inl (xI g, 11, .inl g2)), (l3, .inl (xI g, 11, .inl g3)), (l4, .inl (xI g, 11, .inl g4)), (ve, .inr (6, [v0, .int (nI Nb), v2, .int (nI Wn), v4, v5, v6, v7, .ref wb, v9, v10])), (wb, .inl (xI g, 10, .inl fa))] H := hP
          have hD : va_D A [(h0, .inr (3, [.ref le, w1, w2, w3])), (le, .inl (xM g, 5, .inr (.inr (.inr (.inr (xOut5 l0 l1 l2 l3 l4)))))), (l0, .inl (xI g, 11, .inl (upd g0 (nI b).toNatClampNeg 1000000))), (l1, .inl (xI g, 11, .inl g1)), (l2, .inl (xI g, 11, .inl g2)), (l3, .inl (xI g, 11, .inl g3)), (l4, .inl (xI g, 11, .inl g4)), (ve, .inr (6, [v0, .int (nI Nb), v2, .int (nI Wn), v4, v5, v6, v7, .ref wb, v9, v10])), (wb, .inl (xI g, 10, .inl fa))] := hD
          obtain ⟨g_29, eg_29⟩ : ∃ y : Nat → Int32, y = upd g0 (nI b).toNatClampNeg 1000000 := ⟨_, rfl⟩
          rw [← eg_29] at hP hD
          refine lv_iinc (v := nI (b + 1)) (lv' := [(2, .int (nI (b + 1))), (0, .ref h0), (1, .ref ve)]) hx hb dX3_findLeastLoads_32 hl (k := 0) rfl (nI_1 b) (by decide) rfl (fun ls hl => ?_)
          refine lv_goto (tgt := 2) hx hb dX3_findLeastLoads_35 (by decide) ?_
          exact ih2 (b + 1) g_29 _ _ _ (by omega) (by omega) hP hD hS (lv_sub hl [0, 1, 2] rfl)
        · have nc_28 := (nI_eq (a := b) (b := Nb) (by omega) (by omega)).mp c_28
          refine lv_iconst (v := 0) hx hb dX3_findLeastLoads_25 (by decide) ?_
          refine lv_goto (tgt := 31) hx hb dX3_findLeastLoads_26 (by decide) ?_
          refine va_iast (x := 0) hx hb hK hP hD hS 2 0 rfl rfl (vp_in_nI (by omega) (by omega)) dX3_findLeastLoads_31 (fun H locs hP hD hS => ?_)
          have hP : va_P (xD g) vwCl [(h0, .inr (3, [.ref le, w1, w2, w3])), (le, .inl (xM g, 5, .inr (.inr (.inr (.inr (xOut5 l0 l1 l2 l3 l4)))))), (l0, .inl (xI g, 11, .inl (upd g0 (nI b).toNatClampNeg 0))), (l1, .inl (xI g, 11, .inl g1)), (l2, .inl (xI g, 11, .inl g2)), (l3, .inl (xI g, 11, .inl g3)), (l4, .inl (xI g, 11, .inl g4)), (ve, .inr (6, [v0, .int (nI Nb), v2, .int (nI Wn), v4, v5, v6, v7, .ref wb, v9, v10])), (wb, .inl (xI g, 10, .inl fa))] H := hP
          have hD : va_D A [(h0, .inr (3, [.ref le, w1, w2, w3])), (le, .inl (xM g, 5, .inr (.inr (.inr (.inr (xOut5 l0 l1 l2 l3 l4)))))), (l0, .inl (xI g, 11, .inl (upd g0 (nI b).toNatClampNeg 0))), (l1, .inl (xI g, 11, .inl g1)), (l2, .inl (xI g, 11, .inl g2)), (l3, .inl (xI g, 11, .inl g3)), (l4, .inl (xI g, 11, .inl g4)), (ve, .inr (6, [v0, .int (nI Nb), v2, .int (nI Wn), v4, v5, v6, v7, .ref wb, v9, v10])), (wb, .inl (xI g, 10, .inl fa))] := hD
          obtain ⟨g_30, eg_30⟩ : ∃ y : Nat → Int32, y = upd g0 (nI b).toNatClampNeg 0 := ⟨_, rfl⟩
          rw [← eg_30] at hP hD
          refine lv_iinc (v := nI (b + 1)) (lv' := [(2, .int (nI (b + 1))), (0, .ref h0), (1, .ref ve)]) hx hb dX3_findLeastLoads_32 hl (k := 0) rfl (nI_1 b) (by decide) rfl (fun ls hl => ?_)
          refine lv_goto (tgt := 2) hx hb dX3_findLeastLoads_35 (by decide) ?_
          exact ih2 (b + 1) g_30 _ _ _ (by omega) (by omega) hP hD hS (lv_sub hl [0, 1, 2] rfl)
  exact hloop2 (13) 0 g0 _ _ _ (by omega) (by omega) hP hD hS (lv_sub hl [0, 1, 2] rfl)
theorem dX3_chooseRangeCount_0 : decode cX3_chooseRangeCount 0 = .ok (.aload_n 1, 1) := by decide +kernel
theorem dX3_chooseRangeCount_1 : decode cX3_chooseRangeCount 1 = .ok (.iconst 1, 1) := by decide +kernel
theorem dX3_chooseRangeCount_2 : decode cX3_chooseRangeCount 2 = .ok (.putfield 67, 3) := by decide +kernel
theorem dX3_chooseRangeCount_5 : decode cX3_chooseRangeCount 5 = .ok (.iconst 2, 1) := by decide +kernel
theorem dX3_chooseRangeCount_6 : decode cX3_chooseRangeCount 6 = .ok (.istore_n 2, 1) := by decide +kernel
theorem dX3_chooseRangeCount_7 : decode cX3_chooseRangeCount 7 = .ok (.iload_n 2, 1) := by decide +kernel
theorem dX3_chooseRangeCount_8 : decode cX3_chooseRangeCount 8 = .ok (.aload_n 1, 1) := by decide +kernel
theorem dX3_chooseRangeCount_9 : decode cX3_chooseRangeCount 9 = .ok (.getfield 47, 3) := by decide +kernel
theorem dX3_chooseRangeCount_12 : decode cX3_chooseRangeCount 12 = .ok (.if_icmp .gt 36, 3) := by decide +kernel
theorem dX3_chooseRangeCount_48 : decode cX3_chooseRangeCount 48 = .ok (.aload_n 1, 1) := by decide +kernel
theorem dX3_chooseRangeCount_49 : decode cX3_chooseRangeCount 49 = .ok (.aload_n 0, 1) := by decide +kernel
theorem dX3_chooseRangeCount_50 : decode cX3_chooseRangeCount 50 = .ok (.getfield 11, 3) := by decide +kernel
theorem dX3_chooseRangeCount_53 : decode cX3_chooseRangeCount 53 = .ok (.aload_n 1, 1) := by decide +kernel
theorem dX3_chooseRangeCount_54 : decode cX3_chooseRangeCount 54 = .ok (.getfield 67, 3) := by decide +kernel
theorem dX3_chooseRangeCount_57 : decode cX3_chooseRangeCount 57 = .ok (.aaload, 1) := by decide +kernel
theorem dX3_chooseRangeCount_58 : decode cX3_chooseRangeCount 58 = .ok (.iconst 0, 1) := by decide +kernel
theorem dX3_chooseRangeCount_59 : decode cX3_chooseRangeCount 59 = .ok (.iaload, 1) := by decide +kernel
theorem dX3_chooseRangeCount_60 : decode cX3_chooseRangeCount 60 = .ok (.putfield 70, 3) := by decide +kernel
theorem dX3_chooseRangeCount_63 : decode cX3_chooseRangeCount 63 = .ok (.return_, 1) := by decide +kernel
theorem dX3_chooseRangeCount_15 : decode cX3_chooseRangeCount 15 = .ok (.aload_n 0, 1) := by decide +kernel
theorem dX3_chooseRangeCount_16 : decode cX3_chooseRangeCount 16 = .ok (.getfield 11, 3) := by decide +kernel
theorem dX3_chooseRangeCount_19 : decode cX3_chooseRangeCount 19 = .ok (.iload_n 2, 1) := by decide +kernel
theorem dX3_chooseRangeCount_20 : decode cX3_chooseRangeCount 20 = .ok (.aaload, 1) := by decide +kernel
theorem dX3_chooseRangeCount_21 : decode cX3_chooseRangeCount 21 = .ok (.iconst 0, 1) := by decide +kernel
theorem dX3_chooseRangeCount_22 : decode cX3_chooseRangeCount 22 = .ok (.iaload, 1) := by decide +kernel
theorem dX3_chooseRangeCount_23 : decode cX3_chooseRangeCount 23 = .ok (.aload_n 0, 1) := by decide +kernel
theorem dX3_chooseRangeCount_24 : decode cX3_chooseRangeCount 24 = .ok (.getfield 11, 3) := by decide +kernel
theorem dX3_chooseRangeCount_27 : decode cX3_chooseRangeCount 27 = .ok (.aload_n 1, 1) := by decide +kernel
theorem dX3_chooseRangeCount_28 : decode cX3_chooseRangeCount 28 = .ok (.getfield 67, 3) := by decide +kernel
theorem dX3_chooseRangeCount_31 : decode cX3_chooseRangeCount 31 = .ok (.aaload, 1) := by decide +kernel
theorem dX3_chooseRangeCount_32 : decode cX3_chooseRangeCount 32 = .ok (.iconst 0, 1) := by decide +kernel
theorem dX3_chooseRangeCount_33 : decode cX3_chooseRangeCount 33 = .ok (.iaload, 1) := by decide +kernel
theorem dX3_chooseRangeCount_34 : decode cX3_chooseRangeCount 34 = .ok (.if_icmp .ge 8, 3) := by decide +kernel
theorem dX3_chooseRangeCount_42 : decode cX3_chooseRangeCount 42 = .ok (.iinc 2 1, 3) := by decide +kernel
theorem dX3_chooseRangeCount_45 : decode cX3_chooseRangeCount 45 = .ok (.goto (-38), 3) := by decide +kernel
theorem dX3_chooseRangeCount_37 : decode cX3_chooseRangeCount 37 = .ok (.aload_n 1, 1) := by decide +kernel
theorem dX3_chooseRangeCount_38 : decode cX3_chooseRangeCount 38 = .ok (.iload_n 2, 1) := by decide +kernel
theorem dX3_chooseRangeCount_39 : decode cX3_chooseRangeCount 39 = .ok (.putfield 67, 3) := by decide +kernel
set_option maxHeartbeats 4000000 in
set_option maxRecDepth 100000 in
theorem s_chooseRangeCount (l : Launch) (g : xG) (sz : Nat) (h0 : Nat) (le : Nat) (l0 : Nat) (l1 : Nat) (l2 : Nat) (l3 : Nat) (l4 : Nat) (ve : Nat) (Wn : Nat) (w1 : Value) (w2 : Value) (w3 : Value) (v0 : Value) (v1 : Value) (v2 : Value) (v4 : Value) (v5 : Value) (v6 : Value) (v7 : Value) (v8 : Value) (v9 : Value) (v10 : Value) (g0 : Nat → Int32) (g1 : Nat → Int32) (g2 : Nat → Int32) (g3 : Nat → Int32) (g4 : Nat → Int32)  (hW1 : 1 ≤ Wn) (hWn : Wn ≤ 4) : Met l yX3_chooseRangeCount wsX3_chooseRangeCount ({ frames := 0, cells := 0, slots := 0, locals := 0 }) (va_Pc [.ref h0, .ref ve] (fun U => xB g [(h0, .inr (3, [.ref le, w1, w2, w3])), (le, .inl (xM g, 5, .inr (.inr (.inr (.inr (xOut5 l0 l1 l2 l3 l4)))))), (l0, .inl (xI g, 11, .inl g0)), (l1, .inl (xI g, 11, .inl g1)), (l2, .inl (xI g, 11, .inl g2)), (l3, .inl (xI g, 11, .inl g3)), (l4, .inl (xI g, 11, .inl g4)), (ve, .inr (6, [v0, v1, v2, .int (nI Wn), v4, v5, v6, v7, v8, v9, v10]))] sz U)) (va_Qv (fun (u : Unit) => True) (fun (u : Unit) (t : State) => ∃ (R : Nat) (gl : Int32), (1 ≤ R ∧ R ≤ 4) ∧ xE g [(h0, .inr (3, [.ref le, w1, w2, w3])), (le, .inl (xM g, 5, .inr (.inr (.inr (.inr (xOut5 l0 l1 l2 l3 l4)))))), (l0, .inl (xI g, 11, .inl g0)), (l1, .inl (xI g, 11, .inl g1)), (l2, .inl (xI g, 11, .inl g2)), (l3, .inl (xI g, 11, .inl g3)), (l4, .inl (xI g, 11, .inl g4)), (ve, .inr (6, [v0, v1, v2, .int (nI Wn), .int (nI R), .int gl, v6, v7, v8, v9, v10]))] (va_A [(h0, .inr (3, [.ref le, w1, w2, w3])), (le, .inl (xM g, 5, .inr (.inr (.inr (.inr (xOut5 l0 l1 l2 l3 l4)))))), (l0, .inl (xI g, 11, .inl g0)), (l1, .inl (xI g, 11, .inl g1)), (l2, .inl (xI g, 11, .inl g2)), (l3, .inl (xI g, 11, .inl g3)), (l4, .inl (xI g, 11, .inl g4)), (ve, .inr (6, [v0, v1, v2, .int (nI Wn), v4, v5, v6, v7, v8, v9, v10]))] sz) t) (va_A [(h0, .inr (3, [.ref le, w1, w2, w3])), (le, .inl (xM g, 5, .inr (.inr (.inr (.inr (xOut5 l0 l1 l2 l3 l4)))))), (l0, .inl (xI g, 11, .inl g0)), (l1, .inl (xI g, 11, .inl g1)), (l2, .inl (xI g, 11, .inl g2)), (l3, .inl (xI g, 11, .inl g3)), (l4, .inl (xI g, 11, .inl g4)), (ve, .inr (6, [v0, v1, v2, .int (nI Wn), v4, v5, v6, v7, v8, v9, v10]))] sz)) 0 0 (va_A [(h0, .inr (3, [.ref le, w1, w2, w3])), (le, .inl (xM g, 5, .inr (.inr (.inr (.inr (xOut5 l0 l1 l2 l3 l4)))))), (l0, .inl (xI g, 11, .inl g0)), (l1, .inl (xI g, 11, .inl g1)), (l2, .inl (xI g, 11, .inl g2)), (l3, .inl (xI g, 11, .inl g3)), (l4, .inl (xI g, 11, .inl g4)), (ve, .inr (6, [v0, v1, v2, .int (nI Wn), v4, v5, v6, v7, v8, v9, v10]))] sz) := by
  refine Met.ofW (cc := cX3_chooseRangeCount) (maxL := 3) (ret := none) (by decide) rfl ?_
  intro p e s m args below meth c s₁ B hml hv
  obtain ⟨rfl, ⟨hsz, hP, hK, hD0⟩⟩ := hv
  have hx := B.exec
  have hb := B.bytes
  have hr := B.returns
  have hts := atoms_spec (ws := wsX3_chooseRangeCount) B.pre
  have hown : s.vm.findClass RX3 = some m.cls := findClass_of_methodNamed B.named
  have hlocks := B.notSynchronized
  subst hsz
  have hD := hD0.self (sz := s.heap.size)
  generalize hAe : va_A [(h0, .inr (3, [.ref le, w1, w2, w3])), (le, .inl (xM g, 5, .inr (.inr (.inr (.inr (xOut5 l0 l1 l2 l3 l4)))))), (l0, .inl (xI g, 11, .inl g0)), (l1, .inl (xI g, 11, .inl g1)), (l2, .inl (xI g, 11, .inl g2)), (l3, .inl (xI g, 11, .inl g3)), (l4, .inl (xI g, 11, .inl g4)), (ve, .inr (6, [v0, v1, v2, .int (nI Wn), v4, v5, v6, v7, v8, v9, v10]))] s.heap.size = A at hD ⊢
  have hA : ∀ q : Nat, s.heap.size ≤ q → A q := fun q h => by rw [← hAe]; exact Or.inr h
  have hS : va_S A s.heap s.heap [] := va_S.rf
  have hl := lv_entry ([.ref h0, .ref ve]) (n := 3) (Nat.le_of_ble_eq_true rfl)
  rw [lg_entry_eq]
  generalize (lg_sl ([.ref h0, .ref ve]) ++ List.replicate (3 - (lg_sl ([.ref h0, .ref ve])).length) Slot.unset).toArray = ls at hl ⊢
  have hl : lv_has ls 3 [(0, .ref h0), (1, .ref ve)] := hl
  have hFX3 : ∀ w ∈ u_ws RX3 TX3 4, w ∈ wsX3_chooseRangeCount := by decide +kernel
  have hFX6 : ∀ w ∈ u_ws RX6 TX6 11, w ∈ wsX3_chooseRangeCount := by decide +kernel
  refine lv_aload_n hx hb dX3_chooseRangeCount_0 rfl (lv_at hl 1 rfl) ?_
  refine lv_iconst (v := 1) hx hb dX3_chooseRangeCount_1 (by decide) ?_
  refine va_put (D := xD g) (ci := 6) (v := .int 1) (ty := .int) (C := RX6) (T := TX6) (N := 11) hx hb hts hFX6 tyX6 tyX6_ok nmX6 hown hK hP hD hS 7 rfl rfl 4 (by decide) (hts (.fieldLink RX3 67 "Stevedore$Vessel" "rangeCount" "I") (by decide +kernel)) (fun _ h9 => h9) rfl (by decide +kernel) rfl rfl (Nat.le_of_ble_eq_true rfl) dX3_chooseRangeCount_2 (fun H locs hP hD hS => ?_)
  have hP : va_P (xD g) vwCl [(h0, .inr (3, [.ref le, w1, w2, w3])), (le, .inl (xM g, 5, .inr (.inr (.inr (.inr (xOut5 l0 l1 l2 l3 l4)))))), (l0, .inl (xI g, 11, .inl g0)), (l1, .inl (xI g, 11, .inl g1)), (l2, .inl (xI g, 11, .inl g2)), (l3, .inl (xI g, 11, .inl g3)), (l4, .inl (xI g, 11, .inl g4)), (ve, .inr (6, [v0, v1, v2, .int (nI Wn), .int 1, v5, v6, v7, v8, v9, v10]))] H := hP
  have hD : va_D A [(h0, .inr (3, [.ref le, w1, w2, w3])), (le, .inl (xM g, 5, .inr (.inr (.inr (.inr (xOut5 l0 l1 l2 l3 l4)))))), (l0, .inl (xI g, 11, .inl g0)), (l1, .inl (xI g, 11, .inl g1)), (l2, .inl (xI g, 11, .inl g2)), (l3, .inl (xI g, 11, .inl g3)), (l4, .inl (xI g, 11, .inl g4)), (ve, .inr (6, [v0, v1, v2, .int (nI Wn), .int 1, v5, v6, v7, v8, v9, v10]))] := hD
  refine lv_iconst (v := 2) hx hb dX3_chooseRangeCount_5 (by decide) ?_
  refine lv_istore_n (lv' := [(2, .int 2), (0, .ref h0), (1, .ref ve)]) hx hb dX3_chooseRangeCount_6 rfl hl (by decide) rfl (fun ls hl => ?_)
  have hloop7 : ∀ (n9 : Nat) (r : Nat) (rc : Nat) (H : Heap) (locs : List Loc) (ls : Array Slot), 5 - r < n9 → (2 ≤ r) → (r ≤ 5) → (1 ≤ rc) → (rc < r) → (rc ≤ 4) → va_P (xD g) vwCl [(h0, .inr (3, [.ref le, w1, w2, w3])), (le, .inl (xM g, 5, .inr (.inr (.inr (.inr (xOut5 l0 l1 l2 l3 l4)))))), (l0, .inl (xI g, 11, .inl g0)), (l1, .inl (xI g, 11, .inl g1)), (l2, .inl (xI g, 11, .inl g2)), (l3, .inl (xI g, 11, .inl g3)), (l4, .inl (xI g, 11, .inl g4)), (ve, .inr (6, [v0, v1, v2, .int (nI Wn), .int (nI rc), v5, v6, v7, v8, v9, v10]))] H → va_D A [(h0, .inr (3, [.ref le, w1, w2, w3])), (le, .inl (xM g, 5, .inr (.inr (.inr (.inr (xOut5 l0 l1 l2 l3 l4)))))), (l0, .inl (xI g, 11, .inl g0)), (l1, .inl (xI g, 11, .inl g1)), (l2, .inl (xI g, 11, .inl g2)), (l3, .inl (xI g, 11, .inl g3)), (l4, .inl (xI g, 11, .inl g4)), (ve, .inr (6, [v0, v1, v2, .int (nI Wn), .int (nI rc), v5, v6, v7, v8, v9, v10]))] → va_S A s.heap H locs → lv_has ls 3 [(2, .int (nI r)), (0, .ref h0), (1, .ref ve)] → W p l e (headSpec wsX3_chooseRangeCount ({ frames := 0, cells := 0, slots := 0, locals := 0 })).room s m ([.ref h0, .ref ve] : List Value).toArray below meth c H locs 0 0 (MQ below (va_Qv (fun (u : Unit) => True) (fun (u : Unit) (t : State) => ∃ (R : Nat) (gl : Int32), (1 ≤ R ∧ R ≤ 4) ∧ xE g [(h0, .inr (3, [.ref le, w1, w2, w3])), (le, .inl (xM g, 5, .inr (.inr (.inr (.inr (xOut5 l0 l1 l2 l3 l4)))))), (l0, .inl (xI g, 11, .inl g0)), (l1, .inl (xI g, 11, .inl g1)), (l2, .inl (xI g, 11, .inl g2)), (l3, .inl (xI g, 11, .inl g3)), (l4, .inl (xI g, 11, .inl g4)), (ve, .inr (6, [v0, v1, v2, .int (nI Wn), .int (nI R), .int gl, v6, v7, v8, v9, v10]))] A t) A) ([.ref h0, .ref ve] : List Value).toArray s 0 0 A) (F0 m 7 ls []) := by
    intro n9
    induction n9 with
    | zero =>
      intro r rc H locs ls hm hi1 hi2 hi3 hi4 hi5 hP hD hS hl
      exact absurd hm (Nat.not_lt_zero _)
    | succ n9 ih7 =>
      intro r rc H locs ls hm hi1 hi2 hi3 hi4 hi5 hP hD hS hl
      refine lv_iload_n hx hb dX3_chooseRangeCount_7 rfl (lv_at hl 0 rfl) ?_
      refine lv_aload_n hx hb dX3_chooseRangeCount_8 rfl (lv_at hl 2 rfl) ?_
      refine va_get (D := xD g) (ci := 6) (v := .int (nI Wn)) (C := RX6) (T := TX6) (N := 11) hx hb hts hFX6 hown hK hP 7 rfl rfl 3 (by decide) (hts (.fieldLink RX3 47 "Stevedore$Vessel" "wanted" "I") (by decide +kernel)) (fun _ h9 => h9) rfl dX3_chooseRangeCount_9 ?_
      refine lv_icmp_gt (tgt := 48) hx hb dX3_chooseRangeCount_12 (by decide) (fun c_1 => ?_) (fun c_1 => ?_)
      · have nc_1 := (nI_ltI (a := Wn) (b := r) (by omega) (by omega)).mp c_1
        have hs_2 : rc = 1 ∨ rc = 2 ∨ rc = 3 ∨ rc = 4 := by omega
        rcases hs_2 with rfl | rfl | rfl | rfl
        · have hl : lv_has ls 3 [(2, .int (nI r)), (0, .ref h0), (1, .ref ve)] := hl
          have hP : va_P (xD g) vwCl [(h0, .inr (3, [.ref le, w1, w2, w3])), (le, .inl (xM g, 5, .inr (.inr (.inr (.inr (xOut5 l0 l1 l2 l3 l4)))))), (l0, .inl (xI g, 11, .inl g0)), (l1, .inl (xI g, 11, .inl g1)), (l2, .inl (xI g, 11, .inl g2)), (l3, .inl (xI g, 11, .inl g3)), (l4, .inl (xI g, 11, .inl g4)), (ve, .inr (6, [v0, v1, v2, .int (nI Wn), .int 1, v5, v6, v7, v8, v9, v10]))] H := hP
          have hD : va_D A [(h0, .inr (3, [.ref le, w1, w2, w3])), (le, .inl (xM g, 5, .inr (.inr (.inr (.inr (xOut5 l0 l1 l2 l3 l4)))))), (l0, .inl (xI g, 11, .inl g0)), (l1, .inl (xI g, 11, .inl g1)), (l2, .inl (xI g, 11, .inl g2)), (l3, .inl (xI g, 11, .inl g3)), (l4, .inl (xI g, 11, .inl g4)), (ve, .inr (6, [v0, v1, v2, .int (nI Wn), .int 1, v5, v6, v7, v8, v9, v10]))] := hD
          refine lv_aload_n hx hb dX3_chooseRangeCount_48 rfl (lv_at hl 2 rfl) ?_
          refine lv_aload_n hx hb dX3_chooseRangeCount_49 rfl (lv_at hl 1 rfl) ?_
          refine va_get (D := xD g) (ci := 3) (v := .ref le) (C := RX3) (T := TX3) (N := 4) hx hb hts hFX3 hown hK hP 0 rfl rfl 0 (by decide) (hts (.fieldLink RX3 11 "Stevedore$CraneWalk" "least" "[[I") (by decide +kernel)) (fun _ h9 => h9) rfl dX3_chooseRangeCount_50 ?_
          refine lv_aload_n hx hb dX3_chooseRangeCount_53 rfl (lv_at hl 2 rfl) ?_
          refine va_get (D := xD g) (ci := 6) (v := .int 1) (C := RX6) (T := TX6) (N := 11) hx hb hts hFX6 hown hK hP 7 rfl rfl 4 (by decide) (hts (.fieldLink RX3 67 "Stevedore$Vessel" "rangeCount" "I") (by decide +kernel)) (fun _ h9 => h9) rfl dX3_chooseRangeCount_54 ?_
          refine xAldM hx hb hK hP 1 3 rfl rfl (by unfold vp_in; decide) dX3_chooseRangeCount_57 ?_
          refine W.eq (g2 := F0 m 58 ls (.ref l1 :: .ref ve :: [])) (by rfl) ?_
          refine lv_iconst (v := 0) hx hb dX3_chooseRangeCount_58 (by decide) ?_
          refine va_iald hx hb hK hP 3 0 rfl rfl (by unfold vp_in; decide) dX3_chooseRangeCount_59 ?_
          refine lv_topi (fun v_3 ev_3 => ?_)
          refine va_put (D := xD g) (ci := 6) (v := .int v_3) (ty := .int) (C := RX6) (T := TX6) (N := 11) hx hb hts hFX6 tyX6 tyX6_ok nmX6 hown hK hP hD hS 7 rfl rfl 5 (by decide) (hts (.fieldLink RX3 70 "Stevedore$Vessel" "greatestLoad" "I") (by decide +kernel)) (fun _ h9 => h9) rfl (by decide +kernel) rfl rfl (Nat.le_of_ble_eq_true rfl) dX3_chooseRangeCount_60 (fun H locs hP hD hS => ?_)
          have hP : va_P (xD g) vwCl [(h0, .inr (3, [.ref le, w1, w2, w3])), (le, .inl (xM g, 5, .inr (.inr (.inr (.inr (xOut5 l0 l1 l2 l3 l4)))))), (l0, .inl (xI g, 11, .inl g0)), (l1, .inl (xI g, 11, .inl g1)), (l2, .inl (xI g, 11, .inl g2)), (l3, .inl (xI g, 11, .inl g3)), (l4, .inl (xI g, 11, .inl g4)), (ve, .inr (6, [v0, v1, v2, .int (nI Wn), .int 1, .int v_3, v6, v7, v8, v9, v10]))] H := hP
          have hD : va_D A [(h0, .inr (3, [.ref le, w1, w2, w3])), (le, .inl (xM g, 5, .inr (.inr (.inr (.inr (xOut5 l0 l1 l2 l3 l4)))))), (l0, .inl (xI g, 11, .inl g0)), (l1, .inl (xI g, 11, .inl g1)), (l2, .inl (xI g, 11, .inl g2)), (l3, .inl (xI g, 11, .inl g3)), (l4, .inl (xI g, 11, .inl g4)), (ve, .inr (6, [v0, v1, v2, .int (nI Wn), .int 1, .int v_3, v6, v7, v8, v9, v10]))] := hD
          have hP9 := hP.sub (ws' := [(h0, .inr (3, [.ref le, w1, w2, w3])), (le, .inl (xM g, 5, .inr (.inr (.inr (.inr (xOut5 l0 l1 l2 l3 l4)))))), (l0, .inl (xI g, 11, .inl g0)), (l1, .inl (xI g, 11, .inl g1)), (l2, .inl (xI g, 11, .inl g2)), (l3, .inl (xI g, 11, .inl g3)), (l4, .inl (xI g, 11, .inl g4)), (ve, .inr (6, [v0, v1, v2, .int (nI Wn), .int 1, .int v_3, v6, v7, v8, v9, v10]))]) [0, 1, 2, 3, 4, 5, 6, 7] rfl
          have hD9 := hD.sub (ws' := [(h0, .inr (3, [.ref le, w1, w2, w3])), (le, .inl (xM g, 5, .inr (.inr (.inr (.inr (xOut5 l0 l1 l2 l3 l4)))))), (l0, .inl (xI g, 11, .inl g0)), (l1, .inl (xI g, 11, .inl g1)), (l2, .inl (xI g, 11, .inl g2)), (l3, .inl (xI g, 11, .inl g3)), (l4, .inl (xI g, 11, .inl g4)), (ve, .inr (6, [v0, v1, v2, .int (nI Wn), .int 1, .int v_3, v6, v7, v8, v9, v10]))]) [0, 1, 2, 3, 4, 5, 6, 7] (by decide) rfl
          exact W.vret hx hb hr (fun t ht hW => ⟨⟨(), rfl, (by first | trivial | rfl | assumption | omega | simp_all), ⟨1, v_3, (by first | trivial | assumption | omega | simp_all), by rw [ht]; exact hP9, va_K.moved hW.alike hK, hD9⟩⟩, hS.F ht⟩) hS.2.2 dX3_chooseRangeCount_63
        · have hl : lv_has ls 3 [(2, .int (nI r)), (0, .ref h0), (1, .ref ve)] := hl
          have hP : va_P (xD g) vwCl [(h0, .inr (3, [.ref le, w1, w2, w3])), (le, .inl (xM g, 5, .inr (.inr (.inr (.inr (xOut5 l0 l1 l2 l3 l4)))))), (l0, .inl (xI g, 11, .inl g0)), (l1, .inl (xI g, 11, .inl g1)), (l2, .inl (xI g, 11, .inl g2)), (l3, .inl (xI g, 11, .inl g3)), (l4, .inl (xI g, 11, .inl g4)), (ve, .inr (6, [v0, v1, v2, .int (nI Wn), .int 2, v5, v6, v7, v8, v9, v10]))] H := hP
          have hD : va_D A [(h0, .inr (3, [.ref le, w1, w2, w3])), (le, .inl (xM g, 5, .inr (.inr (.inr (.inr (xOut5 l0 l1 l2 l3 l4)))))), (l0, .inl (xI g, 11, .inl g0)), (l1, .inl (xI g, 11, .inl g1)), (l2, .inl (xI g, 11, .inl g2)), (l3, .inl (xI g, 11, .inl g3)), (l4, .inl (xI g, 11, .inl g4)), (ve, .inr (6, [v0, v1, v2, .int (nI Wn), .int 2, v5, v6, v7, v8, v9, v10]))] := hD
          refine lv_aload_n hx hb dX3_chooseRangeCount_48 rfl (lv_at hl 2 rfl) ?_
          refine lv_aload_n hx hb dX3_chooseRangeCount_49 rfl (lv_at hl 1 rfl) ?_
          refine va_get (D := xD g) (ci := 3) (v := .ref le) (C := RX3) (T := TX3) (N := 4) hx hb hts hFX3 hown hK hP 0 rfl rfl 0 (by decide) (hts (.fieldLink RX3 11 "Stevedore$CraneWalk" "least" "[[I") (by decide +kernel)) (fun _ h9 => h9) rfl dX3_chooseRangeCount_50 ?_
          refine lv_aload_n hx hb dX3_chooseRangeCount_53 rfl (lv_at hl 2 rfl) ?_
          refine va_get (D := xD g) (ci := 6) (v := .int 2) (C := RX6) (T := TX6) (N := 11) hx hb hts hFX6 hown hK hP 7 rfl rfl 4 (by decide) (hts (.fieldLink RX3 67 "Stevedore$Vessel" "rangeCount" "I") (by decide +kernel)) (fun _ h9 => h9) rfl dX3_chooseRangeCount_54 ?_
          refine xAldM hx hb hK hP 1 3 rfl rfl (by unfold vp_in; decide) dX3_chooseRangeCount_57 ?_
          refine W.eq (g2 := F0 m 58 ls (.ref l2 :: .ref ve :: [])) (by rfl) ?_
          refine lv_iconst (v := 0) hx hb dX3_chooseRangeCount_58 (by decide) ?_
          refine va_iald hx hb hK hP 4 0 rfl rfl (by unfold vp_in; decide) dX3_chooseRangeCount_59 ?_
          refine lv_topi (fun v_4 ev_4 => ?_)
          refine va_put (D := xD g) (ci := 6) (v := .int v_4) (ty := .int) (C := RX6) (T := TX6) (N := 11) hx hb hts hFX6 tyX6 tyX6_ok nmX6 hown hK hP hD hS 7 rfl rfl 5 (by decide) (hts (.fieldLink RX3 70 "Stevedore$Vessel" "greatestLoad" "I") (by decide +kernel)) (fun _ h9 => h9) rfl (by decide +kernel) rfl rfl (Nat.le_of_ble_eq_true rfl) dX3_chooseRangeCount_60 (fun H locs hP hD hS => ?_)
          have hP : va_P (xD g) vwCl [(h0, .inr (3, [.ref le, w1, w2, w3])), (le, .inl (xM g, 5, .inr (.inr (.inr (.inr (xOut5 l0 l1 l2 l3 l4)))))), (l0, .inl (xI g, 11, .inl g0)), (l1, .inl (xI g, 11, .inl g1)), (l2, .inl (xI g, 11, .inl g2)), (l3, .inl (xI g, 11, .inl g3)), (l4, .inl (xI g, 11, .inl g4)), (ve, .inr (6, [v0, v1, v2, .int (nI Wn), .int 2, .int v_4, v6, v7, v8, v9, v10]))] H := hP
          have hD : va_D A [(h0, .inr (3, [.ref le, w1, w2, w3])), (le, .inl (xM g, 5, .inr (.inr (.inr (.inr (xOut5 l0 l1 l2 l3 l4)))))), (l0, .inl (xI g, 11, .inl g0)), (l1, .inl (xI g, 11, .inl g1)), (l2, .inl (xI g, 11, .inl g2)), (l3, .inl (xI g, 11, .inl g3)), (l4, .inl (xI g, 11, .inl g4)), (ve, .inr (6, [v0, v1, v2, .int (nI Wn), .int 2, .int v_4, v6, v7, v8, v9, v10]))] := hD
          have hP9 := hP.sub (ws' := [(h0, .inr (3, [.ref le, w1, w2, w3])), (le, .inl (xM g, 5, .inr (.inr (.inr (.inr (xOut5 l0 l1 l2 l3 l4)))))), (l0, .inl (xI g, 11, .inl g0)), (l1, .inl (xI g, 11, .inl g1)), (l2, .inl (xI g, 11, .inl g2)), (l3, .inl (xI g, 11, .inl g3)), (l4, .inl (xI g, 11, .inl g4)), (ve, .inr (6, [v0, v1, v2, .int (nI Wn), .int 2, .int v_4, v6, v7, v8, v9, v10]))]) [0, 1, 2, 3, 4, 5, 6, 7] rfl
          have hD9 := hD.sub (ws' := [(h0, .inr (3, [.ref le, w1, w2, w3])), (le, .inl (xM g, 5, .inr (.inr (.inr (.inr (xOut5 l0 l1 l2 l3 l4)))))), (l0, .inl (xI g, 11, .inl g0)), (l1, .inl (xI g, 11, .inl g1)), (l2, .inl (xI g, 11, .inl g2)), (l3, .inl (xI g, 11, .inl g3)), (l4, .inl (xI g, 11, .inl g4)), (ve, .inr (6, [v0, v1, v2, .int (nI Wn), .int 2, .int v_4, v6, v7, v8, v9, v10]))]) [0, 1, 2, 3, 4, 5, 6, 7] (by decide) rfl
          exact W.vret hx hb hr (fun t ht hW => ⟨⟨(), rfl, (by first | trivial | rfl | assumption | omega | simp_all), ⟨2, v_4, (by first | trivial | assumption | omega | simp_all), by rw [ht]; exact hP9, va_K.moved hW.alike hK, hD9⟩⟩, hS.F ht⟩) hS.2.2 dX3_chooseRangeCount_63
        · have hl : lv_has ls 3 [(2, .int (nI r)), (0, .ref h0), (1, .ref ve)] := hl
          have hP : va_P (xD g) vwCl [(h0, .inr (3, [.ref le, w1, w2, w3])), (le, .inl (xM g, 5, .inr (.inr (.inr (.inr (xOut5 l0 l1 l2 l3 l4)))))), (l0, .inl (xI g, 11, .inl g0)), (l1, .inl (xI g, 11, .inl g1)), (l2, .inl (xI g, 11, .inl g2)), (l3, .inl (xI g, 11, .inl g3)), (l4, .inl (xI g, 11, .inl g4)), (ve, .inr (6, [v0, v1, v2, .int (nI Wn), .int 3, v5, v6, v7, v8, v9, v10]))] H := hP
          have hD : va_D A [(h0, .inr (3, [.ref le, w1, w2, w3])), (le, .inl (xM g, 5, .inr (.inr (.inr (.inr (xOut5 l0 l1 l2 l3 l4)))))), (l0, .inl (xI g, 11, .inl g0)), (l1, .inl (xI g, 11, .inl g1)), (l2, .inl (xI g, 11, .inl g2)), (l3, .inl (xI g, 11, .inl g3)), (l4, .inl (xI g, 11, .inl g4)), (ve, .inr (6, [v0, v1, v2, .int (nI Wn), .int 3, v5, v6, v7, v8, v9, v10]))] := hD
          refine lv_aload_n hx hb dX3_chooseRangeCount_48 rfl (lv_at hl 2 rfl) ?_
          refine lv_aload_n hx hb dX3_chooseRangeCount_49 rfl (lv_at hl 1 rfl) ?_
          refine va_get (D := xD g) (ci := 3) (v := .ref le) (C := RX3) (T := TX3) (N := 4) hx hb hts hFX3 hown hK hP 0 rfl rfl 0 (by decide) (hts (.fieldLink RX3 11 "Stevedore$CraneWalk" "least" "[[I") (by decide +kernel)) (fun _ h9 => h9) rfl dX3_chooseRangeCount_50 ?_
          refine lv_aload_n hx hb dX3_chooseRangeCount_53 rfl (lv_at hl 2 rfl) ?_
          refine va_get (D := xD g) (ci := 6) (v := .int 3) (C := RX6) (T := TX6) (N := 11) hx hb hts hFX6 hown hK hP 7 rfl rfl 4 (by decide) (hts (.fieldLink RX3 67 "Stevedore$Vessel" "rangeCount" "I") (by decide +kernel)) (fun _ h9 => h9) rfl dX3_chooseRangeCount_54 ?_
          refine xAldM hx hb hK hP 1 3 rfl rfl (by unfold vp_in; decide) dX3_chooseRangeCount_57 ?_
          refine W.eq (g2 := F0 m 58 ls (.ref l3 :: .ref ve :: [])) (by rfl) ?_
          refine lv_iconst (v := 0) hx hb dX3_chooseRangeCount_58 (by decide) ?_
          refine va_iald hx hb hK hP 5 0 rfl rfl (by unfold vp_in; decide) dX3_chooseRangeCount_59 ?_
          refine lv_topi (fun v_5 ev_5 => ?_)
          refine va_put (D := xD g) (ci := 6) (v := .int v_5) (ty := .int) (C := RX6) (T := TX6) (N := 11) hx hb hts hFX6 tyX6 tyX6_ok nmX6 hown hK hP hD hS 7 rfl rfl 5 (by decide) (hts (.fieldLink RX3 70 "Stevedore$Vessel" "greatestLoad" "I") (by decide +kernel)) (fun _ h9 => h9) rfl (by decide +kernel) rfl rfl (Nat.le_of_ble_eq_true rfl) dX3_chooseRangeCount_60 (fun H locs hP hD hS => ?_)
          have hP : va_P (xD g) vwCl [(h0, .inr (3, [.ref le, w1, w2, w3])), (le, .inl (xM g, 5, .inr (.inr (.inr (.inr (xOut5 l0 l1 l2 l3 l4)))))), (l0, .inl (xI g, 11, .inl g0)), (l1, .inl (xI g, 11, .inl g1)), (l2, .inl (xI g, 11, .inl g2)), (l3, .inl (xI g, 11, .inl g3)), (l4, .inl (xI g, 11, .inl g4)), (ve, .inr (6, [v0, v1, v2, .int (nI Wn), .int 3, .int v_5, v6, v7, v8, v9, v10]))] H := hP
          have hD : va_D A [(h0, .inr (3, [.ref le, w1, w2, w3])), (le, .inl (xM g, 5, .inr (.inr (.inr (.inr (xOut5 l0 l1 l2 l3 l4)))))), (l0, .inl (xI g, 11, .inl g0)), (l1, .inl (xI g, 11, .inl g1)), (l2, .inl (xI g, 11, .inl g2)), (l3, .inl (xI g, 11, .inl g3)), (l4, .inl (xI g, 11, .inl g4)), (ve, .inr (6, [v0, v1, v2, .int (nI Wn), .int 3, .int v_5, v6, v7, v8, v9, v10]))] := hD
          have hP9 := hP.sub (ws' := [(h0, .inr (3, [.ref le, w1, w2, w3])), (le, .inl (xM g, 5, .inr (.inr (.inr (.inr (xOut5 l0 l1 l2 l3 l4)))))), (l0, .inl (xI g, 11, .inl g0)), (l1, .inl (xI g, 11, .inl g1)), (l2, .inl (xI g, 11, .inl g2)), (l3, .inl (xI g, 11, .inl g3)), (l4, .inl (xI g, 11, .inl g4)), (ve, .inr (6, [v0, v1, v2, .int (nI Wn), .int 3, .int v_5, v6, v7, v8, v9, v10]))]) [0, 1, 2, 3, 4, 5, 6, 7] rfl
          have hD9 := hD.sub (ws' := [(h0, .inr (3, [.ref le, w1, w2, w3])), (le, .inl (xM g, 5, .inr (.inr (.inr (.inr (xOut5 l0 l1 l2 l3 l4)))))), (l0, .inl (xI g, 11, .inl g0)), (l1, .inl (xI g, 11, .inl g1)), (l2, .inl (xI g, 11, .inl g2)), (l3, .inl (xI g, 11, .inl g3)), (l4, .inl (xI g, 11, .inl g4)), (ve, .inr (6, [v0, v1, v2, .int (nI Wn), .int 3, .int v_5, v6, v7, v8, v9, v10]))]) [0, 1, 2, 3, 4, 5, 6, 7] (by decide) rfl
          exact W.vret hx hb hr (fun t ht hW => ⟨⟨(), rfl, (by first | trivial | rfl | assumption | omega | simp_all), ⟨3, v_5, (by first | trivial | assumption | omega | simp_all), by rw [ht]; exact hP9, va_K.moved hW.alike hK, hD9⟩⟩, hS.F ht⟩) hS.2.2 dX3_chooseRangeCount_63
        · have hl : lv_has ls 3 [(2, .int (nI r)), (0, .ref h0), (1, .ref ve)] := hl
          have hP : va_P (xD g) vwCl [(h0, .inr (3, [.ref le, w1, w2, w3])), (le, .inl (xM g, 5, .inr (.inr (.inr (.inr (xOut5 l0 l1 l2 l3 l4)))))), (l0, .inl (xI g, 11, .inl g0)), (l1, .inl (xI g, 11, .inl g1)), (l2, .inl (xI g, 11, .inl g2)), (l3, .inl (xI g, 11, .inl g3)), (l4, .inl (xI g, 11, .inl g4)), (ve, .inr (6, [v0, v1, v2, .int (nI Wn), .int 4, v5, v6, v7, v8, v9, v10]))] H := hP
          have hD : va_D A [(h0, .inr (3, [.ref le, w1, w2, w3])), (le, .inl (xM g, 5, .inr (.inr (.inr (.inr (xOut5 l0 l1 l2 l3 l4)))))), (l0, .inl (xI g, 11, .inl g0)), (l1, .inl (xI g, 11, .inl g1)), (l2, .inl (xI g, 11, .inl g2)), (l3, .inl (xI g, 11, .inl g3)), (l4, .inl (xI g, 11, .inl g4)), (ve, .inr (6, [v0, v1, v2, .int (nI Wn), .int 4, v5, v6, v7, v8, v9, v10]))] := hD
          refine lv_aload_n hx hb dX3_chooseRangeCount_48 rfl (lv_at hl 2 rfl) ?_
          refine lv_aload_n hx hb dX3_chooseRangeCount_49 rfl (lv_at hl 1 rfl) ?_
          refine va_get (D := xD g) (ci := 3) (v := .ref le) (C := RX3) (T := TX3) (N := 4) hx hb hts hFX3 hown hK hP 0 rfl rfl 0 (by decide) (hts (.fieldLink RX3 11 "Stevedore$CraneWalk" "least" "[[I") (by decide +kernel)) (fun _ h9 => h9) rfl dX3_chooseRangeCount_50 ?_
          refine lv_aload_n hx hb dX3_chooseRangeCount_53 rfl (lv_at hl 2 rfl) ?_
          refine va_get (D := xD g) (ci := 6) (v := .int 4) (C := RX6) (T := TX6) (N := 11) hx hb hts hFX6 hown hK hP 7 rfl rfl 4 (by decide) (hts (.fieldLink RX3 67 "Stevedore$Vessel" "rangeCount" "I") (by decide +kernel)) (fun _ h9 => h9) rfl dX3_chooseRangeCount_54 ?_
          refine xAldM hx hb hK hP 1 3 rfl rfl (by unfold vp_in; decide) dX3_chooseRangeCount_57 ?_
          refine W.eq (g2 := F0 m 58 ls (.ref l4 :: .ref ve :: [])) (by rfl) ?_
          refine lv_iconst (v := 0) hx hb dX3_chooseRangeCount_58 (by decide) ?_
          refine va_iald hx hb hK hP 6 0 rfl rfl (by unfold vp_in; decide) dX3_chooseRangeCount_59 ?_
          refine lv_topi (fun v_6 ev_6 => ?_)
          refine va_put (D := xD g) (ci := 6) (v := .int v_6) (ty := .int) (C := RX6) (T := TX6) (N := 11) hx hb hts hFX6 tyX6 tyX6_ok nmX6 hown hK hP hD hS 7 rfl rfl 5 (by decide) (hts (.fieldLink RX3 70 "Stevedore$Vessel" "greatestLoad" "I") (by decide +kernel)) (fun _ h9 => h9) rfl (by decide +kernel) rfl rfl (Nat.le_of_ble_eq_true rfl) dX3_chooseRangeCount_60 (fun H locs hP hD hS => ?_)
          have hP : va_P (xD g) vwCl [(h0, .inr (3, [.ref le, w1, w2, w3])), (le, .inl (xM g, 5, .inr (.inr (.inr (.inr (xOut5 l0 l1 l2 l3 l4)))))), (l0, .inl (xI g, 11, .inl g0)), (l1, .inl (xI g, 11, .inl g1)), (l2, .inl (xI g, 11, .inl g2)), (l3, .inl (xI g, 11, .inl g3)), (l4, .inl (xI g, 11, .inl g4)), (ve, .inr (6, [v0, v1, v2, .int (nI Wn), .int 4, .int v_6, v6, v7, v8, v9, v10]))] H := hP
          have hD : va_D A [(h0, .inr (3, [.ref le, w1, w2, w3])), (le, .inl (xM g, 5, .inr (.inr (.inr (.inr (xOut5 l0 l1 l2 l3 l4)))))), (l0, .inl (xI g, 11, .inl g0)), (l1, .inl (xI g, 11, .inl g1)), (l2, .inl (xI g, 11, .inl g2)), (l3, .inl (xI g, 11, .inl g3)), (l4, .inl (xI g, 11, .inl g4)), (ve, .inr (6, [v0, v1, v2, .int (nI Wn), .int 4, .int v_6, v6, v7, v8, v9, v10]))] := hD
          have hP9 := hP.sub (ws' := [(h0, .inr (3, [.ref le, w1, w2, w3])), (le, .inl (xM g, 5, .inr (.inr (.inr (.inr (xOut5 l0 l1 l2 l3 l4)))))), (l0, .inl (xI g, 11, .inl g0)), (l1, .inl (xI g, 11, .inl g1)), (l2, .inl (xI g, 11, .inl g2)), (l3, .inl (xI g, 11, .inl g3)), (l4, .inl (xI g, 11, .inl g4)), (ve, .inr (6, [v0, v1, v2, .int (nI Wn), .int 4, .int v_6, v6, v7, v8, v9, v10]))]) [0, 1, 2, 3, 4, 5, 6, 7] rfl
          have hD9 := hD.sub (ws' := [(h0, .inr (3, [.ref le, w1, w2, w3])), (le, .inl (xM g, 5, .inr (.inr (.inr (.inr (xOut5 l0 l1 l2 l3 l4)))))), (l0, .inl (xI g, 11, .inl g0)), (l1, .inl (xI g, 11, .inl g1)), (l2, .inl (xI g, 11, .inl g2)), (l3, .inl (xI g, 11, .inl g3)), (l4, .inl (xI g, 11, .inl g4)), (ve, .inr (6, [v0, v1, v2, .int (nI Wn), .int 4, .int v_6, v6, v7, v8, v9, v10]))]) [0, 1, 2, 3, 4, 5, 6, 7] (by decide) rfl
          exact W.vret hx hb hr (fun t ht hW => ⟨⟨(), rfl, (by first | trivial | rfl | assumption | omega | simp_all), ⟨4, v_6, (by first | trivial | assumption | omega | simp_all), by rw [ht]; exact hP9, va_K.moved hW.alike hK, hD9⟩⟩, hS.F ht⟩) hS.2.2 dX3_chooseRangeCount_63
      · have nc_1 := mt (nI_ltI (a := Wn) (b := r) (by omega) (by omega)).mpr c_1
        have hs_7 : r = 2 ∨ r = 3 ∨ r = 4 := by omega
        rcases hs_7 with rfl | rfl | rfl
        · have hl : lv_has ls 3 [(2, .int 2), (0, .ref h0), (1, .ref ve)] := hl
          have hs_8 : rc = 1 := by omega
          rcases hs_8 with rfl
          · have hl : lv_has ls 3 [(2, .int 2), (0, .ref h0), (1, .ref ve)] := hl
            have hP : va_P (xD g) vwCl [(h0, .inr (3, [.ref le, w1, w2, w3])), (le, .inl (xM g, 5, .inr (.inr (.inr (.inr (xOut5 l0 l1 l2 l3 l4)))))), (l0, .inl (xI g, 11, .inl g0)), (l1, .inl (xI g, 11, .inl g1)), (l2, .inl (xI g, 11, .inl g2)), (l3, .inl (xI g, 11, .inl g3)), (l4, .inl (xI g, 11, .inl g4)), (ve, .inr (6, [v0, v1, v2, .int (nI Wn), .int 1, v5, v6, v7, v8, v9, v10]))] H := hP
            have hD : va_D A [(h0, .inr (3, [.ref le, w1, w2, w3])), (le, .inl (xM g, 5, .inr (.inr (.inr (.inr (xOut5 l0 l1 l2 l3 l4)))))), (l0, .inl (xI g, 11, .inl g0)), (l1, .inl (xI g, 11, .inl g1)), (l2, .inl (xI g, 11, .inl g2)), (l3, .inl (xI g, 11, .inl g3)), (l4, .inl (xI g, 11, .inl g4)), (ve, .inr (6, [v0, v1, v2, .int (nI Wn), .int 1, v5, v6, v7, v8, v9, v10]))] := hD
            refine lv_aload_n hx hb dX3_chooseRangeCount_15 rfl (lv_at hl 1 rfl) ?_
            refine va_get (D := xD g) (ci := 3) (v := .ref le) (C := RX3) (T := TX3) (N := 4) hx hb hts hFX3 hown hK hP 0 rfl rfl 0 (by decide) (hts (.fieldLink RX3 11 "Stevedore$CraneWalk" "least" "[[I") (by decide +kernel)) (fun _ h9 => h9) rfl dX3_chooseRangeCount_16 ?_
            refine lv_iload_n hx hb dX3_chooseRangeCount_19 rfl (lv_at hl 0 rfl) ?_
            refine xAldM hx hb hK hP 1 3 rfl rfl (by unfold vp_in; decide) dX3_chooseRangeCount_20 ?_
            refine W.eq (g2 := F0 m 21 ls (.ref l2 :: [])) (by rfl) ?_
            refine lv_iconst (v := 0) hx hb dX3_chooseRangeCount_21 (by decide) ?_
            refine va_iald hx hb hK hP 4 0 rfl rfl (by unfold vp_in; decide) dX3_chooseRangeCount_22 ?_
            refine lv_topi (fun v_9 ev_9 => ?_)
            refine lv_aload_n hx hb dX3_chooseRangeCount_23 rfl (lv_at hl 1 rfl) ?_
            refine va_get (D := xD g) (ci := 3) (v := .ref le) (C := RX3) (T := TX3) (N := 4) hx hb hts hFX3 hown hK hP 0 rfl rfl 0 (by decide) (hts (.fieldLink RX3 11 "Stevedore$CraneWalk" "least" "[[I") (by decide +kernel)) (fun _ h9 => h9) rfl dX3_chooseRangeCount_24 ?_
            refine lv_aload_n hx hb dX3_chooseRangeCount_27 rfl (lv_at hl 2 rfl) ?_
            refine va_get (D := xD g) (ci := 6) (v := .int 1) (C := RX6) (T := TX6) (N := 11) hx hb hts hFX6 hown hK hP 7 rfl rfl 4 (by decide) (hts (.fieldLink RX3 67 "Stevedore$Vessel" "rangeCount" "I") (by decide +kernel)) (fun _ h9 => h9) rfl dX3_chooseRangeCount_28 ?_
            refine xAldM hx hb hK hP 1 3 rfl rfl (by unfold vp_in; decide) dX3_chooseRangeCount_31 ?_
            refine W.eq (g2 := F0 m 32 ls (.ref l1 :: .int v_9 :: [])) (by rfl) ?_
            refine lv_iconst (v := 0) hx hb dX3_chooseRangeCount_32 (by decide) ?_
            refine va_iald hx hb hK hP 3 0 rfl rfl (by unfold vp_in; decide) dX3_chooseRangeCount_33 ?_
            refine lv_topi (fun v_10 ev_10 => ?_)
            refine lv_icmp_ge (tgt := 42) hx hb dX3_chooseRangeCount_34 (by decide) (fun c_11 => ?_) (fun c_11 => ?_)
            · refine lv_iinc (v := 3) (lv' := [(2, .int 3), (0, .ref h0), (1, .ref ve)]) hx hb dX3_chooseRangeCount_42 hl (k := 0) rfl (by decide) (by decide) rfl (fun ls hl => ?_)
              refine lv_goto (tgt := 7) hx hb dX3_chooseRangeCount_45 (by decide) ?_
              exact ih7 3 1 _ _ _ (by omega) (by omega) (by omega) (by omega) (by omega) (by omega) hP hD hS (lv_sub hl [0, 1, 2] rfl)
            · refine lv_aload_n hx hb dX3_chooseRangeCount_37 rfl (lv_at hl 2 rfl) ?_
              refine lv_iload_n hx hb dX3_chooseRangeCount_38 rfl (lv_at hl 0 rfl) ?_
              refine va_put (D := xD g) (ci := 6) (v := .int 2) (ty := .int) (C := RX6) (T := TX6) (N := 11) hx hb hts hFX6 tyX6 tyX6_ok nmX6 hown hK hP hD hS 7 rfl rfl 4 (by decide) (hts (.fieldLink RX3 67 "Stevedore$Vessel" "rangeCount" "I") (by decide +kernel)) (fun _ h9 => h9) rfl (by decide +kernel) rfl rfl (Nat.le_of_ble_eq_true rfl) dX3_chooseRangeCount_39 (fun H locs hP hD hS => ?_)
              have hP : va_P (xD g) vwCl [(h0, .inr (3, [.ref le, w1, w2, w3])), (le, .inl (xM g, 5, .inr (.inr (.inr (.inr (xOut5 l0 l1 l2 l3 l4)))))), (l0, .inl (xI g, 11, .inl g0)), (l1, .inl (xI g, 11, .inl g1)), (l2, .inl (xI g, 11, .inl g2)), (l3, .inl (xI g, 11, .inl g3)), (l4, .inl (xI g, 11, .inl g4)), (ve, .inr (6, [v0, v1, v2, .int (nI Wn), .int 2, v5, v6, v7, v8, v9, v10]))] H := hP
              have hD : va_D A [(h0, .inr (3, [.ref le, w1, w2, w3])), (le, .inl (xM g, 5, .inr (.inr (.inr (.inr (xOut5 l0 l1 l2 l3 l4)))))), (l0, .inl (xI g, 11, .inl g0)), (l1, .inl (xI g, 11, .inl g1)), (l2, .inl (xI g, 11, .inl g2)), (l3, .inl (xI g, 11, .inl g3)), (l4, .inl (xI g, 11, .inl g4)), (ve, .inr (6, [v0, v1, v2, .int (nI Wn), .int 2, v5, v6, v7, v8, v9, v10]))] := hD
              refine lv_iinc (v := 3) (lv' := [(2, .int 3), (0, .ref h0), (1, .ref ve)]) hx hb dX3_chooseRangeCount_42 hl (k := 0) rfl (by decide) (by decide) rfl (fun ls hl => ?_)
              refine lv_goto (tgt := 7) hx hb dX3_chooseRangeCount_45 (by decide) ?_
              exact ih7 3 2 _ _ _ (by omega) (by omega) (by omega) (by omega) (by omega) (by omega) hP hD hS (lv_sub hl [0, 1, 2] rfl)
        · have hl : lv_has ls 3 [(2, .int 3), (0, .ref h0), (1, .ref ve)] := hl
          have hs_12 : rc = 1 ∨ rc = 2 := by omega
          rcases hs_12 with rfl | rfl
          · have hl : lv_has ls 3 [(2, .int 3), (0, .ref h0), (1, .ref ve)] := hl
            have hP : va_P (xD g) vwCl [(h0, .inr (3, [.ref le, w1, w2, w3])), (le, .inl (xM g, 5, .inr (.inr (.inr (.inr (xOut5 l0 l1 l2 l3 l4)))))), (l0, .inl (xI g, 11, .inl g0)), (l1, .inl (xI g, 11, .inl g1)), (l2, .inl (xI g, 11, .inl g2)), (l3, .inl (xI g, 11, .inl g3)), (l4, .inl (xI g, 11, .inl g4)), (ve, .inr (6, [v0, v1, v2, .int (nI Wn), .int 1, v5, v6, v7, v8, v9, v10]))] H := hP
            have hD : va_D A [(h0, .inr (3, [.ref le, w1, w2, w3])), (le, .inl (xM g, 5, .inr (.inr (.inr (.inr (xOut5 l0 l1 l2 l3 l4)))))), (l0, .inl (xI g, 11, .inl g0)), (l1, .inl (xI g, 11, .inl g1)), (l2, .inl (xI g, 11, .inl g2)), (l3, .inl (xI g, 11, .inl g3)), (l4, .inl (xI g, 11, .inl g4)), (ve, .inr (6, [v0, v1, v2, .int (nI Wn), .int 1, v5, v6, v7, v8, v9, v10]))] := hD
            refine lv_aload_n hx hb dX3_chooseRangeCount_15 rfl (lv_at hl 1 rfl) ?_
            refine va_get (D := xD g) (ci := 3) (v := .ref le) (C := RX3) (T := TX3) (N := 4) hx hb hts hFX3 hown hK hP 0 rfl rfl 0 (by decide) (hts (.fieldLink RX3 11 "Stevedore$CraneWalk" "least" "[[I") (by decide +kernel)) (fun _ h9 => h9) rfl dX3_chooseRangeCount_16 ?_
            refine lv_iload_n hx hb dX3_chooseRangeCount_19 rfl (lv_at hl 0 rfl) ?_
            refine xAldM hx hb hK hP 1 3 rfl rfl (by unfold vp_in; decide) dX3_chooseRangeCount_20 ?_
            refine W.eq (g2 := F0 m 21 ls (.ref l3 :: [])) (by rfl) ?_
            refine lv_iconst (v := 0) hx hb dX3_chooseRangeCount_21 (by decide) ?_
            refine va_iald hx hb hK hP 5 0 rfl rfl (by unfold vp_in; decide) dX3_chooseRangeCount_22 ?_
            refine lv_topi (fun v_13 ev_13 => ?_)
            refine lv_aload_n hx hb dX3_chooseRangeCount_23 rfl (lv_at hl 1 rfl) ?_
            refine va_get (D := xD g) (ci := 3) (v := .ref le) (C := RX3) (T := TX3) (N := 4) hx hb hts hFX3 hown hK hP 0 rfl rfl 0 (by decide) (hts (.fieldLink RX3 11 "Stevedore$CraneWalk" "least" "[[I") (by decide +kernel)) (fun _ h9 => h9) rfl dX3_chooseRangeCount_24 ?_
            refine lv_aload_n hx hb dX3_chooseRangeCount_27 rfl (lv_at hl 2 rfl) ?_
            refine va_get (D := xD g) (ci := 6) (v := .int 1) (C := RX6) (T := TX6) (N := 11) hx hb hts hFX6 hown hK hP 7 rfl rfl 4 (by decide) (hts (.fieldLink RX3 67 "Stevedore$Vessel" "rangeCount" "I") (by decide +kernel)) (fun _ h9 => h9) rfl dX3_chooseRangeCount_28 ?_
            refine xAldM hx hb hK hP 1 3 rfl rfl (by unfold vp_in; decide) dX3_chooseRangeCount_31 ?_
            refine W.eq (g2 := F0 m 32 ls (.ref l1 :: .int v_13 :: [])) (by rfl) ?_
            refine lv_iconst (v := 0) hx hb dX3_chooseRangeCount_32 (by decide) ?_
            refine va_iald hx hb hK hP 3 0 rfl rfl (by unfold vp_in; decide) dX3_chooseRangeCount_33 ?_
            refine lv_topi (fun v_14 ev_14 => ?_)
            refine lv_icmp_ge (tgt := 42) hx hb dX3_chooseRangeCount_34 (by decide) (fun c_15 => ?_) (fun c_15 => ?_)
            · refine lv_iinc (v := 4) (lv' := [(2, .int 4), (0, .ref h0), (1, .ref ve)]) hx hb dX3_chooseRangeCount_42 hl (k := 0) rfl (by decide) (by decide) rfl (fun ls hl => ?_)
              refine lv_goto (tgt := 7) hx hb dX3_chooseRangeCount_45 (by decide) ?_
              exact ih7 4 1 _ _ _ (by omega) (by omega) (by omega) (by omega) (by omega) (by omega) hP hD hS (lv_sub hl [0, 1, 2] rfl)
            · refine lv_aload_n hx hb dX3_chooseRangeCount_37 rfl (lv_at hl 2 rfl) ?_
              refine lv_iload_n hx hb dX3_chooseRangeCount_38 rfl (lv_at hl 0 rfl) ?_
              refine va_put (D := xD g) (ci := 6) (v := .int 3) (ty := .int) (C := RX6) (T := TX6) (N := 11) hx hb hts hFX6 tyX6 tyX6_ok nmX6 hown hK hP hD hS 7 rfl rfl 4 (by decide) (hts (.fieldLink RX3 67 "Stevedore$Vessel" "rangeCount" "I") (by decide +kernel)) (fun _ h9 => h9) rfl (by decide +kernel) rfl rfl (Nat.le_of_ble_eq_true rfl) dX3_chooseRangeCount_39 (fun H locs hP hD hS => ?_)
              have hP : va_P (xD g) vwCl [(h0, .inr (3, [.ref le, w1, w2, w3])), (le, .inl (xM g, 5, .inr (.inr (.inr (.inr (xOut5 l0 l1 l2 l3 l4)))))), (l0, .inl (xI g, 11, .inl g0)), (l1, .inl (xI g, 11, .inl g1)), (l2, .inl (xI g, 11, .inl g2)), (l3, .inl (xI g, 11, .inl g3)), (l4, .inl (xI g, 11, .inl g4)), (ve, .inr (6, [v0, v1, v2, .int (nI Wn), .int 3, v5, v6, v7, v8, v9, v10]))] H := hP
              have hD : va_D A [(h0, .inr (3, [.ref le, w1, w2, w3])), (le, .inl (xM g, 5, .inr (.inr (.inr (.inr (xOut5 l0 l1 l2 l3 l4)))))), (l0, .inl (xI g, 11, .inl g0)), (l1, .inl (xI g, 11, .inl g1)), (l2, .inl (xI g, 11, .inl g2)), (l3, .inl (xI g, 11, .inl g3)), (l4, .inl (xI g, 11, .inl g4)), (ve, .inr (6, [v0, v1, v2, .int (nI Wn), .int 3, v5, v6, v7, v8, v9, v10]))] := hD
              refine lv_iinc (v := 4) (lv' := [(2, .int 4), (0, .ref h0), (1, .ref ve)]) hx hb dX3_chooseRangeCount_42 hl (k := 0) rfl (by decide) (by decide) rfl (fun ls hl => ?_)
              refine lv_goto (tgt := 7) hx hb dX3_chooseRangeCount_45 (by decide) ?_
              exact ih7 4 3 _ _ _ (by omega) (by omega) (by omega) (by omega) (by omega) (by omega) hP hD hS (lv_sub hl [0, 1, 2] rfl)
          · have hl : lv_has ls 3 [(2, .int 3), (0, .ref h0), (1, .ref ve)] := hl
            have hP : va_P (xD g) vwCl [(h0, .inr (3, [.ref le, w1, w2, w3])), (le, .inl (xM g, 5, .inr (.inr (.inr (.inr (xOut5 l0 l1 l2 l3 l4)))))), (l0, .inl (xI g, 11, .inl g0)), (l1, .inl (xI g, 11, .inl g1)), (l2, .inl (xI g, 11, .inl g2)), (l3, .inl (xI g, 11, .inl g3)), (l4, .inl (xI g, 11, .inl g4)), (ve, .inr (6, [v0, v1, v2, .int (nI Wn), .int 2, v5, v6, v7, v8, v9, v10]))] H := hP
            have hD : va_D A [(h0, .inr (3, [.ref le, w1, w2, w3])), (le, .inl (xM g, 5, .inr (.inr (.inr (.inr (xOut5 l0 l1 l2 l3 l4)))))), (l0, .inl (xI g, 11, .inl g0)), (l1, .inl (xI g, 11, .inl g1)), (l2, .inl (xI g, 11, .inl g2)), (l3, .inl (xI g, 11, .inl g3)), (l4, .inl (xI g, 11, .inl g4)), (ve, .inr (6, [v0, v1, v2, .int (nI Wn), .int 2, v5, v6, v7, v8, v9, v10]))] := hD
            refine lv_aload_n hx hb dX3_chooseRangeCount_15 rfl (lv_at hl 1 rfl) ?_
            refine va_get (D := xD g) (ci := 3) (v := .ref le) (C := RX3) (T := TX3) (N := 4) hx hb hts hFX3 hown hK hP 0 rfl rfl 0 (by decide) (hts (.fieldLink RX3 11 "Stevedore$CraneWalk" "least" "[[I") (by decide +kernel)) (fun _ h9 => h9) rfl dX3_chooseRangeCount_16 ?_
            refine lv_iload_n hx hb dX3_chooseRangeCount_19 rfl (lv_at hl 0 rfl) ?_
            refine xAldM hx hb hK hP 1 3 rfl rfl (by unfold vp_in; decide) dX3_chooseRangeCount_20 ?_
            refine W.eq (g2 := F0 m 21 ls (.ref l3 :: [])) (by rfl) ?_
            refine lv_iconst (v := 0) hx hb dX3_chooseRangeCount_21 (by decide) ?_
            refine va_iald hx hb hK hP 5 0 rfl rfl (by unfold vp_in; decide) dX3_chooseRangeCount_22 ?_
            refine lv_topi (fun v_16 ev_16 => ?_)
            refine lv_aload_n hx hb dX3_chooseRangeCount_23 rfl (lv_at hl 1 rfl) ?_
            refine va_get (D := xD g) (ci := 3) (v := .ref le) (C := RX3) (T := TX3) (N := 4) hx hb hts hFX3 hown hK hP 0 rfl rfl 0 (by decide) (hts (.fieldLink RX3 11 "Stevedore$CraneWalk" "least" "[[I") (by decide +kernel)) (fun _ h9 => h9) rfl dX3_chooseRangeCount_24 ?_
            refine lv_aload_n hx hb dX3_chooseRangeCount_27 rfl (lv_at hl 2 rfl) ?_
            refine va_get (D := xD g) (ci := 6) (v := .int 2) (C := RX6) (T := TX6) (N := 11) hx hb hts hFX6 hown hK hP 7 rfl rfl 4 (by decide) (hts (.fieldLink RX3 67 "Stevedore$Vessel" "rangeCount" "I") (by decide +kernel)) (fun _ h9 => h9) rfl dX3_chooseRangeCount_28 ?_
            refine xAldM hx hb hK hP 1 3 rfl rfl (by unfold vp_in; decide) dX3_chooseRangeCount_31 ?_
            refine W.eq (g2 := F0 m 32 ls (.ref l2 :: .int v_16 :: [])) (by rfl) ?_
            refine lv_iconst (v := 0) hx hb dX3_chooseRangeCount_32 (by decide) ?_
            refine va_iald hx hb hK hP 4 0 rfl rfl (by unfold vp_in; decide) dX3_chooseRangeCount_33 ?_
            refine lv_topi (fun v_17 ev_17 => ?_)
            refine lv_icmp_ge (tgt := 42) hx hb dX3_chooseRangeCount_34 (by decide) (fun c_18 => ?_) (fun c_18 => ?_)
            · refine lv_iinc (v := 4) (lv' := [(2, .int 4), (0, .ref h0), (1, .ref ve)]) hx hb dX3_chooseRangeCount_42 hl (k := 0) rfl (by decide) (by decide) rfl (fun ls hl => ?_)
              refine lv_goto (tgt := 7) hx hb dX3_chooseRangeCount_45 (by decide) ?_
              exact ih7 4 2 _ _ _ (by omega) (by omega) (by omega) (by omega) (by omega) (by omega) hP hD hS (lv_sub hl [0, 1, 2] rfl)
            · refine lv_aload_n hx hb dX3_chooseRangeCount_37 rfl (lv_at hl 2 rfl) ?_
              refine lv_iload_n hx hb dX3_chooseRangeCount_38 rfl (lv_at hl 0 rfl) ?_
              refine va_put (D := xD g) (ci := 6) (v := .int 3) (ty := .int) (C := RX6) (T := TX6) (N := 11) hx hb hts hFX6 tyX6 tyX6_ok nmX6 hown hK hP hD hS 7 rfl rfl 4 (by decide) (hts (.fieldLink RX3 67 "Stevedore$Vessel" "rangeCount" "I") (by decide +kernel)) (fun _ h9 => h9) rfl (by decide +kernel) rfl rfl (Nat.le_of_ble_eq_true rfl) dX3_chooseRangeCount_39 (fun H locs hP hD hS => ?_)
              have hP : va_P (xD g) vwCl [(h0, .inr (3, [.ref le, w1, w2, w3])), (le, .inl (xM g, 5, .inr (.inr (.inr (.inr (xOut5 l0 l1 l2 l3 l4)))))), (l0, .inl (xI g, 11, .inl g0)), (l1, .inl (xI g, 11, .inl g1)), (l2, .inl (xI g, 11, .inl g2)), (l3, .inl (xI g, 11, .inl g3)), (l4, .inl (xI g, 11, .inl g4)), (ve, .inr (6, [v0, v1, v2, .int (nI Wn), .int 3, v5, v6, v7, v8, v9, v10]))] H := hP
              have hD : va_D A [(h0, .inr (3, [.ref le, w1, w2, w3])), (le, .inl (xM g, 5, .inr (.inr (.inr (.inr (xOut5 l0 l1 l2 l3 l4)))))), (l0, .inl (xI g, 11, .inl g0)), (l1, .inl (xI g, 11, .inl g1)), (l2, .inl (xI g, 11, .inl g2)), (l3, .inl (xI g, 11, .inl g3)), (l4, .inl (xI g, 11, .inl g4)), (ve, .inr (6, [v0, v1, v2, .int (nI Wn), .int 3, v5, v6, v7, v8, v9, v10]))] := hD
              refine lv_iinc (v := 4) (lv' := [(2, .int 4), (0, .ref h0), (1, .ref ve)]) hx hb dX3_chooseRangeCount_42 hl (k := 0) rfl (by decide) (by decide) rfl (fun ls hl => ?_)
              refine lv_goto (tgt := 7) hx hb dX3_chooseRangeCount_45 (by decide) ?_
              exact ih7 4 3 _ _ _ (by omega) (by omega) (by omega) (by omega) (by omega) (by omega) hP hD hS (lv_sub hl [0, 1, 2] rfl)
        · have hl : lv_has ls 3 [(2, .int 4), (0, .ref h0), (1, .ref ve)] := hl
          have hs_19 : rc = 1 ∨ rc = 2 ∨ rc = 3 := by omega
          rcases hs_19 with rfl | rfl | rfl
          · have hl : lv_has ls 3 [(2, .int 4), (0, .ref h0), (1, .ref ve)] := hl
            have hP : va_P (xD g) vwCl [(h0, .inr (3, [.ref le, w1, w2, w3])), (le, .inl (xM g, 5, .inr (.inr (.inr (.inr (xOut5 l0 l1 l2 l3 l4)))))), (l0, .inl (xI g, 11, .inl g0)), (l1, .inl (xI g, 11, .inl g1)), (l2, .inl (xI g, 11, .inl g2)), (l3, .inl (xI g, 11, .inl g3)), (l4, .inl (xI g, 11, .inl g4)), (ve, .inr (6, [v0, v1, v2, .int (nI Wn), .int 1, v5, v6, v7, v8, v9, v10]))] H := hP
            have hD : va_D A [(h0, .inr (3, [.ref le, w1, w2, w3])), (le, .inl (xM g, 5, .inr (.inr (.inr (.inr (xOut5 l0 l1 l2 l3 l4)))))), (l0, .inl (xI g, 11, .inl g0)), (l1, .inl (xI g, 11, .inl g1)), (l2, .inl (xI g, 11, .inl g2)), (l3, .inl (xI g, 11, .inl g3)), (l4, .inl (xI g, 11, .inl g4)), (ve, .inr (6, [v0, v1, v2, .int (nI Wn), .int 1, v5, v6, v7, v8, v9, v10]))] := hD
            refine lv_aload_n hx hb dX3_chooseRangeCount_15 rfl (lv_at hl 1 rfl) ?_
            refine va_get (D := xD g) (ci := 3) (v := .ref le) (C := RX3) (T := TX3) (N := 4) hx hb hts hFX3 hown hK hP 0 rfl rfl 0 (by decide) (hts (.fieldLink RX3 11 "Stevedore$CraneWalk" "least" "[[I") (by decide +kernel)) (fun _ h9 => h9) rfl dX3_chooseRangeCount_16 ?_
            refine lv_iload_n hx hb dX3_chooseRangeCount_19 rfl (lv_at hl 0 rfl) ?_
            refine xAldM hx hb hK hP 1 3 rfl rfl (by unfold vp_in; decide) dX3_chooseRangeCount_20 ?_
            refine W.eq (g2 := F0 m 21 ls (.ref l4 :: [])) (by rfl) ?_
            refine lv_iconst (v := 0) hx hb dX3_chooseRangeCount_21 (by decide) ?_
            refine va_iald hx hb hK hP 6 0 rfl rfl (by unfold vp_in; decide) dX3_chooseRangeCount_22 ?_
            refine lv_topi (fun v_20 ev_20 => ?_)
            refine lv_aload_n hx hb dX3_chooseRangeCount_23 rfl (lv_at hl 1 rfl) ?_
            refine va_get (D := xD g) (ci := 3) (v := .ref le) (C := RX3) (T := TX3) (N := 4) hx hb hts hFX3 hown hK hP 0 rfl rfl 0 (by decide) (hts (.fieldLink RX3 11 "Stevedore$CraneWalk" "least" "[[I") (by decide +kernel)) (fun _ h9 => h9) rfl dX3_chooseRangeCount_24 ?_
            refine lv_aload_n hx hb dX3_chooseRangeCount_27 rfl (lv_at hl 2 rfl) ?_
            refine va_get (D := xD g) (ci := 6) (v := .int 1) (C := RX6) (T := TX6) (N := 11) hx hb hts hFX6 hown hK hP 7 rfl rfl 4 (by decide) (hts (.fieldLink RX3 67 "Stevedore$Vessel" "rangeCount" "I") (by decide +kernel)) (fun _ h9 => h9) rfl dX3_chooseRangeCount_28 ?_
            refine xAldM hx hb hK hP 1 3 rfl rfl (by unfold vp_in; decide) dX3_chooseRangeCount_31 ?_
            refine W.eq (g2 := F0 m 32 ls (.ref l1 :: .int v_20 :: [])) (by rfl) ?_
            refine lv_iconst (v := 0) hx hb dX3_chooseRangeCount_32 (by decide) ?_
            refine va_iald hx hb hK hP 3 0 rfl rfl (by unfold vp_in; decide) dX3_chooseRangeCount_33 ?_
            refine lv_topi (fun v_21 ev_21 => ?_)
            refine lv_icmp_ge (tgt := 42) hx hb dX3_chooseRangeCount_34 (by decide) (fun c_22 => ?_) (fun c_22 => ?_)
            · refine lv_iinc (v := 5) (lv' := [(2, .int 5), (0, .ref h0), (1, .ref ve)]) hx hb dX3_chooseRangeCount_42 hl (k := 0) rfl (by decide) (by decide) rfl (fun ls hl => ?_)
              refine lv_goto (tgt := 7) hx hb dX3_chooseRangeCount_45 (by decide) ?_
              exact ih7 5 1 _ _ _ (by omega) (by omega) (by omega) (by omega) (by omega) (by omega) hP hD hS (lv_sub hl [0, 1, 2] rfl)
            · refine lv_aload_n hx hb dX3_chooseRangeCount_37 rfl (lv_at hl 2 rfl) ?_
              refine lv_iload_n hx hb dX3_chooseRangeCount_38 rfl (lv_at hl 0 rfl) ?_
              refine va_put (D := xD g) (ci := 6) (v := .int 4) (ty := .int) (C := RX6) (T := TX6) (N := 11) hx hb hts hFX6 tyX6 tyX6_ok nmX6 hown hK hP hD hS 7 rfl rfl 4 (by decide) (hts (.fieldLink RX3 67 "Stevedore$Vessel" "rangeCount" "I") (by decide +kernel)) (fun _ h9 => h9) rfl (by decide +kernel) rfl rfl (Nat.le_of_ble_eq_true rfl) dX3_chooseRangeCount_39 (fun H locs hP hD hS => ?_)
              have hP : va_P (xD g) vwCl [(h0, .inr (3, [.ref le, w1, w2, w3])), (le, .inl (xM g, 5, .inr (.inr (.inr (.inr (xOut5 l0 l1 l2 l3 l4)))))), (l0, .inl (xI g, 11, .inl g0)), (l1, .inl (xI g, 11, .inl g1)), (l2, .inl (xI g, 11, .inl g2)), (l3, .inl (xI g, 11, .inl g3)), (l4, .inl (xI g, 11, .inl g4)), (ve, .inr (6, [v0, v1, v2, .int (nI Wn), .int 4, v5, v6, v7, v8, v9, v10]))] H := hP
              have hD : va_D A [(h0, .inr (3, [.ref le, w1, w2, w3])), (le, .inl (xM g, 5, .inr (.inr (.inr (.inr (xOut5 l0 l1 l2 l3 l4)))))), (l0, .inl (xI g, 11, .inl g0)), (l1, .inl (xI g, 11, .inl g1)), (l2, .inl (xI g, 11, .inl g2)), (l3, .inl (xI g, 11, .inl g3)), (l4, .inl (xI g, 11, .inl g4)), (ve, .inr (6, [v0, v1, v2, .int (nI Wn), .int 4, v5, v6, v7, v8, v9, v10]))] := hD
              refine lv_iinc (v := 5) (lv' := [(2, .int 5), (0, .ref h0), (1, .ref ve)]) hx hb dX3_chooseRangeCount_42 hl (k := 0) rfl (by decide) (by decide) rfl (fun ls hl => ?_)
              refine lv_goto (tgt := 7) hx hb dX3_chooseRangeCount_45 (by decide) ?_
              exact ih7 5 4 _ _ _ (by omega) (by omega) (by omega) (by omega) (by omega) (by omega) hP hD hS (lv_sub hl [0, 1, 2] rfl)
          · have hl : lv_has ls 3 [(2, .int 4), (0, .ref h0), (1, .ref ve)] := hl
            have hP : va_P (xD g) vwCl [(h0, .inr (3, [.ref le, w1, w2, w3])), (le, .inl (xM g, 5, .inr (.inr (.inr (.inr (xOut5 l0 l1 l2 l3 l4)))))), (l0, .inl (xI g, 11, .inl g0)), (l1, .inl (xI g, 11, .inl g1)), (l2, .inl (xI g, 11, .inl g2)), (l3, .inl (xI g, 11, .inl g3)), (l4, .inl (xI g, 11, .inl g4)), (ve, .inr (6, [v0, v1, v2, .int (nI Wn), .int 2, v5, v6, v7, v8, v9, v10]))] H := hP
            have hD : va_D A [(h0, .inr (3, [.ref le, w1, w2, w3])), (le, .inl (xM g, 5, .inr (.inr (.inr (.inr (xOut5 l0 l1 l2 l3 l4)))))), (l0, .inl (xI g, 11, .inl g0)), (l1, .inl (xI g, 11, .inl g1)), (l2, .inl (xI g, 11, .inl g2)), (l3, .inl (xI g, 11, .inl g3)), (l4, .inl (xI g, 11, .inl g4)), (ve, .inr (6, [v0, v1, v2, .int (nI Wn), .int 2, v5, v6, v7, v8, v9, v10]))] := hD
            refine lv_aload_n hx hb dX3_chooseRangeCount_15 rfl (lv_at hl 1 rfl) ?_
            refine va_get (D := xD g) (ci := 3) (v := .ref le) (C := RX3) (T := TX3) (N := 4) hx hb hts hFX3 hown hK hP 0 rfl rfl 0 (by decide) (hts (.fieldLink RX3 11 "Stevedore$CraneWalk" "least" "[[I") (by decide +kernel)) (fun _ h9 => h9) rfl dX3_chooseRangeCount_16 ?_
            refine lv_iload_n hx hb dX3_chooseRangeCount_19 rfl (lv_at hl 0 rfl) ?_
            refine xAldM hx hb hK hP 1 3 rfl rfl (by unfold vp_in; decide) dX3_chooseRangeCount_20 ?_
            refine W.eq (g2 := F0 m 21 ls (.ref l4 :: [])) (by rfl) ?_
            refine lv_iconst (v := 0) hx hb dX3_chooseRangeCount_21 (by decide) ?_
            refine va_iald hx hb hK hP 6 0 rfl rfl (by unfold vp_in; decide) dX3_chooseRangeCount_22 ?_
            refine lv_topi (fun v_23 ev_23 => ?_)
            refine lv_aload_n hx hb dX3_chooseRangeCount_23 rfl (lv_at hl 1 rfl) ?_
            refine va_get (D := xD g) (ci := 3) (v := .ref le) (C := RX3) (T := TX3) (N := 4) hx hb hts hFX3 hown hK hP 0 rfl rfl 0 (by decide) (hts (.fieldLink RX3 11 "Stevedore$CraneWalk" "least" "[[I") (by decide +kernel)) (fun _ h9 => h9) rfl dX3_chooseRangeCount_24 ?_
            refine lv_aload_n hx hb dX3_chooseRangeCount_27 rfl (lv_at hl 2 rfl) ?_
            refine va_get (D := xD g) (ci := 6) (v := .int 2) (C := RX6) (T := TX6) (N := 11) hx hb hts hFX6 hown hK hP 7 rfl rfl 4 (by decide) (hts (.fieldLink RX3 67 "Stevedore$Vessel" "rangeCount" "I") (by decide +kernel)) (fun _ h9 => h9) rfl dX3_chooseRangeCount_28 ?_
            refine xAldM hx hb hK hP 1 3 rfl rfl (by unfold vp_in; decide) dX3_chooseRangeCount_31 ?_
            refine W.eq (g2 := F0 m 32 ls (.ref l2 :: .int v_23 :: [])) (by rfl) ?_
            refine lv_iconst (v := 0) hx hb dX3_chooseRangeCount_32 (by decide) ?_
            refine va_iald hx hb hK hP 4 0 rfl rfl (by unfold vp_in; decide) dX3_chooseRangeCount_33 ?_
            refine lv_topi (fun v_24 ev_24 => ?_)
            refine lv_icmp_ge (tgt := 42) hx hb dX3_chooseRangeCount_34 (by decide) (fun c_25 => ?_) (fun c_25 => ?_)
            · refine lv_iinc (v := 5) (lv' := [(2, .int 5), (0, .ref h0), (1, .ref ve)]) hx hb dX3_chooseRangeCount_42 hl (k := 0) rfl (by decide) (by decide) rfl (fun ls hl => ?_)
              refine lv_goto (tgt := 7) hx hb dX3_chooseRangeCount_45 (by decide) ?_
              exact ih7 5 2 _ _ _ (by omega) (by omega) (by omega) (by omega) (by omega) (by omega) hP hD hS (lv_sub hl [0, 1, 2] rfl)
            · refine lv_aload_n hx hb dX3_chooseRangeCount_37 rfl (lv_at hl 2 rfl) ?_
              refine lv_iload_n hx hb dX3_chooseRangeCount_38 rfl (lv_at hl 0 rfl) ?_
              refine va_put (D := xD g) (ci := 6) (v := .int 4) (ty := .int) (C := RX6) (T := TX6) (N := 11) hx hb hts hFX6 tyX6 tyX6_ok nmX6 hown hK hP hD hS 7 rfl rfl 4 (by decide) (hts (.fieldLink RX3 67 "Stevedore$Vessel" "rangeCount" "I") (by decide +kernel)) (fun _ h9 => h9) rfl (by decide +kernel) rfl rfl (Nat.le_of_ble_eq_true rfl) dX3_chooseRangeCount_39 (fun H locs hP hD hS => ?_)
              have hP : va_P (xD g) vwCl [(h0, .inr (3, [.ref le, w1, w2, w3])), (le, .inl (xM g, 5, .inr (.inr (.inr (.inr (xOut5 l0 l1 l2 l3 l4)))))), (l0, .inl (xI g, 11, .inl g0)), (l1, .inl (xI g, 11, .inl g1)), (l2, .inl (xI g, 11, .inl g2)), (l3, .inl (xI g, 11, .inl g3)), (l4, .inl (xI g, 11, .inl g4)), (ve, .inr (6, [v0, v1, v2, .int (nI Wn), .int 4, v5, v6, v7, v8, v9, v10]))] H := hP
              have hD : va_D A [(h0, .inr (3, [.ref le, w1, w2, w3])), (le, .inl (xM g, 5, .inr (.inr (.inr (.inr (xOut5 l0 l1 l2 l3 l4)))))), (l0, .inl (xI g, 11, .inl g0)), (l1, .inl (xI g, 11, .inl g1)), (l2, .inl (xI g, 11, .inl g2)), (l3, .inl (xI g, 11, .inl g3)), (l4, .inl (xI g, 11, .inl g4)), (ve, .inr (6, [v0, v1, v2, .int (nI Wn), .int 4, v5, v6, v7, v8, v9, v10]))] := hD
              refine lv_iinc (v := 5) (lv' := [(2, .int 5), (0, .ref h0), (1, .ref ve)]) hx hb dX3_chooseRangeCount_42 hl (k := 0) rfl (by decide) (by decide) rfl (fun ls hl => ?_)
              refine lv_goto (tgt := 7) hx hb dX3_chooseRangeCount_45 (by decide) ?_
              exact ih7 5 4 _ _ _ (by omega) (by omega) (by omega) (by omega) (by omega) (by omega) hP hD hS (lv_sub hl [0, 1, 2] rfl)
          · have hl : lv_has ls 3 [(2, .int 4), (0, .ref h0), (1, .ref ve)] := hl
            have hP : va_P (xD g) vwCl [(h0, .inr (3, [.ref le, w1, w2, w3])), (le, .inl (xM g, 5, .inr (.inr (.inr (.inr (xOut5 l0 l1 l2 l3 l4)))))), (l0, .inl (xI g, 11, .inl g0)), (l1, .inl (xI g, 11, .inl g1)), (l2, .inl (xI g, 11, .inl g2)), (l3, .inl (xI g, 11, .inl g3)), (l4, .inl (xI g, 11, .inl g4)), (ve, .inr (6, [v0, v1, v2, .int (nI Wn), .int 3, v5, v6, v7, v8, v9, v10]))] H := hP
            have hD : va_D A [(h0, .inr (3, [.ref le, w1, w2, w3])), (le, .inl (xM g, 5, .inr (.inr (.inr (.inr (xOut5 l0 l1 l2 l3 l4)))))), (l0, .inl (xI g, 11, .inl g0)), (l1, .inl (xI g, 11, .inl g1)), (l2, .inl (xI g, 11, .inl g2)), (l3, .inl (xI g, 11, .inl g3)), (l4, .inl (xI g, 11, .inl g4)), (ve, .inr (6, [v0, v1, v2, .int (nI Wn), .int 3, v5, v6, v7, v8, v9, v10]))] := hD
            refine lv_aload_n hx hb dX3_chooseRangeCount_15 rfl (lv_at hl 1 rfl) ?_
            refine va_get (D := xD g) (ci := 3) (v := .ref le) (C := RX3) (T := TX3) (N := 4) hx hb hts hFX3 hown hK hP 0 rfl rfl 0 (by decide) (hts (.fieldLink RX3 11 "Stevedore$CraneWalk" "least" "[[I") (by decide +kernel)) (fun _ h9 => h9) rfl dX3_chooseRangeCount_16 ?_
            refine lv_iload_n hx hb dX3_chooseRangeCount_19 rfl (lv_at hl 0 rfl) ?_
            refine xAldM hx hb hK hP 1 3 rfl rfl (by unfold vp_in; decide) dX3_chooseRangeCount_20 ?_
            refine W.eq (g2 := F0 m 21 ls (.ref l4 :: [])) (by rfl) ?_
            refine lv_iconst (v := 0) hx hb dX3_chooseRangeCount_21 (by decide) ?_
            refine va_iald hx hb hK hP 6 0 rfl rfl (by unfold vp_in; decide) dX3_chooseRangeCount_22 ?_
            refine lv_topi (fun v_26 ev_26 => ?_)
            refine lv_aload_n hx hb dX3_chooseRangeCount_23 rfl (lv_at hl 1 rfl) ?_
            refine va_get (D := xD g) (ci := 3) (v := .ref le) (C := RX3) (T := TX3) (N := 4) hx hb hts hFX3 hown hK hP 0 rfl rfl 0 (by decide) (hts (.fieldLink RX3 11 "Stevedore$CraneWalk" "least" "[[I") (by decide +kernel)) (fun _ h9 => h9) rfl dX3_chooseRangeCount_24 ?_
            refine lv_aload_n hx hb dX3_chooseRangeCount_27 rfl (lv_at hl 2 rfl) ?_
            refine va_get (D := xD g) (ci := 6) (v := .int 3) (C := RX6) (T := TX6) (N := 11) hx hb hts hFX6 hown hK hP 7 rfl rfl 4 (by decide) (hts (.fieldLink RX3 67 "Stevedore$Vessel" "rangeCount" "I") (by decide +kernel)) (fun _ h9 => h9) rfl dX3_chooseRangeCount_28 ?_
            refine xAldM hx hb hK hP 1 3 rfl rfl (by unfold vp_in; decide) dX3_chooseRangeCount_31 ?_
            refine W.eq (g2 := F0 m 32 ls (.ref l3 :: .int v_26 :: [])) (by rfl) ?_
            refine lv_iconst (v := 0) hx hb dX3_chooseRangeCount_32 (by decide) ?_
            refine va_iald hx hb hK hP 5 0 rfl rfl (by unfold vp_in; decide) dX3_chooseRangeCount_33 ?_
            refine lv_topi (fun v_27 ev_27 => ?_)
            refine lv_icmp_ge (tgt := 42) hx hb dX3_chooseRangeCount_34 (by decide) (fun c_28 => ?_) (fun c_28 => ?_)
            · refine lv_iinc (v := 5) (lv' := [(2, .int 5), (0, .ref h0), (1, .ref ve)]) hx hb dX3_chooseRangeCount_42 hl (k := 0) rfl (by decide) (by decide) rfl (fun ls hl => ?_)
              refine lv_goto (tgt := 7) hx hb dX3_chooseRangeCount_45 (by decide) ?_
              exact ih7 5 3 _ _ _ (by omega) (by omega) (by omega) (by omega) (by omega) (by omega) hP hD hS (lv_sub hl [0, 1, 2] rfl)
            · refine lv_aload_n hx hb dX3_chooseRangeCount_37 rfl (lv_at hl 2 rfl) ?_
              refine lv_iload_n hx hb dX3_chooseRangeCount_38 rfl (lv_at hl 0 rfl) ?_
              refine va_put (D := xD g) (ci := 6) (v := .int 4) (ty := .int) (C := RX6) (T := TX6) (N := 11) hx hb hts hFX6 tyX6 tyX6_ok nmX6 hown hK hP hD hS 7 rfl rfl 4 (by decide) (hts (.fieldLink RX3 67 "Stevedore$Vessel" "rangeCount" "I") (by decide +kernel)) (fun _ h9 => h9) rfl (by decide +kernel) rfl rfl (Nat.le_of_ble_eq_true rfl) dX3_chooseRangeCount_39 (fun H locs hP hD hS => ?_)
              have hP : va_P (xD g) vwCl [(h0, .inr (3, [.ref le, w1, w2, w3])), (le, .inl (xM g, 5, .inr (.inr (.inr (.inr (xOut5 l0 l1 l2 l3 l4)))))), (l0, .inl (xI g, 11, .inl g0)), (l1, .inl (xI g, 11, .inl g1)), (l2, .inl (xI g, 11, .inl g2)), (l3, .inl (xI g, 11, .inl g3)), (l4, .inl (xI g, 11, .inl g4)), (ve, .inr (6, [v0, v1, v2, .int (nI Wn), .int 4, v5, v6, v7, v8, v9, v10]))] H := hP
              have hD : va_D A [(h0, .inr (3, [.ref le, w1, w2, w3])), (le, .inl (xM g, 5, .inr (.inr (.inr (.inr (xOut5 l0 l1 l2 l3 l4)))))), (l0, .inl (xI g, 11, .inl g0)), (l1, .inl (xI g, 11, .inl g1)), (l2, .inl (xI g, 11, .inl g2)), (l3, .inl (xI g, 11, .inl g3)), (l4, .inl (xI g, 11, .inl g4)), (ve, .inr (6, [v0, v1, v2, .int (nI Wn), .int 4, v5, v6, v7, v8, v9, v10]))] := hD
              refine lv_iinc (v := 5) (lv' := [(2, .int 5), (0, .ref h0), (1, .ref ve)]) hx hb dX3_chooseRangeCount_42 hl (k := 0) rfl (by decide) (by decide) rfl (fun ls hl => ?_)
              refine lv_goto (tgt := 7) hx hb dX3_chooseRangeCount_45 (by decide) ?_
              exact ih7 5 4 _ _ _ (by omega) (by omega) (by omega) (by omega) (by omega) (by omega) hP hD hS (lv_sub hl [0, 1, 2] rfl)
  exact hloop7 (6) 2 1 _ _ _ (by omega) (by omega) (by omega) (by omega) (by omega) (by omega) hP hD hS (lv_sub hl [0, 1, 2] rfl)
theorem dX3_endOfShortest_0 : decode cX3_endOfShortest 0 = .ok (.iload_n 2, 1) := by decide +kernel
theorem dX3_endOfShortest_1 : decode cX3_endOfShortest 1 = .ok (.iconst 1, 1) := by decide +kernel
theorem dX3_endOfShortest_2 : decode cX3_endOfShortest 2 = .ok (.iadd, 1) := by decide +kernel
theorem dX3_endOfShortest_3 : decode cX3_endOfShortest 3 = .ok (.istore 4, 2) := by decide +kernel
theorem dX3_endOfShortest_5 : decode cX3_endOfShortest 5 = .ok (.iload 4, 2) := by decide +kernel
theorem dX3_endOfShortest_7 : decode cX3_endOfShortest 7 = .ok (.aload_n 1, 1) := by decide +kernel
theorem dX3_endOfShortest_8 : decode cX3_endOfShortest 8 = .ok (.getfield 40, 3) := by decide +kernel
theorem dX3_endOfShortest_11 : decode cX3_endOfShortest 11 = .ok (.if_icmp .ge 28, 3) := by decide +kernel
theorem dX3_endOfShortest_39 : decode cX3_endOfShortest 39 = .ok (.aload_n 1, 1) := by decide +kernel
theorem dX3_endOfShortest_40 : decode cX3_endOfShortest 40 = .ok (.getfield 40, 3) := by decide +kernel
theorem dX3_endOfShortest_43 : decode cX3_endOfShortest 43 = .ok (.ireturn, 1) := by decide +kernel
theorem dX3_endOfShortest_14 : decode cX3_endOfShortest 14 = .ok (.aload_n 0, 1) := by decide +kernel
theorem dX3_endOfShortest_15 : decode cX3_endOfShortest 15 = .ok (.getfield 11, 3) := by decide +kernel
theorem dX3_endOfShortest_18 : decode cX3_endOfShortest 18 = .ok (.iload_n 3, 1) := by decide +kernel
theorem dX3_endOfShortest_19 : decode cX3_endOfShortest 19 = .ok (.aaload, 1) := by decide +kernel
theorem dX3_endOfShortest_20 : decode cX3_endOfShortest 20 = .ok (.iload 4, 2) := by decide +kernel
theorem dX3_endOfShortest_22 : decode cX3_endOfShortest 22 = .ok (.iaload, 1) := by decide +kernel
theorem dX3_endOfShortest_23 : decode cX3_endOfShortest 23 = .ok (.aload_n 1, 1) := by decide +kernel
theorem dX3_endOfShortest_24 : decode cX3_endOfShortest 24 = .ok (.getfield 70, 3) := by decide +kernel
theorem dX3_endOfShortest_27 : decode cX3_endOfShortest 27 = .ok (.if_icmp .gt 6, 3) := by decide +kernel
theorem dX3_endOfShortest_33 : decode cX3_endOfShortest 33 = .ok (.iinc 4 1, 3) := by decide +kernel
theorem dX3_endOfShortest_36 : decode cX3_endOfShortest 36 = .ok (.goto (-31), 3) := by decide +kernel
theorem dX3_endOfShortest_30 : decode cX3_endOfShortest 30 = .ok (.iload 4, 2) := by decide +kernel
theorem dX3_endOfShortest_32 : decode cX3_endOfShortest 32 = .ok (.ireturn, 1) := by decide +kernel
set_option maxHeartbeats 4000000 in
set_option maxRecDepth 100000 in
theorem s_endOfShortest (l : Launch) (g : xG) (sz : Nat) (h0 : Nat) (le : Nat) (l0 : Nat) (l1 : Nat) (l2 : Nat) (l3 : Nat) (l4 : Nat) (ve : Nat) (Nb : Nat) (F : Nat) (x : Nat) (gl : Int32) (w1 : Value) (w2 : Value) (w3 : Value) (v0 : Value) (v2 : Value) (v3 : Value) (v4 : Value) (v6 : Value) (v7 : Value) (v8 : Value) (v9 : Value) (v10 : Value) (g0 : Nat → Int32) (g1 : Nat → Int32) (g2 : Nat → Int32) (g3 : Nat → Int32) (g4 : Nat → Int32)  (hB : Nb ≤ 10) (hF : F ≤ 10) (hx4 : x ≤ 4) : Met l yX3_endOfShortest wsX3_endOfShortest ({ frames := 0, cells := 0, slots := 0, locals := 0 }) (va_Pc [.ref h0, .ref ve, .int (nI F), .int (nI x)] (fun U => xB g [(h0, .inr (3, [.ref le, w1, w2, w3])), (le, .inl (xM g, 5, .inr (.inr (.inr (.inr (xOut5 l0 l1 l2 l3 l4)))))), (l0, .inl (xI g, 11, .inl g0)), (l1, .inl (xI g, 11, .inl g1)), (l2, .inl (xI g, 11, .inl g2)), (l3, .inl (xI g, 11, .inl g3)), (l4, .inl (xI g, 11, .inl g4)), (ve, .inr (6, [v0, .int (nI Nb), v2, v3, v4, .int gl, v6, v7, v8, v9, v10]))] sz U)) (va_Qi (fun (r : Int32) (u : Unit) => ∃ E : Nat, E ≤ 10 ∧ r = nI E) (fun _ _ => True) (va_A [] sz)) 0 0 (va_A [] sz) := by
  refine Met.ofW (cc := cX3_endOfShortest) (maxL := 5) (ret := (some .int)) (by decide) rfl ?_
  intro p e s m args below meth c s₁ B hml hv
  obtain ⟨rfl, ⟨hsz, hP, hK, hD0⟩⟩ := hv
  have hx := B.exec
  have hb := B.bytes
  have hr := B.returns
  have hts := atoms_spec (ws := wsX3_endOfShortest) B.pre
  have hown : s.vm.findClass RX3 = some m.cls := findClass_of_methodNamed B.named
  have hlocks := B.notSynchronized
  subst hsz
  have hD := hD0
  generalize hAe : va_A [] s.heap.size = A
  have hA : ∀ q : Nat, s.heap.size ≤ q → A q := fun q h => by rw [← hAe]; exact Or.inr h
  have hS : va_S A s.heap s.heap [] := va_S.rf
  have hl := lv_entry ([.ref h0, .ref ve, .int (nI F), .int (nI x)]) (n := 5) (Nat.le_of_ble_eq_true rfl)
  rw [lg_entry_eq]
  generalize (lg_sl ([.ref h0, .ref ve, .int (nI F), .int (nI x)]) ++ List.replicate (5 - (lg_sl ([.ref h0, .ref ve, .int (nI F), .int (nI x)])).length) Slot.unset).toArray = ls at hl ⊢
  have hl : lv_has ls 5 [(0, .ref h0), (1, .ref ve), (2, .int (nI F)), (3, .int (nI x))] := hl
  have hFX3 : ∀ w ∈ u_ws RX3 TX3 4, w ∈ wsX3_endOfShortest := by decide +kernel
  have hFX6 : ∀ w ∈ u_ws RX6 TX6 11, w ∈ wsX3_endOfShortest := by decide +kernel
  have hs_1 : x = 0 ∨ x = 1 ∨ x = 2 ∨ x = 3 ∨ x = 4 := by omega
  rcases hs_1 with rfl | rfl | rfl | rfl | rfl
  · have hl : lv_has ls 5 [(0, .ref h0), (1, .ref ve), (2, .int (nI F)), (3, .int 0)] := hl
    refine lv_iload_n hx hb dX3_endOfShortest_0 rfl (lv_at hl 2 rfl) ?_
    refine lv_iconst (v := 1) hx hb dX3_endOfShortest_1 (by decide) ?_
    refine lv_iadd hx hb dX3_endOfShortest_2 ?_
    refine lv_topi (fun v_2 ev => ?_)
    obtain rfl : v_2 = nI (F + 1) := ev.trans (nI_1 F)
    refine lv_istore (lv' := [(4, .int (nI (F + 1))), (0, .ref h0), (1, .ref ve), (2, .int (nI F)), (3, .int 0)]) hx hb dX3_endOfShortest_3 hl (by decide) rfl (fun ls hl => ?_)
    have hloop5 : ∀ (n9 : Nat) (e9 : Nat) (H : Heap) (locs : List Loc) (ls : Array Slot), 12 - e9 < n9 → (e9 ≤ 11) → va_P (xD g) vwCl [(h0, .inr (3, [.ref le, w1, w2, w3])), (le, .inl (xM g, 5, .inr (.inr (.inr (.inr (xOut5 l0 l1 l2 l3 l4)))))), (l0, .inl (xI g, 11, .inl g0)), (l1, .inl (xI g, 11, .inl g1)), (l2, .inl (xI g, 11, .inl g2)), (l3, .inl (xI g, 11, .inl g3)), (l4, .inl (xI g, 11, .inl g4)), (ve, .inr (6, [v0, .int (nI Nb), v2, v3, v4, .int gl, v6, v7, v8, v9, v10]))] H → va_D (fun _ => True) [(h0, .inr (3, [.ref le, w1, w2, w3])), (le, .inl (xM g, 5, .inr (.inr (.inr (.inr (xOut5 l0 l1 l2 l3 l4)))))), (l0, .inl (xI g, 11, .inl g0)), (l1, .inl (xI g, 11, .inl g1)), (l2, .inl (xI g, 11, .inl g2)), (l3, .inl (xI g, 11, .inl g3)), (l4, .inl (xI g, 11, .inl g4)), (ve, .inr (6, [v0, .int (nI Nb), v2, v3, v4, .int gl, v6, v7, v8, v9, v10]))] → va_S A s.heap H locs → lv_has ls 5 [(4, .int (nI e9)), (0, .ref h0), (1, .ref ve), (3, .int 0)] → W p l e (headSpec wsX3_endOfShortest ({ frames := 0, cells := 0, slots := 0, locals := 0 })).room s m ([.ref h0, .ref ve, .int (nI F), .int (nI 0)] : List Value).toArray below meth c H locs 0 0 (MQ below (va_Qi (fun (r : Int32) (u : Unit) => ∃ E : Nat, E ≤ 10 ∧ r = nI E) (fun _ _ => True) A) ([.ref h0, .ref ve, .int (nI F), .int (nI 0)] : List Value).toArray s 0 0 A) (F0 m 5 ls []) := by
      intro n9
      induction n9 with
      | zero =>
        intro e9 H locs ls hm hi1 hP hD hS hl
        exact absurd hm (Nat.not_lt_zero _)
      | succ n9 ih5 =>
        intro e9 H locs ls hm hi1 hP hD hS hl
        refine lv_iload hx hb dX3_endOfShortest_5 (lv_at hl 0 rfl) ?_
        refine lv_aload_n hx hb dX3_endOfShortest_7 rfl (lv_at hl 2 rfl) ?_
        refine va_get (D := xD g) (ci := 6) (v := .int (nI Nb)) (C := RX6) (T := TX6) (N := 11) hx hb hts hFX6 hown hK hP 7 rfl rfl 1 (by decide) (hts (.fieldLink RX3 40 "Stevedore$Vessel" "bays" "I") (by decide +kernel)) (fun _ h9 => h9) rfl dX3_endOfShortest_8 ?_
        refine lv_icmp_ge (tgt := 39) hx hb dX3_endOfShortest_11 (by decide) (fun c_3 => ?_) (fun c_3 => ?_)
        · have nc_3 := (nI_leI (a := Nb) (b := e9) (by omega) (by omega)).mp c_3
          refine lv_aload_n hx hb dX3_endOfShortest_39 rfl (lv_at hl 2 rfl) ?_
          refine va_get (D := xD g) (ci := 6) (v := .int (nI Nb)) (C := RX6) (T := TX6) (N := 11) hx hb hts hFX6 hown hK hP 7 rfl rfl 1 (by decide) (hts (.fieldLink RX3 40 "Stevedore$Vessel" "bays" "I") (by decide +kernel)) (fun _ h9 => h9) rfl dX3_endOfShortest_40 ?_
          exact W.iret (v := nI Nb) hx hb hr (fun t ht hW => ⟨⟨nI Nb, (), rfl, ⟨Nb, by omega, rfl⟩, trivial⟩, hS.F ht⟩) hS.2.2 dX3_endOfShortest_43
        · have nc_3 := mt (nI_leI (a := Nb) (b := e9) (by omega) (by omega)).mpr c_3
          refine lv_aload_n hx hb dX3_endOfShortest_14 rfl (lv_at hl 1 rfl) ?_
          refine va_get (D := xD g) (ci := 3) (v := .ref le) (C := RX3) (T := TX3) (N := 4) hx hb hts hFX3 hown hK hP 0 rfl rfl 0 (by decide) (hts (.fieldLink RX3 11 "Stevedore$CraneWalk" "least" "[[I") (by decide +kernel)) (fun _ h9 => h9) rfl dX3_endOfShortest_15 ?_
          refine lv_iload_n hx hb dX3_endOfShortest_18 rfl (lv_at hl 3 rfl) ?_
          refine xAldM hx hb hK hP 1 3 rfl rfl (by unfold vp_in; decide) dX3_endOfShortest_19 ?_
          refine W.eq (g2 := F0 m 20 ls (.ref l0 :: [])) (by rfl) ?_
          refine lv_iload hx hb dX3_endOfShortest_20 (lv_at hl 0 rfl) ?_
          refine va_iald hx hb hK hP 2 0 rfl rfl (vp_in_nI (by omega) (by omega)) dX3_endOfShortest_22 ?_
          refine lv_topi (fun v_4 ev_4 => ?_)
          refine lv_aload_n hx hb dX3_endOfShortest_23 rfl (lv_at hl 2 rfl) ?_
          refine va_get (D := xD g) (ci := 6) (v := .int gl) (C := RX6) (T := TX6) (N := 11) hx hb hts hFX6 hown hK hP 7 rfl rfl 5 (by decide) (hts (.fieldLink RX3 70 "Stevedore$Vessel" "greatestLoad" "I") (by decide +kernel)) (fun _ h9 => h9) rfl dX3_endOfShortest_24 ?_
          refine lv_icmp_gt (tgt := 33) hx hb dX3_endOfShortest_27 (by decide) (fun c_5 => ?_) (fun c_5 => ?_)
          · refine lv_iinc (v := nI (e9 + 1)) (lv' := [(4, .int (nI (e9 + 1))), (0, .ref h0), (1, .ref ve), (3, .int 0)]) hx hb dX3_endOfShortest_33 hl (k := 0) rfl (nI_1 e9) (by decide) rfl (fun ls hl => ?_)
            refine lv_goto (tgt := 5) hx hb dX3_endOfShortest_36 (by decide) ?_
            exact ih5 (e9 + 1) _ _ _ (by omega) (by omega) hP hD hS (lv_sub hl [0, 1, 2, 3] rfl)
          · refine lv_iload hx hb dX3_endOfShortest_30 (lv_at hl 0 rfl) ?_
            exact W.iret (v := nI e9) hx hb hr (fun t ht hW => ⟨⟨nI e9, (), rfl, ⟨e9, by omega, rfl⟩, trivial⟩, hS.F ht⟩) hS.2.2 dX3_endOfShortest_32
    exact hloop5 (13) (F + 1) _ _ _ (by omega) (by omega) hP hD hS (lv_sub hl [0, 1, 2, 4] rfl)
  · have hl : lv_has ls 5 [(0, .ref h0), (1, .ref ve), (2, .int (nI F)), (3, .int 1)] := hl
    refine lv_iload_n hx hb dX3_endOfShortest_0 rfl (lv_at hl 2 rfl) ?_
    refine lv_iconst (v := 1) hx hb dX3_endOfShortest_1 (by decide) ?_
    refine lv_iadd hx hb dX3_endOfShortest_2 ?_
    refine lv_topi (fun v_6 ev => ?_)
    obtain rfl : v_6 = nI (F + 1) := ev.trans (nI_1 F)
    refine lv_istore (lv' := [(4, .int (nI (F + 1))), (0, .ref h0), (1, .ref ve), (2, .int (nI F)), (3, .int 1)]) hx hb dX3_endOfShortest_3 hl (by decide) rfl (fun ls hl => ?_)
    have hloop5 : ∀ (n9 : Nat) (e9 : Nat) (H : Heap) (locs : List Loc) (ls : Array Slot), 12 - e9 < n9 → (e9 ≤ 11) → va_P (xD g) vwCl [(h0, .inr (3, [.ref le, w1, w2, w3])), (le, .inl (xM g, 5, .inr (.inr (.inr (.inr (xOut5 l0 l1 l2 l3 l4)))))), (l0, .inl (xI g, 11, .inl g0)), (l1, .inl (xI g, 11, .inl g1)), (l2, .inl (xI g, 11, .inl g2)), (l3, .inl (xI g, 11, .inl g3)), (l4, .inl (xI g, 11, .inl g4)), (ve, .inr (6, [v0, .int (nI Nb), v2, v3, v4, .int gl, v6, v7, v8, v9, v10]))] H → va_D (fun _ => True) [(h0, .inr (3, [.ref le, w1, w2, w3])), (le, .inl (xM g, 5, .inr (.inr (.inr (.inr (xOut5 l0 l1 l2 l3 l4)))))), (l0, .inl (xI g, 11, .inl g0)), (l1, .inl (xI g, 11, .inl g1)), (l2, .inl (xI g, 11, .inl g2)), (l3, .inl (xI g, 11, .inl g3)), (l4, .inl (xI g, 11, .inl g4)), (ve, .inr (6, [v0, .int (nI Nb), v2, v3, v4, .int gl, v6, v7, v8, v9, v10]))] → va_S A s.heap H locs → lv_has ls 5 [(4, .int (nI e9)), (0, .ref h0), (1, .ref ve), (3, .int 1)] → W p l e (headSpec wsX3_endOfShortest ({ frames := 0, cells := 0, slots := 0, locals := 0 })).room s m ([.ref h0, .ref ve, .int (nI F), .int (nI 1)] : List Value).toArray below meth c H locs 0 0 (MQ below (va_Qi (fun (r : Int32) (u : Unit) => ∃ E : Nat, E ≤ 10 ∧ r = nI E) (fun _ _ => True) A) ([.ref h0, .ref ve, .int (nI F), .int (nI 1)] : List Value).toArray s 0 0 A) (F0 m 5 ls []) := by
      intro n9
      induction n9 with
      | zero =>
        intro e9 H locs ls hm hi1 hP hD hS hl
        exact absurd hm (Nat.not_lt_zero _)
      | succ n9 ih5 =>
        intro e9 H locs ls hm hi1 hP hD hS hl
        refine lv_iload hx hb dX3_endOfShortest_5 (lv_at hl 0 rfl) ?_
        refine lv_aload_n hx hb dX3_endOfShortest_7 rfl (lv_at hl 2 rfl) ?_
        refine va_get (D := xD g) (ci := 6) (v := .int (nI Nb)) (C := RX6) (T := TX6) (N := 11) hx hb hts hFX6 hown hK hP 7 rfl rfl 1 (by decide) (hts (.fieldLink RX3 40 "Stevedore$Vessel" "bays" "I") (by decide +kernel)) (fun _ h9 => h9) rfl dX3_endOfShortest_8 ?_
        refine lv_icmp_ge (tgt := 39) hx hb dX3_endOfShortest_11 (by decide) (fun c_7 => ?_) (fun c_7 => ?_)
        · have nc_7 := (nI_leI (a := Nb) (b := e9) (by omega) (by omega)).mp c_7
          refine lv_aload_n hx hb dX3_endOfShortest_39 rfl (lv_at hl 2 rfl) ?_
          refine va_get (D := xD g) (ci := 6) (v := .int (nI Nb)) (C := RX6) (T := TX6) (N := 11) hx hb hts hFX6 hown hK hP 7 rfl rfl 1 (by decide) (hts (.fieldLink RX3 40 "Stevedore$Vessel" "bays" "I") (by decide +kernel)) (fun _ h9 => h9) rfl dX3_endOfShortest_40 ?_
          exact W.iret (v := nI Nb) hx hb hr (fun t ht hW => ⟨⟨nI Nb, (), rfl, ⟨Nb, by omega, rfl⟩, trivial⟩, hS.F ht⟩) hS.2.2 dX3_endOfShortest_43
        · have nc_7 := mt (nI_leI (a := Nb) (b := e9) (by omega) (by omega)).mpr c_7
          refine lv_aload_n hx hb dX3_endOfShortest_14 rfl (lv_at hl 1 rfl) ?_
          refine va_get (D := xD g) (ci := 3) (v := .ref le) (C := RX3) (T := TX3) (N := 4) hx hb hts hFX3 hown hK hP 0 rfl rfl 0 (by decide) (hts (.fieldLink RX3 11 "Stevedore$CraneWalk" "least" "[[I") (by decide +kernel)) (fun _ h9 => h9) rfl dX3_endOfShortest_15 ?_
          refine lv_iload_n hx hb dX3_endOfShortest_18 rfl (lv_at hl 3 rfl) ?_
          refine xAldM hx hb hK hP 1 3 rfl rfl (by unfold vp_in; decide) dX3_endOfShortest_19 ?_
          refine W.eq (g2 := F0 m 20 ls (.ref l1 :: [])) (by rfl) ?_
          refine lv_iload hx hb dX3_endOfShortest_20 (lv_at hl 0 rfl) ?_
          refine va_iald hx hb hK hP 3 0 rfl rfl (vp_in_nI (by omega) (by omega)) dX3_endOfShortest_22 ?_
          refine lv_topi (fun v_8 ev_8 => ?_)
          refine lv_aload_n hx hb dX3_endOfShortest_23 rfl (lv_at hl 2 rfl) ?_
          refine va_get (D := xD g) (ci := 6) (v := .int gl) (C := RX6) (T := TX6) (N := 11) hx hb hts hFX6 hown hK hP 7 rfl rfl 5 (by decide) (hts (.fieldLink RX3 70 "Stevedore$Vessel" "greatestLoad" "I") (by decide +kernel)) (fun _ h9 => h9) rfl dX3_endOfShortest_24 ?_
          refine lv_icmp_gt (tgt := 33) hx hb dX3_endOfShortest_27 (by decide) (fun c_9 => ?_) (fun c_9 => ?_)
          · refine lv_iinc (v := nI (e9 + 1)) (lv' := [(4, .int (nI (e9 + 1))), (0, .ref h0), (1, .ref ve), (3, .int 1)]) hx hb dX3_endOfShortest_33 hl (k := 0) rfl (nI_1 e9) (by decide) rfl (fun ls hl => ?_)
            refine lv_goto (tgt := 5) hx hb dX3_endOfShortest_36 (by decide) ?_
            exact ih5 (e9 + 1) _ _ _ (by omega) (by omega) hP hD hS (lv_sub hl [0, 1, 2, 3] rfl)
          · refine lv_iload hx hb dX3_endOfShortest_30 (lv_at hl 0 rfl) ?_
            exact W.iret (v := nI e9) hx hb hr (fun t ht hW => ⟨⟨nI e9, (), rfl, ⟨e9, by omega, rfl⟩, trivial⟩, hS.F ht⟩) hS.2.2 dX3_endOfShortest_32
    exact hloop5 (13) (F + 1) _ _ _ (by omega) (by omega) hP hD hS (lv_sub hl [0, 1, 2, 4] rfl)
  · have hl : lv_has ls 5 [(0, .ref h0), (1, .ref ve), (2, .int (nI F)), (3, .int 2)] := hl
    refine lv_iload_n hx hb dX3_endOfShortest_0 rfl (lv_at hl 2 rfl) ?_
    refine lv_iconst (v := 1) hx hb dX3_endOfShortest_1 (by decide) ?_
    refine lv_iadd hx hb dX3_endOfShortest_2 ?_
    refine lv_topi (fun v_10 ev => ?_)
    obtain rfl : v_10 = nI (F + 1) := ev.trans (nI_1 F)
    refine lv_istore (lv' := [(4, .int (nI (F + 1))), (0, .ref h0), (1, .ref ve), (2, .int (nI F)), (3, .int 2)]) hx hb dX3_endOfShortest_3 hl (by decide) rfl (fun ls hl => ?_)
    have hloop5 : ∀ (n9 : Nat) (e9 : Nat) (H : Heap) (locs : List Loc) (ls : Array Slot), 12 - e9 < n9 → (e9 ≤ 11) → va_P (xD g) vwCl [(h0, .inr (3, [.ref le, w1, w2, w3])), (le, .inl (xM g, 5, .inr (.inr (.inr (.inr (xOut5 l0 l1 l2 l3 l4)))))), (l0, .inl (xI g, 11, .inl g0)), (l1, .inl (xI g, 11, .inl g1)), (l2, .inl (xI g, 11, .inl g2)), (l3, .inl (xI g, 11, .inl g3)), (l4, .inl (xI g, 11, .inl g4)), (ve, .inr (6, [v0, .int (nI Nb), v2, v3, v4, .int gl, v6, v7, v8, v9, v10]))] H → va_D (fun _ => True) [(h0, .inr (3, [.ref le, w1, w2, w3])), (le, .inl (xM g, 5, .inr (.inr (.inr (.inr (xOut5 l0 l1 l2 l3 l4)))))), (l0, .inl (xI g, 11, .inl g0)), (l1, .inl (xI g, 11, .inl g1)), (l2, .inl (xI g, 11, .inl g2)), (l3, .inl (xI g, 11, .inl g3)), (l4, .inl (xI g, 11, .inl g4)), (ve, .inr (6, [v0, .int (nI Nb), v2, v3, v4, .int gl, v6, v7, v8, v9, v10]))] → va_S A s.heap H locs → lv_has ls 5 [(4, .int (nI e9)), (0, .ref h0), (1, .ref ve), (3, .int 2)] → W p l e (headSpec wsX3_endOfShortest ({ frames := 0, cells := 0, slots := 0, locals := 0 })).room s m ([.ref h0, .ref ve, .int (nI F), .int (nI 2)] : List Value).toArray below meth c H locs 0 0 (MQ below (va_Qi (fun (r : Int32) (u : Unit) => ∃ E : Nat, E ≤ 10 ∧ r = nI E) (fun _ _ => True) A) ([.ref h0, .ref ve, .int (nI F), .int (nI 2)] : List Value).toArray s 0 0 A) (F0 m 5 ls []) := by
      intro n9
      induction n9 with
      | zero =>
        intro e9 H locs ls hm hi1 hP hD hS hl
        exact absurd hm (Nat.not_lt_zero _)
      | succ n9 ih5 =>
        intro e9 H locs ls hm hi1 hP hD hS hl
        refine lv_iload hx hb dX3_endOfShortest_5 (lv_at hl 0 rfl) ?_
        refine lv_aload_n hx hb dX3_endOfShortest_7 rfl (lv_at hl 2 rfl) ?_
        refine va_get (D := xD g) (ci := 6) (v := .int (nI Nb)) (C := RX6) (T := TX6) (N := 11) hx hb hts hFX6 hown hK hP 7 rfl rfl 1 (by decide) (hts (.fieldLink RX3 40 "Stevedore$Vessel" "bays" "I") (by decide +kernel)) (fun _ h9 => h9) rfl dX3_endOfShortest_8 ?_
        refine lv_icmp_ge (tgt := 39) hx hb dX3_endOfShortest_11 (by decide) (fun c_11 => ?_) (fun c_11 => ?_)
        · have nc_11 := (nI_leI (a := Nb) (b := e9) (by omega) (by omega)).mp c_11
          refine lv_aload_n hx hb dX3_endOfShortest_39 rfl (lv_at hl 2 rfl) ?_
          refine va_get (D := xD g) (ci := 6) (v := .int (nI Nb)) (C := RX6) (T := TX6) (N := 11) hx hb hts hFX6 hown hK hP 7 rfl rfl 1 (by decide) (hts (.fieldLink RX3 40 "Stevedore$Vessel" "bays" "I") (by decide +kernel)) (fun _ h9 => h9) rfl dX3_endOfShortest_40 ?_
          exact W.iret (v := nI Nb) hx hb hr (fun t ht hW => ⟨⟨nI Nb, (), rfl, ⟨Nb, by omega, rfl⟩, trivial⟩, hS.F ht⟩) hS.2.2 dX3_endOfShortest_43
        · have nc_11 := mt (nI_leI (a := Nb) (b := e9) (by omega) (by omega)).mpr c_11
          refine lv_aload_n hx hb dX3_endOfShortest_14 rfl (lv_at hl 1 rfl) ?_
          refine va_get (D := xD g) (ci := 3) (v := .ref le) (C := RX3) (T := TX3) (N := 4) hx hb hts hFX3 hown hK hP 0 rfl rfl 0 (by decide) (hts (.fieldLink RX3 11 "Stevedore$CraneWalk" "least" "[[I") (by decide +kernel)) (fun _ h9 => h9) rfl dX3_endOfShortest_15 ?_
          refine lv_iload_n hx hb dX3_endOfShortest_18 rfl (lv_at hl 3 rfl) ?_
          refine xAldM hx hb hK hP 1 3 rfl rfl (by unfold vp_in; decide) dX3_endOfShortest_19 ?_
          refine W.eq (g2 := F0 m 20 ls (.ref l2 :: [])) (by rfl) ?_
          refine lv_iload hx hb dX3_endOfShortest_20 (lv_at hl 0 rfl) ?_
          refine va_iald hx hb hK hP 4 0 rfl rfl (vp_in_nI (by omega) (by omega)) dX3_endOfShortest_22 ?_
          refine lv_topi (fun v_12 ev_12 => ?_)
          refine lv_aload_n hx hb dX3_endOfShortest_23 rfl (lv_at hl 2 rfl) ?_
          refine va_get (D := xD g) (ci := 6) (v := .int gl) (C := RX6) (T := TX6) (N := 11) hx hb hts hFX6 hown hK hP 7 rfl rfl 5 (by decide) (hts (.fieldLink RX3 70 "Stevedore$Vessel" "greatestLoad" "I") (by decide +kernel)) (fun _ h9 => h9) rfl dX3_endOfShortest_24 ?_
          refine lv_icmp_gt (tgt := 33) hx hb dX3_endOfShortest_27 (by decide) (fun c_13 => ?_) (fun c_13 => ?_)
          · refine lv_iinc (v := nI (e9 + 1)) (lv' := [(4, .int (nI (e9 + 1))), (0, .ref h0), (1, .ref ve), (3, .int 2)]) hx hb dX3_endOfShortest_33 hl (k := 0) rfl (nI_1 e9) (by decide) rfl (fun ls hl => ?_)
            refine lv_goto (tgt := 5) hx hb dX3_endOfShortest_36 (by decide) ?_
            exact ih5 (e9 + 1) _ _ _ (by omega) (by omega) hP hD hS (lv_sub hl [0, 1, 2, 3] rfl)
          · refine lv_iload hx hb dX3_endOfShortest_30 (lv_at hl 0 rfl) ?_
            exact W.iret (v := nI e9) hx hb hr (fun t ht hW => ⟨⟨nI e9, (), rfl, ⟨e9, by omega, rfl⟩, trivial⟩, hS.F ht⟩) hS.2.2 dX3_endOfShortest_32
    exact hloop5 (13) (F + 1) _ _ _ (by omega) (by omega) hP hD hS (lv_sub hl [0, 1, 2, 4] rfl)
  · have hl : lv_has ls 5 [(0, .ref h0), (1, .ref ve), (2, .int (nI F)), (3, .int 3)] := hl
    refine lv_iload_n hx hb dX3_endOfShortest_0 rfl (lv_at hl 2 rfl) ?_
    refine lv_iconst (v := 1) hx hb dX3_endOfShortest_1 (by decide) ?_
    refine lv_iadd hx hb dX3_endOfShortest_2 ?_
    refine lv_topi (fun v_14 ev => ?_)
    obtain rfl : v_14 = nI (F + 1) := ev.trans (nI_1 F)
    refine lv_istore (lv' := [(4, .int (nI (F + 1))), (0, .ref h0), (1, .ref ve), (2, .int (nI F)), (3, .int 3)]) hx hb dX3_endOfShortest_3 hl (by decide) rfl (fun ls hl => ?_)
    have hloop5 : ∀ (n9 : Nat) (e9 : Nat) (H : Heap) (locs : List Loc) (ls : Array Slot), 12 - e9 < n9 → (e9 ≤ 11) → va_P (xD g) vwCl [(h0, .inr (3, [.ref le, w1, w2, w3])), (le, .inl (xM g, 5, .inr (.inr (.inr (.inr (xOut5 l0 l1 l2 l3 l4)))))), (l0, .inl (xI g, 11, .inl g0)), (l1, .inl (xI g, 11, .inl g1)), (l2, .inl (xI g, 11, .inl g2)), (l3, .inl (xI g, 11, .inl g3)), (l4, .inl (xI g, 11, .inl g4)), (ve, .inr (6, [v0, .int (nI Nb), v2, v3, v4, .int gl, v6, v7, v8, v9, v10]))] H → va_D (fun _ => True) [(h0, .inr (3, [.ref le, w1, w2, w3])), (le, .inl (xM g, 5, .inr (.inr (.inr (.inr (xOut5 l0 l1 l2 l3 l4)))))), (l0, .inl (xI g, 11, .inl g0)), (l1, .inl (xI g, 11, .inl g1)), (l2, .inl (xI g, 11, .inl g2)), (l3, .inl (xI g, 11, .inl g3)), (l4, .inl (xI g, 11, .inl g4)), (ve, .inr (6, [v0, .int (nI Nb), v2, v3, v4, .int gl, v6, v7, v8, v9, v10]))] → va_S A s.heap H locs → lv_has ls 5 [(4, .int (nI e9)), (0, .ref h0), (1, .ref ve), (3, .int 3)] → W p l e (headSpec wsX3_endOfShortest ({ frames := 0, cells := 0, slots := 0, locals := 0 })).room s m ([.ref h0, .ref ve, .int (nI F), .int (nI 3)] : List Value).toArray below meth c H locs 0 0 (MQ below (va_Qi (fun (r : Int32) (u : Unit) => ∃ E : Nat, E ≤ 10 ∧ r = nI E) (fun _ _ => True) A) ([.ref h0, .ref ve, .int (nI F), .int (nI 3)] : List Value).toArray s 0 0 A) (F0 m 5 ls []) := by
      intro n9
      induction n9 with
      | zero =>
        intro e9 H locs ls hm hi1 hP hD hS hl
        exact absurd hm (Nat.not_lt_zero _)
      | succ n9 ih5 =>
        intro e9 H locs ls hm hi1 hP hD hS hl
        refine lv_iload hx hb dX3_endOfShortest_5 (lv_at hl 0 rfl) ?_
        refine lv_aload_n hx hb dX3_endOfShortest_7 rfl (lv_at hl 2 rfl) ?_
        refine va_get (D := xD g) (ci := 6) (v := .int (nI Nb)) (C := RX6) (T := TX6) (N := 11) hx hb hts hFX6 hown hK hP 7 rfl rfl 1 (by decide) (hts (.fieldLink RX3 40 "Stevedore$Vessel" "bays" "I") (by decide +kernel)) (fun _ h9 => h9) rfl dX3_endOfShortest_8 ?_
        refine lv_icmp_ge (tgt := 39) hx hb dX3_endOfShortest_11 (by decide) (fun c_15 => ?_) (fun c_15 => ?_)
        · have nc_15 := (nI_leI (a := Nb) (b := e9) (by omega) (by omega)).mp c_15
          refine lv_aload_n hx hb dX3_endOfShortest_39 rfl (lv_at hl 2 rfl) ?_
          refine va_get (D := xD g) (ci := 6) (v := .int (nI Nb)) (C := RX6) (T := TX6) (N := 11) hx hb hts hFX6 hown hK hP 7 rfl rfl 1 (by decide) (hts (.fieldLink RX3 40 "Stevedore$Vessel" "bays" "I") (by decide +kernel)) (fun _ h9 => h9) rfl dX3_endOfShortest_40 ?_
          exact W.iret (v := nI Nb) hx hb hr (fun t ht hW => ⟨⟨nI Nb, (), rfl, ⟨Nb, by omega, rfl⟩, trivial⟩, hS.F ht⟩) hS.2.2 dX3_endOfShortest_43
        · have nc_15 := mt (nI_leI (a := Nb) (b := e9) (by omega) (by omega)).mpr c_15
          refine lv_aload_n hx hb dX3_endOfShortest_14 rfl (lv_at hl 1 rfl) ?_
          refine va_get (D := xD g) (ci := 3) (v := .ref le) (C := RX3) (T := TX3) (N := 4) hx hb hts hFX3 hown hK hP 0 rfl rfl 0 (by decide) (hts (.fieldLink RX3 11 "Stevedore$CraneWalk" "least" "[[I") (by decide +kernel)) (fun _ h9 => h9) rfl dX3_endOfShortest_15 ?_
          refine lv_iload_n hx hb dX3_endOfShortest_18 rfl (lv_at hl 3 rfl) ?_
          refine xAldM hx hb hK hP 1 3 rfl rfl (by unfold vp_in; decide) dX3_endOfShortest_19 ?_
          refine W.eq (g2 := F0 m 20 ls (.ref l3 :: [])) (by rfl) ?_
          refine lv_iload hx hb dX3_endOfShortest_20 (lv_at hl 0 rfl) ?_
          refine va_iald hx hb hK hP 5 0 rfl rfl (vp_in_nI (by omega) (by omega)) dX3_endOfShortest_22 ?_
          refine lv_topi (fun v_16 ev_16 => ?_)
          refine lv_aload_n hx hb dX3_endOfShortest_23 rfl (lv_at hl 2 rfl) ?_
          refine va_get (D := xD g) (ci := 6) (v := .int gl) (C := RX6) (T := TX6) (N := 11) hx hb hts hFX6 hown hK hP 7 rfl rfl 5 (by decide) (hts (.fieldLink RX3 70 "Stevedore$Vessel" "greatestLoad" "I") (by decide +kernel)) (fun _ h9 => h9) rfl dX3_endOfShortest_24 ?_
          refine lv_icmp_gt (tgt := 33) hx hb dX3_endOfShortest_27 (by decide) (fun c_17 => ?_) (fun c_17 => ?_)
          · refine lv_iinc (v := nI (e9 + 1)) (lv' := [(4, .int (nI (e9 + 1))), (0, .ref h0), (1, .ref ve), (3, .int 3)]) hx hb dX3_endOfShortest_33 hl (k := 0) rfl (nI_1 e9) (by decide) rfl (fun ls hl => ?_)
            refine lv_goto (tgt := 5) hx hb dX3_endOfShortest_36 (by decide) ?_
            exact ih5 (e9 + 1) _ _ _ (by omega) (by omega) hP hD hS (lv_sub hl [0, 1, 2, 3] rfl)
          · refine lv_iload hx hb dX3_endOfShortest_30 (lv_at hl 0 rfl) ?_
            exact W.iret (v := nI e9) hx hb hr (fun t ht hW => ⟨⟨nI e9, (), rfl, ⟨e9, by omega, rfl⟩, trivial⟩, hS.F ht⟩) hS.2.2 dX3_endOfShortest_32
    exact hloop5 (13) (F + 1) _ _ _ (by omega) (by omega) hP hD hS (lv_sub hl [0, 1, 2, 4] rfl)
  · have hl : lv_has ls 5 [(0, .ref h0), (1, .ref ve), (2, .int (nI F)), (3, .int 4)] := hl
    refine lv_iload_n hx hb dX3_endOfShortest_0 rfl (lv_at hl 2 rfl) ?_
    refine lv_iconst (v := 1) hx hb dX3_endOfShortest_1 (by decide) ?_
    refine lv_iadd hx hb dX3_endOfShortest_2 ?_
    refine lv_topi (fun v_18 ev => ?_)
    obtain rfl : v_18 = nI (F + 1) := ev.trans (nI_1 F)
    refine lv_istore (lv' := [(4, .int (nI (F + 1))), (0, .ref h0), (1, .ref ve), (2, .int (nI F)), (3, .int 4)]) hx hb dX3_endOfShortest_3 hl (by decide) rfl (fun ls hl => ?_)
    have hloop5 : ∀ (n9 : Nat) (e9 : Nat) (H : Heap) (locs : List Loc) (ls : Array Slot), 12 - e9 < n9 → (e9 ≤ 11) → va_P (xD g) vwCl [(h0, .inr (3, [.ref le, w1, w2, w3])), (le, .inl (xM g, 5, .inr (.inr (.inr (.inr (xOut5 l0 l1 l2 l3 l4)))))), (l0, .inl (xI g, 11, .inl g0)), (l1, .inl (xI g, 11, .inl g1)), (l2, .inl (xI g, 11, .inl g2)), (l3, .inl (xI g, 11, .inl g3)), (l4, .inl (xI g, 11, .inl g4)), (ve, .inr (6, [v0, .int (nI Nb), v2, v3, v4, .int gl, v6, v7, v8, v9, v10]))] H → va_D (fun _ => True) [(h0, .inr (3, [.ref le, w1, w2, w3])), (le, .inl (xM g, 5, .inr (.inr (.inr (.inr (xOut5 l0 l1 l2 l3 l4)))))), (l0, .inl (xI g, 11, .inl g0)), (l1, .inl (xI g, 11, .inl g1)), (l2, .inl (xI g, 11, .inl g2)), (l3, .inl (xI g, 11, .inl g3)), (l4, .inl (xI g, 11, .inl g4)), (ve, .inr (6, [v0, .int (nI Nb), v2, v3, v4, .int gl, v6, v7, v8, v9, v10]))] → va_S A s.heap H locs → lv_has ls 5 [(4, .int (nI e9)), (0, .ref h0), (1, .ref ve), (3, .int 4)] → W p l e (headSpec wsX3_endOfShortest ({ frames := 0, cells := 0, slots := 0, locals := 0 })).room s m ([.ref h0, .ref ve, .int (nI F), .int (nI 4)] : List Value).toArray below meth c H locs 0 0 (MQ below (va_Qi (fun (r : Int32) (u : Unit) => ∃ E : Nat, E ≤ 10 ∧ r = nI E) (fun _ _ => True) A) ([.ref h0, .ref ve, .int (nI F), .int (nI 4)] : List Value).toArray s 0 0 A) (F0 m 5 ls []) := by
      intro n9
      induction n9 with
      | zero =>
        intro e9 H locs ls hm hi1 hP hD hS hl
        exact absurd hm (Nat.not_lt_zero _)
      | succ n9 ih5 =>
        intro e9 H locs ls hm hi1 hP hD hS hl
        refine lv_iload hx hb dX3_endOfShortest_5 (lv_at hl 0 rfl) ?_
        refine lv_aload_n hx hb dX3_endOfShortest_7 rfl (lv_at hl 2 rfl) ?_
        refine va_get (D := xD g) (ci := 6) (v := .int (nI Nb)) (C := RX6) (T := TX6) (N := 11) hx hb hts hFX6 hown hK hP 7 rfl rfl 1 (by decide) (hts (.fieldLink RX3 40 "Stevedore$Vessel" "bays" "I") (by decide +kernel)) (fun _ h9 => h9) rfl dX3_endOfShortest_8 ?_
        refine lv_icmp_ge (tgt := 39) hx hb dX3_endOfShortest_11 (by decide) (fun c_19 => ?_) (fun c_19 => ?_)
        · have nc_19 := (nI_leI (a := Nb) (b := e9) (by omega) (by omega)).mp c_19
          refine lv_aload_n hx hb dX3_endOfShortest_39 rfl (lv_at hl 2 rfl) ?_
          refine va_get (D := xD g) (ci := 6) (v := .int (nI Nb)) (C := RX6) (T := TX6) (N := 11) hx hb hts hFX6 hown hK hP 7 rfl rfl 1 (by decide) (hts (.fieldLink RX3 40 "Stevedore$Vessel" "bays" "I") (by decide +kernel)) (fun _ h9 => h9) rfl dX3_endOfShortest_40 ?_
          exact W.iret (v := nI Nb) hx hb hr (fun t ht hW => ⟨⟨nI Nb, (), rfl, ⟨Nb, by omega, rfl⟩, trivial⟩, hS.F ht⟩) hS.2.2 dX3_endOfShortest_43
        · have nc_19 := mt (nI_leI (a := Nb) (b := e9) (by omega) (by omega)).mpr c_19
          refine lv_aload_n hx hb dX3_endOfShortest_14 rfl (lv_at hl 1 rfl) ?_
          refine va_get (D := xD g) (ci := 3) (v := .ref le) (C := RX3) (T := TX3) (N := 4) hx hb hts hFX3 hown hK hP 0 rfl rfl 0 (by decide) (hts (.fieldLink RX3 11 "Stevedore$CraneWalk" "least" "[[I") (by decide +kernel)) (fun _ h9 => h9) rfl dX3_endOfShortest_15 ?_
          refine lv_iload_n hx hb dX3_endOfShortest_18 rfl (lv_at hl 3 rfl) ?_
          refine xAldM hx hb hK hP 1 3 rfl rfl (by unfold vp_in; decide) dX3_endOfShortest_19 ?_
          refine W.eq (g2 := F0 m 20 ls (.ref l4 :: [])) (by rfl) ?_
          refine lv_iload hx hb dX3_endOfShortest_20 (lv_at hl 0 rfl) ?_
          refine va_iald hx hb hK hP 6 0 rfl rfl (vp_in_nI (by omega) (by omega)) dX3_endOfShortest_22 ?_
          refine lv_topi (fun v_20 ev_20 => ?_)
          refine lv_aload_n hx hb dX3_endOfShortest_23 rfl (lv_at hl 2 rfl) ?_
          refine va_get (D := xD g) (ci := 6) (v := .int gl) (C := RX6) (T := TX6) (N := 11) hx hb hts hFX6 hown hK hP 7 rfl rfl 5 (by decide) (hts (.fieldLink RX3 70 "Stevedore$Vessel" "greatestLoad" "I") (by decide +kernel)) (fun _ h9 => h9) rfl dX3_endOfShortest_24 ?_
          refine lv_icmp_gt (tgt := 33) hx hb dX3_endOfShortest_27 (by decide) (fun c_21 => ?_) (fun c_21 => ?_)
          · refine lv_iinc (v := nI (e9 + 1)) (lv' := [(4, .int (nI (e9 + 1))), (0, .ref h0), (1, .ref ve), (3, .int 4)]) hx hb dX3_endOfShortest_33 hl (k := 0) rfl (nI_1 e9) (by decide) rfl (fun ls hl => ?_)
            refine lv_goto (tgt := 5) hx hb dX3_endOfShortest_36 (by decide) ?_
            exact ih5 (e9 + 1) _ _ _ (by omega) (by omega) hP hD hS (lv_sub hl [0, 1, 2, 3] rfl)
          · refine lv_iload hx hb dX3_endOfShortest_30 (lv_at hl 0 rfl) ?_
            exact W.iret (v := nI e9) hx hb hr (fun t ht hW => ⟨⟨nI e9, (), rfl, ⟨e9, by omega, rfl⟩, trivial⟩, hS.F ht⟩) hS.2.2 dX3_endOfShortest_32
    exact hloop5 (13) (F + 1) _ _ _ (by omega) (by omega) hP hD hS (lv_sub hl [0, 1, 2, 4] rfl)
theorem dX3_chooseRanges_0 : decode cX3_chooseRanges 0 = .ok (.iconst 0, 1) := by decide +kernel
theorem dX3_chooseRanges_1 : decode cX3_chooseRanges 1 = .ok (.istore_n 2, 1) := by decide +kernel
theorem dX3_chooseRanges_2 : decode cX3_chooseRanges 2 = .ok (.iconst 0, 1) := by decide +kernel
theorem dX3_chooseRanges_3 : decode cX3_chooseRanges 3 = .ok (.istore_n 3, 1) := by decide +kernel
theorem dX3_chooseRanges_4 : decode cX3_chooseRanges 4 = .ok (.iload_n 3, 1) := by decide +kernel
theorem dX3_chooseRanges_5 : decode cX3_chooseRanges 5 = .ok (.aload_n 1, 1) := by decide +kernel
theorem dX3_chooseRanges_6 : decode cX3_chooseRanges 6 = .ok (.getfield 67, 3) := by decide +kernel
theorem dX3_chooseRanges_9 : decode cX3_chooseRanges 9 = .ok (.if_icmp .ge 31, 3) := by decide +kernel
theorem dX3_chooseRanges_40 : decode cX3_chooseRanges 40 = .ok (.return_, 1) := by decide +kernel
theorem dX3_chooseRanges_12 : decode cX3_chooseRanges 12 = .ok (.aload_n 1, 1) := by decide +kernel
theorem dX3_chooseRanges_13 : decode cX3_chooseRanges 13 = .ok (.getfield 73, 3) := by decide +kernel
theorem dX3_chooseRanges_16 : decode cX3_chooseRanges 16 = .ok (.iload_n 3, 1) := by decide +kernel
theorem dX3_chooseRanges_17 : decode cX3_chooseRanges 17 = .ok (.iload_n 2, 1) := by decide +kernel
theorem dX3_chooseRanges_18 : decode cX3_chooseRanges 18 = .ok (.iastore, 1) := by decide +kernel
theorem dX3_chooseRanges_19 : decode cX3_chooseRanges 19 = .ok (.aload_n 0, 1) := by decide +kernel
theorem dX3_chooseRanges_20 : decode cX3_chooseRanges 20 = .ok (.aload_n 1, 1) := by decide +kernel
theorem dX3_chooseRanges_21 : decode cX3_chooseRanges 21 = .ok (.iload_n 2, 1) := by decide +kernel
theorem dX3_chooseRanges_22 : decode cX3_chooseRanges 22 = .ok (.aload_n 1, 1) := by decide +kernel
theorem dX3_chooseRanges_23 : decode cX3_chooseRanges 23 = .ok (.getfield 67, 3) := by decide +kernel
theorem dX3_chooseRanges_26 : decode cX3_chooseRanges 26 = .ok (.iload_n 3, 1) := by decide +kernel
theorem dX3_chooseRanges_27 : decode cX3_chooseRanges 27 = .ok (.isub, 1) := by decide +kernel
theorem dX3_chooseRanges_28 : decode cX3_chooseRanges 28 = .ok (.iconst 1, 1) := by decide +kernel
theorem dX3_chooseRanges_29 : decode cX3_chooseRanges 29 = .ok (.isub, 1) := by decide +kernel
theorem dX3_chooseRanges_30 : decode cX3_chooseRanges 30 = .ok (.invokevirtual 76, 3) := by decide +kernel
set_option maxRecDepth 20000 in
theorem ggX3_chooseRanges_X3_endOfShortest : GoodIn wsX3_chooseRanges wsX3_endOfShortest := goodIn_r _ [7, 8, 9, 10, 11, 12, 13, 14, 15, 16, 17, 18, 19, 20, 21, 22, 23, 24, 25] rfl (by decide +kernel)
set_option maxRecDepth 20000 in
theorem gX3_chooseRanges_X3_endOfShortest : GoodIn wsX3_chooseRanges (wsV RX3 76 RX3 yX3_endOfShortest wsX3_endOfShortest) := goodIn_app (goodIn_of _ (by decide +kernel)) ggX3_chooseRanges_X3_endOfShortest
theorem dX3_chooseRanges_33 : decode cX3_chooseRanges 33 = .ok (.istore_n 2, 1) := by decide +kernel
theorem dX3_chooseRanges_34 : decode cX3_chooseRanges 34 = .ok (.iinc 3 1, 3) := by decide +kernel
theorem dX3_chooseRanges_37 : decode cX3_chooseRanges 37 = .ok (.goto (-33), 3) := by decide +kernel
set_option maxHeartbeats 4000000 in
set_option maxRecDepth 100000 in
theorem s_chooseRanges (l : Launch) (g : xG) (sz : Nat) (h0 : Nat) (le : Nat) (l0 : Nat) (l1 : Nat) (l2 : Nat) (l3 : Nat) (l4 : Nat) (ve : Nat) (fr : Nat) (Nb : Nat) (R : Nat) (gl : Int32) (w1 : Value) (w2 : Value) (w3 : Value) (v0 : Value) (v2 : Value) (v3 : Value) (v6 : Value) (v7 : Value) (v8 : Value) (v10 : Value) (g0 : Nat → Int32) (g1 : Nat → Int32) (g2 : Nat → Int32) (g3 : Nat → Int32) (g4 : Nat → Int32) (fb : Nat → Int32)  (hB : Nb ≤ 10) (hR1 : 1 ≤ R) (hR : R ≤ 4) : Met l yX3_chooseRanges wsX3_chooseRanges ({ frames := 1, cells := 0, slots := 0, locals := 24 }) (va_Pc [.ref h0, .ref ve] (fun U => xB g [(h0, .inr (3, [.ref le, w1, w2, w3])), (le, .inl (xM g, 5, .inr (.inr (.inr (.inr (xOut5 l0 l1 l2 l3 l4)))))), (l0, .inl (xI g, 11, .inl g0)), (l1, .inl (xI g, 11, .inl g1)), (l2, .inl (xI g, 11, .inl g2)), (l3, .inl (xI g, 11, .inl g3)), (l4, .inl (xI g, 11, .inl g4)), (ve, .inr (6, [v0, .int (nI Nb), v2, v3, .int (nI R), .int gl, v6, v7, v8, .ref fr, v10])), (fr, .inl (xI g, 4, .inl fb))] sz U)) (va_Qv (fun (u : Unit) => True) (fun (u : Unit) (t : State) => ∃ (fb1 : Nat → Int32), xInv R fb1 ∧ xE g [(h0, .inr (3, [.ref le, w1, w2, w3])), (le, .inl (xM g, 5, .inr (.inr (.inr (.inr (xOut5 l0 l1 l2 l3 l4)))))), (l0, .inl (xI g, 11, .inl g0)), (l1, .inl (xI g, 11, .inl g1)), (l2, .inl (xI g, 11, .inl g2)), (l3, .inl (xI g, 11, .inl g3)), (l4, .inl (xI g, 11, .inl g4)), (ve, .inr (6, [v0, .int (nI Nb), v2, v3, .int (nI R), .int gl, v6, v7, v8, .ref fr, v10])), (fr, .inl (xI g, 4, .inl fb1))] (va_A [(h0, .inr (3, [.ref le, w1, w2, w3])), (le, .inl (xM g, 5, .inr (.inr (.inr (.inr (xOut5 l0 l1 l2 l3 l4)))))), (l0, .inl (xI g, 11, .inl g0)), (l1, .inl (xI g, 11, .inl g1)), (l2, .inl (xI g, 11, .inl g2)), (l3, .inl (xI g, 11, .inl g3)), (l4, .inl (xI g, 11, .inl g4)), (ve, .inr (6, [v0, .int (nI Nb), v2, v3, .int (nI R), .int gl, v6, v7, v8, .ref fr, v10])), (fr, .inl (xI g, 4, .inl fb))] sz) t) (va_A [(h0, .inr (3, [.ref le, w1, w2, w3])), (le, .inl (xM g, 5, .inr (.inr (.inr (.inr (xOut5 l0 l1 l2 l3 l4)))))), (l0, .inl (xI g, 11, .inl g0)), (l1, .inl (xI g, 11, .inl g1)), (l2, .inl (xI g, 11, .inl g2)), (l3, .inl (xI g, 11, .inl g3)), (l4, .inl (xI g, 11, .inl g4)), (ve, .inr (6, [v0, .int (nI Nb), v2, v3, .int (nI R), .int gl, v6, v7, v8, .ref fr, v10])), (fr, .inl (xI g, 4, .inl fb))] sz)) 0 0 (va_A [(h0, .inr (3, [.ref le, w1, w2, w3])), (le, .inl (xM g, 5, .inr (.inr (.inr (.inr (xOut5 l0 l1 l2 l3 l4)))))), (l0, .inl (xI g, 11, .inl g0)), (l1, .inl (xI g, 11, .inl g1)), (l2, .inl (xI g, 11, .inl g2)), (l3, .inl (xI g, 11, .inl g3)), (l4, .inl (xI g, 11, .inl g4)), (ve, .inr (6, [v0, .int (nI Nb), v2, v3, .int (nI R), .int gl, v6, v7, v8, .ref fr, v10])), (fr, .inl (xI g, 4, .inl fb))] sz) := by
  refine Met.ofW (cc := cX3_chooseRanges) (maxL := 4) (ret := none) (by decide) rfl ?_
  intro p e s m args below meth c s₁ B hml hv
  obtain ⟨rfl, ⟨hsz, hP, hK, hD0⟩⟩ := hv
  have hx := B.exec
  have hb := B.bytes
  have hr := B.returns
  have hts := atoms_spec (ws := wsX3_chooseRanges) B.pre
  have hown : s.vm.findClass RX3 = some m.cls := findClass_of_methodNamed B.named
  have hlocks := B.notSynchronized
  subst hsz
  have hD := hD0.self (sz := s.heap.size)
  generalize hAe : va_A [(h0, .inr (3, [.ref le, w1, w2, w3])), (le, .inl (xM g, 5, .inr (.inr (.inr (.inr (xOut5 l0 l1 l2 l3 l4)))))), (l0, .inl (xI g, 11, .inl g0)), (l1, .inl (xI g, 11, .inl g1)), (l2, .inl (xI g, 11, .inl g2)), (l3, .inl (xI g, 11, .inl g3)), (l4, .inl (xI g, 11, .inl g4)), (ve, .inr (6, [v0, .int (nI Nb), v2, v3, .int (nI R), .int gl, v6, v7, v8, .ref fr, v10])), (fr, .inl (xI g, 4, .inl fb))] s.heap.size = A at hD ⊢
  have hA : ∀ q : Nat, s.heap.size ≤ q → A q := fun q h => by rw [← hAe]; exact Or.inr h
  have hS : va_S A s.heap s.heap [] := va_S.rf
  have hl := lv_entry ([.ref h0, .ref ve]) (n := 4) (Nat.le_of_ble_eq_true rfl)
  rw [lg_entry_eq]
  generalize (lg_sl ([.ref h0, .ref ve]) ++ List.replicate (4 - (lg_sl ([.ref h0, .ref ve])).length) Slot.unset).toArray = ls at hl ⊢
  have hl : lv_has ls 4 [(0, .ref h0), (1, .ref ve)] := hl
  have hFX6 : ∀ w ∈ u_ws RX6 TX6 11, w ∈ wsX3_chooseRanges := by decide +kernel
  refine lv_iconst (v := 0) hx hb dX3_chooseRanges_0 (by decide) ?_
  refine lv_istore_n (lv' := [(2, .int 0), (0, .ref h0), (1, .ref ve)]) hx hb dX3_chooseRanges_1 rfl hl (by decide) rfl (fun ls hl => ?_)
  refine lv_iconst (v := 0) hx hb dX3_chooseRanges_2 (by decide) ?_
  refine lv_istore_n (lv' := [(3, .int 0), (2, .int 0), (0, .ref h0), (1, .ref ve)]) hx hb dX3_chooseRanges_3 rfl hl (by decide) rfl (fun ls hl => ?_)
  have hloop4 : ∀ (n9 : Nat) (k : Nat) (f : Nat) (fx : Nat → Int32) (H : Heap) (locs : List Loc) (ls : Array Slot), R - k < n9 → (k ≤ R) → (f ≤ 10) → (xInv k fx) → va_P (xD g) vwCl [(h0, .inr (3, [.ref le, w1, w2, w3])), (le, .inl (xM g, 5, .inr (.inr (.inr (.inr (xOut5 l0 l1 l2 l3 l4)))))), (l0, .inl (xI g, 11, .inl g0)), (l1, .inl (xI g, 11, .inl g1)), (l2, .inl (xI g, 11, .inl g2)), (l3, .inl (xI g, 11, .inl g3)), (l4, .inl (xI g, 11, .inl g4)), (ve, .inr (6, [v0, .int (nI Nb), v2, v3, .int (nI R), .int gl, v6, v7, v8, .ref fr, v10])), (fr, .inl (xI g, 4, .inl fx))] H → va_D A [(h0, .inr (3, [.ref le, w1, w2, w3])), (le, .inl (xM g, 5, .inr (.inr (.inr (.inr (xOut5 l0 l1 l2 l3 l4)))))), (l0, .inl (xI g, 11, .inl g0)), (l1, .inl (xI g, 11, .inl g1)), (l2, .inl (xI g, 11, .inl g2)), (l3, .inl (xI g, 11, .inl g3)), (l4, .inl (xI g, 11, .inl g4)), (ve, .inr (6, [v0, .int (nI Nb), v2, v3, .int (nI R), .int gl, v6, v7, v8, .ref fr, v10])), (fr, .inl (xI g, 4, .inl fx))] → va_S A s.heap H locs → lv_has ls 4 [(3, .int (nI k)), (0, .ref h0), (1, .ref ve), (2, .int (nI f))] → W p l e (headSpec wsX3_chooseRanges ({ frames := 1, cells := 0, slots := 0, locals := 24 })).room s m ([.ref h0, .ref ve] : List Value).toArray below meth c H locs 0 0 (MQ below (va_Qv (fun (u : Unit) => True) (fun (u : Unit) (t : State) => ∃ (fb1 : Nat → Int32), xInv R fb1 ∧ xE g [(h0, .inr (3, [.ref le, w1, w2, w3])), (le, .inl (xM g, 5, .inr (.inr (.inr (.inr (xOut5 l0 l1 l2 l3 l4)))))), (l0, .inl (xI g, 11, .inl g0)), (l1, .inl (xI g, 11, .inl g1)), (l2, .inl (xI g, 11, .inl g2)), (l3, .inl (xI g, 11, .inl g3)), (l4, .inl (xI g, 11, .inl g4)), (ve, .inr (6, [v0, .int (nI Nb), v2, v3, .int (nI R), .int gl, v6, v7, v8, .ref fr, v10])), (fr, .inl (xI g, 4, .inl fb1))] A t) A) ([.ref h0, .ref ve] : List Value).toArray s 0 0 A) (F0 m 4 ls []) := by
    intro n9
    induction n9 with
    | zero =>
      intro k f fx H locs ls hm hi1 hi2 hi3 hP hD hS hl
      exact absurd hm (Nat.not_lt_zero _)
    | succ n9 ih4 =>
      intro k f fx H locs ls hm hi1 hi2 hi3 hP hD hS hl
      refine lv_iload_n hx hb dX3_chooseRanges_4 rfl (lv_at hl 0 rfl) ?_
      refine lv_aload_n hx hb dX3_chooseRanges_5 rfl (lv_at hl 2 rfl) ?_
      refine va_get (D := xD g) (ci := 6) (v := .int (nI R)) (C := RX6) (T := TX6) (N := 11) hx hb hts hFX6 hown hK hP 7 rfl rfl 4 (by decide) (hts (.fieldLink RX3 67 "Stevedore$Vessel" "rangeCount" "I") (by decide +kernel)) (fun _ h9 => h9) rfl dX3_chooseRanges_6 ?_
      refine lv_icmp_ge (tgt := 40) hx hb dX3_chooseRanges_9 (by decide) (fun c_1 => ?_) (fun c_1 => ?_)
      · have nc_1 := (nI_leI (a := R) (b := k) (by omega) (by omega)).mp c_1
        have hP9 := hP.sub (ws' := [(h0, .inr (3, [.ref le, w1, w2, w3])), (le, .inl (xM g, 5, .inr (.inr (.inr (.inr (xOut5 l0 l1 l2 l3 l4)))))), (l0, .inl (xI g, 11, .inl g0)), (l1, .inl (xI g, 11, .inl g1)), (l2, .inl (xI g, 11, .inl g2)), (l3, .inl (xI g, 11, .inl g3)), (l4, .inl (xI g, 11, .inl g4)), (ve, .inr (6, [v0, .int (nI Nb), v2, v3, .int (nI R), .int gl, v6, v7, v8, .ref fr, v10])), (fr, .inl (xI g, 4, .inl fx))]) [0, 1, 2, 3, 4, 5, 6, 7, 8] rfl
        have hD9 := hD.sub (ws' := [(h0, .inr (3, [.ref le, w1, w2, w3])), (le, .inl (xM g, 5, .inr (.inr (.inr (.inr (xOut5 l0 l1 l2 l3 l4)))))), (l0, .inl (xI g, 11, .inl g0)), (l1, .inl (xI g, 11, .inl g1)), (l2, .inl (xI g, 11, .inl g2)), (l3, .inl (xI g, 11, .inl g3)), (l4, .inl (xI g, 11, .inl g4)), (ve, .inr (6, [v0, .int (nI Nb), v2, v3, .int (nI R), .int gl, v6, v7, v8, .ref fr, v10])), (fr, .inl (xI g, 4, .inl fx))]) [0, 1, 2, 3, 4, 5, 6, 7, 8] (by decide) rfl
        exact W.vret hx hb hr (fun t ht hW => ⟨⟨(), rfl, (by first | trivial | rfl | assumption | omega | simp_all), ⟨fx, (xInv_mono hi3 (by omega)), by rw [ht]; exact hP9, va_K.moved hW.alike hK, hD9⟩⟩, hS.F ht⟩) hS.2.2 dX3_chooseRanges_40
      · have nc_1 := mt (nI_leI (a := R) (b := k) (by omega) (by omega)).mpr c_1
        refine lv_aload_n hx hb dX3_chooseRanges_12 rfl (lv_at hl 2 rfl) ?_
        refine va_get (D := xD g) (ci := 6) (v := .ref fr) (C := RX6) (T := TX6) (N := 11) hx hb hts hFX6 hown hK hP 7 rfl rfl 9 (by decide) (hts (.fieldLink RX3 73 "Stevedore$Vessel" "firstOfRange" "[I") (by decide +kernel)) (fun _ h9 => h9) rfl dX3_chooseRanges_13 ?_
        refine lv_iload_n hx hb dX3_chooseRanges_16 rfl (lv_at hl 0 rfl) ?_
        refine lv_iload_n hx hb dX3_chooseRanges_17 rfl (lv_at hl 3 rfl) ?_
        refine va_iast (x := nI f) hx hb hK hP hD hS 8 0 rfl rfl (vp_in_nI (by omega) (by omega)) dX3_chooseRanges_18 (fun H locs hP hD hS => ?_)
        have hP : va_P (xD g) vwCl [(h0, .inr (3, [.ref le, w1, w2, w3])), (le, .inl (xM g, 5, .inr (.inr (.inr (.inr (xOut5 l0 l1 l2 l3 l4)))))), (l0, .inl (xI g, 11, .inl g0)), (l1, .inl (xI g, 11, .inl g1)), (l2, .inl (xI g, 11, .inl g2)), (l3, .inl (xI g, 11, .inl g3)), (l4, .inl (xI g, 11, .inl g4)), (ve, .inr (6, [v0, .int (nI Nb), v2, v3, .int (nI R), .int gl, v6, v7, v8, .ref fr, v10])), (fr, .inl (xI g, 4, .inl (upd fx (nI k).toNatClampNeg (nI f))))] H := hP
        have hD : va_D A [(h0, .inr (3, [.ref le, w1, w2, w3])), (le, .inl (xM g, 5, .inr (.inr (.inr (.inr (xOut5 l0 l1 l2 l3 l4)))))), (l0, .inl (xI g, 11, .inl g0)), (l1, .inl (xI g, 11, .inl g1)), (l2, .inl (xI g, 11, .inl g2)), (l3, .inl (xI g, 11, .inl g3)), (l4, .inl (xI g, 11, .inl g4)), (ve, .inr (6, [v0, .int (nI Nb), v2, v3, .int (nI R), .int gl, v6, v7, v8, .ref fr, v10])), (fr, .inl (xI g, 4, .inl (upd fx (nI k).toNatClampNeg (nI f))))] := hD
        obtain ⟨g_2, eg_2⟩ : ∃ y : Nat → Int32, y = upd fx (nI k).toNatClampNeg (nI f) := ⟨_, rfl⟩
        rw [← eg_2] at hP hD
        refine lv_aload_n hx hb dX3_chooseRanges_19 rfl (lv_at hl 1 rfl) ?_
        refine lv_aload_n hx hb dX3_chooseRanges_20 rfl (lv_at hl 2 rfl) ?_
        refine lv_iload_n hx hb dX3_chooseRanges_21 rfl (lv_at hl 3 rfl) ?_
        refine lv_aload_n hx hb dX3_chooseRanges_22 rfl (lv_at hl 2 rfl) ?_
        refine va_get (D := xD g) (ci := 6) (v := .int (nI R)) (C := RX6) (T := TX6) (N := 11) hx hb hts hFX6 hown hK hP 7 rfl rfl 4 (by decide) (hts (.fieldLink RX3 67 "Stevedore$Vessel" "rangeCount" "I") (by decide +kernel)) (fun _ h9 => h9) rfl dX3_chooseRanges_23 ?_
        refine lv_iload_n hx hb dX3_chooseRanges_26 rfl (lv_at hl 0 rfl) ?_
        refine lv_isub hx hb dX3_chooseRanges_27 ?_
        refine lv_topi (fun v_3 ev => ?_)
        obtain rfl : v_3 = nI (R - k) := ev.trans (pk_sub (a := R) (b := k) (by omega))
        refine lv_iconst (v := 1) hx hb dX3_chooseRanges_28 (by decide) ?_
        refine lv_isub hx hb dX3_chooseRanges_29 ?_
        refine lv_topi (fun v_4 ev => ?_)
        obtain rfl : v_4 = nI ((R - k) - 1) := ev.trans (pk_sub (a := R - k) (b := 1) (by omega))
        have hPc := hP.sub (ws' := [(h0, .inr (3, [.ref le, w1, w2, w3])), (le, .inl (xM g, 5, .inr (.inr (.inr (.inr (xOut5 l0 l1 l2 l3 l4)))))), (l0, .inl (xI g, 11, .inl g0)), (l1, .inl (xI g, 11, .inl g1)), (l2, .inl (xI g, 11, .inl g2)), (l3, .inl (xI g, 11, .inl g3)), (l4, .inl (xI g, 11, .inl g4)), (ve, .inr (6, [v0, .int (nI Nb), v2, v3, .int (nI R), .int gl, v6, v7, v8, .ref fr, v10]))]) [0, 1, 2, 3, 4, 5, 6, 7] rfl
        have hDc := hD.sub (ws' := [(h0, .inr (3, [.ref le, w1, w2, w3])), (le, .inl (xM g, 5, .inr (.inr (.inr (.inr (xOut5 l0 l1 l2 l3 l4)))))), (l0, .inl (xI g, 11, .inl g0)), (l1, .inl (xI g, 11, .inl g1)), (l2, .inl (xI g, 11, .inl g2)), (l3, .inl (xI g, 11, .inl g3)), (l4, .inl (xI g, 11, .inl g4)), (ve, .inr (6, [v0, .int (nI Nb), v2, v3, .int (nI R), .int gl, v6, v7, v8, .ref fr, v10]))]) [0, 1, 2, 3, 4, 5, 6, 7] (by decide) rfl
        have hFc := xFree hS hA
        refine va_calli (va_runV (As := [.ref ve, .int (nI f), .int (nI ((R - k) - 1))]) (rest := []) ⟨hx, hb, hml, hown, hts⟩ (s_endOfShortest l g H.size h0 le l0 l1 l2 l3 l4 ve Nb f ((R - k) - 1) gl w1 w2 w3 v0 v2 v3 (.int (nI R)) v6 v7 v8 (.ref fr) v10 g0 g1 g2 g3 g4 (by first | assumption | decide | omega | simp_all) (by first | assumption | decide | omega | simp_all) (by first | assumption | decide | omega | simp_all)) (cwV 3 hts gX3_chooseRanges_X3_endOfShortest rfl rfl rfl (by decide +kernel) ⟨Nat.le_of_ble_eq_true rfl, Nat.le_of_ble_eq_true rfl⟩) ⟨xB.blind, va_recv hK hPc (ci := 3) (q0 := 0) rfl rfl, fun U9 hU9 hW9 => ⟨rfl, xB.mk hPc hK hDc hU9 hW9⟩⟩ rfl rfl hl.1 rfl (lv_room (Nat.le_of_ble_eq_true rfl)) dX3_chooseRanges_30 ⟨Nat.le_of_ble_eq_true rfl, Nat.le_of_ble_eq_true rfl⟩) hS (fun q _ h => hFc q h) hFc (fun r_5 u_6 t H1 locs ht hvm hw_7 hB hz1 hk1 hS => ?_)
        have hP := xSame hP hk1
        generalize H1 = H at hP hS ⊢
        have hP : va_P (xD g) vwCl [(h0, .inr (3, [.ref le, w1, w2, w3])), (le, .inl (xM g, 5, .inr (.inr (.inr (.inr (xOut5 l0 l1 l2 l3 l4)))))), (l0, .inl (xI g, 11, .inl g0)), (l1, .inl (xI g, 11, .inl g1)), (l2, .inl (xI g, 11, .inl g2)), (l3, .inl (xI g, 11, .inl g3)), (l4, .inl (xI g, 11, .inl g4)), (ve, .inr (6, [v0, .int (nI Nb), v2, v3, .int (nI R), .int gl, v6, v7, v8, .ref fr, v10])), (fr, .inl (xI g, 4, .inl g_2))] H := hP
        have hD : va_D A [(h0, .inr (3, [.ref le, w1, w2, w3])), (le, .inl (xM g, 5, .inr (.inr (.inr (.inr (xOut5 l0 l1 l2 l3 l4)))))), (l0, .inl (xI g, 11, .inl g0)), (l1, .inl (xI g, 11, .inl g1)), (l2, .inl (xI g, 11, .inl g2)), (l3, .inl (xI g, 11, .inl g3)), (l4, .inl (xI g, 11, .inl g4)), (ve, .inr (6, [v0, .int (nI Nb), v2, v3, .int (nI R), .int gl, v6, v7, v8, .ref fr, v10])), (fr, .inl (xI g, 4, .inl g_2))] := hD
        try dsimp only at hw_7
        obtain ⟨E_8, hE_8, rfl⟩ := hw_7
        refine lv_istore_n (lv' := [(2, .int (nI E_8)), (3, .int (nI k)), (0, .ref h0), (1, .ref ve)]) hx hb dX3_chooseRanges_33 rfl hl (by decide) rfl (fun ls hl => ?_)
        refine lv_iinc (v := nI (k + 1)) (lv' := [(3, .int (nI (k + 1))), (2, .int (nI E_8)), (0, .ref h0), (1, .ref ve)]) hx hb dX3_chooseRanges_34 hl (k := 1) rfl (nI_1 k) (by decide) rfl (fun ls hl => ?_)
        refine lv_goto (tgt := 4) hx hb dX3_chooseRanges_37 (by decide) ?_
        exact ih4 (k + 1) E_8 g_2 _ _ _ (by omega) (by omega) (by omega) (xInv_grow hi3 hi2 (by omega) eg_2) hP hD hS (lv_sub hl [0, 2, 3, 1] rfl)
  exact hloop4 (R + 1) 0 0 fb _ _ _ (by omega) (by omega) (by omega) (fun i hi => absurd hi (Nat.not_lt_zero i)) hP hD hS (lv_sub hl [0, 2, 3, 1] rfl)
theorem dX3_isBarred_0 : decode cX3_isBarred 0 = .ok (.iload_n 2, 1) := by decide +kernel
theorem dX3_isBarred_1 : decode cX3_isBarred 1 = .ok (.iconst 1, 1) := by decide +kernel
theorem dX3_isBarred_2 : decode cX3_isBarred 2 = .ok (.iadd, 1) := by decide +kernel
theorem dX3_isBarred_3 : decode cX3_isBarred 3 = .ok (.istore_n 3, 1) := by decide +kernel
theorem dX3_isBarred_4 : decode cX3_isBarred 4 = .ok (.iload_n 3, 1) := by decide +kernel
theorem dX3_isBarred_5 : decode cX3_isBarred 5 = .ok (.aload_n 1, 1) := by decide +kernel
theorem dX3_isBarred_6 : decode cX3_isBarred 6 = .ok (.getfield 67, 3) := by decide +kernel
theorem dX3_isBarred_9 : decode cX3_isBarred 9 = .ok (.if_icmp .ge 33, 3) := by decide +kernel
theorem dX3_isBarred_42 : decode cX3_isBarred 42 = .ok (.iconst 0, 1) := by decide +kernel
theorem dX3_isBarred_43 : decode cX3_isBarred 43 = .ok (.ireturn, 1) := by decide +kernel
theorem dX3_isBarred_12 : decode cX3_isBarred 12 = .ok (.aload_n 0, 1) := by decide +kernel
theorem dX3_isBarred_13 : decode cX3_isBarred 13 = .ok (.getfield 20, 3) := by decide +kernel
theorem dX3_isBarred_16 : decode cX3_isBarred 16 = .ok (.iload_n 3, 1) := by decide +kernel
theorem dX3_isBarred_17 : decode cX3_isBarred 17 = .ok (.baload, 1) := by decide +kernel
theorem dX3_isBarred_18 : decode cX3_isBarred 18 = .ok (.ifCond .eq 24, 3) := by decide +kernel
theorem dX3_isBarred_21 : decode cX3_isBarred 21 = .ok (.aload_n 0, 1) := by decide +kernel
theorem dX3_isBarred_22 : decode cX3_isBarred 22 = .ok (.getfield 16, 3) := by decide +kernel
theorem dX3_isBarred_25 : decode cX3_isBarred 25 = .ok (.iload_n 3, 1) := by decide +kernel
theorem dX3_isBarred_26 : decode cX3_isBarred 26 = .ok (.iaload, 1) := by decide +kernel
theorem dX3_isBarred_27 : decode cX3_isBarred 27 = .ok (.aload_n 0, 1) := by decide +kernel
theorem dX3_isBarred_28 : decode cX3_isBarred 28 = .ok (.getfield 16, 3) := by decide +kernel
theorem dX3_isBarred_31 : decode cX3_isBarred 31 = .ok (.iload_n 2, 1) := by decide +kernel
theorem dX3_isBarred_32 : decode cX3_isBarred 32 = .ok (.iaload, 1) := by decide +kernel
theorem dX3_isBarred_33 : decode cX3_isBarred 33 = .ok (.iconst 1, 1) := by decide +kernel
theorem dX3_isBarred_34 : decode cX3_isBarred 34 = .ok (.iadd, 1) := by decide +kernel
theorem dX3_isBarred_35 : decode cX3_isBarred 35 = .ok (.if_icmp .ne 7, 3) := by decide +kernel
theorem dX3_isBarred_38 : decode cX3_isBarred 38 = .ok (.iconst 1, 1) := by decide +kernel
theorem dX3_isBarred_39 : decode cX3_isBarred 39 = .ok (.goto 4, 3) := by decide +kernel
set_option maxHeartbeats 4000000 in
set_option maxRecDepth 100000 in
theorem s_isBarred (l : Launch) (g : xG) (sz : Nat) (h0 : Nat) (bc : Nat) (ii : Nat) (ve : Nat) (R : Nat) (x : Nat) (w0 : Value) (w3 : Value) (v0 : Value) (v1 : Value) (v2 : Value) (v3 : Value) (v5 : Value) (v6 : Value) (v7 : Value) (v8 : Value) (v9 : Value) (v10 : Value) (fd : Nat → Int32) (fe : Nat → Int32)  (hxR : x < R) (hR : R ≤ 4) : Met l yX3_isBarred wsX3_isBarred ({ frames := 0, cells := 0, slots := 0, locals := 0 }) (va_Pc [.ref h0, .ref ve, .int (nI x)] (fun U => xB g [(h0, .inr (3, [w0, .ref bc, .ref ii, w3])), (bc, .inl (xI g, 4, .inl fd)), (ii, .inl (xZ g, 4, .inl fe)), (ve, .inr (6, [v0, v1, v2, v3, .int (nI R), v5, v6, v7, v8, v9, v10]))] sz U)) (va_Qi (fun (r : Int32) (u : Unit) => True) (fun _ _ => True) (va_A [] sz)) 0 0 (va_A [] sz) := by
  refine Met.ofW (cc := cX3_isBarred) (maxL := 4) (ret := (some .boolean)) (by decide) rfl ?_
  intro p e s m args below meth c s₁ B hml hv
  obtain ⟨rfl, ⟨hsz, hP, hK, hD0⟩⟩ := hv
  have hx := B.exec
  have hb := B.bytes
  have hr := B.returns
  have hts := atoms_spec (ws := wsX3_isBarred) B.pre
  have hown : s.vm.findClass RX3 = some m.cls := findClass_of_methodNamed B.named
  have hlocks := B.notSynchronized
  subst hsz
  have hD := hD0
  generalize hAe : va_A [] s.heap.size = A
  have hA : ∀ q : Nat, s.heap.size ≤ q → A q := fun q h => by rw [← hAe]; exact Or.inr h
  have hS : va_S A s.heap s.heap [] := va_S.rf
  have hl := lv_entry ([.ref h0, .ref ve, .int (nI x)]) (n := 4) (Nat.le_of_ble_eq_true rfl)
  rw [lg_entry_eq]
  generalize (lg_sl ([.ref h0, .ref ve, .int (nI x)]) ++ List.replicate (4 - (lg_sl ([.ref h0, .ref ve, .int (nI x)])).length) Slot.unset).toArray = ls at hl ⊢
  have hl : lv_has ls 4 [(0, .ref h0), (1, .ref ve), (2, .int (nI x))] := hl
  have hFX3 : ∀ w ∈ u_ws RX3 TX3 4, w ∈ wsX3_isBarred := by decide +kernel
  have hFX6 : ∀ w ∈ u_ws RX6 TX6 11, w ∈ wsX3_isBarred := by decide +kernel
  refine lv_iload_n hx hb dX3_isBarred_0 rfl (lv_at hl 2 rfl) ?_
  refine lv_iconst (v := 1) hx hb dX3_isBarred_1 (by decide) ?_
  refine lv_iadd hx hb dX3_isBarred_2 ?_
  refine lv_topi (fun v_1 ev => ?_)
  obtain rfl : v_1 = nI (x + 1) := ev.trans (nI_1 x)
  refine lv_istore_n (lv' := [(3, .int (nI (x + 1))), (0, .ref h0), (1, .ref ve), (2, .int (nI x))]) hx hb dX3_isBarred_3 rfl hl (by decide) rfl (fun ls hl => ?_)
  refine lv_iload_n hx hb dX3_isBarred_4 rfl (lv_at hl 0 rfl) ?_
  refine lv_aload_n hx hb dX3_isBarred_5 rfl (lv_at hl 2 rfl) ?_
  refine va_get (D := xD g) (ci := 6) (v := .int (nI R)) (C := RX6) (T := TX6) (N := 11) hx hb hts hFX6 hown hK hP 3 rfl rfl 4 (by decide) (hts (.fieldLink RX3 67 "Stevedore$Vessel" "rangeCount" "I") (by decide +kernel)) (fun _ h9 => h9) rfl dX3_isBarred_6 ?_
  refine lv_icmp_ge (tgt := 42) hx hb dX3_isBarred_9 (by decide) (fun c_2 => ?_) (fun c_2 => ?_)
  · have nc_2 := (nI_leI (a := R) (b := x + 1) (by omega) (by omega)).mp c_2
    refine lv_iconst (v := 0) hx hb dX3_isBarred_42 (by decide) ?_
    exact W.zret (v := 0) hx hb hr (by rfl) (fun t ht hW => ⟨⟨0, (), rfl, (by first | trivial | rfl | assumption | omega | simp_all), trivial⟩, hS.F ht⟩) hS.2.2 dX3_isBarred_43
  · have nc_2 := mt (nI_leI (a := R) (b := x + 1) (by omega) (by omega)).mpr c_2
    refine lv_aload_n hx hb dX3_isBarred_12 rfl (lv_at hl 1 rfl) ?_
    refine va_get (D := xD g) (ci := 3) (v := .ref ii) (C := RX3) (T := TX3) (N := 4) hx hb hts hFX3 hown hK hP 0 rfl rfl 2 (by decide) (hts (.fieldLink RX3 20 "Stevedore$CraneWalk" "isInside" "[Z") (by decide +kernel)) (fun _ h9 => h9) rfl dX3_isBarred_13 ?_
    refine lv_iload_n hx hb dX3_isBarred_16 rfl (lv_at hl 0 rfl) ?_
    refine va_zald hx hb hK hP 2 1 rfl rfl (vp_in_nI (by omega) (by omega)) dX3_isBarred_17 ?_
    refine lv_topi (fun v_3 ev_3 => ?_)
    refine lv_if_eq (tgt := 42) hx hb dX3_isBarred_18 (by decide) (fun c_4 => ?_) (fun c_4 => ?_)
    · refine lv_iconst (v := 0) hx hb dX3_isBarred_42 (by decide) ?_
      exact W.zret (v := 0) hx hb hr (by rfl) (fun t ht hW => ⟨⟨0, (), rfl, (by first | trivial | rfl | assumption | omega | simp_all), trivial⟩, hS.F ht⟩) hS.2.2 dX3_isBarred_43
    · refine lv_aload_n hx hb dX3_isBarred_21 rfl (lv_at hl 1 rfl) ?_
      refine va_get (D := xD g) (ci := 3) (v := .ref bc) (C := RX3) (T := TX3) (N := 4) hx hb hts hFX3 hown hK hP 0 rfl rfl 1 (by decide) (hts (.fieldLink RX3 16 "Stevedore$CraneWalk" "bayOfCrane" "[I") (by decide +kernel)) (fun _ h9 => h9) rfl dX3_isBarred_22 ?_
      refine lv_iload_n hx hb dX3_isBarred_25 rfl (lv_at hl 0 rfl) ?_
      refine va_iald hx hb hK hP 1 0 rfl rfl (vp_in_nI (by omega) (by omega)) dX3_isBarred_26 ?_
      refine lv_topi (fun v_5 ev_5 => ?_)
      refine lv_aload_n hx hb dX3_isBarred_27 rfl (lv_at hl 1 rfl) ?_
      refine va_get (D := xD g) (ci := 3) (v := .ref bc) (C := RX3) (T := TX3) (N := 4) hx hb hts hFX3 hown hK hP 0 rfl rfl 1 (by decide) (hts (.fieldLink RX3 16 "Stevedore$CraneWalk" "bayOfCrane" "[I") (by decide +kernel)) (fun _ h9 => h9) rfl dX3_isBarred_28 ?_
      refine lv_iload_n hx hb dX3_isBarred_31 rfl (lv_at hl 3 rfl) ?_
      refine va_iald hx hb hK hP 1 0 rfl rfl (vp_in_nI (by omega) (by omega)) dX3_isBarred_32 ?_
      refine lv_topi (fun v_6 ev_6 => ?_)
      refine lv_iconst (v := 1) hx hb dX3_isBarred_33 (by decide) ?_
      refine lv_iadd hx hb dX3_isBarred_34 ?_
      refine lv_topi (fun v_7 ev_7 => ?_)
      refine lv_icmp_ne (tgt := 42) hx hb dX3_isBarred_35 (by decide) (fun c_8 => ?_) (fun c_8 => ?_)
      · refine lv_iconst (v := 0) hx hb dX3_isBarred_42 (by decide) ?_
        exact W.zret (v := 0) hx hb hr (by rfl) (fun t ht hW => ⟨⟨0, (), rfl, (by first | trivial | rfl | assumption | omega | simp_all), trivial⟩, hS.F ht⟩) hS.2.2 dX3_isBarred_43
      · refine lv_iconst (v := 1) hx hb dX3_isBarred_38 (by decide) ?_
        refine lv_goto (tgt := 43) hx hb dX3_isBarred_39 (by decide) ?_
        exact W.zret (v := 1) hx hb hr (by rfl) (fun t ht hW => ⟨⟨1, (), rfl, (by first | trivial | rfl | assumption | omega | simp_all), trivial⟩, hS.F ht⟩) hS.2.2 dX3_isBarred_43
theorem dX3_step_0 : decode cX3_step 0 = .ok (.aload_n 0, 1) := by decide +kernel
theorem dX3_step_1 : decode cX3_step 1 = .ok (.getfield 16, 3) := by decide +kernel
theorem dX3_step_4 : decode cX3_step 4 = .ok (.iload_n 2, 1) := by decide +kernel
theorem dX3_step_5 : decode cX3_step 5 = .ok (.iaload, 1) := by decide +kernel
theorem dX3_step_6 : decode cX3_step 6 = .ok (.istore 4, 2) := by decide +kernel
theorem dX3_step_8 : decode cX3_step 8 = .ok (.aload_n 0, 1) := by decide +kernel
theorem dX3_step_9 : decode cX3_step 9 = .ok (.getfield 20, 3) := by decide +kernel
theorem dX3_step_12 : decode cX3_step 12 = .ok (.iload_n 2, 1) := by decide +kernel
theorem dX3_step_13 : decode cX3_step 13 = .ok (.baload, 1) := by decide +kernel
theorem dX3_step_14 : decode cX3_step 14 = .ok (.ifCond .eq 45, 3) := by decide +kernel
theorem dX3_step_59 : decode cX3_step 59 = .ok (.aload_n 0, 1) := by decide +kernel
theorem dX3_step_60 : decode cX3_step 60 = .ok (.aload_n 1, 1) := by decide +kernel
theorem dX3_step_61 : decode cX3_step 61 = .ok (.iload_n 2, 1) := by decide +kernel
theorem dX3_step_62 : decode cX3_step 62 = .ok (.invokevirtual 92, 3) := by decide +kernel
set_option maxRecDepth 20000 in
theorem ggX3_step_X3_isBarred : GoodIn wsX3_step wsX3_isBarred := goodIn_r _ [16, 17, 2, 1, 34, 35, 36, 37, 38, 39, 40, 41, 42, 43, 44, 30, 31, 32, 33] rfl (by decide +kernel)
set_option maxRecDepth 20000 in
theorem gX3_step_X3_isBarred : GoodIn wsX3_step (wsV RX3 92 RX3 yX3_isBarred wsX3_isBarred) := goodIn_app (goodIn_of _ (by decide +kernel)) ggX3_step_X3_isBarred
theorem dX3_step_65 : decode cX3_step 65 = .ok (.ifCond .eq 16, 3) := by decide +kernel
theorem dX3_step_81 : decode cX3_step 81 = .ok (.aload_n 0, 1) := by decide +kernel
theorem dX3_step_82 : decode cX3_step 82 = .ok (.getfield 20, 3) := by decide +kernel
theorem dX3_step_85 : decode cX3_step 85 = .ok (.iload_n 2, 1) := by decide +kernel
theorem dX3_step_86 : decode cX3_step 86 = .ok (.iconst 1, 1) := by decide +kernel
theorem dX3_step_87 : decode cX3_step 87 = .ok (.bastore, 1) := by decide +kernel
theorem dX3_step_88 : decode cX3_step 88 = .ok (.aload_n 0, 1) := by decide +kernel
theorem dX3_step_89 : decode cX3_step 89 = .ok (.getfield 24, 3) := by decide +kernel
theorem dX3_step_92 : decode cX3_step 92 = .ok (.iload_n 2, 1) := by decide +kernel
theorem dX3_step_93 : decode cX3_step 93 = .ok (.iconst 0, 1) := by decide +kernel
theorem dX3_step_94 : decode cX3_step 94 = .ok (.aload_n 1, 1) := by decide +kernel
theorem dX3_step_95 : decode cX3_step 95 = .ok (.getfield 96, 3) := by decide +kernel
theorem dX3_step_98 : decode cX3_step 98 = .ok (.iload 4, 2) := by decide +kernel
theorem dX3_step_100 : decode cX3_step 100 = .ok (.iaload, 1) := by decide +kernel
theorem dX3_step_101 : decode cX3_step 101 = .ok (.iconst 1, 1) := by decide +kernel
theorem dX3_step_102 : decode cX3_step 102 = .ok (.isub, 1) := by decide +kernel
theorem dX3_step_103 : decode cX3_step 103 = .ok (.invokestatic 58, 3) := by decide +kernel
theorem dX3_step_106 : decode cX3_step 106 = .ok (.iastore, 1) := by decide +kernel
theorem dX3_step_107 : decode cX3_step 107 = .ok (.aload_n 1, 1) := by decide +kernel
theorem dX3_step_108 : decode cX3_step 108 = .ok (.getfield 99, 3) := by decide +kernel
theorem dX3_step_111 : decode cX3_step 111 = .ok (.iload 4, 2) := by decide +kernel
theorem dX3_step_113 : decode cX3_step 113 = .ok (.iload_n 3, 1) := by decide +kernel
theorem dX3_step_114 : decode cX3_step 114 = .ok (.iastore, 1) := by decide +kernel
theorem dX3_step_115 : decode cX3_step 115 = .ok (.aload_n 1, 1) := by decide +kernel
theorem dX3_step_116 : decode cX3_step 116 = .ok (.aload_n 1, 1) := by decide +kernel
theorem dX3_step_117 : decode cX3_step 117 = .ok (.getfield 79, 3) := by decide +kernel
theorem dX3_step_120 : decode cX3_step 120 = .ok (.aload_n 1, 1) := by decide +kernel
theorem dX3_step_121 : decode cX3_step 121 = .ok (.iload 4, 2) := by decide +kernel
theorem dX3_step_123 : decode cX3_step 123 = .ok (.invokevirtual 102, 3) := by decide +kernel
set_option maxRecDepth 20000 in
theorem ggX3_step_X6_end : GoodIn wsX3_step wsX6_end := goodIn_r _ [22, 23, 24, 25, 26, 21, 27, 28, 29, 7, 8, 9, 34, 35, 36, 37, 38, 39, 40, 41, 42, 43, 44] rfl (by decide +kernel)
set_option maxRecDepth 20000 in
theorem gX3_step_X6_end : GoodIn wsX3_step (wsV RX3 102 RX6 yX6_end wsX6_end) := goodIn_app (goodIn_of _ (by decide +kernel)) ggX3_step_X6_end
theorem dX3_step_126 : decode cX3_step 126 = .ok (.invokestatic 58, 3) := by decide +kernel
theorem dX3_step_129 : decode cX3_step 129 = .ok (.putfield 79, 3) := by decide +kernel
theorem dX3_step_132 : decode cX3_step 132 = .ok (.return_, 1) := by decide +kernel
theorem dX3_step_68 : decode cX3_step 68 = .ok (.aload_n 1, 1) := by decide +kernel
theorem dX3_step_69 : decode cX3_step 69 = .ok (.dup, 1) := by decide +kernel
theorem dX3_step_70 : decode cX3_step 70 = .ok (.getfield 82, 3) := by decide +kernel
theorem dX3_step_73 : decode cX3_step 73 = .ok (.iconst 1, 1) := by decide +kernel
theorem dX3_step_74 : decode cX3_step 74 = .ok (.iadd, 1) := by decide +kernel
theorem dX3_step_75 : decode cX3_step 75 = .ok (.putfield 82, 3) := by decide +kernel
theorem dX3_step_78 : decode cX3_step 78 = .ok (.goto 54, 3) := by decide +kernel
theorem dX3_step_17 : decode cX3_step 17 = .ok (.aload_n 0, 1) := by decide +kernel
theorem dX3_step_18 : decode cX3_step 18 = .ok (.getfield 24, 3) := by decide +kernel
theorem dX3_step_21 : decode cX3_step 21 = .ok (.iload_n 2, 1) := by decide +kernel
theorem dX3_step_22 : decode cX3_step 22 = .ok (.iaload, 1) := by decide +kernel
theorem dX3_step_23 : decode cX3_step 23 = .ok (.ifCond .le 16, 3) := by decide +kernel
theorem dX3_step_39 : decode cX3_step 39 = .ok (.aload_n 0, 1) := by decide +kernel
theorem dX3_step_40 : decode cX3_step 40 = .ok (.getfield 20, 3) := by decide +kernel
theorem dX3_step_43 : decode cX3_step 43 = .ok (.iload_n 2, 1) := by decide +kernel
theorem dX3_step_44 : decode cX3_step 44 = .ok (.iconst 0, 1) := by decide +kernel
theorem dX3_step_45 : decode cX3_step 45 = .ok (.bastore, 1) := by decide +kernel
theorem dX3_step_46 : decode cX3_step 46 = .ok (.aload_n 0, 1) := by decide +kernel
theorem dX3_step_47 : decode cX3_step 47 = .ok (.getfield 16, 3) := by decide +kernel
theorem dX3_step_50 : decode cX3_step 50 = .ok (.iload_n 2, 1) := by decide +kernel
theorem dX3_step_51 : decode cX3_step 51 = .ok (.dup2, 1) := by decide +kernel
theorem dX3_step_52 : decode cX3_step 52 = .ok (.iaload, 1) := by decide +kernel
theorem dX3_step_53 : decode cX3_step 53 = .ok (.iconst 1, 1) := by decide +kernel
theorem dX3_step_54 : decode cX3_step 54 = .ok (.iadd, 1) := by decide +kernel
theorem dX3_step_55 : decode cX3_step 55 = .ok (.iastore, 1) := by decide +kernel
theorem dX3_step_56 : decode cX3_step 56 = .ok (.goto 76, 3) := by decide +kernel
theorem dX3_step_26 : decode cX3_step 26 = .ok (.aload_n 0, 1) := by decide +kernel
theorem dX3_step_27 : decode cX3_step 27 = .ok (.getfield 24, 3) := by decide +kernel
theorem dX3_step_30 : decode cX3_step 30 = .ok (.iload_n 2, 1) := by decide +kernel
theorem dX3_step_31 : decode cX3_step 31 = .ok (.dup2, 1) := by decide +kernel
theorem dX3_step_32 : decode cX3_step 32 = .ok (.iaload, 1) := by decide +kernel
theorem dX3_step_33 : decode cX3_step 33 = .ok (.iconst 1, 1) := by decide +kernel
theorem dX3_step_34 : decode cX3_step 34 = .ok (.isub, 1) := by decide +kernel
theorem dX3_step_35 : decode cX3_step 35 = .ok (.iastore, 1) := by decide +kernel
theorem dX3_step_36 : decode cX3_step 36 = .ok (.goto 96, 3) := by decide +kernel
set_option maxHeartbeats 4000000 in
set_option maxRecDepth 100000 in
theorem s_step (l : Launch) (g : xG) (sz : Nat) (h0 : Nat) (bc : Nat) (ii : Nat) (wl : Nat) (ve : Nat) (wb : Nat) (bg : Nat) (R : Nat) (x : Nat) (yb : Nat) (w0 : Value) (v0 : Value) (v1 : Value) (v2 : Value) (v3 : Value) (v5 : Value) (v9 : Value) (fa : Nat → Int32) (fd : Nat → Int32) (fe : Nat → Int32) (fw : Nat → Int32) (fc : Nat → Int32) (hndl : Int32) (wt : Int32) (tk : Int32)  (hxR : x < R) (hR : R ≤ 4) (hy : fd x = nI yb) (hy10 : yb < 10) (hv : xInv R fd) : Met l yX3_step wsX3_step ({ frames := 3, cells := 0, slots := 0, locals := 66 }) (va_Pc [.ref h0, .ref ve, .int (nI x), .int tk] (fun U => xB g [(h0, .inr (3, [w0, .ref bc, .ref ii, .ref wl])), (bc, .inl (xI g, 4, .inl fd)), (ii, .inl (xZ g, 4, .inl fe)), (wl, .inl (xI g, 4, .inl fw)), (ve, .inr (6, [v0, v1, v2, v3, .int (nI R), v5, .int hndl, .int wt, .ref wb, v9, .ref bg])), (wb, .inl (xI g, 10, .inl fa)), (bg, .inl (xI g, 10, .inl fc))] sz U)) (va_Qv (fun (u : Unit) => True) (fun (u : Unit) (t : State) => ∃ (fd1 : Nat → Int32) (fe1 : Nat → Int32) (fw1 : Nat → Int32) (fc1 : Nat → Int32) (hndl1 : Int32) (wt1 : Int32), xInv R fd1 ∧ xE g [(h0, .inr (3, [w0, .ref bc, .ref ii, .ref wl])), (bc, .inl (xI g, 4, .inl fd1)), (ii, .inl (xZ g, 4, .inl fe1)), (wl, .inl (xI g, 4, .inl fw1)), (ve, .inr (6, [v0, v1, v2, v3, .int (nI R), v5, .int hndl1, .int wt1, .ref wb, v9, .ref bg])), (wb, .inl (xI g, 10, .inl fa)), (bg, .inl (xI g, 10, .inl fc1))] (va_A [(h0, .inr (3, [w0, .ref bc, .ref ii, .ref wl])), (bc, .inl (xI g, 4, .inl fd)), (ii, .inl (xZ g, 4, .inl fe)), (wl, .inl (xI g, 4, .inl fw)), (ve, .inr (6, [v0, v1, v2, v3, .int (nI R), v5, .int hndl, .int wt, .ref wb, v9, .ref bg])), (wb, .inl (xI g, 10, .inl fa)), (bg, .inl (xI g, 10, .inl fc))] sz) t) (va_A [(h0, .inr (3, [w0, .ref bc, .ref ii, .ref wl])), (bc, .inl (xI g, 4, .inl fd)), (ii, .inl (xZ g, 4, .inl fe)), (wl, .inl (xI g, 4, .inl fw)), (ve, .inr (6, [v0, v1, v2, v3, .int (nI R), v5, .int hndl, .int wt, .ref wb, v9, .ref bg])), (wb, .inl (xI g, 10, .inl fa)), (bg, .inl (xI g, 10, .inl fc))] sz)) 0 0 (va_A [(h0, .inr (3, [w0, .ref bc, .ref ii, .ref wl])), (bc, .inl (xI g, 4, .inl fd)), (ii, .inl (xZ g, 4, .inl fe)), (wl, .inl (xI g, 4, .inl fw)), (ve, .inr (6, [v0, v1, v2, v3, .int (nI R), v5, .int hndl, .int wt, .ref wb, v9, .ref bg])), (wb, .inl (xI g, 10, .inl fa)), (bg, .inl (xI g, 10, .inl fc))] sz) := by
  refine Met.ofW (cc := cX3_step) (maxL := 5) (ret := none) (by decide) rfl ?_
  intro p e s m args below meth c s₁ B hml hv
  obtain ⟨rfl, ⟨hsz, hP, hK, hD0⟩⟩ := hv
  have hx := B.exec
  have hb := B.bytes
  have hr := B.returns
  have hts := atoms_spec (ws := wsX3_step) B.pre
  have hown : s.vm.findClass RX3 = some m.cls := findClass_of_methodNamed B.named
  have hlocks := B.notSynchronized
  subst hsz
  have hD := hD0.self (sz := s.heap.size)
  generalize hAe : va_A [(h0, .inr (3, [w0, .ref bc, .ref ii, .ref wl])), (bc, .inl (xI g, 4, .inl fd)), (ii, .inl (xZ g, 4, .inl fe)), (wl, .inl (xI g, 4, .inl fw)), (ve, .inr (6, [v0, v1, v2, v3, .int (nI R), v5, .int hndl, .int wt, .ref wb, v9, .ref bg])), (wb, .inl (xI g, 10, .inl fa)), (bg, .inl (xI g, 10, .inl fc))] s.heap.size = A at hD ⊢
  have hA : ∀ q : Nat, s.heap.size ≤ q → A q := fun q h => by rw [← hAe]; exact Or.inr h
  have hS : va_S A s.heap s.heap [] := va_S.rf
  have hl := lv_entry ([.ref h0, .ref ve, .int (nI x), .int tk]) (n := 5) (Nat.le_of_ble_eq_true rfl)
  rw [lg_entry_eq]
  generalize (lg_sl ([.ref h0, .ref ve, .int (nI x), .int tk]) ++ List.replicate (5 - (lg_sl ([.ref h0, .ref ve, .int (nI x), .int tk])).length) Slot.unset).toArray = ls at hl ⊢
  have hl : lv_has ls 5 [(0, .ref h0), (1, .ref ve), (2, .int (nI x)), (3, .int tk)] := hl
  have hFX3 : ∀ w ∈ u_ws RX3 TX3 4, w ∈ wsX3_step := by decide +kernel
  have hFX6 : ∀ w ∈ u_ws RX6 TX6 11, w ∈ wsX3_step := by decide +kernel
  refine lv_aload_n hx hb dX3_step_0 rfl (lv_at hl 0 rfl) ?_
  refine va_get (D := xD g) (ci := 3) (v := .ref bc) (C := RX3) (T := TX3) (N := 4) hx hb hts hFX3 hown hK hP 0 rfl rfl 1 (by decide) (hts (.fieldLink RX3 16 "Stevedore$CraneWalk" "bayOfCrane" "[I") (by decide +kernel)) (fun _ h9 => h9) rfl dX3_step_1 ?_
  refine lv_iload_n hx hb dX3_step_4 rfl (lv_at hl 2 rfl) ?_
  refine va_iald hx hb hK hP 1 0 rfl rfl (vp_in_nI (by omega) (by omega)) dX3_step_5 ?_
  refine lv_topi (fun v_1 ev_1 => ?_)
  obtain rfl : v_1 = nI yb := ev_1.trans (by rw [nI_clamp (by omega)]; exact hy)
  refine lv_istore (lv' := [(4, .int (nI yb)), (0, .ref h0), (1, .ref ve), (2, .int (nI x)), (3, .int tk)]) hx hb dX3_step_6 hl (by decide) rfl (fun ls hl => ?_)
  refine lv_aload_n hx hb dX3_step_8 rfl (lv_at hl 1 rfl) ?_
  refine va_get (D := xD g) (ci := 3) (v := .ref ii) (C := RX3) (T := TX3) (N := 4) hx hb hts hFX3 hown hK hP 0 rfl rfl 2 (by decide) (hts (.fieldLink RX3 20 "Stevedore$CraneWalk" "isInside" "[Z") (by decide +kernel)) (fun _ h9 => h9) rfl dX3_step_9 ?_
  refine lv_iload_n hx hb dX3_step_12 rfl (lv_at hl 3 rfl) ?_
  refine va_zald hx hb hK hP 2 1 rfl rfl (vp_in_nI (by omega) (by omega)) dX3_step_13 ?_
  refine lv_topi (fun v_2 ev_2 => ?_)
  refine lv_if_eq (tgt := 59) hx hb dX3_step_14 (by decide) (fun c_3 => ?_) (fun c_3 => ?_)
  · refine lv_aload_n hx hb dX3_step_59 rfl (lv_at hl 1 rfl) ?_
    refine lv_aload_n hx hb dX3_step_60 rfl (lv_at hl 2 rfl) ?_
    refine lv_iload_n hx hb dX3_step_61 rfl (lv_at hl 3 rfl) ?_
    have hPc := hP.sub (ws' := [(h0, .inr (3, [w0, .ref bc, .ref ii, .ref wl])), (bc, .inl (xI g, 4, .inl fd)), (ii, .inl (xZ g, 4, .inl fe)), (ve, .inr (6, [v0, v1, v2, v3, .int (nI R), v5, .int hndl, .int wt, .ref wb, v9, .ref bg]))]) [0, 1, 2, 4] rfl
    have hDc := hD.sub (ws' := [(h0, .inr (3, [w0, .ref bc, .ref ii, .ref wl])), (bc, .inl (xI g, 4, .inl fd)), (ii, .inl (xZ g, 4, .inl fe)), (ve, .inr (6, [v0, v1, v2, v3, .int (nI R), v5, .int hndl, .int wt, .ref wb, v9, .ref bg]))]) [0, 1, 2, 4] (by decide) rfl
    have hFc := xFree hS hA
    refine va_calli (va_runV (As := [.ref ve, .int (nI x)]) (rest := []) ⟨hx, hb, hml, hown, hts⟩ (s_isBarred l g s.heap.size h0 bc ii ve R x w0 (.ref wl) v0 v1 v2 v3 v5 (.int hndl) (.int wt) (.ref wb) v9 (.ref bg) fd fe (by first | assumption | decide | omega | simp_all) (by first | assumption | decide | omega | simp_all)) (cwV 2 hts gX3_step_X3_isBarred rfl rfl rfl (by decide +kernel) ⟨Nat.le_of_ble_eq_true rfl, Nat.le_of_ble_eq_true rfl⟩) ⟨xB.blind, va_recv hK hPc (ci := 3) (q0 := 0) rfl rfl, fun U9 hU9 hW9 => ⟨rfl, xB.mk hPc hK hDc hU9 hW9⟩⟩ rfl rfl hl.1 rfl (lv_room (Nat.le_of_ble_eq_true rfl)) dX3_step_62 ⟨Nat.le_of_ble_eq_true rfl, Nat.le_of_ble_eq_true rfl⟩) hS (fun q _ h => hFc q h) hFc (fun r_4 u_5 t H1 locs ht hvm hw_6 hB hz1 hk1 hS => ?_)
    have hP := xSame hP hk1
    generalize H1 = H at hP hS ⊢
    have hP : va_P (xD g) vwCl [(h0, .inr (3, [w0, .ref bc, .ref ii, .ref wl])), (bc, .inl (xI g, 4, .inl fd)), (ii, .inl (xZ g, 4, .inl fe)), (wl, .inl (xI g, 4, .inl fw)), (ve, .inr (6, [v0, v1, v2, v3, .int (nI R), v5, .int hndl, .int wt, .ref wb, v9, .ref bg])), (wb, .inl (xI g, 10, .inl fa)), (bg, .inl (xI g, 10, .inl fc))] H := hP
    have hD : va_D A [(h0, .inr (3, [w0, .ref bc, .ref ii, .ref wl])), (bc, .inl (xI g, 4, .inl fd)), (ii, .inl (xZ g, 4, .inl fe)), (wl, .inl (xI g, 4, .inl fw)), (ve, .inr (6, [v0, v1, v2, v3, .int (nI R), v5, .int hndl, .int wt, .ref wb, v9, .ref bg])), (wb, .inl (xI g, 10, .inl fa)), (bg, .inl (xI g, 10, .inl fc))] := hD
    try dsimp only at hw_6
    refine lv_if_eq (tgt := 81) hx hb dX3_step_65 (by decide) (fun c_7 => ?_) (fun c_7 => ?_)
    · refine lv_aload_n hx hb dX3_step_81 rfl (lv_at hl 1 rfl) ?_
      refine va_get (D := xD g) (ci := 3) (v := .ref ii) (C := RX3) (T := TX3) (N := 4) hx hb hts hFX3 hown hK hP 0 rfl rfl 2 (by decide) (hts (.fieldLink RX3 20 "Stevedore$CraneWalk" "isInside" "[Z") (by decide +kernel)) (fun _ h9 => h9) rfl dX3_step_82 ?_
      refine lv_iload_n hx hb dX3_step_85 rfl (lv_at hl 3 rfl) ?_
      refine lv_iconst (v := 1) hx hb dX3_step_86 (by decide) ?_
      refine va_zast (x := 1) hx hb hK hP hD hS 2 1 rfl rfl (vp_in_nI (by omega) (by omega)) dX3_step_87 (fun H locs hP hD hS => ?_)
      have hP : va_P (xD g) vwCl [(h0, .inr (3, [w0, .ref bc, .ref ii, .ref wl])), (bc, .inl (xI g, 4, .inl fd)), (ii, .inl (xZ g, 4, .inl (upd fe (nI x).toNatClampNeg 1))), (wl, .inl (xI g, 4, .inl fw)), (ve, .inr (6, [v0, v1, v2, v3, .int (nI R), v5, .int hndl, .int wt, .ref wb, v9, .ref bg])), (wb, .inl (xI g, 10, .inl fa)), (bg, .inl (xI g, 10, .inl fc))] H := hP
      have hD : va_D A [(h0, .inr (3, [w0, .ref bc, .ref ii, .ref wl])), (bc, .inl (xI g, 4, .inl fd)), (ii, .inl (xZ g, 4, .inl (upd fe (nI x).toNatClampNeg 1))), (wl, .inl (xI g, 4, .inl fw)), (ve, .inr (6, [v0, v1, v2, v3, .int (nI R), v5, .int hndl, .int wt, .ref wb, v9, .ref bg])), (wb, .inl (xI g, 10, .inl fa)), (bg, .inl (xI g, 10, .inl fc))] := hD
      obtain ⟨g_8, eg_8⟩ : ∃ y : Nat → Int32, y = upd fe (nI x).toNatClampNeg 1 := ⟨_, rfl⟩
      rw [← eg_8] at hP hD
      refine lv_aload_n hx hb dX3_step_88 rfl (lv_at hl 1 rfl) ?_
      refine va_get (D := xD g) (ci := 3) (v := .ref wl) (C := RX3) (T := TX3) (N := 4) hx hb hts hFX3 hown hK hP 0 rfl rfl 3 (by decide) (hts (.fieldLink RX3 24 "Stevedore$CraneWalk" "workLeft" "[I") (by decide +kernel)) (fun _ h9 => h9) rfl dX3_step_89 ?_
      refine lv_iload_n hx hb dX3_step_92 rfl (lv_at hl 3 rfl) ?_
      refine lv_iconst (v := 0) hx hb dX3_step_93 (by decide) ?_
      refine lv_aload_n hx hb dX3_step_94 rfl (lv_at hl 2 rfl) ?_
      refine va_get (D := xD g) (ci := 6) (v := .ref wb) (C := RX6) (T := TX6) (N := 11) hx hb hts hFX6 hown hK hP 4 rfl rfl 8 (by decide) (hts (.fieldLink RX3 96 "Stevedore$Vessel" "workOfBay" "[I") (by decide +kernel)) (fun _ h9 => h9) rfl dX3_step_95 ?_
      refine lv_iload hx hb dX3_step_98 (lv_at hl 0 rfl) ?_
      refine va_iald hx hb hK hP 5 0 rfl rfl (vp_in_nI (by omega) (by omega)) dX3_step_100 ?_
      refine lv_topi (fun v_9 ev_9 => ?_)
      refine lv_iconst (v := 1) hx hb dX3_step_101 (by decide) ?_
      refine lv_isub hx hb dX3_step_102 ?_
      refine lv_topi (fun v_10 ev_10 => ?_)
      refine va_mmax hx hb (by rw [hml]; exact hl.1.symm) hown (hts (.methodLink RX3 58 Lib.Math.max.name) (by decide +kernel)) (hts (.static Lib.Math.max.name) (by decide +kernel)) (hts (.initialized "java/lang/Math") (by decide +kernel)) (hts (.code Lib.Math.max.name Lib.Math.max.code 2 (some .int)) (by decide +kernel)) (Nat.le_of_ble_eq_true rfl) (Nat.le_of_ble_eq_true rfl) (Nat.le_of_ble_eq_true rfl) (Nat.le_of_ble_eq_true rfl) dX3_step_103 ?_
      refine lv_topi (fun v_11 ev_11 => ?_)
      refine va_iast (x := v_11) hx hb hK hP hD hS 3 0 rfl rfl (vp_in_nI (by omega) (by omega)) dX3_step_106 (fun H locs hP hD hS => ?_)
      have hP : va_P (xD g) vwCl [(h0, .inr (3, [w0, .ref bc, .ref ii, .ref wl])), (bc, .inl (xI g, 4, .inl fd)), (ii, .inl (xZ g, 4, .inl g_8)), (wl, .inl (xI g, 4, .inl (upd fw (nI x).toNatClampNeg v_11))), (ve, .inr (6, [v0, v1, v2, v3, .int (nI R), v5, .int hndl, .int wt, .ref wb, v9, .ref bg])), (wb, .inl (xI g, 10, .inl fa)), (bg, .inl (xI g, 10, .inl fc))] H := hP
      have hD : va_D A [(h0, .inr (3, [w0, .ref bc, .ref ii, .ref wl])), (bc, .inl (xI g, 4, .inl fd)), (ii, .inl (xZ g, 4, .inl g_8)), (wl, .inl (xI g, 4, .inl (upd fw (nI x).toNatClampNeg v_11))), (ve, .inr (6, [v0, v1, v2, v3, .int (nI R), v5, .int hndl, .int wt, .ref wb, v9, .ref bg])), (wb, .inl (xI g, 10, .inl fa)), (bg, .inl (xI g, 10, .inl fc))] := hD
      obtain ⟨g_12, eg_12⟩ : ∃ y : Nat → Int32, y = upd fw (nI x).toNatClampNeg v_11 := ⟨_, rfl⟩
      rw [← eg_12] at hP hD
      refine lv_aload_n hx hb dX3_step_107 rfl (lv_at hl 2 rfl) ?_
      refine va_get (D := xD g) (ci := 6) (v := .ref bg) (C := RX6) (T := TX6) (N := 11) hx hb hts hFX6 hown hK hP 4 rfl rfl 10 (by decide) (hts (.fieldLink RX3 99 "Stevedore$Vessel" "begin" "[I") (by decide +kernel)) (fun _ h9 => h9) rfl dX3_step_108 ?_
      refine lv_iload hx hb dX3_step_111 (lv_at hl 0 rfl) ?_
      refine lv_iload_n hx hb dX3_step_113 rfl (lv_at hl 4 rfl) ?_
      refine va_iast (x := tk) hx hb hK hP hD hS 6 0 rfl rfl (vp_in_nI (by omega) (by omega)) dX3_step_114 (fun H locs hP hD hS => ?_)
      have hP : va_P (xD g) vwCl [(h0, .inr (3, [w0, .ref bc, .ref ii, .ref wl])), (bc, .inl (xI g, 4, .inl fd)), (ii, .inl (xZ g, 4, .inl g_8)), (wl, .inl (xI g, 4, .inl g_12)), (ve, .inr (6, [v0, v1, v2, v3, .int (nI R), v5, .int hndl, .int wt, .ref wb, v9, .ref bg])), (wb, .inl (xI g, 10, .inl fa)), (bg, .inl (xI g, 10, .inl (upd fc (nI yb).toNatClampNeg tk)))] H := hP
      have hD : va_D A [(h0, .inr (3, [w0, .ref bc, .ref ii, .ref wl])), (bc, .inl (xI g, 4, .inl fd)), (ii, .inl (xZ g, 4, .inl g_8)), (wl, .inl (xI g, 4, .inl g_12)), (ve, .inr (6, [v0, v1, v2, v3, .int (nI R), v5, .int hndl, .int wt, .ref wb, v9, .ref bg])), (wb, .inl (xI g, 10, .inl fa)), (bg, .inl (xI g, 10, .inl (upd fc (nI yb).toNatClampNeg tk)))] := hD
      obtain ⟨g_13, eg_13⟩ : ∃ y : Nat → Int32, y = upd fc (nI yb).toNatClampNeg tk := ⟨_, rfl⟩
      rw [← eg_13] at hP hD
      refine lv_aload_n hx hb dX3_step_115 rfl (lv_at hl 2 rfl) ?_
      refine lv_aload_n hx hb dX3_step_116 rfl (lv_at hl 2 rfl) ?_
      refine va_get (D := xD g) (ci := 6) (v := .int hndl) (C := RX6) (T := TX6) (N := 11) hx hb hts hFX6 hown hK hP 4 rfl rfl 6 (by decide) (hts (.fieldLink RX3 79 "Stevedore$Vessel" "handlingTicks" "I") (by decide +kernel)) (fun _ h9 => h9) rfl dX3_step_117 ?_
      refine lv_aload_n hx hb dX3_step_120 rfl (lv_at hl 2 rfl) ?_
      refine lv_iload hx hb dX3_step_121 (lv_at hl 0 rfl) ?_
      have hPc := hP.sub (ws' := [(ve, .inr (6, [v0, v1, v2, v3, .int (nI R), v5, .int hndl, .int wt, .ref wb, v9, .ref bg])), (wb, .inl (xI g, 10, .inl fa)), (bg, .inl (xI g, 10, .inl g_13))]) [4, 5, 6] rfl
      have hDc := hD.sub (ws' := [(ve, .inr (6, [v0, v1, v2, v3, .int (nI R), v5, .int hndl, .int wt, .ref wb, v9, .ref bg])), (wb, .inl (xI g, 10, .inl fa)), (bg, .inl (xI g, 10, .inl g_13))]) [4, 5, 6] (by decide) rfl
      have hFc := xFree hS hA
      refine va_calli (va_runV (As := [.int (nI yb)]) (rest := [.int hndl, .ref ve]) ⟨hx, hb, hml, hown, hts⟩ (s_end l g H.size ve wb bg yb v0 v1 v2 v3 (.int (nI R)) v5 (.int hndl) (.int wt) v9 fa g_13 (by first | assumption | decide | omega | simp_all)) (cwV 1 hts gX3_step_X6_end rfl rfl rfl (by decide +kernel) ⟨Nat.le_of_ble_eq_true rfl, Nat.le_of_ble_eq_true rfl⟩) ⟨xB.blind, va_recv hK hPc (ci := 6) (q0 := 0) rfl rfl, fun U9 hU9 hW9 => ⟨rfl, xB.mk hPc hK hDc hU9 hW9⟩⟩ rfl rfl hl.1 rfl (lv_room (Nat.le_of_ble_eq_true rfl)) dX3_step_123 ⟨Nat.le_of_ble_eq_true rfl, Nat.le_of_ble_eq_true rfl⟩) hS (fun q _ h => hFc q h) hFc (fun r_14 u_15 t H1 locs ht hvm hw_16 hB hz1 hk1 hS => ?_)
      have hP := xSame hP hk1
      generalize H1 = H at hP hS ⊢
      have hP : va_P (xD g) vwCl [(h0, .inr (3, [w0, .ref bc, .ref ii, .ref wl])), (bc, .inl (xI g, 4, .inl fd)), (ii, .inl (xZ g, 4, .inl g_8)), (wl, .inl (xI g, 4, .inl g_12)), (ve, .inr (6, [v0, v1, v2, v3, .int (nI R), v5, .int hndl, .int wt, .ref wb, v9, .ref bg])), (wb, .inl (xI g, 10, .inl fa)), (bg, .inl (xI g, 10, .inl g_13))] H := hP
      have hD : va_D A [(h0, .inr (3, [w0, .ref bc, .ref ii, .ref wl])), (bc, .inl (xI g, 4, .inl fd)), (ii, .inl (xZ g, 4, .inl g_8)), (wl, .inl (xI g, 4, .inl g_12)), (ve, .inr (6, [v0, v1, v2, v3, .int (nI R), v5, .int hndl, .int wt, .ref wb, v9, .ref bg])), (wb, .inl (xI g, 10, .inl fa)), (bg, .inl (xI g, 10, .inl g_13))] := hD
      try dsimp only at hw_16
      refine va_mmax hx hb (by rw [hml]; exact hl.1.symm) hown (hts (.methodLink RX3 58 Lib.Math.max.name) (by decide +kernel)) (hts (.static Lib.Math.max.name) (by decide +kernel)) (hts (.initialized "java/lang/Math") (by decide +kernel)) (hts (.code Lib.Math.max.name Lib.Math.max.code 2 (some .int)) (by decide +kernel)) (Nat.le_of_ble_eq_true rfl) (Nat.le_of_ble_eq_true rfl) (Nat.le_of_ble_eq_true rfl) (Nat.le_of_ble_eq_true rfl) dX3_step_126 ?_
      refine lv_topi (fun v_17 ev_17 => ?_)
      refine va_put (D := xD g) (ci := 6) (v := .int v_17) (ty := .int) (C := RX6) (T := TX6) (N := 11) hx hb hts hFX6 tyX6 tyX6_ok nmX6 hown hK hP hD hS 4 rfl rfl 6 (by decide) (hts (.fieldLink RX3 79 "Stevedore$Vessel" "handlingTicks" "I") (by decide +kernel)) (fun _ h9 => h9) rfl (by decide +kernel) rfl rfl (Nat.le_of_ble_eq_true rfl) dX3_step_129 (fun H locs hP hD hS => ?_)
      have hP : va_P (xD g) vwCl [(h0, .inr (3, [w0, .ref bc, .ref ii, .ref wl])), (bc, .inl (xI g, 4, .inl fd)), (ii, .inl (xZ g, 4, .inl g_8)), (wl, .inl (xI g, 4, .inl g_12)), (ve, .inr (6, [v0, v1, v2, v3, .int (nI R), v5, .int v_17, .int wt, .ref wb, v9, .ref bg])), (wb, .inl (xI g, 10, .inl fa)), (bg, .inl (xI g, 10, .inl g_13))] H := hP
      have hD : va_D A [(h0, .inr (3, [w0, .ref bc, .ref ii, .ref wl])), (bc, .inl (xI g, 4, .inl fd)), (ii, .inl (xZ g, 4, .inl g_8)), (wl, .inl (xI g, 4, .inl g_12)), (ve, .inr (6, [v0, v1, v2, v3, .int (nI R), v5, .int v_17, .int wt, .ref wb, v9, .ref bg])), (wb, .inl (xI g, 10, .inl fa)), (bg, .inl (xI g, 10, .inl g_13))] := hD
      have hP9 := hP.sub (ws' := [(h0, .inr (3, [w0, .ref bc, .ref ii, .ref wl])), (bc, .inl (xI g, 4, .inl fd)), (ii, .inl (xZ g, 4, .inl g_8)), (wl, .inl (xI g, 4, .inl g_12)), (ve, .inr (6, [v0, v1, v2, v3, .int (nI R), v5, .int v_17, .int wt, .ref wb, v9, .ref bg])), (wb, .inl (xI g, 10, .inl fa)), (bg, .inl (xI g, 10, .inl g_13))]) [0, 1, 2, 3, 4, 5, 6] rfl
      have hD9 := hD.sub (ws' := [(h0, .inr (3, [w0, .ref bc, .ref ii, .ref wl])), (bc, .inl (xI g, 4, .inl fd)), (ii, .inl (xZ g, 4, .inl g_8)), (wl, .inl (xI g, 4, .inl g_12)), (ve, .inr (6, [v0, v1, v2, v3, .int (nI R), v5, .int v_17, .int wt, .ref wb, v9, .ref bg])), (wb, .inl (xI g, 10, .inl fa)), (bg, .inl (xI g, 10, .inl g_13))]) [0, 1, 2, 3, 4, 5, 6] (by decide) rfl
      exact W.vret hx hb hr (fun t ht hW => ⟨⟨(), rfl, (by first | trivial | rfl | assumption | omega | simp_all), ⟨fd, g_8, g_12, g_13, v_17, wt, hv, by rw [ht]; exact hP9, va_K.moved hW.alike hK, hD9⟩⟩, hS.F ht⟩) hS.2.2 dX3_step_132
    · refine lv_aload_n hx hb dX3_step_68 rfl (lv_at hl 2 rfl) ?_
      refine lv_dup hx hb dX3_step_69 rfl ?_
      refine va_get (D := xD g) (ci := 6) (v := .int wt) (C := RX6) (T := TX6) (N := 11) hx hb hts hFX6 hown hK hP 4 rfl rfl 7 (by decide) (hts (.fieldLink RX3 82 "Stevedore$Vessel" "waitTicks" "I") (by decide +kernel)) (fun _ h9 => h9) rfl dX3_step_70 ?_
      refine lv_iconst (v := 1) hx hb dX3_step_73 (by decide) ?_
      refine lv_iadd hx hb dX3_step_74 ?_
      refine lv_topi (fun v_18 ev_18 => ?_)
      refine va_put (D := xD g) (ci := 6) (v := .int v_18) (ty := .int) (C := RX6) (T := TX6) (N := 11) hx hb hts hFX6 tyX6 tyX6_ok nmX6 hown hK hP hD hS 4 rfl rfl 7 (by decide) (hts (.fieldLink RX3 82 "Stevedore$Vessel" "waitTicks" "I") (by decide +kernel)) (fun _ h9 => h9) rfl (by decide +kernel) rfl rfl (Nat.le_of_ble_eq_true rfl) dX3_step_75 (fun H locs hP hD hS => ?_)
      have hP : va_P (xD g) vwCl [(h0, .inr (3, [w0, .ref bc, .ref ii, .ref wl])), (bc, .inl (xI g, 4, .inl fd)), (ii, .inl (xZ g, 4, .inl fe)), (wl, .inl (xI g, 4, .inl fw)), (ve, .inr (6, [v0, v1, v2, v3, .int (nI R), v5, .int hndl, .int v_18, .ref wb, v9, .ref bg])), (wb, .inl (xI g, 10, .inl fa)), (bg, .inl (xI g, 10, .inl fc))] H := hP
      have hD : va_D A [(h0, .inr (3, [w0, .ref bc, .ref ii, .ref wl])), (bc, .inl (xI g, 4, .inl fd)), (ii, .inl (xZ g, 4, .inl fe)), (wl, .inl (xI g, 4, .inl fw)), (ve, .inr (6, [v0, v1, v2, v3, .int (nI R), v5, .int hndl, .int v_18, .ref wb, v9, .ref bg])), (wb, .inl (xI g, 10, .inl fa)), (bg, .inl (xI g, 10, .inl fc))] := hD
      refine lv_goto (tgt := 132) hx hb dX3_step_78 (by decide) ?_
      have hP9 := hP.sub (ws' := [(h0, .inr (3, [w0, .ref bc, .ref ii, .ref wl])), (bc, .inl (xI g, 4, .inl fd)), (ii, .inl (xZ g, 4, .inl fe)), (wl, .inl (xI g, 4, .inl fw)), (ve, .inr (6, [v0, v1, v2, v3, .int (nI R), v5, .int hndl, .int v_18, .ref wb, v9, .ref bg])), (wb, .inl (xI g, 10, .inl fa)), (bg, .inl (xI g, 10, .inl fc))]) [0, 1, 2, 3, 4, 5, 6] rfl
      have hD9 := hD.sub (ws' := [(h0, .inr (3, [w0, .ref bc, .ref ii, .ref wl])), (bc, .inl (xI g, 4, .inl fd)), (ii, .inl (xZ g, 4, .inl fe)), (wl, .inl (xI g, 4, .inl fw)), (ve, .inr (6, [v0, v1, v2, v3, .int (nI R), v5, .int hndl, .int v_18, .ref wb, v9, .ref bg])), (wb, .inl (xI g, 10, .inl fa)), (bg, .inl (xI g, 10, .inl fc))]) [0, 1, 2, 3, 4, 5, 6] (by decide) rfl
      exact W.vret hx hb hr (fun t ht hW => ⟨⟨(), rfl, (by first | trivial | rfl | assumption | omega | simp_all), ⟨fd, fe, fw, fc, hndl, v_18, hv, by rw [ht]; exact hP9, va_K.moved hW.alike hK, hD9⟩⟩, hS.F ht⟩) hS.2.2 dX3_step_132
  · refine lv_aload_n hx hb dX3_step_17 rfl (lv_at hl 1 rfl) ?_
    refine va_get (D := xD g) (ci := 3) (v := .ref wl) (C := RX3) (T := TX3) (N := 4) hx hb hts hFX3 hown hK hP 0 rfl rfl 3 (by decide) (hts (.fieldLink RX3 24 "Stevedore$CraneWalk" "workLeft" "[I") (by decide +kernel)) (fun _ h9 => h9) rfl dX3_step_18 ?_
    refine lv_iload_n hx hb dX3_step_21 rfl (lv_at hl 3 rfl) ?_
    refine va_iald hx hb hK hP 3 0 rfl rfl (vp_in_nI (by omega) (by omega)) dX3_step_22 ?_
    refine lv_topi (fun v_19 ev_19 => ?_)
    refine lv_if_le (tgt := 39) hx hb dX3_step_23 (by decide) (fun c_20 => ?_) (fun c_20 => ?_)
    · refine lv_aload_n hx hb dX3_step_39 rfl (lv_at hl 1 rfl) ?_
      refine va_get (D := xD g) (ci := 3) (v := .ref ii) (C := RX3) (T := TX3) (N := 4) hx hb hts hFX3 hown hK hP 0 rfl rfl 2 (by decide) (hts (.fieldLink RX3 20 "Stevedore$CraneWalk" "isInside" "[Z") (by decide +kernel)) (fun _ h9 => h9) rfl dX3_step_40 ?_
      refine lv_iload_n hx hb dX3_step_43 rfl (lv_at hl 3 rfl) ?_
      refine lv_iconst (v := 0) hx hb dX3_step_44 (by decide) ?_
      refine va_zast (x := 0) hx hb hK hP hD hS 2 1 rfl rfl (vp_in_nI (by omega) (by omega)) dX3_step_45 (fun H locs hP hD hS => ?_)
      have hP : va_P (xD g) vwCl [(h0, .inr (3, [w0, .ref bc, .ref ii, .ref wl])), (bc, .inl (xI g, 4, .inl fd)), (ii, .inl (xZ g, 4, .inl (upd fe (nI x).toNatClampNeg 0))), (wl, .inl (xI g, 4, .inl fw)), (ve, .inr (6, [v0, v1, v2, v3, .int (nI R), v5, .int hndl, .int wt, .ref wb, v9, .ref bg])), (wb, .inl (xI g, 10, .inl fa)), (bg, .inl (xI g, 10, .inl fc))] H := hP
      have hD : va_D A [(h0, .inr (3, [w0, .ref bc, .ref ii, .ref wl])), (bc, .inl (xI g, 4, .inl fd)), (ii, .inl (xZ g, 4, .inl (upd fe (nI x).toNatClampNeg 0))), (wl, .inl (xI g, 4, .inl fw)), (ve, .inr (6, [v0, v1, v2, v3, .int (nI R), v5, .int hndl, .int wt, .ref wb, v9, .ref bg])), (wb, .inl (xI g, 10, .inl fa)), (bg, .inl (xI g, 10, .inl fc))] := hD
      obtain ⟨g_21, eg_21⟩ : ∃ y : Nat → Int32, y = upd fe (nI x).toNatClampNeg 0 := ⟨_, rfl⟩
      rw [← eg_21] at hP hD
      refine lv_aload_n hx hb dX3_step_46 rfl (lv_at hl 1 rfl) ?_
      refine va_get (D := xD g) (ci := 3) (v := .ref bc) (C := RX3) (T := TX3) (N := 4) hx hb hts hFX3 hown hK hP 0 rfl rfl 1 (by decide) (hts (.fieldLink RX3 16 "Stevedore$CraneWalk" "bayOfCrane" "[I") (by decide +kernel)) (fun _ h9 => h9) rfl dX3_step_47 ?_
      refine lv_iload_n hx hb dX3_step_50 rfl (lv_at hl 3 rfl) ?_
      refine lv_dup2_11 hx hb dX3_step_51 rfl rfl ?_
      refine va_iald hx hb hK hP 1 0 rfl rfl (vp_in_nI (by omega) (by omega)) dX3_step_52 ?_
      refine lv_topi (fun v_22 ev_22 => ?_)
      obtain rfl : v_22 = nI yb := ev_22.trans (by rw [nI_clamp (by omega)]; exact hy)
      refine lv_iconst (v := 1) hx hb dX3_step_53 (by decide) ?_
      refine lv_iadd hx hb dX3_step_54 ?_
      refine lv_topi (fun v_23 ev => ?_)
      obtain rfl : v_23 = nI (yb + 1) := ev.trans (nI_1 yb)
      refine va_iast (x := nI (yb + 1)) hx hb hK hP hD hS 1 0 rfl rfl (vp_in_nI (by omega) (by omega)) dX3_step_55 (fun H locs hP hD hS => ?_)
      have hP : va_P (xD g) vwCl [(h0, .inr (3, [w0, .ref bc, .ref ii, .ref wl])), (bc, .inl (xI g, 4, .inl (upd fd (nI x).toNatClampNeg (nI (yb + 1))))), (ii, .inl (xZ g, 4, .inl g_21)), (wl, .inl (xI g, 4, .inl fw)), (ve, .inr (6, [v0, v1, v2, v3, .int (nI R), v5, .int hndl, .int wt, .ref wb, v9, .ref bg])), (wb, .inl (xI g, 10, .inl fa)), (bg, .inl (xI g, 10, .inl fc))] H := hP
      have hD : va_D A [(h0, .inr (3, [w0, .ref bc, .ref ii, .ref wl])), (bc, .inl (xI g, 4, .inl (upd fd (nI x).toNatClampNeg (nI (yb + 1))))), (ii, .inl (xZ g, 4, .inl g_21)), (wl, .inl (xI g, 4, .inl fw)), (ve, .inr (6, [v0, v1, v2, v3, .int (nI R), v5, .int hndl, .int wt, .ref wb, v9, .ref bg])), (wb, .inl (xI g, 10, .inl fa)), (bg, .inl (xI g, 10, .inl fc))] := hD
      obtain ⟨g_24, eg_24⟩ : ∃ y : Nat → Int32, y = upd fd (nI x).toNatClampNeg (nI (yb + 1)) := ⟨_, rfl⟩
      rw [← eg_24] at hP hD
      refine lv_goto (tgt := 132) hx hb dX3_step_56 (by decide) ?_
      have hP9 := hP.sub (ws' := [(h0, .inr (3, [w0, .ref bc, .ref ii, .ref wl])), (bc, .inl (xI g, 4, .inl g_24)), (ii, .inl (xZ g, 4, .inl g_21)), (wl, .inl (xI g, 4, .inl fw)), (ve, .inr (6, [v0, v1, v2, v3, .int (nI R), v5, .int hndl, .int wt, .ref wb, v9, .ref bg])), (wb, .inl (xI g, 10, .inl fa)), (bg, .inl (xI g, 10, .inl fc))]) [0, 1, 2, 3, 4, 5, 6] rfl
      have hD9 := hD.sub (ws' := [(h0, .inr (3, [w0, .ref bc, .ref ii, .ref wl])), (bc, .inl (xI g, 4, .inl g_24)), (ii, .inl (xZ g, 4, .inl g_21)), (wl, .inl (xI g, 4, .inl fw)), (ve, .inr (6, [v0, v1, v2, v3, .int (nI R), v5, .int hndl, .int wt, .ref wb, v9, .ref bg])), (wb, .inl (xI g, 10, .inl fa)), (bg, .inl (xI g, 10, .inl fc))]) [0, 1, 2, 3, 4, 5, 6] (by decide) rfl
      exact W.vret hx hb hr (fun t ht hW => ⟨⟨(), rfl, (by first | trivial | rfl | assumption | omega | simp_all), ⟨g_24, g_21, fw, fc, hndl, wt, (xInv_set hv (by omega) eg_24), by rw [ht]; exact hP9, va_K.moved hW.alike hK, hD9⟩⟩, hS.F ht⟩) hS.2.2 dX3_step_132
    · refine lv_aload_n hx hb dX3_step_26 rfl (lv_at hl 1 rfl) ?_
      refine va_get (D := xD g) (ci := 3) (v := .ref wl) (C := RX3) (T := TX3) (N := 4) hx hb hts hFX3 hown hK hP 0 rfl rfl 3 (by decide) (hts (.fieldLink RX3 24 "Stevedore$CraneWalk" "workLeft" "[I") (by decide +kernel)) (fun _ h9 => h9) rfl dX3_step_27 ?_
      refine lv_iload_n hx hb dX3_step_30 rfl (lv_at hl 3 rfl) ?_
      refine lv_dup2_11 hx hb dX3_step_31 rfl rfl ?_
      refine va_iald hx hb hK hP 3 0 rfl rfl (vp_in_nI (by omega) (by omega)) dX3_step_32 ?_
      refine lv_topi (fun v_25 ev_25 => ?_)
      refine lv_iconst (v := 1) hx hb dX3_step_33 (by decide) ?_
      refine lv_isub hx hb dX3_step_34 ?_
      refine lv_topi (fun v_26 ev_26 => ?_)
      refine va_iast (x := v_26) hx hb hK hP hD hS 3 0 rfl rfl (vp_in_nI (by omega) (by omega)) dX3_step_35 (fun H locs hP hD hS => ?_)
      have hP : va_P (xD g) vwCl [(h0, .inr (3, [w0, .ref bc, .ref ii, .ref wl])), (bc, .inl (xI g, 4, .inl fd)), (ii, .inl (xZ g, 4, .inl fe)), (wl, .inl (xI g, 4, .inl (upd fw (nI x).toNatClampNeg v_26))), (ve, .inr (6, [v0, v1, v2, v3, .int (nI R), v5, .int hndl, .int wt, .ref wb, v9, .ref bg])), (wb, .inl (xI g, 10, .inl fa)), (bg, .inl (xI g, 10, .inl fc))] H := hP
      have hD : va_D A [(h0, .inr (3, [w0, .ref bc, .ref ii, .ref wl])), (bc, .inl (xI g, 4, .inl fd)), (ii, .inl (xZ g, 4, .inl fe)), (wl, .inl (xI g, 4, .inl (upd fw (nI x).toNatClampNeg v_26))), (ve, .inr (6, [v0, v1, v2, v3, .int (nI R), v5, .int hndl, .int wt, .ref wb, v9, .ref bg])), (wb, .inl (xI g, 10, .inl fa)), (bg, .inl (xI g, 10, .inl fc))] := hD
      obtain ⟨g_27, eg_27⟩ : ∃ y : Nat → Int32, y = upd fw (nI x).toNatClampNeg v_26 := ⟨_, rfl⟩
      rw [← eg_27] at hP hD
      refine lv_goto (tgt := 132) hx hb dX3_step_36 (by decide) ?_
      have hP9 := hP.sub (ws' := [(h0, .inr (3, [w0, .ref bc, .ref ii, .ref wl])), (bc, .inl (xI g, 4, .inl fd)), (ii, .inl (xZ g, 4, .inl fe)), (wl, .inl (xI g, 4, .inl g_27)), (ve, .inr (6, [v0, v1, v2, v3, .int (nI R), v5, .int hndl, .int wt, .ref wb, v9, .ref bg])), (wb, .inl (xI g, 10, .inl fa)), (bg, .inl (xI g, 10, .inl fc))]) [0, 1, 2, 3, 4, 5, 6] rfl
      have hD9 := hD.sub (ws' := [(h0, .inr (3, [w0, .ref bc, .ref ii, .ref wl])), (bc, .inl (xI g, 4, .inl fd)), (ii, .inl (xZ g, 4, .inl fe)), (wl, .inl (xI g, 4, .inl g_27)), (ve, .inr (6, [v0, v1, v2, v3, .int (nI R), v5, .int hndl, .int wt, .ref wb, v9, .ref bg])), (wb, .inl (xI g, 10, .inl fa)), (bg, .inl (xI g, 10, .inl fc))]) [0, 1, 2, 3, 4, 5, 6] (by decide) rfl
      exact W.vret hx hb hr (fun t ht hW => ⟨⟨(), rfl, (by first | trivial | rfl | assumption | omega | simp_all), ⟨fd, fe, g_27, fc, hndl, wt, hv, by rw [ht]; exact hP9, va_K.moved hW.alike hK, hD9⟩⟩, hS.F ht⟩) hS.2.2 dX3_step_132
theorem dX3_walk_0 : decode cX3_walk 0 = .ok (.aload_n 1, 1) := by decide +kernel
theorem dX3_walk_1 : decode cX3_walk 1 = .ok (.iconst 0, 1) := by decide +kernel
theorem dX3_walk_2 : decode cX3_walk 2 = .ok (.putfield 79, 3) := by decide +kernel
theorem dX3_walk_5 : decode cX3_walk 5 = .ok (.aload_n 1, 1) := by decide +kernel
theorem dX3_walk_6 : decode cX3_walk 6 = .ok (.iconst 0, 1) := by decide +kernel
theorem dX3_walk_7 : decode cX3_walk 7 = .ok (.putfield 82, 3) := by decide +kernel
theorem dX3_walk_10 : decode cX3_walk 10 = .ok (.iconst 0, 1) := by decide +kernel
theorem dX3_walk_11 : decode cX3_walk 11 = .ok (.istore_n 2, 1) := by decide +kernel
theorem dX3_walk_12 : decode cX3_walk 12 = .ok (.iload_n 2, 1) := by decide +kernel
theorem dX3_walk_13 : decode cX3_walk 13 = .ok (.aload_n 1, 1) := by decide +kernel
theorem dX3_walk_14 : decode cX3_walk 14 = .ok (.getfield 67, 3) := by decide +kernel
theorem dX3_walk_17 : decode cX3_walk 17 = .ok (.if_icmp .ge 28, 3) := by decide +kernel
theorem dX3_walk_45 : decode cX3_walk 45 = .ok (.iconst 1, 1) := by decide +kernel
theorem dX3_walk_46 : decode cX3_walk 46 = .ok (.istore_n 2, 1) := by decide +kernel
theorem dX3_walk_47 : decode cX3_walk 47 = .ok (.iconst 0, 1) := by decide +kernel
theorem dX3_walk_48 : decode cX3_walk 48 = .ok (.istore_n 3, 1) := by decide +kernel
theorem dX3_walk_49 : decode cX3_walk 49 = .ok (.iload_n 2, 1) := by decide +kernel
theorem dX3_walk_50 : decode cX3_walk 50 = .ok (.ifCond .eq 63, 3) := by decide +kernel
theorem dX3_walk_113 : decode cX3_walk 113 = .ok (.return_, 1) := by decide +kernel
theorem dX3_walk_53 : decode cX3_walk 53 = .ok (.iload_n 3, 1) := by decide +kernel
theorem dX3_walk_54 : decode cX3_walk 54 = .ok (.sipush 10000, 3) := by decide +kernel
theorem dX3_walk_57 : decode cX3_walk 57 = .ok (.if_icmp .ge 56, 3) := by decide +kernel
theorem dX3_walk_60 : decode cX3_walk 60 = .ok (.iconst 0, 1) := by decide +kernel
theorem dX3_walk_61 : decode cX3_walk 61 = .ok (.istore_n 2, 1) := by decide +kernel
theorem dX3_walk_62 : decode cX3_walk 62 = .ok (.aload_n 1, 1) := by decide +kernel
theorem dX3_walk_63 : decode cX3_walk 63 = .ok (.getfield 67, 3) := by decide +kernel
theorem dX3_walk_66 : decode cX3_walk 66 = .ok (.iconst 1, 1) := by decide +kernel
theorem dX3_walk_67 : decode cX3_walk 67 = .ok (.isub, 1) := by decide +kernel
theorem dX3_walk_68 : decode cX3_walk 68 = .ok (.istore 4, 2) := by decide +kernel
theorem dX3_walk_70 : decode cX3_walk 70 = .ok (.iload 4, 2) := by decide +kernel
theorem dX3_walk_72 : decode cX3_walk 72 = .ok (.ifCond .lt 35, 3) := by decide +kernel
theorem dX3_walk_107 : decode cX3_walk 107 = .ok (.iinc 3 1, 3) := by decide +kernel
theorem dX3_walk_110 : decode cX3_walk 110 = .ok (.goto (-61), 3) := by decide +kernel
theorem dX3_walk_75 : decode cX3_walk 75 = .ok (.aload_n 0, 1) := by decide +kernel
theorem dX3_walk_76 : decode cX3_walk 76 = .ok (.getfield 16, 3) := by decide +kernel
theorem dX3_walk_79 : decode cX3_walk 79 = .ok (.iload 4, 2) := by decide +kernel
theorem dX3_walk_81 : decode cX3_walk 81 = .ok (.iaload, 1) := by decide +kernel
theorem dX3_walk_82 : decode cX3_walk 82 = .ok (.aload_n 1, 1) := by decide +kernel
theorem dX3_walk_83 : decode cX3_walk 83 = .ok (.iload 4, 2) := by decide +kernel
theorem dX3_walk_85 : decode cX3_walk 85 = .ok (.invokevirtual 85, 3) := by decide +kernel
set_option maxRecDepth 20000 in
theorem ggX3_walk_X6_endOfRange : GoodIn wsX3_walk wsX6_endOfRange := goodIn_r _ [11, 12, 13, 14, 42, 43, 44, 45, 46, 47, 48, 49, 50, 51, 52] rfl (by decide +kernel)
set_option maxRecDepth 20000 in
theorem gX3_walk_X6_endOfRange : GoodIn wsX3_walk (wsV RX3 85 RX6 yX6_endOfRange wsX6_endOfRange) := goodIn_app (goodIn_of _ (by decide +kernel)) ggX3_walk_X6_endOfRange
theorem dX3_walk_88 : decode cX3_walk 88 = .ok (.if_icmp .ge 13, 3) := by decide +kernel
theorem dX3_walk_101 : decode cX3_walk 101 = .ok (.iinc 4 (-1), 3) := by decide +kernel
theorem dX3_walk_104 : decode cX3_walk 104 = .ok (.goto (-34), 3) := by decide +kernel
theorem dX3_walk_91 : decode cX3_walk 91 = .ok (.aload_n 0, 1) := by decide +kernel
theorem dX3_walk_92 : decode cX3_walk 92 = .ok (.aload_n 1, 1) := by decide +kernel
theorem dX3_walk_93 : decode cX3_walk 93 = .ok (.iload 4, 2) := by decide +kernel
theorem dX3_walk_95 : decode cX3_walk 95 = .ok (.iload_n 3, 1) := by decide +kernel
theorem dX3_walk_96 : decode cX3_walk 96 = .ok (.invokevirtual 88, 3) := by decide +kernel
set_option maxRecDepth 20000 in
theorem ggX3_walk_X3_step : GoodIn wsX3_walk wsX3_step := goodIn_r _ [19, 4, 6, 20, 2, 21, 22, 23, 24, 25, 26, 1, 27, 28, 29, 18, 30, 3, 31, 32, 33, 10, 34, 35, 36, 37, 38, 39, 40, 41, 53, 54, 55, 56, 42, 43, 44, 45, 46, 47, 48, 49, 50, 51, 52] rfl (by decide +kernel)
set_option maxRecDepth 20000 in
theorem gX3_walk_X3_step : GoodIn wsX3_walk (wsV RX3 88 RX3 yX3_step wsX3_step) := goodIn_app (goodIn_of _ (by decide +kernel)) ggX3_walk_X3_step
theorem dX3_walk_99 : decode cX3_walk 99 = .ok (.iconst 1, 1) := by decide +kernel
theorem dX3_walk_100 : decode cX3_walk 100 = .ok (.istore_n 2, 1) := by decide +kernel
theorem dX3_walk_20 : decode cX3_walk 20 = .ok (.aload_n 0, 1) := by decide +kernel
theorem dX3_walk_21 : decode cX3_walk 21 = .ok (.getfield 16, 3) := by decide +kernel
theorem dX3_walk_24 : decode cX3_walk 24 = .ok (.iload_n 2, 1) := by decide +kernel
theorem dX3_walk_25 : decode cX3_walk 25 = .ok (.aload_n 1, 1) := by decide +kernel
theorem dX3_walk_26 : decode cX3_walk 26 = .ok (.getfield 73, 3) := by decide +kernel
theorem dX3_walk_29 : decode cX3_walk 29 = .ok (.iload_n 2, 1) := by decide +kernel
theorem dX3_walk_30 : decode cX3_walk 30 = .ok (.iaload, 1) := by decide +kernel
theorem dX3_walk_31 : decode cX3_walk 31 = .ok (.iastore, 1) := by decide +kernel
theorem dX3_walk_32 : decode cX3_walk 32 = .ok (.aload_n 0, 1) := by decide +kernel
theorem dX3_walk_33 : decode cX3_walk 33 = .ok (.getfield 20, 3) := by decide +kernel
theorem dX3_walk_36 : decode cX3_walk 36 = .ok (.iload_n 2, 1) := by decide +kernel
theorem dX3_walk_37 : decode cX3_walk 37 = .ok (.iconst 0, 1) := by decide +kernel
theorem dX3_walk_38 : decode cX3_walk 38 = .ok (.bastore, 1) := by decide +kernel
theorem dX3_walk_39 : decode cX3_walk 39 = .ok (.iinc 2 1, 3) := by decide +kernel
theorem dX3_walk_42 : decode cX3_walk 42 = .ok (.goto (-30), 3) := by decide +kernel
set_option maxHeartbeats 4000000 in
set_option maxRecDepth 100000 in
theorem s_walk (l : Launch) (g : xG) (sz : Nat) (h0 : Nat) (bc : Nat) (ii : Nat) (wl : Nat) (ve : Nat) (wb : Nat) (fr : Nat) (bg : Nat) (Nb : Nat) (R : Nat) (w0 : Value) (v0 : Value) (v2 : Value) (v3 : Value) (v5 : Value) (v6 : Value) (v7 : Value) (fa : Nat → Int32) (fb : Nat → Int32) (fc : Nat → Int32) (fd : Nat → Int32) (fe : Nat → Int32) (fw : Nat → Int32)  (hB : Nb ≤ 10) (hR1 : 1 ≤ R) (hR : R ≤ 4) (hfb : xInv R fb) : Met l yX3_walk wsX3_walk ({ frames := 4, cells := 0, slots := 0, locals := 90 }) (va_Pc [.ref h0, .ref ve] (fun U => xB g [(h0, .inr (3, [w0, .ref bc, .ref ii, .ref wl])), (bc, .inl (xI g, 4, .inl fd)), (ii, .inl (xZ g, 4, .inl fe)), (wl, .inl (xI g, 4, .inl fw)), (ve, .inr (6, [v0, .int (nI Nb), v2, v3, .int (nI R), v5, v6, v7, .ref wb, .ref fr, .ref bg])), (wb, .inl (xI g, 10, .inl fa)), (fr, .inl (xI g, 4, .inl fb)), (bg, .inl (xI g, 10, .inl fc))] sz U)) (va_Qv (fun (u : Unit) => True) (fun _ _ => True) (va_A [(h0, .inr (3, [w0, .ref bc, .ref ii, .ref wl])), (bc, .inl (xI g, 4, .inl fd)), (ii, .inl (xZ g, 4, .inl fe)), (wl, .inl (xI g, 4, .inl fw)), (ve, .inr (6, [v0, .int (nI Nb), v2, v3, .int (nI R), v5, v6, v7, .ref wb, .ref fr, .ref bg])), (wb, .inl (xI g, 10, .inl fa)), (fr, .inl (xI g, 4, .inl fb)), (bg, .inl (xI g, 10, .inl fc))] sz)) 0 0 (va_A [(h0, .inr (3, [w0, .ref bc, .ref ii, .ref wl])), (bc, .inl (xI g, 4, .inl fd)), (ii, .inl (xZ g, 4, .inl fe)), (wl, .inl (xI g, 4, .inl fw)), (ve, .inr (6, [v0, .int (nI Nb), v2, v3, .int (nI R), v5, v6, v7, .ref wb, .ref fr, .ref bg])), (wb, .inl (xI g, 10, .inl fa)), (fr, .inl (xI g, 4, .inl fb)), (bg, .inl (xI g, 10, .inl fc))] sz) := by
  refine Met.ofW (cc := cX3_walk) (maxL := 5) (ret := none) (by decide) rfl ?_
  intro p e s m args below meth c s₁ B hml hv
  obtain ⟨rfl, ⟨hsz, hP, hK, hD0⟩⟩ := hv
  have hx := B.exec
  have hb := B.bytes
  have hr := B.returns
  have hts := atoms_spec (ws := wsX3_walk) B.pre
  have hown : s.vm.findClass RX3 = some m.cls := findClass_of_methodNamed B.named
  have hlocks := B.notSynchronized
  subst hsz
  have hD := hD0.self (sz := s.heap.size)
  generalize hAe : va_A [(h0, .inr (3, [w0, .ref bc, .ref ii, .ref wl])), (bc, .inl (xI g, 4, .inl fd)), (ii, .inl (xZ g, 4, .inl fe)), (wl, .inl (xI g, 4, .inl fw)), (ve, .inr (6, [v0, .int (nI Nb), v2, v3, .int (nI R), v5, v6, v7, .ref wb, .ref fr, .ref bg])), (wb, .inl (xI g, 10, .inl fa)), (fr, .inl (xI g, 4, .inl fb)), (bg, .inl (xI g, 10, .inl fc))] s.heap.size = A at hD ⊢
  have hA : ∀ q : Nat, s.heap.size ≤ q → A q := fun q h => by rw [← hAe]; exact Or.inr h
  have hS : va_S A s.heap s.heap [] := va_S.rf
  have hl := lv_entry ([.ref h0, .ref ve]) (n := 5) (Nat.le_of_ble_eq_true rfl)
  rw [lg_entry_eq]
  generalize (lg_sl ([.ref h0, .ref ve]) ++ List.replicate (5 - (lg_sl ([.ref h0, .ref ve])).length) Slot.unset).toArray = ls at hl ⊢
  have hl : lv_has ls 5 [(0, .ref h0), (1, .ref ve)] := hl
  have hFX3 : ∀ w ∈ u_ws RX3 TX3 4, w ∈ wsX3_walk := by decide +kernel
  have hFX6 : ∀ w ∈ u_ws RX6 TX6 11, w ∈ wsX3_walk := by decide +kernel
  refine lv_aload_n hx hb dX3_walk_0 rfl (lv_at hl 1 rfl) ?_
  refine lv_iconst (v := 0) hx hb dX3_walk_1 (by decide) ?_
  refine va_put (D := xD g) (ci := 6) (v := .int 0) (ty := .int) (C := RX6) (T := TX6) (N := 11) hx hb hts hFX6 tyX6 tyX6_ok nmX6 hown hK hP hD hS 4 rfl rfl 6 (by decide) (hts (.fieldLink RX3 79 "Stevedore$Vessel" "handlingTicks" "I") (by decide +kernel)) (fun _ h9 => h9) rfl (by decide +kernel) rfl rfl (Nat.le_of_ble_eq_true rfl) dX3_walk_2 (fun H locs hP hD hS => ?_)
  have hP : va_P (xD g) vwCl [(h0, .inr (3, [w0, .ref bc, .ref ii, .ref wl])), (bc, .inl (xI g, 4, .inl fd)), (ii, .inl (xZ g, 4, .inl fe)), (wl, .inl (xI g, 4, .inl fw)), (ve, .inr (6, [v0, .int (nI Nb), v2, v3, .int (nI R), v5, .int 0, v7, .ref wb, .ref fr, .ref bg])), (wb, .inl (xI g, 10, .inl fa)), (fr, .inl (xI g, 4, .inl fb)), (bg, .inl (xI g, 10, .inl fc))] H := hP
  have hD : va_D A [(h0, .inr (3, [w0, .ref bc, .ref ii, .ref wl])), (bc, .inl (xI g, 4, .inl fd)), (ii, .inl (xZ g, 4, .inl fe)), (wl, .inl (xI g, 4, .inl fw)), (ve, .inr (6, [v0, .int (nI Nb), v2, v3, .int (nI R), v5, .int 0, v7, .ref wb, .ref fr, .ref bg])), (wb, .inl (xI g, 10, .inl fa)), (fr, .inl (xI g, 4, .inl fb)), (bg, .inl (xI g, 10, .inl fc))] := hD
  refine lv_aload_n hx hb dX3_walk_5 rfl (lv_at hl 1 rfl) ?_
  refine lv_iconst (v := 0) hx hb dX3_walk_6 (by decide) ?_
  refine va_put (D := xD g) (ci := 6) (v := .int 0) (ty := .int) (C := RX6) (T := TX6) (N := 11) hx hb hts hFX6 tyX6 tyX6_ok nmX6 hown hK hP hD hS 4 rfl rfl 7 (by decide) (hts (.fieldLink RX3 82 "Stevedore$Vessel" "waitTicks" "I") (by decide +kernel)) (fun _ h9 => h9) rfl (by decide +kernel) rfl rfl (Nat.le_of_ble_eq_true rfl) dX3_walk_7 (fun H locs hP hD hS => ?_)
  have hP : va_P (xD g) vwCl [(h0, .inr (3, [w0, .ref bc, .ref ii, .ref wl])), (bc, .inl (xI g, 4, .inl fd)), (ii, .inl (xZ g, 4, .inl fe)), (wl, .inl (xI g, 4, .inl fw)), (ve, .inr (6, [v0, .int (nI Nb), v2, v3, .int (nI R), v5, .int 0, .int 0, .ref wb, .ref fr, .ref bg])), (wb, .inl (xI g, 10, .inl fa)), (fr, .inl (xI g, 4, .inl fb)), (bg, .inl (xI g, 10, .inl fc))] H := hP
  have hD : va_D A [(h0, .inr (3, [w0, .ref bc, .ref ii, .ref wl])), (bc, .inl (xI g, 4, .inl fd)), (ii, .inl (xZ g, 4, .inl fe)), (wl, .inl (xI g, 4, .inl fw)), (ve, .inr (6, [v0, .int (nI Nb), v2, v3, .int (nI R), v5, .int 0, .int 0, .ref wb, .ref fr, .ref bg])), (wb, .inl (xI g, 10, .inl fa)), (fr, .inl (xI g, 4, .inl fb)), (bg, .inl (xI g, 10, .inl fc))] := hD
  refine lv_iconst (v := 0) hx hb dX3_walk_10 (by decide) ?_
  refine lv_istore_n (lv' := [(2, .int 0), (0, .ref h0), (1, .ref ve)]) hx hb dX3_walk_11 rfl hl (by decide) rfl (fun ls hl => ?_)
  have hloop12 : ∀ (n9 : Nat) (k : Nat) (dx : Nat → Int32) (ex : Nat → Int32) (H : Heap) (locs : List Loc) (ls : Array Slot), R - k < n9 → (k ≤ R) → (xInv k dx) → va_P (xD g) vwCl [(h0, .inr (3, [w0, .ref bc, .ref ii, .ref wl])), (bc, .inl (xI g, 4, .inl dx)), (ii, .inl (xZ g, 4, .inl ex)), (wl, .inl (xI g, 4, .inl fw)), (ve, .inr (6, [v0, .int (nI Nb), v2, v3, .int (nI R), v5, .int 0, .int 0, .ref wb, .ref fr, .ref bg])), (wb, .inl (xI g, 10, .inl fa)), (fr, .inl (xI g, 4, .inl fb)), (bg, .inl (xI g, 10, .inl fc))] H → va_D A [(h0, .inr (3, [w0, .ref bc, .ref ii, .ref wl])), (bc, .inl (xI g, 4, .inl dx)), (ii, .inl (xZ g, 4, .inl ex)), (wl, .inl (xI g, 4, .inl fw)), (ve, .inr (6, [v0, .int (nI Nb), v2, v3, .int (nI R), v5, .int 0, .int 0, .ref wb, .ref fr, .ref bg])), (wb, .inl (xI g, 10, .inl fa)), (fr, .inl (xI g, 4, .inl fb)), (bg, .inl (xI g, 10, .inl fc))] → va_S A s.heap H locs → lv_has ls 5 [(2, .int (nI k)), (0, .ref h0), (1, .ref ve)] → W p l e (headSpec wsX3_walk ({ frames := 4, cells := 0, slots := 0, locals := 90 })).room s m ([.ref h0, .ref ve] : List Value).toArray below meth c H locs 0 0 (MQ below (va_Qv (fun (u : Unit) => True) (fun _ _ => True) A) ([.ref h0, .ref ve] : List Value).toArray s 0 0 A) (F0 m 12 ls []) := by
    intro n9
    induction n9 with
    | zero =>
      intro k dx ex H locs ls hm hi1 hi3 hP hD hS hl
      exact absurd hm (Nat.not_lt_zero _)
    | succ n9 ih12 =>
      intro k dx ex H locs ls hm hi1 hi3 hP hD hS hl
      refine lv_iload_n hx hb dX3_walk_12 rfl (lv_at hl 0 rfl) ?_
      refine lv_aload_n hx hb dX3_walk_13 rfl (lv_at hl 2 rfl) ?_
      refine va_get (D := xD g) (ci := 6) (v := .int (nI R)) (C := RX6) (T := TX6) (N := 11) hx hb hts hFX6 hown hK hP 4 rfl rfl 4 (by decide) (hts (.fieldLink RX3 67 "Stevedore$Vessel" "rangeCount" "I") (by decide +kernel)) (fun _ h9 => h9) rfl dX3_walk_14 ?_
      refine lv_icmp_ge (tgt := 45) hx hb dX3_walk_17 (by decide) (fun c_1 => ?_) (fun c_1 => ?_)
      · have nc_1 := (nI_leI (a := R) (b := k) (by omega) (by omega)).mp c_1
        refine lv_iconst (v := 1) hx hb dX3_walk_45 (by decide) ?_
        refine lv_istore_n (lv' := [(2, .int 1), (0, .ref h0), (1, .ref ve)]) hx hb dX3_walk_46 rfl hl (by decide) rfl (fun ls hl => ?_)
        refine lv_iconst (v := 0) hx hb dX3_walk_47 (by decide) ?_
        refine lv_istore_n (lv' := [(3, .int 0), (2, .int 1), (0, .ref h0), (1, .ref ve)]) hx hb dX3_walk_48 rfl hl (by decide) rfl (fun ls hl => ?_)
        have hloop49 : ∀ (n9 : Nat) (tk : Nat) (gi : Int32) (d2 : Nat → Int32) (e2 : Nat → Int32) (w2x : Nat → Int32) (c2 : Nat → Int32) (hndl : Int32) (wt : Int32) (H : Heap) (locs : List Loc) (ls : Array Slot), 10000 - tk < n9 → (tk ≤ 10000) → (xInv R d2) → va_P (xD g) vwCl [(h0, .inr (3, [w0, .ref bc, .ref ii, .ref wl])), (bc, .inl (xI g, 4, .inl d2)), (ii, .inl (xZ g, 4, .inl e2)), (wl, .inl (xI g, 4, .inl w2x)), (ve, .inr (6, [v0, .int (nI Nb), v2, v3, .int (nI R), v5, .int hndl, .int wt, .ref wb, .ref fr, .ref bg])), (wb, .inl (xI g, 10, .inl fa)), (fr, .inl (xI g, 4, .inl fb)), (bg, .inl (xI g, 10, .inl c2))] H → va_D A [(h0, .inr (3, [w0, .ref bc, .ref ii, .ref wl])), (bc, .inl (xI g, 4, .inl d2)), (ii, .inl (xZ g, 4, .inl e2)), (wl, .inl (xI g, 4, .inl w2x)), (ve, .inr (6, [v0, .int (nI Nb), v2, v3, .int (nI R), v5, .int hndl, .int wt, .ref wb, .ref fr, .ref bg])), (wb, .inl (xI g, 10, .inl fa)), (fr, .inl (xI g, 4, .inl fb)), (bg, .inl (xI g, 10, .inl c2))] → va_S A s.heap H locs → lv_has ls 5 [(3, .int (nI tk)), (0, .ref h0), (1, .ref ve), (2, .int gi)] → W p l e (headSpec wsX3_walk ({ frames := 4, cells := 0, slots := 0, locals := 90 })).room s m ([.ref h0, .ref ve] : List Value).toArray below meth c H locs 0 0 (MQ below (va_Qv (fun (u : Unit) => True) (fun _ _ => True) A) ([.ref h0, .ref ve] : List Value).toArray s 0 0 A) (F0 m 49 ls []) := by
          intro n9
          induction n9 with
          | zero =>
            intro tk gi d2 e2 w2x c2 hndl wt H locs ls hm hi4 hi5 hP hD hS hl
            exact absurd hm (Nat.not_lt_zero _)
          | succ n9 ih49 =>
            intro tk gi d2 e2 w2x c2 hndl wt H locs ls hm hi4 hi5 hP hD hS hl
            refine lv_iload_n hx hb dX3_walk_49 rfl (lv_at hl 3 rfl) ?_
            refine lv_if_eq (tgt := 113) hx hb dX3_walk_50 (by decide) (fun c_2 => ?_) (fun c_2 => ?_)
            · exact W.vret hx hb hr (fun t ht hW => ⟨⟨(), rfl, (by first | trivial | rfl | assumption | omega | simp_all), trivial⟩, hS.F ht⟩) hS.2.2 dX3_walk_113
            · refine lv_iload_n hx hb dX3_walk_53 rfl (lv_at hl 0 rfl) ?_
              refine lv_sipush (v := 10000) hx hb dX3_walk_54 (by decide) ?_
              refine lv_icmp_ge (tgt := 113) hx hb dX3_walk_57 (by decide) (fun c_3 => ?_) (fun c_3 => ?_)
              · have nc_3 := (nI_leI (a := 10000) (b := tk) (by omega) (by omega)).mp c_3
                exact W.vret hx hb hr (fun t ht hW => ⟨⟨(), rfl, (by first | trivial | rfl | assumption | omega | simp_all), trivial⟩, hS.F ht⟩) hS.2.2 dX3_walk_113
              · have nc_3 := mt (nI_leI (a := 10000) (b := tk) (by omega) (by omega)).mpr c_3
                refine lv_iconst (v := 0) hx hb dX3_walk_60 (by decide) ?_
                refine lv_istore_n (lv' := [(2, .int 0), (3, .int (nI tk)), (0, .ref h0), (1, .ref ve)]) hx hb dX3_walk_61 rfl hl (by decide) rfl (fun ls hl => ?_)
                refine lv_aload_n hx hb dX3_walk_62 rfl (lv_at hl 3 rfl) ?_
                refine va_get (D := xD g) (ci := 6) (v := .int (nI R)) (C := RX6) (T := TX6) (N := 11) hx hb hts hFX6 hown hK hP 4 rfl rfl 4 (by decide) (hts (.fieldLink RX3 67 "Stevedore$Vessel" "rangeCount" "I") (by decide +kernel)) (fun _ h9 => h9) rfl dX3_walk_63 ?_
                refine lv_iconst (v := 1) hx hb dX3_walk_66 (by decide) ?_
                refine lv_isub hx hb dX3_walk_67 ?_
                refine lv_topi (fun v_4 ev => ?_)
                obtain rfl : v_4 = xP R := ev.trans (xP_sub R)
                refine lv_istore (lv' := [(4, .int (xP R)), (2, .int 0), (3, .int (nI tk)), (0, .ref h0), (1, .ref ve)]) hx hb dX3_walk_68 hl (by decide) rfl (fun ls hl => ?_)
                have hloop70 : ∀ (n9 : Nat) (j : Nat) (go : Int32) (d3 : Nat → Int32) (e3 : Nat → Int32) (w3x : Nat → Int32) (c3 : Nat → Int32) (hndl3 : Int32) (wt3 : Int32) (H : Heap) (locs : List Loc) (ls : Array Slot), j < n9 → (j ≤ R) → (xInv R d3) → va_P (xD g) vwCl [(h0, .inr (3, [w0, .ref bc, .ref ii, .ref wl])), (bc, .inl (xI g, 4, .inl d3)), (ii, .inl (xZ g, 4, .inl e3)), (wl, .inl (xI g, 4, .inl w3x)), (ve, .inr (6, [v0, .int (nI Nb), v2, v3, .int (nI R), v5, .int hndl3, .int wt3, .ref wb, .ref fr, .ref bg])), (wb, .inl (xI g, 10, .inl fa)), (fr, .inl (xI g, 4, .inl fb)), (bg, .inl (xI g, 10, .inl c3))] H → va_D A [(h0, .inr (3, [w0, .ref bc, .ref ii, .ref wl])), (bc, .inl (xI g, 4, .inl d3)), (ii, .inl (xZ g, 4, .inl e3)), (wl, .inl (xI g, 4, .inl w3x)), (ve, .inr (6, [v0, .int (nI Nb), v2, v3, .int (nI R), v5, .int hndl3, .int wt3, .ref wb, .ref fr, .ref bg])), (wb, .inl (xI g, 10, .inl fa)), (fr, .inl (xI g, 4, .inl fb)), (bg, .inl (xI g, 10, .inl c3))] → va_S A s.heap H locs → lv_has ls 5 [(4, .int (xP j)), (0, .ref h0), (1, .ref ve), (2, .int go), (3, .int (nI tk))] → W p l e (headSpec wsX3_walk ({ frames := 4, cells := 0, slots := 0, locals := 90 })).room s m ([.ref h0, .ref ve] : List Value).toArray below meth c H locs 0 0 (MQ below (va_Qv (fun (u : Unit) => True) (fun _ _ => True) A) ([.ref h0, .ref ve] : List Value).toArray s 0 0 A) (F0 m 70 ls []) := by
                  intro n9
                  induction n9 with
                  | zero =>
                    intro j go d3 e3 w3x c3 hndl3 wt3 H locs ls hm hi7 hi6 hP hD hS hl
                    exact absurd hm (Nat.not_lt_zero _)
                  | succ n9 ih70 =>
                    intro j go d3 e3 w3x c3 hndl3 wt3 H locs ls hm hi7 hi6 hP hD hS hl
                    rcases j with _ | i
                    · rw [xP_0] at hl
                      refine lv_iload hx hb dX3_walk_70 (lv_at hl 0 rfl) ?_
                      refine lv_if_lt (tgt := 107) hx hb dX3_walk_72 (by decide) (fun _ => ?_) (fun c0 => absurd (by decide) c0)
                      refine lv_iinc (v := nI (tk + 1)) (lv' := [(3, .int (nI (tk + 1))), (4, .int (-1)), (0, .ref h0), (1, .ref ve), (2, .int go)]) hx hb dX3_walk_107 hl (k := 4) rfl (nI_1 tk) (by decide) rfl (fun ls hl => ?_)
                      refine lv_goto (tgt := 49) hx hb dX3_walk_110 (by decide) ?_
                      exact ih49 (tk + 1) go d3 e3 w3x c3 hndl3 wt3 _ _ _ (by omega) (by omega) hi6 hP hD hS (lv_sub hl [0, 2, 3, 4] rfl)
                    · rw [xP_s] at hl
                      refine lv_iload hx hb dX3_walk_70 (lv_at hl 0 rfl) ?_
                      refine lv_if_lt (tgt := 107) hx hb dX3_walk_72 (by decide) (fun c_5 => ?_) (fun c_5 => ?_)
                      · have nc_5 := (nI_ltI (a := i) (b := 0) (by omega) (by omega)).mp c_5
                        refine lv_iinc (v := nI (tk + 1)) (lv' := [(3, .int (nI (tk + 1))), (4, .int (nI i)), (0, .ref h0), (1, .ref ve), (2, .int go)]) hx hb dX3_walk_107 hl (k := 4) rfl (nI_1 tk) (by decide) rfl (fun ls hl => ?_)
                        refine lv_goto (tgt := 49) hx hb dX3_walk_110 (by decide) ?_
                        exact ih49 (tk + 1) go d3 e3 w3x c3 hndl3 wt3 _ _ _ (by omega) (by omega) hi6 hP hD hS (lv_sub hl [0, 2, 3, 4] rfl)
                      · have nc_5 := mt (nI_ltI (a := i) (b := 0) (by omega) (by omega)).mpr c_5
                        refine lv_aload_n hx hb dX3_walk_75 rfl (lv_at hl 1 rfl) ?_
                        refine va_get (D := xD g) (ci := 3) (v := .ref bc) (C := RX3) (T := TX3) (N := 4) hx hb hts hFX3 hown hK hP 0 rfl rfl 1 (by decide) (hts (.fieldLink RX3 16 "Stevedore$CraneWalk" "bayOfCrane" "[I") (by decide +kernel)) (fun _ h9 => h9) rfl dX3_walk_76 ?_
                        refine lv_iload hx hb dX3_walk_79 (lv_at hl 0 rfl) ?_
                        refine va_iald hx hb hK hP 1 0 rfl rfl (vp_in_nI (by omega) (by omega)) dX3_walk_81 ?_
                        refine lv_topi (fun v_6 ev_6 => ?_)
                        obtain ⟨x_7, hx_7, yx_7⟩ := hi6 i (by omega)
                        obtain rfl : v_6 = nI x_7 := ev_6.trans (by rw [nI_clamp (by omega)]; exact yx_7)
                        refine lv_aload_n hx hb dX3_walk_82 rfl (lv_at hl 2 rfl) ?_
                        refine lv_iload hx hb dX3_walk_83 (lv_at hl 0 rfl) ?_
                        have hPc := hP.sub (ws' := [(ve, .inr (6, [v0, .int (nI Nb), v2, v3, .int (nI R), v5, .int hndl3, .int wt3, .ref wb, .ref fr, .ref bg])), (fr, .inl (xI g, 4, .inl fb))]) [4, 6] rfl
                        have hDc := hD.sub (ws' := [(ve, .inr (6, [v0, .int (nI Nb), v2, v3, .int (nI R), v5, .int hndl3, .int wt3, .ref wb, .ref fr, .ref bg])), (fr, .inl (xI g, 4, .inl fb))]) [4, 6] (by decide) rfl
                        have hFc := xFree hS hA
                        refine va_calli (va_runV (As := [.int (nI i)]) (rest := [.int (nI x_7)]) ⟨hx, hb, hml, hown, hts⟩ (s_endOfRange l g H.size ve fr Nb R i v0 v2 v3 v5 (.int hndl3) (.int wt3) (.ref wb) (.ref bg) fb (by first | assumption | decide | omega | simp_all) (by first | assumption | decide | omega | simp_all) (by first | assumption | decide | omega | simp_all) (by first | assumption | decide | omega | simp_all)) (cwV 1 hts gX3_walk_X6_endOfRange rfl rfl rfl (by decide +kernel) ⟨Nat.le_of_ble_eq_true rfl, Nat.le_of_ble_eq_true rfl⟩) ⟨xB.blind, va_recv hK hPc (ci := 6) (q0 := 0) rfl rfl, fun U9 hU9 hW9 => ⟨rfl, xB.mk hPc hK hDc hU9 hW9⟩⟩ rfl rfl hl.1 rfl (lv_room (Nat.le_of_ble_eq_true rfl)) dX3_walk_85 ⟨Nat.le_of_ble_eq_true rfl, Nat.le_of_ble_eq_true rfl⟩) hS (fun q _ h => hFc q h) hFc (fun r_8 u_9 t H1 locs ht hvm hw_10 hB hz1 hk1 hS => ?_)
                        have hP := xSame hP hk1
                        generalize H1 = H at hP hS ⊢
                        have hP : va_P (xD g) vwCl [(h0, .inr (3, [w0, .ref bc, .ref ii, .ref wl])), (bc, .inl (xI g, 4, .inl d3)), (ii, .inl (xZ g, 4, .inl e3)), (wl, .inl (xI g, 4, .inl w3x)), (ve, .inr (6, [v0, .int (nI Nb), v2, v3, .int (nI R), v5, .int hndl3, .int wt3, .ref wb, .ref fr, .ref bg])), (wb, .inl (xI g, 10, .inl fa)), (fr, .inl (xI g, 4, .inl fb)), (bg, .inl (xI g, 10, .inl c3))] H := hP
                        have hD : va_D A [(h0, .inr (3, [w0, .ref bc, .ref ii, .ref wl])), (bc, .inl (xI g, 4, .inl d3)), (ii, .inl (xZ g, 4, .inl e3)), (wl, .inl (xI g, 4, .inl w3x)), (ve, .inr (6, [v0, .int (nI Nb), v2, v3, .int (nI R), v5, .int hndl3, .int wt3, .ref wb, .ref fr, .ref bg])), (wb, .inl (xI g, 10, .inl fa)), (fr, .inl (xI g, 4, .inl fb)), (bg, .inl (xI g, 10, .inl c3))] := hD
                        try dsimp only at hw_10
                        obtain ⟨E_11, hE_11, rfl⟩ := hw_10
                        refine lv_icmp_ge (tgt := 101) hx hb dX3_walk_88 (by decide) (fun c_12 => ?_) (fun c_12 => ?_)
                        · have nc_12 := (nI_leI (a := E_11) (b := x_7) (by omega) (by omega)).mp c_12
                          refine lv_iinc (v := xP i) (lv' := [(4, .int (xP i)), (0, .ref h0), (1, .ref ve), (2, .int go), (3, .int (nI tk))]) hx hb dX3_walk_101 hl (k := 0) rfl rfl (by decide) rfl (fun ls hl => ?_)
                          refine lv_goto (tgt := 70) hx hb dX3_walk_104 (by decide) ?_
                          exact ih70 i go d3 e3 w3x c3 hndl3 wt3 _ _ _ (by omega) (by omega) hi6 hP hD hS (lv_sub hl [0, 1, 2, 3, 4] rfl)
                        · have nc_12 := mt (nI_leI (a := E_11) (b := x_7) (by omega) (by omega)).mpr c_12
                          refine lv_aload_n hx hb dX3_walk_91 rfl (lv_at hl 1 rfl) ?_
                          refine lv_aload_n hx hb dX3_walk_92 rfl (lv_at hl 2 rfl) ?_
                          refine lv_iload hx hb dX3_walk_93 (lv_at hl 0 rfl) ?_
                          refine lv_iload_n hx hb dX3_walk_95 rfl (lv_at hl 4 rfl) ?_
                          have hPc := hP.sub (ws' := [(h0, .inr (3, [w0, .ref bc, .ref ii, .ref wl])), (bc, .inl (xI g, 4, .inl d3)), (ii, .inl (xZ g, 4, .inl e3)), (wl, .inl (xI g, 4, .inl w3x)), (ve, .inr (6, [v0, .int (nI Nb), v2, v3, .int (nI R), v5, .int hndl3, .int wt3, .ref wb, .ref fr, .ref bg])), (wb, .inl (xI g, 10, .inl fa)), (bg, .inl (xI g, 10, .inl c3))]) [0, 1, 2, 3, 4, 5, 7] rfl
                          have hDc := hD.sub (ws' := [(h0, .inr (3, [w0, .ref bc, .ref ii, .ref wl])), (bc, .inl (xI g, 4, .inl d3)), (ii, .inl (xZ g, 4, .inl e3)), (wl, .inl (xI g, 4, .inl w3x)), (ve, .inr (6, [v0, .int (nI Nb), v2, v3, .int (nI R), v5, .int hndl3, .int wt3, .ref wb, .ref fr, .ref bg])), (wb, .inl (xI g, 10, .inl fa)), (bg, .inl (xI g, 10, .inl c3))]) [0, 1, 2, 3, 4, 5, 7] (by decide) rfl
                          have hFc := va_free (wc := [(h0, .inr (3, [w0, .ref bc, .ref ii, .ref wl])), (bc, .inl (xI g, 4, .inl d3)), (ii, .inl (xZ g, 4, .inl e3)), (wl, .inl (xI g, 4, .inl w3x)), (ve, .inr (6, [v0, .int (nI Nb), v2, v3, .int (nI R), v5, .int hndl3, .int wt3, .ref wb, .ref fr, .ref bg])), (wb, .inl (xI g, 10, .inl fa)), (bg, .inl (xI g, 10, .inl c3))]) hD hS hA [0, 1, 2, 3, 4, 5, 7] rfl
                          refine va_callv (va_runV (As := [.ref ve, .int (nI i), .int (nI tk)]) (rest := []) ⟨hx, hb, hml, hown, hts⟩ (s_step l g H.size h0 bc ii wl ve wb bg R i x_7 w0 v0 (.int (nI Nb)) v2 v3 v5 (.ref fr) fa d3 e3 w3x c3 hndl3 wt3 (nI tk) (by first | assumption | decide | omega | simp_all) (by first | assumption | decide | omega | simp_all) yx_7 (by first | assumption | decide | omega | simp_all) hi6) (cwV 3 hts gX3_walk_X3_step rfl rfl rfl (by decide +kernel) ⟨Nat.le_of_ble_eq_true rfl, Nat.le_of_ble_eq_true rfl⟩) ⟨xB.blind, va_recv hK hPc (ci := 3) (q0 := 0) rfl rfl, fun U9 hU9 hW9 => ⟨rfl, xB.mk hPc hK hDc hU9 hW9⟩⟩ rfl rfl hl.1 rfl (lv_room (Nat.le_of_ble_eq_true rfl)) dX3_walk_96 ⟨Nat.le_of_ble_eq_true rfl, Nat.le_of_ble_eq_true rfl⟩) hS (fun q _ h => hFc q h) hFc (fun u_14 t H1 locs ht hvm hw_15 hB hz1 hk1 hS => ?_)
                          obtain ⟨fd1_16, fe1_17, fw1_18, fc1_19, hndl1_20, wt1_21, hc_22, hP1, hK1, hD1⟩ := hB
                          try dsimp only at hc_22
                          rw [ht] at hP1
                          obtain ⟨hP, hD⟩ := va_join (wr := [(fr, .inl (xI g, 4, .inl fb))]) (w1 := [(h0, .inr (3, [w0, .ref bc, .ref ii, .ref wl])), (bc, .inl (xI g, 4, .inl fd1_16)), (ii, .inl (xZ g, 4, .inl fe1_17)), (wl, .inl (xI g, 4, .inl fw1_18)), (ve, .inr (6, [v0, .int (nI Nb), v2, v3, .int (nI R), v5, .int hndl1_20, .int wt1_21, .ref wb, .ref fr, .ref bg])), (wb, .inl (xI g, 10, .inl fa)), (bg, .inl (xI g, 10, .inl fc1_19))]) hP hD [0, 1, 2, 3, 4, 5, 7] [6] rfl rfl (by decide) (by decide) hk1 hFc hP1 hD1
                          generalize H1 = H at hP hS ⊢
                          have hP : va_P (xD g) vwCl [(fr, .inl (xI g, 4, .inl fb)), (h0, .inr (3, [w0, .ref bc, .ref ii, .ref wl])), (bc, .inl (xI g, 4, .inl fd1_16)), (ii, .inl (xZ g, 4, .inl fe1_17)), (wl, .inl (xI g, 4, .inl fw1_18)), (ve, .inr (6, [v0, .int (nI Nb), v2, v3, .int (nI R), v5, .int hndl1_20, .int wt1_21, .ref wb, .ref fr, .ref bg])), (wb, .inl (xI g, 10, .inl fa)), (bg, .inl (xI g, 10, .inl fc1_19))] H := hP
                          have hD : va_D A [(fr, .inl (xI g, 4, .inl fb)), (h0, .inr (3, [w0, .ref bc, .ref ii, .ref wl])), (bc, .inl (xI g, 4, .inl fd1_16)), (ii, .inl (xZ g, 4, .inl fe1_17)), (wl, .inl (xI g, 4, .inl fw1_18)), (ve, .inr (6, [v0, .int (nI Nb), v2, v3, .int (nI R), v5, .int hndl1_20, .int wt1_21, .ref wb, .ref fr, .ref bg])), (wb, .inl (xI g, 10, .inl fa)), (bg, .inl (xI g, 10, .inl fc1_19))] := hD
                          try dsimp only at hw_15
                          refine lv_iconst (v := 1) hx hb dX3_walk_99 (by decide) ?_
                          refine lv_istore_n (lv' := [(2, .int 1), (4, .int (nI i)), (0, .ref h0), (1, .ref ve), (3, .int (nI tk))]) hx hb dX3_walk_100 rfl hl (by decide) rfl (fun ls hl => ?_)
                          refine lv_iinc (v := xP i) (lv' := [(4, .int (xP i)), (2, .int 1), (0, .ref h0), (1, .ref ve), (3, .int (nI tk))]) hx hb dX3_walk_101 hl (k := 1) rfl rfl (by decide) rfl (fun ls hl => ?_)
                          refine lv_goto (tgt := 70) hx hb dX3_walk_104 (by decide) ?_
                          have hP := hP.sub (ws' := [(h0, .inr (3, [w0, .ref bc, .ref ii, .ref wl])), (bc, .inl (xI g, 4, .inl fd1_16)), (ii, .inl (xZ g, 4, .inl fe1_17)), (wl, .inl (xI g, 4, .inl fw1_18)), (ve, .inr (6, [v0, .int (nI Nb), v2, v3, .int (nI R), v5, .int hndl1_20, .int wt1_21, .ref wb, .ref fr, .ref bg])), (wb, .inl (xI g, 10, .inl fa)), (fr, .inl (xI g, 4, .inl fb)), (bg, .inl (xI g, 10, .inl fc1_19))]) [1, 2, 3, 4, 5, 6, 0, 7] rfl
                          have hD := hD.sub (ws' := [(h0, .inr (3, [w0, .ref bc, .ref ii, .ref wl])), (bc, .inl (xI g, 4, .inl fd1_16)), (ii, .inl (xZ g, 4, .inl fe1_17)), (wl, .inl (xI g, 4, .inl fw1_18)), (ve, .inr (6, [v0, .int (nI Nb), v2, v3, .int (nI R), v5, .int hndl1_20, .int wt1_21, .ref wb, .ref fr, .ref bg])), (wb, .inl (xI g, 10, .inl fa)), (fr, .inl (xI g, 4, .inl fb)), (bg, .inl (xI g, 10, .inl fc1_19))]) [1, 2, 3, 4, 5, 6, 0, 7] (by decide) rfl
                          exact ih70 i 1 fd1_16 fe1_17 fw1_18 fc1_19 hndl1_20 wt1_21 _ _ _ (by omega) (by omega) hc_22 hP hD hS (lv_sub hl [0, 2, 3, 1, 4] rfl)
                exact hloop70 (R + 1) R 0 d2 e2 w2x c2 hndl wt _ _ _ (by omega) (by omega) hi5 hP hD hS (lv_sub hl [0, 3, 4, 1, 2] rfl)
        exact hloop49 (10001) 0 1 dx ex fw fc 0 0 _ _ _ (by omega) (by omega) (xInv_mono hi3 (by omega)) hP hD hS (lv_sub hl [0, 2, 3, 1] rfl)
      · have nc_1 := mt (nI_leI (a := R) (b := k) (by omega) (by omega)).mpr c_1
        refine lv_aload_n hx hb dX3_walk_20 rfl (lv_at hl 1 rfl) ?_
        refine va_get (D := xD g) (ci := 3) (v := .ref bc) (C := RX3) (T := TX3) (N := 4) hx hb hts hFX3 hown hK hP 0 rfl rfl 1 (by decide) (hts (.fieldLink RX3 16 "Stevedore$CraneWalk" "bayOfCrane" "[I") (by decide +kernel)) (fun _ h9 => h9) rfl dX3_walk_21 ?_
        refine lv_iload_n hx hb dX3_walk_24 rfl (lv_at hl 0 rfl) ?_
        refine lv_aload_n hx hb dX3_walk_25 rfl (lv_at hl 2 rfl) ?_
        refine va_get (D := xD g) (ci := 6) (v := .ref fr) (C := RX6) (T := TX6) (N := 11) hx hb hts hFX6 hown hK hP 4 rfl rfl 9 (by decide) (hts (.fieldLink RX3 73 "Stevedore$Vessel" "firstOfRange" "[I") (by decide +kernel)) (fun _ h9 => h9) rfl dX3_walk_26 ?_
        refine lv_iload_n hx hb dX3_walk_29 rfl (lv_at hl 0 rfl) ?_
        refine va_iald hx hb hK hP 6 0 rfl rfl (vp_in_nI (by omega) (by omega)) dX3_walk_30 ?_
        refine lv_topi (fun v_23 ev_23 => ?_)
        obtain ⟨x_24, hx_24, yx_24⟩ := hfb k (by omega)
        obtain rfl : v_23 = nI x_24 := ev_23.trans (by rw [nI_clamp (by omega)]; exact yx_24)
        refine va_iast (x := nI x_24) hx hb hK hP hD hS 1 0 rfl rfl (vp_in_nI (by omega) (by omega)) dX3_walk_31 (fun H locs hP hD hS => ?_)
        have hP : va_P (xD g) vwCl [(h0, .inr (3, [w0, .ref bc, .ref ii, .ref wl])), (bc, .inl (xI g, 4, .inl (upd dx (nI k).toNatClampNeg (nI x_24)))), (ii, .inl (xZ g, 4, .inl ex)), (wl, .inl (xI g, 4, .inl fw)), (ve, .inr (6, [v0, .int (nI Nb), v2, v3, .int (nI R), v5, .int 0, .int 0, .ref wb, .ref fr, .ref bg])), (wb, .inl (xI g, 10, .inl fa)), (fr, .inl (xI g, 4, .inl fb)), (bg, .inl (xI g, 10, .inl fc))] H := hP
        have hD : va_D A [(h0, .inr (3, [w0, .ref bc, .ref ii, .ref wl])), (bc, .inl (xI g, 4, .inl (upd dx (nI k).toNatClampNeg (nI x_24)))), (ii, .inl (xZ g, 4, .inl ex)), (wl, .inl (xI g, 4, .inl fw)), (ve, .inr (6, [v0, .int (nI Nb), v2, v3, .int (nI R), v5, .int 0, .int 0, .ref wb, .ref fr, .ref bg])), (wb, .inl (xI g, 10, .inl fa)), (fr, .inl (xI g, 4, .inl fb)), (bg, .inl (xI g, 10, .inl fc))] := hD
        obtain ⟨g_25, eg_25⟩ : ∃ y : Nat → Int32, y = upd dx (nI k).toNatClampNeg (nI x_24) := ⟨_, rfl⟩
        rw [← eg_25] at hP hD
        refine lv_aload_n hx hb dX3_walk_32 rfl (lv_at hl 1 rfl) ?_
        refine va_get (D := xD g) (ci := 3) (v := .ref ii) (C := RX3) (T := TX3) (N := 4) hx hb hts hFX3 hown hK hP 0 rfl rfl 2 (by decide) (hts (.fieldLink RX3 20 "Stevedore$CraneWalk" "isInside" "[Z") (by decide +kernel)) (fun _ h9 => h9) rfl dX3_walk_33 ?_
        refine lv_iload_n hx hb dX3_walk_36 rfl (lv_at hl 0 rfl) ?_
        refine lv_iconst (v := 0) hx hb dX3_walk_37 (by decide) ?_
        refine va_zast (x := 0) hx hb hK hP hD hS 2 1 rfl rfl (vp_in_nI (by omega) (by omega)) dX3_walk_38 (fun H locs hP hD hS => ?_)
        have hP : va_P (xD g) vwCl [(h0, .inr (3, [w0, .ref bc, .ref ii, .ref wl])), (bc, .inl (xI g, 4, .inl g_25)), (ii, .inl (xZ g, 4, .inl (upd ex (nI k).toNatClampNeg 0))), (wl, .inl (xI g, 4, .inl fw)), (ve, .inr (6, [v0, .int (nI Nb), v2, v3, .int (nI R), v5, .int 0, .int 0, .ref wb, .ref fr, .ref bg])), (wb, .inl (xI g, 10, .inl fa)), (fr, .inl (xI g, 4, .inl fb)), (bg, .inl (xI g, 10, .inl fc))] H := hP
        have hD : va_D A [(h0, .inr (3, [w0, .ref bc, .ref ii, .ref wl])), (bc, .inl (xI g, 4, .inl g_25)), (ii, .inl (xZ g, 4, .inl (upd ex (nI k).toNatClampNeg 0))), (wl, .inl (xI g, 4, .inl fw)), (ve, .inr (6, [v0, .int (nI Nb), v2, v3, .int (nI R), v5, .int 0, .int 0, .ref wb, .ref fr, .ref bg])), (wb, .inl (xI g, 10, .inl fa)), (fr, .inl (xI g, 4, .inl fb)), (bg, .inl (xI g, 10, .inl fc))] := hD
        obtain ⟨g_26, eg_26⟩ : ∃ y : Nat → Int32, y = upd ex (nI k).toNatClampNeg 0 := ⟨_, rfl⟩
        rw [← eg_26] at hP hD
        refine lv_iinc (v := nI (k + 1)) (lv' := [(2, .int (nI (k + 1))), (0, .ref h0), (1, .ref ve)]) hx hb dX3_walk_39 hl (k := 0) rfl (nI_1 k) (by decide) rfl (fun ls hl => ?_)
        refine lv_goto (tgt := 12) hx hb dX3_walk_42 (by decide) ?_
        exact ih12 (k + 1) g_25 g_26 _ _ _ (by omega) (by omega) (xInv_grow hi3 hx_24 (by omega) eg_25) hP hD hS (lv_sub hl [0, 1, 2] rfl)
  exact hloop12 (R + 1) 0 fd fe _ _ _ (by omega) (by omega) (fun i hi => absurd hi (Nat.not_lt_zero i)) hP hD hS (lv_sub hl [0, 1, 2] rfl)
