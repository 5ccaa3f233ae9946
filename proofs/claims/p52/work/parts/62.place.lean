theorem dX1_firstPlace_0 : decode cX1_firstPlace 0 = .ok (.aload_n 0, 1) := by decide +kernel
theorem dX1_firstPlace_1 : decode cX1_firstPlace 1 = .ok (.iload_n 1, 1) := by decide +kernel
theorem dX1_firstPlace_2 : decode cX1_firstPlace 2 = .ok (.iload_n 2, 1) := by decide +kernel
theorem dX1_firstPlace_3 : decode cX1_firstPlace 3 = .ok (.iload_n 3, 1) := by decide +kernel
theorem dX1_firstPlace_4 : decode cX1_firstPlace 4 = .ok (.invokevirtual 126, 3) := by decide +kernel
set_option maxRecDepth 20000 in
theorem ggX1_firstPlace_X1_haveCranesFor : GoodIn wsX1_firstPlace wsX1_haveCranesFor := goodIn_r _ [7, 8, 9, 10, 11, 12, 13, 14, 15, 16, 6, 17, 18, 28, 29, 30, 31, 32, 33, 34, 35, 36, 37, 38, 39, 40, 41, 42, 43, 44, 45] rfl (by decide +kernel)
set_option maxRecDepth 20000 in
theorem gX1_firstPlace_X1_haveCranesFor : GoodIn wsX1_firstPlace (wsV RX1 126 RX1 yX1_haveCranesFor wsX1_haveCranesFor) := goodIn_app (goodIn_of _ (by decide +kernel)) ggX1_firstPlace_X1_haveCranesFor
theorem dX1_firstPlace_7 : decode cX1_firstPlace 7 = .ok (.ifCond .ne 5, 3) := by decide +kernel
theorem dX1_firstPlace_12 : decode cX1_firstPlace 12 = .ok (.iconst 0, 1) := by decide +kernel
theorem dX1_firstPlace_13 : decode cX1_firstPlace 13 = .ok (.istore 4, 2) := by decide +kernel
theorem dX1_firstPlace_15 : decode cX1_firstPlace 15 = .ok (.iconst 0, 1) := by decide +kernel
theorem dX1_firstPlace_16 : decode cX1_firstPlace 16 = .ok (.istore 5, 2) := by decide +kernel
theorem dX1_firstPlace_18 : decode cX1_firstPlace 18 = .ok (.iload 5, 2) := by decide +kernel
theorem dX1_firstPlace_20 : decode cX1_firstPlace 20 = .ok (.iload_n 3, 1) := by decide +kernel
theorem dX1_firstPlace_21 : decode cX1_firstPlace 21 = .ok (.if_icmp .gt 48, 3) := by decide +kernel
theorem dX1_firstPlace_69 : decode cX1_firstPlace 69 = .ok (.iconst (-1), 1) := by decide +kernel
theorem dX1_firstPlace_70 : decode cX1_firstPlace 70 = .ok (.ireturn, 1) := by decide +kernel
theorem dX1_firstPlace_24 : decode cX1_firstPlace 24 = .ok (.iload 4, 2) := by decide +kernel
theorem dX1_firstPlace_26 : decode cX1_firstPlace 26 = .ok (.aload_n 0, 1) := by decide +kernel
theorem dX1_firstPlace_27 : decode cX1_firstPlace 27 = .ok (.getfield 18, 3) := by decide +kernel
theorem dX1_firstPlace_30 : decode cX1_firstPlace 30 = .ok (.iload_n 1, 1) := by decide +kernel
theorem dX1_firstPlace_31 : decode cX1_firstPlace 31 = .ok (.iaload, 1) := by decide +kernel
theorem dX1_firstPlace_32 : decode cX1_firstPlace 32 = .ok (.iadd, 1) := by decide +kernel
theorem dX1_firstPlace_33 : decode cX1_firstPlace 33 = .ok (.aload_n 0, 1) := by decide +kernel
theorem dX1_firstPlace_34 : decode cX1_firstPlace 34 = .ok (.getfield 48, 3) := by decide +kernel
theorem dX1_firstPlace_37 : decode cX1_firstPlace 37 = .ok (.if_icmp .gt 32, 3) := by decide +kernel
theorem dX1_firstPlace_40 : decode cX1_firstPlace 40 = .ok (.aload_n 0, 1) := by decide +kernel
theorem dX1_firstPlace_41 : decode cX1_firstPlace 41 = .ok (.iload_n 1, 1) := by decide +kernel
theorem dX1_firstPlace_42 : decode cX1_firstPlace 42 = .ok (.iload_n 2, 1) := by decide +kernel
theorem dX1_firstPlace_43 : decode cX1_firstPlace 43 = .ok (.iload 4, 2) := by decide +kernel
theorem dX1_firstPlace_45 : decode cX1_firstPlace 45 = .ok (.iload_n 3, 1) := by decide +kernel
theorem dX1_firstPlace_46 : decode cX1_firstPlace 46 = .ok (.invokevirtual 130, 3) := by decide +kernel
set_option maxRecDepth 20000 in
theorem ggX1_firstPlace_X1_placeBehindConflict : GoodIn wsX1_firstPlace wsX1_placeBehindConflict := goodIn_r _ [22, 10, 12, 23, 1, 24, 25, 26, 6, 27, 11, 13, 18, 28, 29, 30, 31, 32, 33, 34, 35, 36, 37, 38, 39, 40, 41, 42, 43, 44, 45] rfl (by decide +kernel)
set_option maxRecDepth 20000 in
theorem gX1_firstPlace_X1_placeBehindConflict : GoodIn wsX1_firstPlace (wsV RX1 130 RX1 yX1_placeBehindConflict wsX1_placeBehindConflict) := goodIn_app (goodIn_of _ (by decide +kernel)) ggX1_firstPlace_X1_placeBehindConflict
theorem dX1_firstPlace_49 : decode cX1_firstPlace 49 = .ok (.istore 6, 2) := by decide +kernel
theorem dX1_firstPlace_51 : decode cX1_firstPlace 51 = .ok (.iload 6, 2) := by decide +kernel
theorem dX1_firstPlace_53 : decode cX1_firstPlace 53 = .ok (.ifCond .ge 6, 3) := by decide +kernel
theorem dX1_firstPlace_59 : decode cX1_firstPlace 59 = .ok (.iload 6, 2) := by decide +kernel
theorem dX1_firstPlace_61 : decode cX1_firstPlace 61 = .ok (.istore 4, 2) := by decide +kernel
theorem dX1_firstPlace_63 : decode cX1_firstPlace 63 = .ok (.iinc 5 1, 3) := by decide +kernel
theorem dX1_firstPlace_66 : decode cX1_firstPlace 66 = .ok (.goto (-48), 3) := by decide +kernel
theorem dX1_firstPlace_56 : decode cX1_firstPlace 56 = .ok (.iload 4, 2) := by decide +kernel
theorem dX1_firstPlace_58 : decode cX1_firstPlace 58 = .ok (.ireturn, 1) := by decide +kernel
theorem dX1_firstPlace_10 : decode cX1_firstPlace 10 = .ok (.iconst (-1), 1) := by decide +kernel
theorem dX1_firstPlace_11 : decode cX1_firstPlace 11 = .ok (.ireturn, 1) := by decide +kernel
set_option maxHeartbeats 4000000 in
set_option maxRecDepth 100000 in
theorem b_firstPlace (l : Launch) (g : xG) (sz : Nat) (bp : Nat) (ha : Nat) (ba : Nat) (wa : Nat) (tr : Nat) (un : Nat) (to_ : Nat) (ts : Nat) (tp : Nat) (vs : Nat) (ah : Nat) (tm : Int) (qy : Int) (crn : Int) (p0 : Value) (p3 : Value) (p6 : Value) (p10 : Value) (p11 : Value) (p12 : Value) (p13 : Value) (t0 : Value) (han : Nat → Int) (bay : Nat → Int) (want : Nat → Int) (ord : Nat → Nat) (sta : Nat → Int) (pla : Nat → Int) (unt : Nat → Int)  (hvs : vs < 6) (hah : ah ≤ 6) (htm : 0 ≤ tm ∧ tm ≤ 1000000) (hcr : 0 ≤ crn ∧ crn ≤ 6) (hqy : 0 ≤ qy ∧ qy ≤ 60) (b_han : ∀ j, 0 ≤ han j ∧ han j ≤ 10100) (b_bay : ∀ j, 0 ≤ bay j ∧ bay j ≤ 10) (b_want : ∀ j, 0 ≤ want j ∧ want j ≤ 4) (b_ord : ∀ j, ord j ≤ 5) (b_sta : ∀ j, 0 ≤ sta j ∧ sta j ≤ 1000000) (b_pla : ∀ j, (-1) ≤ pla j ∧ pla j ≤ 60) (b_unt : ∀ j, 0 ≤ unt j ∧ unt j ≤ 2000000) : Met l yX1_firstPlace wsX1_firstPlace ({ frames := 2, cells := 0, slots := 0, locals := 51 }) (va_Pc [.ref bp, .int (nI vs), .int (iI tm), .int (nI ah)] (fun U => xB g [(bp, .inr (1, [p0, .int (iI qy), .int (iI crn), p3, .ref ha, .ref ba, p6, .ref wa, .ref tr, .ref un, p10, p11, p12, p13])), (ha, .inl (xI g, 6, .inl (fun j => iI (han j)))), (ba, .inl (xI g, 6, .inl (fun j => iI (bay j)))), (wa, .inl (xI g, 6, .inl (fun j => iI (want j)))), (tr, .inr (4, [t0, .ref to_, .ref ts, .ref tp])), (to_, .inl (xI g, 6, .inl (fun j => nI (ord j)))), (ts, .inl (xI g, 6, .inl (fun j => iI (sta j)))), (tp, .inl (xI g, 6, .inl (fun j => iI (pla j)))), (un, .inl (xI g, 6, .inl (fun j => iI (unt j))))] sz U)) (va_Qi (fun (r : Int32) (_ : Unit) => r = iI (bFp (fun i => sta (ord i)) (fun i => unt (ord i)) (fun i => pla (ord i)) (fun i => bay (ord i)) (fun i => want (ord i)) ah (bay vs) (crn - want vs) qy (han vs) tm)) (fun (_ : Unit) (_ : State) => True) (va_A [] sz)) 0 0 (va_A [] sz) := by
  refine Met.ofW (cc := cX1_firstPlace) (maxL := 7) (ret := (some .int)) (by decide) rfl ?_
  intro p e s m args below meth c s₁ B hml hv
  obtain ⟨rfl, hsz, hP, hK, hD0⟩ := hv
  have hx := B.exec
  have hb := B.bytes
  have hr := B.returns
  have hts := atoms_spec (ws := wsX1_firstPlace) B.pre
  have hown : s.vm.findClass RX1 = some m.cls := findClass_of_methodNamed B.named
  have hlocks := B.notSynchronized
  subst hsz
  have hD := hD0
  generalize hAe : va_A [] s.heap.size = A
  have hA : ∀ q : Nat, s.heap.size ≤ q → A q := fun q h => by rw [← hAe]; exact Or.inr h
  have hS : va_S A s.heap s.heap [] := va_S.rf
  have hl := lv_entry ([.ref bp, .int (nI vs), .int (iI tm), .int (nI ah)]) (n := 7) (Nat.le_of_ble_eq_true rfl)
  rw [lg_entry_eq]
  generalize (lg_sl ([.ref bp, .int (nI vs), .int (iI tm), .int (nI ah)]) ++ List.replicate (7 - (lg_sl ([.ref bp, .int (nI vs), .int (iI tm), .int (nI ah)])).length) Slot.unset).toArray = ls at hl ⊢
  have hl : lv_has ls 7 [(0, .ref bp), (1, .int (nI vs)), (2, .int (iI tm)), (3, .int (nI ah))] := hl
  have hFX1 : ∀ w ∈ u_ws RX1 TX1 14, w ∈ wsX1_firstPlace := by decide +kernel
  refine lv_aload_n hx hb dX1_firstPlace_0 rfl (lv_at hl 0 rfl) ?_
  refine lv_iload_n hx hb dX1_firstPlace_1 rfl (lv_at hl 1 rfl) ?_
  refine lv_iload_n hx hb dX1_firstPlace_2 rfl (lv_at hl 2 rfl) ?_
  refine lv_iload_n hx hb dX1_firstPlace_3 rfl (lv_at hl 3 rfl) ?_
  have hPc := hP.sub (ws' := [(bp, .inr (1, [p0, .int (iI qy), .int (iI crn), p3, .ref ha, .ref ba, p6, .ref wa, .ref tr, .ref un, p10, p11, p12, p13])), (ha, .inl (xI g, 6, .inl (fun j => iI (han j)))), (wa, .inl (xI g, 6, .inl (fun j => iI (want j)))), (tr, .inr (4, [t0, .ref to_, .ref ts, .ref tp])), (to_, .inl (xI g, 6, .inl (fun j => nI (ord j)))), (ts, .inl (xI g, 6, .inl (fun j => iI (sta j)))), (un, .inl (xI g, 6, .inl (fun j => iI (unt j))))]) [0, 1, 3, 4, 5, 6, 8] rfl
  have hDc := hD.sub (ws' := [(bp, .inr (1, [p0, .int (iI qy), .int (iI crn), p3, .ref ha, .ref ba, p6, .ref wa, .ref tr, .ref un, p10, p11, p12, p13])), (ha, .inl (xI g, 6, .inl (fun j => iI (han j)))), (wa, .inl (xI g, 6, .inl (fun j => iI (want j)))), (tr, .inr (4, [t0, .ref to_, .ref ts, .ref tp])), (to_, .inl (xI g, 6, .inl (fun j => nI (ord j)))), (ts, .inl (xI g, 6, .inl (fun j => iI (sta j)))), (un, .inl (xI g, 6, .inl (fun j => iI (unt j))))]) [0, 1, 3, 4, 5, 6, 8] (by decide) rfl
  have hFc := xFree hS hA
  refine va_calli (va_runV (As := [.int (nI vs), .int (iI tm), .int (nI ah)]) (rest := []) ⟨hx, hb, hml, hown, hts⟩ (b_haveCranesFor l g s.heap.size bp ha wa tr un to_ ts vs ah tm crn p0 (.int (iI qy)) p3 (.ref ba) p6 p10 p11 p12 p13 t0 (.ref tp) han want ord sta unt (by first | assumption | omega) (by first | assumption | omega) (by first | assumption | omega) (by first | assumption | omega) b_han b_want b_ord b_sta b_unt) (cwV 3 hts gX1_firstPlace_X1_haveCranesFor rfl rfl rfl (by decide +kernel) ⟨Nat.le_of_ble_eq_true rfl, Nat.le_of_ble_eq_true rfl⟩) ⟨xB.blind, va_recv hK hPc (ci := 1) (q0 := 0) rfl rfl, fun U9 hU9 hW9 => ⟨rfl, xB.mk hPc hK hDc hU9 hW9⟩⟩ rfl rfl hl.1 rfl (lv_room (Nat.le_of_ble_eq_true rfl)) dX1_firstPlace_4 ⟨Nat.le_of_ble_eq_true rfl, Nat.le_of_ble_eq_true rfl⟩) hS (fun q _ h => hFc q h) hFc (fun r_1 _ t H1 locs ht hvm hw_2 hB hz1 hk1 hS => ?_)
  have hP := xSame hP hk1
  generalize H1 = H at hP hS ⊢
  have hP : va_P (xD g) vwCl [(bp, .inr (1, [p0, .int (iI qy), .int (iI crn), p3, .ref ha, .ref ba, p6, .ref wa, .ref tr, .ref un, p10, p11, p12, p13])), (ha, .inl (xI g, 6, .inl (fun j => iI (han j)))), (ba, .inl (xI g, 6, .inl (fun j => iI (bay j)))), (wa, .inl (xI g, 6, .inl (fun j => iI (want j)))), (tr, .inr (4, [t0, .ref to_, .ref ts, .ref tp])), (to_, .inl (xI g, 6, .inl (fun j => nI (ord j)))), (ts, .inl (xI g, 6, .inl (fun j => iI (sta j)))), (tp, .inl (xI g, 6, .inl (fun j => iI (pla j)))), (un, .inl (xI g, 6, .inl (fun j => iI (unt j))))] H := hP
  have hD : va_D (fun _ => True) [(bp, .inr (1, [p0, .int (iI qy), .int (iI crn), p3, .ref ha, .ref ba, p6, .ref wa, .ref tr, .ref un, p10, p11, p12, p13])), (ha, .inl (xI g, 6, .inl (fun j => iI (han j)))), (ba, .inl (xI g, 6, .inl (fun j => iI (bay j)))), (wa, .inl (xI g, 6, .inl (fun j => iI (want j)))), (tr, .inr (4, [t0, .ref to_, .ref ts, .ref tp])), (to_, .inl (xI g, 6, .inl (fun j => nI (ord j)))), (ts, .inl (xI g, 6, .inl (fun j => iI (sta j)))), (tp, .inl (xI g, 6, .inl (fun j => iI (pla j)))), (un, .inl (xI g, 6, .inl (fun j => iI (unt j))))] := hD
  try dsimp only at hw_2
  rcases hw_2 with ⟨rfl, hw_2⟩ | ⟨rfl, hw_2⟩
  · have hhv := hw_2
    refine lv_if_ne (tgt := 12) hx hb dX1_firstPlace_7 (by decide) (fun _ => ?_) (fun c0 => absurd c0 (by decide))
    refine lv_iconst (v := 0) hx hb dX1_firstPlace_12 (by decide) ?_
    refine lv_istore (lv' := [(4, .int 0), (0, .ref bp), (1, .int (nI vs)), (2, .int (iI tm)), (3, .int (nI ah))]) hx hb dX1_firstPlace_13 hl (by decide) rfl (fun ls hl => ?_)
    refine lv_iconst (v := 0) hx hb dX1_firstPlace_15 (by decide) ?_
    refine lv_istore (lv' := [(5, .int 0), (4, .int 0), (0, .ref bp), (1, .int (nI vs)), (2, .int (iI tm)), (3, .int (nI ah))]) hx hb dX1_firstPlace_16 hl (by decide) rfl (fun ls hl => ?_)
    have hloop18 : ∀ (n9 : Nat) (k : Nat) (pl : Int) (H : Heap) (locs : List Loc) (ls : Array Slot), ah + 1 - k < n9 → (k ≤ ah + 1) → (bFf (fun i => sta (ord i)) (fun i => unt (ord i)) (fun i => pla (ord i)) (fun i => bay (ord i)) tm (tm + han vs) (bay vs) qy ah (ah + 1) 0 = bFf (fun i => sta (ord i)) (fun i => unt (ord i)) (fun i => pla (ord i)) (fun i => bay (ord i)) tm (tm + han vs) (bay vs) qy ah (ah + 1 - k) pl) → (0 ≤ pl ∧ pl ≤ 1000) → va_P (xD g) vwCl [(bp, .inr (1, [p0, .int (iI qy), .int (iI crn), p3, .ref ha, .ref ba, p6, .ref wa, .ref tr, .ref un, p10, p11, p12, p13])), (ha, .inl (xI g, 6, .inl (fun j => iI (han j)))), (ba, .inl (xI g, 6, .inl (fun j => iI (bay j)))), (wa, .inl (xI g, 6, .inl (fun j => iI (want j)))), (tr, .inr (4, [t0, .ref to_, .ref ts, .ref tp])), (to_, .inl (xI g, 6, .inl (fun j => nI (ord j)))), (ts, .inl (xI g, 6, .inl (fun j => iI (sta j)))), (tp, .inl (xI g, 6, .inl (fun j => iI (pla j)))), (un, .inl (xI g, 6, .inl (fun j => iI (unt j))))] H → va_D (fun _ => True) [(bp, .inr (1, [p0, .int (iI qy), .int (iI crn), p3, .ref ha, .ref ba, p6, .ref wa, .ref tr, .ref un, p10, p11, p12, p13])), (ha, .inl (xI g, 6, .inl (fun j => iI (han j)))), (ba, .inl (xI g, 6, .inl (fun j => iI (bay j)))), (wa, .inl (xI g, 6, .inl (fun j => iI (want j)))), (tr, .inr (4, [t0, .ref to_, .ref ts, .ref tp])), (to_, .inl (xI g, 6, .inl (fun j => nI (ord j)))), (ts, .inl (xI g, 6, .inl (fun j => iI (sta j)))), (tp, .inl (xI g, 6, .inl (fun j => iI (pla j)))), (un, .inl (xI g, 6, .inl (fun j => iI (unt j))))] → va_S A s.heap H locs → lv_has ls 7 [(5, .int (nI k)), (0, .ref bp), (1, .int (nI vs)), (2, .int (iI tm)), (3, .int (nI ah)), (4, .int (iI pl))] → W p l e (headSpec wsX1_firstPlace ({ frames := 2, cells := 0, slots := 0, locals := 51 })).room s m ([.ref bp, .int (nI vs), .int (iI tm), .int (nI ah)] : List Value).toArray below meth c H locs 0 0 (MQ below (va_Qi (fun (r : Int32) (_ : Unit) => r = iI (bFp (fun i => sta (ord i)) (fun i => unt (ord i)) (fun i => pla (ord i)) (fun i => bay (ord i)) (fun i => want (ord i)) ah (bay vs) (crn - want vs) qy (han vs) tm)) (fun (_ : Unit) (_ : State) => True) (A)) ([.ref bp, .int (nI vs), .int (iI tm), .int (nI ah)] : List Value).toArray s 0 0 A) (F0 m 18 ls []) := by
      intro n9
      induction n9 with
      | zero =>
        intro k pl H locs ls hm hk hff hpl hP hD hS hl
        exact absurd hm (Nat.not_lt_zero _)
      | succ n9 ih18 =>
        intro k pl H locs ls hm hk hff hpl hP hD hS hl
        have hbb := b_bay vs
        refine lv_iload hx hb dX1_firstPlace_18 (lv_at hl 0 rfl) ?_
        refine lv_iload_n hx hb dX1_firstPlace_20 rfl (lv_at hl 4 rfl) ?_
        refine lv_icmp_gt (tgt := 69) hx hb dX1_firstPlace_21 (by decide) (fun c_3 => ?_) (fun c_3 => ?_)
        · have nc_3 := (nI_ltI (a := ah) (b := k) (by omega) (by omega)).mp c_3
          refine lv_iconst (v := (-1)) hx hb dX1_firstPlace_69 (by decide) ?_
          exact W.iret (v := (-1)) hx hb hr (fun t ht hW => ⟨⟨(-1), (), rfl, (by unfold bFp; rw [if_pos hhv, hff]; first | (rw [show ah + 1 - k = 0 by omega]; show (-1 : Int32) = iI (-1); decide) | (rw [show ah + 1 - k = (ah - k) + 1 by omega]; simp only [bFf]; rw [if_neg (by omega)]; decide)), trivial⟩, hS.F ht⟩) hS.2.2 dX1_firstPlace_70
        · have nc_3 := mt (nI_ltI (a := ah) (b := k) (by omega) (by omega)).mpr c_3
          refine lv_iload hx hb dX1_firstPlace_24 (lv_at hl 5 rfl) ?_
          refine lv_aload_n hx hb dX1_firstPlace_26 rfl (lv_at hl 1 rfl) ?_
          refine va_get (D := xD g) (ci := 1) (v := .ref ba) (C := RX1) (T := TX1) (N := 14) hx hb hts hFX1 hown hK hP 0 rfl rfl 5 (by decide) (hts (.fieldLink RX1 18 "Stevedore$BerthPlanner" "bays" "[I") (by decide +kernel)) (fun _ h9 => h9) rfl dX1_firstPlace_27 ?_
          refine lv_iload_n hx hb dX1_firstPlace_30 rfl (lv_at hl 2 rfl) ?_
          refine va_iald hx hb hK hP 2 0 rfl rfl (vp_in_nI (by omega) (by omega)) dX1_firstPlace_31 ?_
          refine lv_topi (fun v_4 ev => ?_)
          obtain rfl : v_4 = iI (bay vs) := ev.trans (congrArg (fun q9 => iI (bay q9)) (nI_clamp (by omega)))
          have b_5 := b_bay vs
          refine lv_iadd hx hb dX1_firstPlace_32 ?_
          refine lv_topi (fun v_6 ev => ?_)
          obtain rfl : v_6 = iI (pl + (bay vs)) := ev.trans (iA rfl rfl)
          refine lv_aload_n hx hb dX1_firstPlace_33 rfl (lv_at hl 1 rfl) ?_
          refine va_get (D := xD g) (ci := 1) (v := .int (iI qy)) (C := RX1) (T := TX1) (N := 14) hx hb hts hFX1 hown hK hP 0 rfl rfl 1 (by decide) (hts (.fieldLink RX1 48 "Stevedore$BerthPlanner" "quay" "I") (by decide +kernel)) (fun _ h9 => h9) rfl dX1_firstPlace_34 ?_
          refine lv_icmp_gt (tgt := 69) hx hb dX1_firstPlace_37 (by decide) (fun c_7 => ?_) (fun c_7 => ?_)
          · have nc_7 := (iLt (a := qy) (b := pl + (bay vs)) rfl rfl (by omega)).mp c_7
            refine lv_iconst (v := (-1)) hx hb dX1_firstPlace_69 (by decide) ?_
            exact W.iret (v := (-1)) hx hb hr (fun t ht hW => ⟨⟨(-1), (), rfl, (by unfold bFp; rw [if_pos hhv, hff]; first | (rw [show ah + 1 - k = 0 by omega]; show (-1 : Int32) = iI (-1); decide) | (rw [show ah + 1 - k = (ah - k) + 1 by omega]; simp only [bFf]; rw [if_neg (by omega)]; decide)), trivial⟩, hS.F ht⟩) hS.2.2 dX1_firstPlace_70
          · have nc_7 := mt (iLt (a := qy) (b := pl + (bay vs)) rfl rfl (by omega)).mpr c_7
            refine lv_aload_n hx hb dX1_firstPlace_40 rfl (lv_at hl 1 rfl) ?_
            refine lv_iload_n hx hb dX1_firstPlace_41 rfl (lv_at hl 2 rfl) ?_
            refine lv_iload_n hx hb dX1_firstPlace_42 rfl (lv_at hl 3 rfl) ?_
            refine lv_iload hx hb dX1_firstPlace_43 (lv_at hl 5 rfl) ?_
            refine lv_iload_n hx hb dX1_firstPlace_45 rfl (lv_at hl 4 rfl) ?_
            have hPc := hP.sub (ws' := [(bp, .inr (1, [p0, .int (iI qy), .int (iI crn), p3, .ref ha, .ref ba, p6, .ref wa, .ref tr, .ref un, p10, p11, p12, p13])), (ha, .inl (xI g, 6, .inl (fun j => iI (han j)))), (ba, .inl (xI g, 6, .inl (fun j => iI (bay j)))), (tr, .inr (4, [t0, .ref to_, .ref ts, .ref tp])), (to_, .inl (xI g, 6, .inl (fun j => nI (ord j)))), (ts, .inl (xI g, 6, .inl (fun j => iI (sta j)))), (tp, .inl (xI g, 6, .inl (fun j => iI (pla j)))), (un, .inl (xI g, 6, .inl (fun j => iI (unt j))))]) [0, 1, 2, 4, 5, 6, 7, 8] rfl
            have hDc := hD.sub (ws' := [(bp, .inr (1, [p0, .int (iI qy), .int (iI crn), p3, .ref ha, .ref ba, p6, .ref wa, .ref tr, .ref un, p10, p11, p12, p13])), (ha, .inl (xI g, 6, .inl (fun j => iI (han j)))), (ba, .inl (xI g, 6, .inl (fun j => iI (bay j)))), (tr, .inr (4, [t0, .ref to_, .ref ts, .ref tp])), (to_, .inl (xI g, 6, .inl (fun j => nI (ord j)))), (ts, .inl (xI g, 6, .inl (fun j => iI (sta j)))), (tp, .inl (xI g, 6, .inl (fun j => iI (pla j)))), (un, .inl (xI g, 6, .inl (fun j => iI (unt j))))]) [0, 1, 2, 4, 5, 6, 7, 8] (by decide) rfl
            have hFc := xFree hS hA
            refine va_calli (va_runV (As := [.int (nI vs), .int (iI tm), .int (iI pl), .int (nI ah)]) (rest := []) ⟨hx, hb, hml, hown, hts⟩ (b_placeBehindConflict l g H.size bp ha ba tr un to_ ts tp vs ah tm pl p0 (.int (iI qy)) (.int (iI crn)) p3 p6 (.ref wa) p10 p11 p12 p13 t0 han bay ord sta pla unt (by first | assumption | omega) (by first | assumption | omega) (by first | assumption | omega) (by first | assumption | omega) b_han b_bay b_ord b_sta b_pla b_unt) (cwV 4 hts gX1_firstPlace_X1_placeBehindConflict rfl rfl rfl (by decide +kernel) ⟨Nat.le_of_ble_eq_true rfl, Nat.le_of_ble_eq_true rfl⟩) ⟨xB.blind, va_recv hK hPc (ci := 1) (q0 := 0) rfl rfl, fun U9 hU9 hW9 => ⟨rfl, xB.mk hPc hK hDc hU9 hW9⟩⟩ rfl rfl hl.1 rfl (lv_room (Nat.le_of_ble_eq_true rfl)) dX1_firstPlace_46 ⟨Nat.le_of_ble_eq_true rfl, Nat.le_of_ble_eq_true rfl⟩) hS (fun q _ h => hFc q h) hFc (fun r_8 _ t H1 locs ht hvm hw_9 hB hz1 hk1 hS => ?_)
            have hP := xSame hP hk1
            generalize H1 = H at hP hS ⊢
            have hP : va_P (xD g) vwCl [(bp, .inr (1, [p0, .int (iI qy), .int (iI crn), p3, .ref ha, .ref ba, p6, .ref wa, .ref tr, .ref un, p10, p11, p12, p13])), (ha, .inl (xI g, 6, .inl (fun j => iI (han j)))), (ba, .inl (xI g, 6, .inl (fun j => iI (bay j)))), (wa, .inl (xI g, 6, .inl (fun j => iI (want j)))), (tr, .inr (4, [t0, .ref to_, .ref ts, .ref tp])), (to_, .inl (xI g, 6, .inl (fun j => nI (ord j)))), (ts, .inl (xI g, 6, .inl (fun j => iI (sta j)))), (tp, .inl (xI g, 6, .inl (fun j => iI (pla j)))), (un, .inl (xI g, 6, .inl (fun j => iI (unt j))))] H := hP
            have hD : va_D (fun _ => True) [(bp, .inr (1, [p0, .int (iI qy), .int (iI crn), p3, .ref ha, .ref ba, p6, .ref wa, .ref tr, .ref un, p10, p11, p12, p13])), (ha, .inl (xI g, 6, .inl (fun j => iI (han j)))), (ba, .inl (xI g, 6, .inl (fun j => iI (bay j)))), (wa, .inl (xI g, 6, .inl (fun j => iI (want j)))), (tr, .inr (4, [t0, .ref to_, .ref ts, .ref tp])), (to_, .inl (xI g, 6, .inl (fun j => nI (ord j)))), (ts, .inl (xI g, 6, .inl (fun j => iI (sta j)))), (tp, .inl (xI g, 6, .inl (fun j => iI (pla j)))), (un, .inl (xI g, 6, .inl (fun j => iI (unt j))))] := hD
            try dsimp only at hw_9
            obtain rfl : r_8 = iI (bCf (fun i => sta (ord i)) (fun i => unt (ord i)) (fun i => pla (ord i)) (fun i => bay (ord i)) tm (tm + han vs) pl (bay vs) ah) := hw_9
            have hbc := bCf_bd (a := (fun i => sta (ord i))) (u := (fun i => unt (ord i))) (b := (fun i => pla (ord i))) (y := (fun i => bay (ord i))) (x := tm) (z := tm + han vs) (p := pl) (q := bay vs) (fun i => b_pla (ord i)) (fun i => b_bay (ord i)) ah
            refine lv_istore (lv' := [(6, .int (iI (bCf (fun i => sta (ord i)) (fun i => unt (ord i)) (fun i => pla (ord i)) (fun i => bay (ord i)) tm (tm + han vs) pl (bay vs) ah))), (5, .int (nI k)), (0, .ref bp), (1, .int (nI vs)), (2, .int (iI tm)), (3, .int (nI ah)), (4, .int (iI pl))]) hx hb dX1_firstPlace_49 hl (by decide) rfl (fun ls hl => ?_)
            refine lv_iload hx hb dX1_firstPlace_51 (lv_at hl 0 rfl) ?_
            refine lv_if_ge (tgt := 59) hx hb dX1_firstPlace_53 (by decide) (fun c_10 => ?_) (fun c_10 => ?_)
            · have nc_10 := (iLe (a := 0) (b := bCf (fun i => sta (ord i)) (fun i => unt (ord i)) (fun i => pla (ord i)) (fun i => bay (ord i)) tm (tm + han vs) pl (bay vs) ah) (by decide) rfl (by omega)).mp c_10
              refine lv_iload hx hb dX1_firstPlace_59 (lv_at hl 0 rfl) ?_
              refine lv_istore (lv' := [(4, .int (iI (bCf (fun i => sta (ord i)) (fun i => unt (ord i)) (fun i => pla (ord i)) (fun i => bay (ord i)) tm (tm + han vs) pl (bay vs) ah))), (6, .int (iI (bCf (fun i => sta (ord i)) (fun i => unt (ord i)) (fun i => pla (ord i)) (fun i => bay (ord i)) tm (tm + han vs) pl (bay vs) ah))), (5, .int (nI k)), (0, .ref bp), (1, .int (nI vs)), (2, .int (iI tm)), (3, .int (nI ah))]) hx hb dX1_firstPlace_61 hl (by decide) rfl (fun ls hl => ?_)
              refine lv_iinc (v := nI (k + 1)) (lv' := [(5, .int (nI (k + 1))), (4, .int (iI (bCf (fun i => sta (ord i)) (fun i => unt (ord i)) (fun i => pla (ord i)) (fun i => bay (ord i)) tm (tm + han vs) pl (bay vs) ah))), (6, .int (iI (bCf (fun i => sta (ord i)) (fun i => unt (ord i)) (fun i => pla (ord i)) (fun i => bay (ord i)) tm (tm + han vs) pl (bay vs) ah))), (0, .ref bp), (1, .int (nI vs)), (2, .int (iI tm)), (3, .int (nI ah))]) hx hb dX1_firstPlace_63 hl (k := 2) rfl (nI_add k 1) (by decide) rfl (fun ls hl => ?_)
              refine lv_goto (tgt := 18) hx hb dX1_firstPlace_66 (by decide) ?_
              exact ih18 (k + 1) (bCf (fun i => sta (ord i)) (fun i => unt (ord i)) (fun i => pla (ord i)) (fun i => bay (ord i)) tm (tm + han vs) pl (bay vs) ah) _ _ _ (by omega) (by omega) (by rw [hff, show ah + 1 - k = (ah - k) + 1 by omega, show ah + 1 - (k + 1) = ah - k by omega]; simp only [bFf]; rw [if_pos (by omega), if_neg (by omega)]) (by omega) hP hD hS (lv_sub hl [0, 3, 4, 5, 6, 1] rfl)
            · have nc_10 := mt (iLe (a := 0) (b := bCf (fun i => sta (ord i)) (fun i => unt (ord i)) (fun i => pla (ord i)) (fun i => bay (ord i)) tm (tm + han vs) pl (bay vs) ah) (by decide) rfl (by omega)).mpr c_10
              refine lv_iload hx hb dX1_firstPlace_56 (lv_at hl 6 rfl) ?_
              exact W.iret (v := iI pl) hx hb hr (fun t ht hW => ⟨⟨iI pl, (), rfl, (by unfold bFp; rw [if_pos hhv, hff, show ah + 1 - k = (ah - k) + 1 by omega]; simp only [bFf]; rw [if_pos (by omega), if_pos (by omega)]), trivial⟩, hS.F ht⟩) hS.2.2 dX1_firstPlace_58
    exact hloop18 (ah + 2) 0 0 _ _ _ (by omega) (by omega) rfl (by omega) hP hD hS (by rw [(show nI 0 = (0 : Int32) from by decide), (show iI 0 = (0 : Int32) from by decide)]; exact lv_sub hl [0, 2, 3, 4, 5, 1] rfl)
  · refine lv_if_ne (tgt := 12) hx hb dX1_firstPlace_7 (by decide) (fun c0 => absurd (by decide) c0) (fun _ => ?_)
    refine lv_iconst (v := (-1)) hx hb dX1_firstPlace_10 (by decide) ?_
    exact W.iret (v := (-1)) hx hb hr (fun t ht hW => ⟨⟨(-1), (), rfl, (by unfold bFp; rw [if_neg hw_2]; decide), trivial⟩, hS.F ht⟩) hS.2.2 dX1_firstPlace_11
theorem dX1_delayOf_0 : decode cX1_delayOf 0 = .ok (.aload_n 0, 1) := by decide +kernel
theorem dX1_delayOf_1 : decode cX1_delayOf 1 = .ok (.getfield 21, 3) := by decide +kernel
theorem dX1_delayOf_4 : decode cX1_delayOf 4 = .ok (.iload_n 1, 1) := by decide +kernel
theorem dX1_delayOf_5 : decode cX1_delayOf 5 = .ok (.iaload, 1) := by decide +kernel
theorem dX1_delayOf_6 : decode cX1_delayOf 6 = .ok (.aload_n 0, 1) := by decide +kernel
theorem dX1_delayOf_7 : decode cX1_delayOf 7 = .ok (.getfield 30, 3) := by decide +kernel
theorem dX1_delayOf_10 : decode cX1_delayOf 10 = .ok (.getfield 107, 3) := by decide +kernel
theorem dX1_delayOf_13 : decode cX1_delayOf 13 = .ok (.iload_n 1, 1) := by decide +kernel
theorem dX1_delayOf_14 : decode cX1_delayOf 14 = .ok (.iaload, 1) := by decide +kernel
theorem dX1_delayOf_15 : decode cX1_delayOf 15 = .ok (.aload_n 0, 1) := by decide +kernel
theorem dX1_delayOf_16 : decode cX1_delayOf 16 = .ok (.getfield 9, 3) := by decide +kernel
theorem dX1_delayOf_19 : decode cX1_delayOf 19 = .ok (.iload_n 1, 1) := by decide +kernel
theorem dX1_delayOf_20 : decode cX1_delayOf 20 = .ok (.iaload, 1) := by decide +kernel
theorem dX1_delayOf_21 : decode cX1_delayOf 21 = .ok (.isub, 1) := by decide +kernel
theorem dX1_delayOf_22 : decode cX1_delayOf 22 = .ok (.imul, 1) := by decide +kernel
theorem dX1_delayOf_23 : decode cX1_delayOf 23 = .ok (.ireturn, 1) := by decide +kernel
set_option maxHeartbeats 4000000 in
set_option maxRecDepth 100000 in
theorem b_delayOf (l : Launch) (g : xG) (sz : Nat) (bp : Nat) (ar : Nat) (rk : Nat) (tr : Nat) (ts : Nat) (vs : Nat) (p0 : Value) (p1 : Value) (p2 : Value) (p4 : Value) (p5 : Value) (p7 : Value) (p9 : Value) (p10 : Value) (p11 : Value) (p12 : Value) (p13 : Value) (t0 : Value) (t1 : Value) (t3 : Value) (arv : Nat → Int) (rank : Nat → Int) (sta : Nat → Int)  (hvs : vs < 6) (b_arv : ∀ j, 0 ≤ arv j ∧ arv j ≤ 400) (b_rank : ∀ j, 0 ≤ rank j ∧ rank j ≤ 9) (b_sta : ∀ j, 0 ≤ sta j ∧ sta j ≤ 1000000) : Met l yX1_delayOf wsX1_delayOf ({ frames := 0, cells := 0, slots := 0, locals := 0 }) (va_Pc [.ref bp, .int (nI vs)] (fun U => xB g [(bp, .inr (1, [p0, p1, p2, .ref ar, p4, p5, .ref rk, p7, .ref tr, p9, p10, p11, p12, p13])), (ar, .inl (xI g, 6, .inl (fun j => iI (arv j)))), (rk, .inl (xI g, 6, .inl (fun j => iI (rank j)))), (tr, .inr (4, [t0, t1, .ref ts, t3])), (ts, .inl (xI g, 6, .inl (fun j => iI (sta j))))] sz U)) (va_Qi (fun (r : Int32) (_ : Unit) => r = iI (rank vs * (sta vs - arv vs))) (fun (_ : Unit) (_ : State) => True) (va_A [] sz)) 0 0 (va_A [] sz) := by
  refine Met.ofW (cc := cX1_delayOf) (maxL := 2) (ret := (some .int)) (by decide) rfl ?_
  intro p e s m args below meth c s₁ B hml hv
  obtain ⟨rfl, hsz, hP, hK, hD0⟩ := hv
  have hx := B.exec
  have hb := B.bytes
  have hr := B.returns
  have hts := atoms_spec (ws := wsX1_delayOf) B.pre
  have hown : s.vm.findClass RX1 = some m.cls := findClass_of_methodNamed B.named
  have hlocks := B.notSynchronized
  subst hsz
  have hD := hD0
  generalize hAe : va_A [] s.heap.size = A
  have hA : ∀ q : Nat, s.heap.size ≤ q → A q := fun q h => by rw [← hAe]; exact Or.inr h
  have hS : va_S A s.heap s.heap [] := va_S.rf
  have hl := lv_entry ([.ref bp, .int (nI vs)]) (n := 2) (Nat.le_of_ble_eq_true rfl)
  rw [lg_entry_eq]
  generalize (lg_sl ([.ref bp, .int (nI vs)]) ++ List.replicate (2 - (lg_sl ([.ref bp, .int (nI vs)])).length) Slot.unset).toArray = ls at hl ⊢
  have hl : lv_has ls 2 [(0, .ref bp), (1, .int (nI vs))] := hl
  have hFX1 : ∀ w ∈ u_ws RX1 TX1 14, w ∈ wsX1_delayOf := by decide +kernel
  have hFX4 : ∀ w ∈ u_ws RX4 TX4 4, w ∈ wsX1_delayOf := by decide +kernel
  refine lv_aload_n hx hb dX1_delayOf_0 rfl (lv_at hl 0 rfl) ?_
  refine va_get (D := xD g) (ci := 1) (v := .ref rk) (C := RX1) (T := TX1) (N := 14) hx hb hts hFX1 hown hK hP 0 rfl rfl 6 (by decide) (hts (.fieldLink RX1 21 "Stevedore$BerthPlanner" "rank" "[I") (by decide +kernel)) (fun _ h9 => h9) rfl dX1_delayOf_1 ?_
  refine lv_iload_n hx hb dX1_delayOf_4 rfl (lv_at hl 1 rfl) ?_
  refine va_iald hx hb hK hP 2 0 rfl rfl (vp_in_nI (by omega) (by omega)) dX1_delayOf_5 ?_
  refine lv_topi (fun v_1 ev => ?_)
  obtain rfl : v_1 = iI (rank vs) := ev.trans (congrArg (fun q9 => iI (rank q9)) (nI_clamp (by omega)))
  have b_2 := b_rank vs
  refine lv_aload_n hx hb dX1_delayOf_6 rfl (lv_at hl 0 rfl) ?_
  refine va_get (D := xD g) (ci := 1) (v := .ref tr) (C := RX1) (T := TX1) (N := 14) hx hb hts hFX1 hown hK hP 0 rfl rfl 8 (by decide) (hts (.fieldLink RX1 30 "Stevedore$BerthPlanner" "trial" "LStevedore$Plan;") (by decide +kernel)) (fun _ h9 => h9) rfl dX1_delayOf_7 ?_
  refine va_get (D := xD g) (ci := 4) (v := .ref ts) (C := RX4) (T := TX4) (N := 4) hx hb hts hFX4 hown hK hP 3 rfl rfl 2 (by decide) (hts (.fieldLink RX1 107 "Stevedore$Plan" "start" "[I") (by decide +kernel)) (fun _ h9 => h9) rfl dX1_delayOf_10 ?_
  refine lv_iload_n hx hb dX1_delayOf_13 rfl (lv_at hl 1 rfl) ?_
  refine va_iald hx hb hK hP 4 0 rfl rfl (vp_in_nI (by omega) (by omega)) dX1_delayOf_14 ?_
  refine lv_topi (fun v_3 ev => ?_)
  obtain rfl : v_3 = iI (sta vs) := ev.trans (congrArg (fun q9 => iI (sta q9)) (nI_clamp (by omega)))
  have b_4 := b_sta vs
  refine lv_aload_n hx hb dX1_delayOf_15 rfl (lv_at hl 0 rfl) ?_
  refine va_get (D := xD g) (ci := 1) (v := .ref ar) (C := RX1) (T := TX1) (N := 14) hx hb hts hFX1 hown hK hP 0 rfl rfl 3 (by decide) (hts (.fieldLink RX1 9 "Stevedore$BerthPlanner" "arrival" "[I") (by decide +kernel)) (fun _ h9 => h9) rfl dX1_delayOf_16 ?_
  refine lv_iload_n hx hb dX1_delayOf_19 rfl (lv_at hl 1 rfl) ?_
  refine va_iald hx hb hK hP 1 0 rfl rfl (vp_in_nI (by omega) (by omega)) dX1_delayOf_20 ?_
  refine lv_topi (fun v_5 ev => ?_)
  obtain rfl : v_5 = iI (arv vs) := ev.trans (congrArg (fun q9 => iI (arv q9)) (nI_clamp (by omega)))
  have b_6 := b_arv vs
  refine lv_isub hx hb dX1_delayOf_21 ?_
  refine lv_topi (fun v_7 ev => ?_)
  obtain rfl : v_7 = iI (sta vs - (arv vs)) := ev.trans (iS rfl rfl)
  refine lv_imul hx hb dX1_delayOf_22 ?_
  refine lv_topi (fun v_8 ev => ?_)
  obtain rfl : v_8 = iI ((rank vs) * (sta vs - (arv vs))) := ev.trans (iM rfl rfl)
  exact W.iret (v := iI ((rank vs) * (sta vs - (arv vs)))) hx hb hr (fun t ht hW => ⟨⟨iI ((rank vs) * (sta vs - (arv vs))), (), rfl, (by first | trivial | rfl | assumption | omega), trivial⟩, hS.F ht⟩) hS.2.2 dX1_delayOf_23
theorem dX1_isBetter_0 : decode cX1_isBetter 0 = .ok (.iload_n 1, 1) := by decide +kernel
theorem dX1_isBetter_1 : decode cX1_isBetter 1 = .ok (.aload_n 0, 1) := by decide +kernel
theorem dX1_isBetter_2 : decode cX1_isBetter 2 = .ok (.getfield 72, 3) := by decide +kernel
theorem dX1_isBetter_5 : decode cX1_isBetter 5 = .ok (.if_icmp .lt 19, 3) := by decide +kernel
theorem dX1_isBetter_24 : decode cX1_isBetter 24 = .ok (.iconst 1, 1) := by decide +kernel
theorem dX1_isBetter_25 : decode cX1_isBetter 25 = .ok (.goto 4, 3) := by decide +kernel
theorem dX1_isBetter_29 : decode cX1_isBetter 29 = .ok (.ireturn, 1) := by decide +kernel
theorem dX1_isBetter_8 : decode cX1_isBetter 8 = .ok (.iload_n 1, 1) := by decide +kernel
theorem dX1_isBetter_9 : decode cX1_isBetter 9 = .ok (.aload_n 0, 1) := by decide +kernel
theorem dX1_isBetter_10 : decode cX1_isBetter 10 = .ok (.getfield 72, 3) := by decide +kernel
theorem dX1_isBetter_13 : decode cX1_isBetter 13 = .ok (.if_icmp .ne 15, 3) := by decide +kernel
theorem dX1_isBetter_28 : decode cX1_isBetter 28 = .ok (.iconst 0, 1) := by decide +kernel
theorem dX1_isBetter_16 : decode cX1_isBetter 16 = .ok (.iload_n 2, 1) := by decide +kernel
theorem dX1_isBetter_17 : decode cX1_isBetter 17 = .ok (.aload_n 0, 1) := by decide +kernel
theorem dX1_isBetter_18 : decode cX1_isBetter 18 = .ok (.getfield 75, 3) := by decide +kernel
theorem dX1_isBetter_21 : decode cX1_isBetter 21 = .ok (.if_icmp .ge 7, 3) := by decide +kernel
set_option maxHeartbeats 4000000 in
set_option maxRecDepth 100000 in
theorem b_isBetter (l : Launch) (g : xG) (sz : Nat) (bp : Nat) (dl : Int) (lt : Int) (bd : Int) (bl : Int) (p0 : Value) (p1 : Value) (p2 : Value) (p3 : Value) (p4 : Value) (p5 : Value) (p6 : Value) (p7 : Value) (p8 : Value) (p9 : Value) (p10 : Value) (p11 : Value)  (h1 : 0 ≤ dl ∧ dl ≤ 100000000) (h2 : 0 ≤ lt ∧ lt ≤ 100000000) (h3 : 0 ≤ bd ∧ bd ≤ 100000000) (h4 : 0 ≤ bl ∧ bl ≤ 100000000) : Met l yX1_isBetter wsX1_isBetter ({ frames := 0, cells := 0, slots := 0, locals := 0 }) (va_Pc [.ref bp, .int (iI dl), .int (iI lt)] (fun U => xB g [(bp, .inr (1, [p0, p1, p2, p3, p4, p5, p6, p7, p8, p9, p10, p11, .int (iI bd), .int (iI bl)]))] sz U)) (va_Qi (fun (r : Int32) (_ : Unit) => (r = 1 ∧ (bBet bd bl dl lt)) ∨ (r = 0 ∧ ¬ (bBet bd bl dl lt))) (fun (_ : Unit) (_ : State) => True) (va_A [] sz)) 0 0 (va_A [] sz) := by
  refine Met.ofW (cc := cX1_isBetter) (maxL := 3) (ret := (some .boolean)) (by decide) rfl ?_
  intro p e s m args below meth c s₁ B hml hv
  obtain ⟨rfl, hsz, hP, hK, hD0⟩ := hv
  have hx := B.exec
  have hb := B.bytes
  have hr := B.returns
  have hts := atoms_spec (ws := wsX1_isBetter) B.pre
  have hown : s.vm.findClass RX1 = some m.cls := findClass_of_methodNamed B.named
  have hlocks := B.notSynchronized
  subst hsz
  have hD := hD0
  generalize hAe : va_A [] s.heap.size = A
  have hA : ∀ q : Nat, s.heap.size ≤ q → A q := fun q h => by rw [← hAe]; exact Or.inr h
  have hS : va_S A s.heap s.heap [] := va_S.rf
  have hl := lv_entry ([.ref bp, .int (iI dl), .int (iI lt)]) (n := 3) (Nat.le_of_ble_eq_true rfl)
  rw [lg_entry_eq]
  generalize (lg_sl ([.ref bp, .int (iI dl), .int (iI lt)]) ++ List.replicate (3 - (lg_sl ([.ref bp, .int (iI dl), .int (iI lt)])).length) Slot.unset).toArray = ls at hl ⊢
  have hl : lv_has ls 3 [(0, .ref bp), (1, .int (iI dl)), (2, .int (iI lt))] := hl
  have hFX1 : ∀ w ∈ u_ws RX1 TX1 14, w ∈ wsX1_isBetter := by decide +kernel
  refine lv_iload_n hx hb dX1_isBetter_0 rfl (lv_at hl 1 rfl) ?_
  refine lv_aload_n hx hb dX1_isBetter_1 rfl (lv_at hl 0 rfl) ?_
  refine va_get (D := xD g) (ci := 1) (v := .int (iI bd)) (C := RX1) (T := TX1) (N := 14) hx hb hts hFX1 hown hK hP 0 rfl rfl 12 (by decide) (hts (.fieldLink RX1 72 "Stevedore$BerthPlanner" "bestDelay" "I") (by decide +kernel)) (fun _ h9 => h9) rfl dX1_isBetter_2 ?_
  refine lv_icmp_lt (tgt := 24) hx hb dX1_isBetter_5 (by decide) (fun c_1 => ?_) (fun c_1 => ?_)
  · have nc_1 := (iLt (a := dl) (b := bd) rfl rfl (by omega)).mp c_1
    refine lv_iconst (v := 1) hx hb dX1_isBetter_24 (by decide) ?_
    refine lv_goto (tgt := 29) hx hb dX1_isBetter_25 (by decide) ?_
    exact W.zret (v := 1) hx hb hr (by rfl) (fun t ht hW => ⟨⟨1, (), rfl, (by unfold bBet; first | (refine Or.inl ⟨rfl, ?_⟩; omega) | (refine Or.inr ⟨rfl, ?_⟩; omega)), trivial⟩, hS.F ht⟩) hS.2.2 dX1_isBetter_29
  · have nc_1 := mt (iLt (a := dl) (b := bd) rfl rfl (by omega)).mpr c_1
    refine lv_iload_n hx hb dX1_isBetter_8 rfl (lv_at hl 1 rfl) ?_
    refine lv_aload_n hx hb dX1_isBetter_9 rfl (lv_at hl 0 rfl) ?_
    refine va_get (D := xD g) (ci := 1) (v := .int (iI bd)) (C := RX1) (T := TX1) (N := 14) hx hb hts hFX1 hown hK hP 0 rfl rfl 12 (by decide) (hts (.fieldLink RX1 72 "Stevedore$BerthPlanner" "bestDelay" "I") (by decide +kernel)) (fun _ h9 => h9) rfl dX1_isBetter_10 ?_
    refine lv_icmp_ne (tgt := 28) hx hb dX1_isBetter_13 (by decide) (fun c_2 => ?_) (fun c_2 => ?_)
    · have nc_2 := mt (iEq (a := dl) (b := bd) rfl rfl (by omega)).mpr c_2
      refine lv_iconst (v := 0) hx hb dX1_isBetter_28 (by decide) ?_
      exact W.zret (v := 0) hx hb hr (by rfl) (fun t ht hW => ⟨⟨0, (), rfl, (by unfold bBet; first | (refine Or.inl ⟨rfl, ?_⟩; omega) | (refine Or.inr ⟨rfl, ?_⟩; omega)), trivial⟩, hS.F ht⟩) hS.2.2 dX1_isBetter_29
    · have nc_2 := (iEq (a := dl) (b := bd) rfl rfl (by omega)).mp c_2
      refine lv_iload_n hx hb dX1_isBetter_16 rfl (lv_at hl 2 rfl) ?_
      refine lv_aload_n hx hb dX1_isBetter_17 rfl (lv_at hl 0 rfl) ?_
      refine va_get (D := xD g) (ci := 1) (v := .int (iI bl)) (C := RX1) (T := TX1) (N := 14) hx hb hts hFX1 hown hK hP 0 rfl rfl 13 (by decide) (hts (.fieldLink RX1 75 "Stevedore$BerthPlanner" "bestLatest" "I") (by decide +kernel)) (fun _ h9 => h9) rfl dX1_isBetter_18 ?_
      refine lv_icmp_ge (tgt := 28) hx hb dX1_isBetter_21 (by decide) (fun c_3 => ?_) (fun c_3 => ?_)
      · have nc_3 := (iLe (a := bl) (b := lt) rfl rfl (by omega)).mp c_3
        refine lv_iconst (v := 0) hx hb dX1_isBetter_28 (by decide) ?_
        exact W.zret (v := 0) hx hb hr (by rfl) (fun t ht hW => ⟨⟨0, (), rfl, (by unfold bBet; first | (refine Or.inl ⟨rfl, ?_⟩; omega) | (refine Or.inr ⟨rfl, ?_⟩; omega)), trivial⟩, hS.F ht⟩) hS.2.2 dX1_isBetter_29
      · have nc_3 := mt (iLe (a := bl) (b := lt) rfl rfl (by omega)).mpr c_3
        refine lv_iconst (v := 1) hx hb dX1_isBetter_24 (by decide) ?_
        refine lv_goto (tgt := 29) hx hb dX1_isBetter_25 (by decide) ?_
        exact W.zret (v := 1) hx hb hr (by rfl) (fun t ht hW => ⟨⟨1, (), rfl, (by unfold bBet; first | (refine Or.inl ⟨rfl, ?_⟩; omega) | (refine Or.inr ⟨rfl, ?_⟩; omega)), trivial⟩, hS.F ht⟩) hS.2.2 dX1_isBetter_29
theorem dX1_canPlan_0 : decode cX1_canPlan 0 = .ok (.iconst 0, 1) := by decide +kernel
theorem dX1_canPlan_1 : decode cX1_canPlan 1 = .ok (.istore_n 1, 1) := by decide +kernel
theorem dX1_canPlan_2 : decode cX1_canPlan 2 = .ok (.iload_n 1, 1) := by decide +kernel
theorem dX1_canPlan_3 : decode cX1_canPlan 3 = .ok (.aload_n 0, 1) := by decide +kernel
theorem dX1_canPlan_4 : decode cX1_canPlan 4 = .ok (.getfield 44, 3) := by decide +kernel
theorem dX1_canPlan_7 : decode cX1_canPlan 7 = .ok (.if_icmp .ge 37, 3) := by decide +kernel
theorem dX1_canPlan_44 : decode cX1_canPlan 44 = .ok (.iconst 1, 1) := by decide +kernel
theorem dX1_canPlan_45 : decode cX1_canPlan 45 = .ok (.ireturn, 1) := by decide +kernel
theorem dX1_canPlan_10 : decode cX1_canPlan 10 = .ok (.aload_n 0, 1) := by decide +kernel
theorem dX1_canPlan_11 : decode cX1_canPlan 11 = .ok (.getfield 18, 3) := by decide +kernel
theorem dX1_canPlan_14 : decode cX1_canPlan 14 = .ok (.iload_n 1, 1) := by decide +kernel
theorem dX1_canPlan_15 : decode cX1_canPlan 15 = .ok (.iaload, 1) := by decide +kernel
theorem dX1_canPlan_16 : decode cX1_canPlan 16 = .ok (.aload_n 0, 1) := by decide +kernel
theorem dX1_canPlan_17 : decode cX1_canPlan 17 = .ok (.getfield 48, 3) := by decide +kernel
theorem dX1_canPlan_20 : decode cX1_canPlan 20 = .ok (.if_icmp .gt 16, 3) := by decide +kernel
theorem dX1_canPlan_36 : decode cX1_canPlan 36 = .ok (.iconst 0, 1) := by decide +kernel
theorem dX1_canPlan_37 : decode cX1_canPlan 37 = .ok (.ireturn, 1) := by decide +kernel
theorem dX1_canPlan_23 : decode cX1_canPlan 23 = .ok (.aload_n 0, 1) := by decide +kernel
theorem dX1_canPlan_24 : decode cX1_canPlan 24 = .ok (.getfield 24, 3) := by decide +kernel
theorem dX1_canPlan_27 : decode cX1_canPlan 27 = .ok (.iload_n 1, 1) := by decide +kernel
theorem dX1_canPlan_28 : decode cX1_canPlan 28 = .ok (.iaload, 1) := by decide +kernel
theorem dX1_canPlan_29 : decode cX1_canPlan 29 = .ok (.aload_n 0, 1) := by decide +kernel
theorem dX1_canPlan_30 : decode cX1_canPlan 30 = .ok (.getfield 51, 3) := by decide +kernel
theorem dX1_canPlan_33 : decode cX1_canPlan 33 = .ok (.if_icmp .le 5, 3) := by decide +kernel
theorem dX1_canPlan_38 : decode cX1_canPlan 38 = .ok (.iinc 1 1, 3) := by decide +kernel
theorem dX1_canPlan_41 : decode cX1_canPlan 41 = .ok (.goto (-39), 3) := by decide +kernel
set_option maxHeartbeats 4000000 in
set_option maxRecDepth 100000 in
theorem b_canPlan (l : Launch) (g : xG) (sz : Nat) (bp : Nat) (ba : Nat) (wa : Nat) (n : Nat) (qy : Int) (crn : Int) (p3 : Value) (p4 : Value) (p6 : Value) (p8 : Value) (p9 : Value) (p10 : Value) (p11 : Value) (p12 : Value) (p13 : Value) (bay : Nat → Int) (want : Nat → Int)  (hn : n ≤ 6) (hcr : 0 ≤ crn ∧ crn ≤ 6) (hqy : 0 ≤ qy ∧ qy ≤ 60) (b_bay : ∀ j, 0 ≤ bay j ∧ bay j ≤ 10) (b_want : ∀ j, 0 ≤ want j ∧ want j ≤ 4) : Met l yX1_canPlan wsX1_canPlan ({ frames := 0, cells := 0, slots := 0, locals := 0 }) (va_Pc [.ref bp] (fun U => xB g [(bp, .inr (1, [.int (nI n), .int (iI qy), .int (iI crn), p3, p4, .ref ba, p6, .ref wa, p8, p9, p10, p11, p12, p13])), (ba, .inl (xI g, 6, .inl (fun j => iI (bay j)))), (wa, .inl (xI g, 6, .inl (fun j => iI (want j))))] sz U)) (va_Qi (fun (r : Int32) (_ : Unit) => (r = 1 ∧ (∀ v, v < n → bay v ≤ qy ∧ want v ≤ crn)) ∨ (r = 0 ∧ ¬ (∀ v, v < n → bay v ≤ qy ∧ want v ≤ crn))) (fun (_ : Unit) (_ : State) => True) (va_A [] sz)) 0 0 (va_A [] sz) := by
  refine Met.ofW (cc := cX1_canPlan) (maxL := 2) (ret := (some .boolean)) (by decide) rfl ?_
  intro p e s m args below meth c s₁ B hml hv
  obtain ⟨rfl, hsz, hP, hK, hD0⟩ := hv
  have hx := B.exec
  have hb := B.bytes
  have hr := B.returns
  have hts := atoms_spec (ws := wsX1_canPlan) B.pre
  have hown : s.vm.findClass RX1 = some m.cls := findClass_of_methodNamed B.named
  have hlocks := B.notSynchronized
  subst hsz
  have hD := hD0
  generalize hAe : va_A [] s.heap.size = A
  have hA : ∀ q : Nat, s.heap.size ≤ q → A q := fun q h => by rw [← hAe]; exact Or.inr h
  have hS : va_S A s.heap s.heap [] := va_S.rf
  have hl := lv_entry ([.ref bp]) (n := 2) (Nat.le_of_ble_eq_true rfl)
  rw [lg_entry_eq]
  generalize (lg_sl ([.ref bp]) ++ List.replicate (2 - (lg_sl ([.ref bp])).length) Slot.unset).toArray = ls at hl ⊢
  have hl : lv_has ls 2 [(0, .ref bp)] := hl
  have hFX1 : ∀ w ∈ u_ws RX1 TX1 14, w ∈ wsX1_canPlan := by decide +kernel
  refine lv_iconst (v := 0) hx hb dX1_canPlan_0 (by decide) ?_
  refine lv_istore_n (lv' := [(1, .int 0), (0, .ref bp)]) hx hb dX1_canPlan_1 rfl hl (by decide) rfl (fun ls hl => ?_)
  have hloop2 : ∀ (n9 : Nat) (k : Nat) (H : Heap) (locs : List Loc) (ls : Array Slot), n - k < n9 → (k ≤ n) → (∀ v, v < k → bay v ≤ qy ∧ want v ≤ crn) → va_P (xD g) vwCl [(bp, .inr (1, [.int (nI n), .int (iI qy), .int (iI crn), p3, p4, .ref ba, p6, .ref wa, p8, p9, p10, p11, p12, p13])), (ba, .inl (xI g, 6, .inl (fun j => iI (bay j)))), (wa, .inl (xI g, 6, .inl (fun j => iI (want j))))] H → va_D (fun _ => True) [(bp, .inr (1, [.int (nI n), .int (iI qy), .int (iI crn), p3, p4, .ref ba, p6, .ref wa, p8, p9, p10, p11, p12, p13])), (ba, .inl (xI g, 6, .inl (fun j => iI (bay j)))), (wa, .inl (xI g, 6, .inl (fun j => iI (want j))))] → va_S A s.heap H locs → lv_has ls 2 [(1, .int (nI k)), (0, .ref bp)] → W p l e (headSpec wsX1_canPlan ({ frames := 0, cells := 0, slots := 0, locals := 0 })).room s m ([.ref bp] : List Value).toArray below meth c H locs 0 0 (MQ below (va_Qi (fun (r : Int32) (_ : Unit) => (r = 1 ∧ (∀ v, v < n → bay v ≤ qy ∧ want v ≤ crn)) ∨ (r = 0 ∧ ¬ (∀ v, v < n → bay v ≤ qy ∧ want v ≤ crn))) (fun (_ : Unit) (_ : State) => True) (A)) ([.ref bp] : List Value).toArray s 0 0 A) (F0 m 2 ls []) := by
    intro n9
    induction n9 with
    | zero =>
      intro k H locs ls hm hk hfa hP hD hS hl
      exact absurd hm (Nat.not_lt_zero _)
    | succ n9 ih2 =>
      intro k H locs ls hm hk hfa hP hD hS hl
      refine lv_iload_n hx hb dX1_canPlan_2 rfl (lv_at hl 0 rfl) ?_
      refine lv_aload_n hx hb dX1_canPlan_3 rfl (lv_at hl 1 rfl) ?_
      refine va_get (D := xD g) (ci := 1) (v := .int (nI n)) (C := RX1) (T := TX1) (N := 14) hx hb hts hFX1 hown hK hP 0 rfl rfl 0 (by decide) (hts (.fieldLink RX1 44 "Stevedore$BerthPlanner" "count" "I") (by decide +kernel)) (fun _ h9 => h9) rfl dX1_canPlan_4 ?_
      refine lv_icmp_ge (tgt := 44) hx hb dX1_canPlan_7 (by decide) (fun c_1 => ?_) (fun c_1 => ?_)
      · have nc_1 := (nI_leI (a := n) (b := k) (by omega) (by omega)).mp c_1
        refine lv_iconst (v := 1) hx hb dX1_canPlan_44 (by decide) ?_
        exact W.zret (v := 1) hx hb hr (by rfl) (fun t ht hW => ⟨⟨1, (), rfl, (Or.inl ⟨rfl, fun v hv => hfa v (by omega)⟩), trivial⟩, hS.F ht⟩) hS.2.2 dX1_canPlan_45
      · have nc_1 := mt (nI_leI (a := n) (b := k) (by omega) (by omega)).mpr c_1
        refine lv_aload_n hx hb dX1_canPlan_10 rfl (lv_at hl 1 rfl) ?_
        refine va_get (D := xD g) (ci := 1) (v := .ref ba) (C := RX1) (T := TX1) (N := 14) hx hb hts hFX1 hown hK hP 0 rfl rfl 5 (by decide) (hts (.fieldLink RX1 18 "Stevedore$BerthPlanner" "bays" "[I") (by decide +kernel)) (fun _ h9 => h9) rfl dX1_canPlan_11 ?_
        refine lv_iload_n hx hb dX1_canPlan_14 rfl (lv_at hl 0 rfl) ?_
        refine va_iald hx hb hK hP 1 0 rfl rfl (vp_in_nI (by omega) (by omega)) dX1_canPlan_15 ?_
        refine lv_topi (fun v_2 ev => ?_)
        obtain rfl : v_2 = iI (bay k) := ev.trans (congrArg (fun q9 => iI (bay q9)) (nI_clamp (by omega)))
        have b_3 := b_bay k
        refine lv_aload_n hx hb dX1_canPlan_16 rfl (lv_at hl 1 rfl) ?_
        refine va_get (D := xD g) (ci := 1) (v := .int (iI qy)) (C := RX1) (T := TX1) (N := 14) hx hb hts hFX1 hown hK hP 0 rfl rfl 1 (by decide) (hts (.fieldLink RX1 48 "Stevedore$BerthPlanner" "quay" "I") (by decide +kernel)) (fun _ h9 => h9) rfl dX1_canPlan_17 ?_
        refine lv_icmp_gt (tgt := 36) hx hb dX1_canPlan_20 (by decide) (fun c_4 => ?_) (fun c_4 => ?_)
        · have nc_4 := (iLt (a := qy) (b := bay k) rfl rfl (by omega)).mp c_4
          refine lv_iconst (v := 0) hx hb dX1_canPlan_36 (by decide) ?_
          exact W.zret (v := 0) hx hb hr (by rfl) (fun t ht hW => ⟨⟨0, (), rfl, (Or.inr ⟨rfl, fun q => by have z := q k (by omega); omega⟩), trivial⟩, hS.F ht⟩) hS.2.2 dX1_canPlan_37
        · have nc_4 := mt (iLt (a := qy) (b := bay k) rfl rfl (by omega)).mpr c_4
          refine lv_aload_n hx hb dX1_canPlan_23 rfl (lv_at hl 1 rfl) ?_
          refine va_get (D := xD g) (ci := 1) (v := .ref wa) (C := RX1) (T := TX1) (N := 14) hx hb hts hFX1 hown hK hP 0 rfl rfl 7 (by decide) (hts (.fieldLink RX1 24 "Stevedore$BerthPlanner" "wanted" "[I") (by decide +kernel)) (fun _ h9 => h9) rfl dX1_canPlan_24 ?_
          refine lv_iload_n hx hb dX1_canPlan_27 rfl (lv_at hl 0 rfl) ?_
          refine va_iald hx hb hK hP 2 0 rfl rfl (vp_in_nI (by omega) (by omega)) dX1_canPlan_28 ?_
          refine lv_topi (fun v_5 ev => ?_)
          obtain rfl : v_5 = iI (want k) := ev.trans (congrArg (fun q9 => iI (want q9)) (nI_clamp (by omega)))
          have b_6 := b_want k
          refine lv_aload_n hx hb dX1_canPlan_29 rfl (lv_at hl 1 rfl) ?_
          refine va_get (D := xD g) (ci := 1) (v := .int (iI crn)) (C := RX1) (T := TX1) (N := 14) hx hb hts hFX1 hown hK hP 0 rfl rfl 2 (by decide) (hts (.fieldLink RX1 51 "Stevedore$BerthPlanner" "cranes" "I") (by decide +kernel)) (fun _ h9 => h9) rfl dX1_canPlan_30 ?_
          refine lv_icmp_le (tgt := 38) hx hb dX1_canPlan_33 (by decide) (fun c_7 => ?_) (fun c_7 => ?_)
          · have nc_7 := (iLe (a := want k) (b := crn) rfl rfl (by omega)).mp c_7
            refine lv_iinc (v := nI (k + 1)) (lv' := [(1, .int (nI (k + 1))), (0, .ref bp)]) hx hb dX1_canPlan_38 hl (k := 0) rfl (nI_add k 1) (by decide) rfl (fun ls hl => ?_)
            refine lv_goto (tgt := 2) hx hb dX1_canPlan_41 (by decide) ?_
            exact ih2 (k + 1) _ _ _ (by omega) (by omega) (by intro v hv; by_cases q : v = k; (subst q; omega); (exact hfa v (by omega))) hP hD hS (lv_sub hl [0, 1] rfl)
          · have nc_7 := mt (iLe (a := want k) (b := crn) rfl rfl (by omega)).mpr c_7
            refine lv_iconst (v := 0) hx hb dX1_canPlan_36 (by decide) ?_
            exact W.zret (v := 0) hx hb hr (by rfl) (fun t ht hW => ⟨⟨0, (), rfl, (Or.inr ⟨rfl, fun q => by have z := q k (by omega); omega⟩), trivial⟩, hS.F ht⟩) hS.2.2 dX1_canPlan_37
  exact hloop2 (n + 1) 0 _ _ _ (by omega) (by omega) (fun v hv => absurd hv (Nat.not_lt_zero _)) hP hD hS (by rw [(show nI 0 = (0 : Int32) from by decide)]; exact lv_sub hl [0, 1] rfl)
