theorem dX1_isMeeting_0 : decode cX1_isMeeting 0 = .ok (.aload_n 0, 1) := by decide +kernel
theorem dX1_isMeeting_1 : decode cX1_isMeeting 1 = .ok (.getfield 30, 3) := by decide +kernel
theorem dX1_isMeeting_4 : decode cX1_isMeeting 4 = .ok (.getfield 107, 3) := by decide +kernel
theorem dX1_isMeeting_7 : decode cX1_isMeeting 7 = .ok (.iload_n 3, 1) := by decide +kernel
theorem dX1_isMeeting_8 : decode cX1_isMeeting 8 = .ok (.iaload, 1) := by decide +kernel
theorem dX1_isMeeting_9 : decode cX1_isMeeting 9 = .ok (.iload_n 2, 1) := by decide +kernel
theorem dX1_isMeeting_10 : decode cX1_isMeeting 10 = .ok (.aload_n 0, 1) := by decide +kernel
theorem dX1_isMeeting_11 : decode cX1_isMeeting 11 = .ok (.getfield 15, 3) := by decide +kernel
theorem dX1_isMeeting_14 : decode cX1_isMeeting 14 = .ok (.iload_n 1, 1) := by decide +kernel
theorem dX1_isMeeting_15 : decode cX1_isMeeting 15 = .ok (.iaload, 1) := by decide +kernel
theorem dX1_isMeeting_16 : decode cX1_isMeeting 16 = .ok (.iadd, 1) := by decide +kernel
theorem dX1_isMeeting_17 : decode cX1_isMeeting 17 = .ok (.if_icmp .ge 17, 3) := by decide +kernel
theorem dX1_isMeeting_34 : decode cX1_isMeeting 34 = .ok (.iconst 0, 1) := by decide +kernel
theorem dX1_isMeeting_35 : decode cX1_isMeeting 35 = .ok (.ireturn, 1) := by decide +kernel
theorem dX1_isMeeting_20 : decode cX1_isMeeting 20 = .ok (.iload_n 2, 1) := by decide +kernel
theorem dX1_isMeeting_21 : decode cX1_isMeeting 21 = .ok (.aload_n 0, 1) := by decide +kernel
theorem dX1_isMeeting_22 : decode cX1_isMeeting 22 = .ok (.getfield 34, 3) := by decide +kernel
theorem dX1_isMeeting_25 : decode cX1_isMeeting 25 = .ok (.iload_n 3, 1) := by decide +kernel
theorem dX1_isMeeting_26 : decode cX1_isMeeting 26 = .ok (.iaload, 1) := by decide +kernel
theorem dX1_isMeeting_27 : decode cX1_isMeeting 27 = .ok (.if_icmp .ge 7, 3) := by decide +kernel
theorem dX1_isMeeting_30 : decode cX1_isMeeting 30 = .ok (.iconst 1, 1) := by decide +kernel
theorem dX1_isMeeting_31 : decode cX1_isMeeting 31 = .ok (.goto 4, 3) := by decide +kernel
set_option maxHeartbeats 4000000 in
set_option maxRecDepth 100000 in
theorem b_isMeeting (l : Launch) (g : xG) (sz : Nat) (bp : Nat) (ha : Nat) (tr : Nat) (un : Nat) (ts : Nat) (vs : Nat) (oc : Nat) (tm : Int) (p0 : Value) (p1 : Value) (p2 : Value) (p3 : Value) (p5 : Value) (p6 : Value) (p7 : Value) (p10 : Value) (p11 : Value) (p12 : Value) (p13 : Value) (t0 : Value) (t1 : Value) (t3 : Value) (han : Nat → Int) (sta : Nat → Int) (unt : Nat → Int)  (hvs : vs < 6) (hoc : oc < 6) (htm : 0 ≤ tm ∧ tm ≤ 1000000) (b_han : ∀ j, 0 ≤ han j ∧ han j ≤ 10100) (b_sta : ∀ j, 0 ≤ sta j ∧ sta j ≤ 1000000) (b_unt : ∀ j, 0 ≤ unt j ∧ unt j ≤ 2000000) : Met l yX1_isMeeting wsX1_isMeeting ({ frames := 0, cells := 0, slots := 0, locals := 0 }) (va_Pc [.ref bp, .int (nI vs), .int (iI tm), .int (nI oc)] (fun U => xB g [(bp, .inr (1, [p0, p1, p2, p3, .ref ha, p5, p6, p7, .ref tr, .ref un, p10, p11, p12, p13])), (ha, .inl (xI g, 6, .inl (fun j => iI (han j)))), (tr, .inr (4, [t0, t1, .ref ts, t3])), (ts, .inl (xI g, 6, .inl (fun j => iI (sta j)))), (un, .inl (xI g, 6, .inl (fun j => iI (unt j))))] sz U)) (va_Qi (fun (r : Int32) (_ : Unit) => (r = 1 ∧ (sta oc < tm + han vs ∧ tm < unt oc)) ∨ (r = 0 ∧ ¬ (sta oc < tm + han vs ∧ tm < unt oc))) (fun (_ : Unit) (_ : State) => True) (va_A [] sz)) 0 0 (va_A [] sz) := by
  refine Met.ofW (cc := cX1_isMeeting) (maxL := 4) (ret := (some .boolean)) (by decide) rfl ?_
  intro p e s m args below meth c s₁ B hml hv
  obtain ⟨rfl, hsz, hP, hK, hD0⟩ := hv
  have hx := B.exec
  have hb := B.bytes
  have hr := B.returns
  have hts := atoms_spec (ws := wsX1_isMeeting) B.pre
  have hown : s.vm.findClass RX1 = some m.cls := findClass_of_methodNamed B.named
  have hlocks := B.notSynchronized
  subst hsz
  have hD := hD0
  generalize hAe : va_A [] s.heap.size = A
  have hA : ∀ q : Nat, s.heap.size ≤ q → A q := fun q h => by rw [← hAe]; exact Or.inr h
  have hS : va_S A s.heap s.heap [] := va_S.rf
  have hl := lv_entry ([.ref bp, .int (nI vs), .int (iI tm), .int (nI oc)]) (n := 4) (Nat.le_of_ble_eq_true rfl)
  rw [lg_entry_eq]
  generalize (lg_sl ([.ref bp, .int (nI vs), .int (iI tm), .int (nI oc)]) ++ List.replicate (4 - (lg_sl ([.ref bp, .int (nI vs), .int (iI tm), .int (nI oc)])).length) Slot.unset).toArray = ls at hl ⊢
  have hl : lv_has ls 4 [(0, .ref bp), (1, .int (nI vs)), (2, .int (iI tm)), (3, .int (nI oc))] := hl
  have hFX1 : ∀ w ∈ u_ws RX1 TX1 14, w ∈ wsX1_isMeeting := by decide +kernel
  have hFX4 : ∀ w ∈ u_ws RX4 TX4 4, w ∈ wsX1_isMeeting := by decide +kernel
  refine lv_aload_n hx hb dX1_isMeeting_0 rfl (lv_at hl 0 rfl) ?_
  refine va_get (D := xD g) (ci := 1) (v := .ref tr) (C := RX1) (T := TX1) (N := 14) hx hb hts hFX1 hown hK hP 0 rfl rfl 8 (by decide) (hts (.fieldLink RX1 30 "Stevedore$BerthPlanner" "trial" "LStevedore$Plan;") (by decide +kernel)) (fun _ h9 => h9) rfl dX1_isMeeting_1 ?_
  refine va_get (D := xD g) (ci := 4) (v := .ref ts) (C := RX4) (T := TX4) (N := 4) hx hb hts hFX4 hown hK hP 2 rfl rfl 2 (by decide) (hts (.fieldLink RX1 107 "Stevedore$Plan" "start" "[I") (by decide +kernel)) (fun _ h9 => h9) rfl dX1_isMeeting_4 ?_
  refine lv_iload_n hx hb dX1_isMeeting_7 rfl (lv_at hl 3 rfl) ?_
  refine va_iald hx hb hK hP 3 0 rfl rfl (vp_in_nI (by omega) (by omega)) dX1_isMeeting_8 ?_
  refine lv_topi (fun v_1 ev => ?_)
  obtain rfl : v_1 = iI (sta oc) := ev.trans (congrArg (fun q9 => iI (sta q9)) (nI_clamp (by omega)))
  have b_2 := b_sta oc
  refine lv_iload_n hx hb dX1_isMeeting_9 rfl (lv_at hl 2 rfl) ?_
  refine lv_aload_n hx hb dX1_isMeeting_10 rfl (lv_at hl 0 rfl) ?_
  refine va_get (D := xD g) (ci := 1) (v := .ref ha) (C := RX1) (T := TX1) (N := 14) hx hb hts hFX1 hown hK hP 0 rfl rfl 4 (by decide) (hts (.fieldLink RX1 15 "Stevedore$BerthPlanner" "handling" "[I") (by decide +kernel)) (fun _ h9 => h9) rfl dX1_isMeeting_11 ?_
  refine lv_iload_n hx hb dX1_isMeeting_14 rfl (lv_at hl 1 rfl) ?_
  refine va_iald hx hb hK hP 1 0 rfl rfl (vp_in_nI (by omega) (by omega)) dX1_isMeeting_15 ?_
  refine lv_topi (fun v_3 ev => ?_)
  obtain rfl : v_3 = iI (han vs) := ev.trans (congrArg (fun q9 => iI (han q9)) (nI_clamp (by omega)))
  have b_4 := b_han vs
  refine lv_iadd hx hb dX1_isMeeting_16 ?_
  refine lv_topi (fun v_5 ev => ?_)
  obtain rfl : v_5 = iI (tm + (han vs)) := ev.trans (iA rfl rfl)
  refine lv_icmp_ge (tgt := 34) hx hb dX1_isMeeting_17 (by decide) (fun c_6 => ?_) (fun c_6 => ?_)
  · have nc_6 := (iLe (a := tm + (han vs)) (b := sta oc) rfl rfl (by omega)).mp c_6
    refine lv_iconst (v := 0) hx hb dX1_isMeeting_34 (by decide) ?_
    exact W.zret (v := 0) hx hb hr (by rfl) (fun t ht hW => ⟨⟨0, (), rfl, (by first | (refine Or.inl ⟨rfl, ?_⟩; omega) | (refine Or.inr ⟨rfl, ?_⟩; omega)), trivial⟩, hS.F ht⟩) hS.2.2 dX1_isMeeting_35
  · have nc_6 := mt (iLe (a := tm + (han vs)) (b := sta oc) rfl rfl (by omega)).mpr c_6
    refine lv_iload_n hx hb dX1_isMeeting_20 rfl (lv_at hl 2 rfl) ?_
    refine lv_aload_n hx hb dX1_isMeeting_21 rfl (lv_at hl 0 rfl) ?_
    refine va_get (D := xD g) (ci := 1) (v := .ref un) (C := RX1) (T := TX1) (N := 14) hx hb hts hFX1 hown hK hP 0 rfl rfl 9 (by decide) (hts (.fieldLink RX1 34 "Stevedore$BerthPlanner" "until" "[I") (by decide +kernel)) (fun _ h9 => h9) rfl dX1_isMeeting_22 ?_
    refine lv_iload_n hx hb dX1_isMeeting_25 rfl (lv_at hl 3 rfl) ?_
    refine va_iald hx hb hK hP 4 0 rfl rfl (vp_in_nI (by omega) (by omega)) dX1_isMeeting_26 ?_
    refine lv_topi (fun v_7 ev => ?_)
    obtain rfl : v_7 = iI (unt oc) := ev.trans (congrArg (fun q9 => iI (unt q9)) (nI_clamp (by omega)))
    have b_8 := b_unt oc
    refine lv_icmp_ge (tgt := 34) hx hb dX1_isMeeting_27 (by decide) (fun c_9 => ?_) (fun c_9 => ?_)
    · have nc_9 := (iLe (a := unt oc) (b := tm) rfl rfl (by omega)).mp c_9
      refine lv_iconst (v := 0) hx hb dX1_isMeeting_34 (by decide) ?_
      exact W.zret (v := 0) hx hb hr (by rfl) (fun t ht hW => ⟨⟨0, (), rfl, (by first | (refine Or.inl ⟨rfl, ?_⟩; omega) | (refine Or.inr ⟨rfl, ?_⟩; omega)), trivial⟩, hS.F ht⟩) hS.2.2 dX1_isMeeting_35
    · have nc_9 := mt (iLe (a := unt oc) (b := tm) rfl rfl (by omega)).mpr c_9
      refine lv_iconst (v := 1) hx hb dX1_isMeeting_30 (by decide) ?_
      refine lv_goto (tgt := 35) hx hb dX1_isMeeting_31 (by decide) ?_
      exact W.zret (v := 1) hx hb hr (by rfl) (fun t ht hW => ⟨⟨1, (), rfl, (by first | (refine Or.inl ⟨rfl, ?_⟩; omega) | (refine Or.inr ⟨rfl, ?_⟩; omega)), trivial⟩, hS.F ht⟩) hS.2.2 dX1_isMeeting_35
theorem dX1_wantedAt_0 : decode cX1_wantedAt 0 = .ok (.iconst 0, 1) := by decide +kernel
theorem dX1_wantedAt_1 : decode cX1_wantedAt 1 = .ok (.istore_n 3, 1) := by decide +kernel
theorem dX1_wantedAt_2 : decode cX1_wantedAt 2 = .ok (.iconst 0, 1) := by decide +kernel
theorem dX1_wantedAt_3 : decode cX1_wantedAt 3 = .ok (.istore 4, 2) := by decide +kernel
theorem dX1_wantedAt_5 : decode cX1_wantedAt 5 = .ok (.iload 4, 2) := by decide +kernel
theorem dX1_wantedAt_7 : decode cX1_wantedAt 7 = .ok (.iload_n 2, 1) := by decide +kernel
theorem dX1_wantedAt_8 : decode cX1_wantedAt 8 = .ok (.if_icmp .ge 56, 3) := by decide +kernel
theorem dX1_wantedAt_64 : decode cX1_wantedAt 64 = .ok (.iload_n 3, 1) := by decide +kernel
theorem dX1_wantedAt_65 : decode cX1_wantedAt 65 = .ok (.ireturn, 1) := by decide +kernel
theorem dX1_wantedAt_11 : decode cX1_wantedAt 11 = .ok (.aload_n 0, 1) := by decide +kernel
theorem dX1_wantedAt_12 : decode cX1_wantedAt 12 = .ok (.getfield 30, 3) := by decide +kernel
theorem dX1_wantedAt_15 : decode cX1_wantedAt 15 = .ok (.getfield 110, 3) := by decide +kernel
theorem dX1_wantedAt_18 : decode cX1_wantedAt 18 = .ok (.iload 4, 2) := by decide +kernel
theorem dX1_wantedAt_20 : decode cX1_wantedAt 20 = .ok (.iaload, 1) := by decide +kernel
theorem dX1_wantedAt_21 : decode cX1_wantedAt 21 = .ok (.istore 5, 2) := by decide +kernel
theorem dX1_wantedAt_23 : decode cX1_wantedAt 23 = .ok (.aload_n 0, 1) := by decide +kernel
theorem dX1_wantedAt_24 : decode cX1_wantedAt 24 = .ok (.getfield 30, 3) := by decide +kernel
theorem dX1_wantedAt_27 : decode cX1_wantedAt 27 = .ok (.getfield 107, 3) := by decide +kernel
theorem dX1_wantedAt_30 : decode cX1_wantedAt 30 = .ok (.iload 5, 2) := by decide +kernel
theorem dX1_wantedAt_32 : decode cX1_wantedAt 32 = .ok (.iaload, 1) := by decide +kernel
theorem dX1_wantedAt_33 : decode cX1_wantedAt 33 = .ok (.iload_n 1, 1) := by decide +kernel
theorem dX1_wantedAt_34 : decode cX1_wantedAt 34 = .ok (.if_icmp .gt 24, 3) := by decide +kernel
theorem dX1_wantedAt_58 : decode cX1_wantedAt 58 = .ok (.iinc 4 1, 3) := by decide +kernel
theorem dX1_wantedAt_61 : decode cX1_wantedAt 61 = .ok (.goto (-56), 3) := by decide +kernel
theorem dX1_wantedAt_37 : decode cX1_wantedAt 37 = .ok (.iload_n 1, 1) := by decide +kernel
theorem dX1_wantedAt_38 : decode cX1_wantedAt 38 = .ok (.aload_n 0, 1) := by decide +kernel
theorem dX1_wantedAt_39 : decode cX1_wantedAt 39 = .ok (.getfield 34, 3) := by decide +kernel
theorem dX1_wantedAt_42 : decode cX1_wantedAt 42 = .ok (.iload 5, 2) := by decide +kernel
theorem dX1_wantedAt_44 : decode cX1_wantedAt 44 = .ok (.iaload, 1) := by decide +kernel
theorem dX1_wantedAt_45 : decode cX1_wantedAt 45 = .ok (.if_icmp .ge 13, 3) := by decide +kernel
theorem dX1_wantedAt_48 : decode cX1_wantedAt 48 = .ok (.iload_n 3, 1) := by decide +kernel
theorem dX1_wantedAt_49 : decode cX1_wantedAt 49 = .ok (.aload_n 0, 1) := by decide +kernel
theorem dX1_wantedAt_50 : decode cX1_wantedAt 50 = .ok (.getfield 24, 3) := by decide +kernel
theorem dX1_wantedAt_53 : decode cX1_wantedAt 53 = .ok (.iload 5, 2) := by decide +kernel
theorem dX1_wantedAt_55 : decode cX1_wantedAt 55 = .ok (.iaload, 1) := by decide +kernel
theorem dX1_wantedAt_56 : decode cX1_wantedAt 56 = .ok (.iadd, 1) := by decide +kernel
theorem dX1_wantedAt_57 : decode cX1_wantedAt 57 = .ok (.istore_n 3, 1) := by decide +kernel
set_option maxHeartbeats 4000000 in
set_option maxRecDepth 100000 in
theorem b_wantedAt (l : Launch) (g : xG) (sz : Nat) (bp : Nat) (wa : Nat) (tr : Nat) (un : Nat) (to_ : Nat) (ts : Nat) (ah : Nat) (tm : Int) (p0 : Value) (p1 : Value) (p2 : Value) (p3 : Value) (p4 : Value) (p5 : Value) (p6 : Value) (p10 : Value) (p11 : Value) (p12 : Value) (p13 : Value) (t0 : Value) (t3 : Value) (want : Nat → Int) (ord : Nat → Nat) (sta : Nat → Int) (unt : Nat → Int)  (hah : ah ≤ 6) (htm : 0 ≤ tm ∧ tm ≤ 1000000) (b_want : ∀ j, 0 ≤ want j ∧ want j ≤ 4) (b_ord : ∀ j, ord j ≤ 5) (b_sta : ∀ j, 0 ≤ sta j ∧ sta j ≤ 1000000) (b_unt : ∀ j, 0 ≤ unt j ∧ unt j ≤ 2000000) : Met l yX1_wantedAt wsX1_wantedAt ({ frames := 0, cells := 0, slots := 0, locals := 0 }) (va_Pc [.ref bp, .int (iI tm), .int (nI ah)] (fun U => xB g [(bp, .inr (1, [p0, p1, p2, p3, p4, p5, p6, .ref wa, .ref tr, .ref un, p10, p11, p12, p13])), (wa, .inl (xI g, 6, .inl (fun j => iI (want j)))), (tr, .inr (4, [t0, .ref to_, .ref ts, t3])), (to_, .inl (xI g, 6, .inl (fun j => nI (ord j)))), (ts, .inl (xI g, 6, .inl (fun j => iI (sta j)))), (un, .inl (xI g, 6, .inl (fun j => iI (unt j))))] sz U)) (va_Qi (fun (r : Int32) (_ : Unit) => r = iI (bW (fun i => sta (ord i)) (fun i => unt (ord i)) (fun i => want (ord i)) tm ah)) (fun (_ : Unit) (_ : State) => True) (va_A [] sz)) 0 0 (va_A [] sz) := by
  refine Met.ofW (cc := cX1_wantedAt) (maxL := 6) (ret := (some .int)) (by decide) rfl ?_
  intro p e s m args below meth c s₁ B hml hv
  obtain ⟨rfl, hsz, hP, hK, hD0⟩ := hv
  have hx := B.exec
  have hb := B.bytes
  have hr := B.returns
  have hts := atoms_spec (ws := wsX1_wantedAt) B.pre
  have hown : s.vm.findClass RX1 = some m.cls := findClass_of_methodNamed B.named
  have hlocks := B.notSynchronized
  subst hsz
  have hD := hD0
  generalize hAe : va_A [] s.heap.size = A
  have hA : ∀ q : Nat, s.heap.size ≤ q → A q := fun q h => by rw [← hAe]; exact Or.inr h
  have hS : va_S A s.heap s.heap [] := va_S.rf
  have hl := lv_entry ([.ref bp, .int (iI tm), .int (nI ah)]) (n := 6) (Nat.le_of_ble_eq_true rfl)
  rw [lg_entry_eq]
  generalize (lg_sl ([.ref bp, .int (iI tm), .int (nI ah)]) ++ List.replicate (6 - (lg_sl ([.ref bp, .int (iI tm), .int (nI ah)])).length) Slot.unset).toArray = ls at hl ⊢
  have hl : lv_has ls 6 [(0, .ref bp), (1, .int (iI tm)), (2, .int (nI ah))] := hl
  have hFX1 : ∀ w ∈ u_ws RX1 TX1 14, w ∈ wsX1_wantedAt := by decide +kernel
  have hFX4 : ∀ w ∈ u_ws RX4 TX4 4, w ∈ wsX1_wantedAt := by decide +kernel
  refine lv_iconst (v := 0) hx hb dX1_wantedAt_0 (by decide) ?_
  refine lv_istore_n (lv' := [(3, .int 0), (0, .ref bp), (1, .int (iI tm)), (2, .int (nI ah))]) hx hb dX1_wantedAt_1 rfl hl (by decide) rfl (fun ls hl => ?_)
  refine lv_iconst (v := 0) hx hb dX1_wantedAt_2 (by decide) ?_
  refine lv_istore (lv' := [(4, .int 0), (3, .int 0), (0, .ref bp), (1, .int (iI tm)), (2, .int (nI ah))]) hx hb dX1_wantedAt_3 hl (by decide) rfl (fun ls hl => ?_)
  have hloop5 : ∀ (n9 : Nat) (k : Nat) (tg : Int) (H : Heap) (locs : List Loc) (ls : Array Slot), ah - k < n9 → (k ≤ ah) → (tg = bW (fun i => sta (ord i)) (fun i => unt (ord i)) (fun i => want (ord i)) tm k) → va_P (xD g) vwCl [(bp, .inr (1, [p0, p1, p2, p3, p4, p5, p6, .ref wa, .ref tr, .ref un, p10, p11, p12, p13])), (wa, .inl (xI g, 6, .inl (fun j => iI (want j)))), (tr, .inr (4, [t0, .ref to_, .ref ts, t3])), (to_, .inl (xI g, 6, .inl (fun j => nI (ord j)))), (ts, .inl (xI g, 6, .inl (fun j => iI (sta j)))), (un, .inl (xI g, 6, .inl (fun j => iI (unt j))))] H → va_D (fun _ => True) [(bp, .inr (1, [p0, p1, p2, p3, p4, p5, p6, .ref wa, .ref tr, .ref un, p10, p11, p12, p13])), (wa, .inl (xI g, 6, .inl (fun j => iI (want j)))), (tr, .inr (4, [t0, .ref to_, .ref ts, t3])), (to_, .inl (xI g, 6, .inl (fun j => nI (ord j)))), (ts, .inl (xI g, 6, .inl (fun j => iI (sta j)))), (un, .inl (xI g, 6, .inl (fun j => iI (unt j))))] → va_S A s.heap H locs → lv_has ls 6 [(4, .int (nI k)), (0, .ref bp), (1, .int (iI tm)), (2, .int (nI ah)), (3, .int (iI tg))] → W p l e (headSpec wsX1_wantedAt ({ frames := 0, cells := 0, slots := 0, locals := 0 })).room s m ([.ref bp, .int (iI tm), .int (nI ah)] : List Value).toArray below meth c H locs 0 0 (MQ below (va_Qi (fun (r : Int32) (_ : Unit) => r = iI (bW (fun i => sta (ord i)) (fun i => unt (ord i)) (fun i => want (ord i)) tm ah)) (fun (_ : Unit) (_ : State) => True) (A)) ([.ref bp, .int (iI tm), .int (nI ah)] : List Value).toArray s 0 0 A) (F0 m 5 ls []) := by
    intro n9
    induction n9 with
    | zero =>
      intro k tg H locs ls hm hk htg hP hD hS hl
      exact absurd hm (Nat.not_lt_zero _)
    | succ n9 ih5 =>
      intro k tg H locs ls hm hk htg hP hD hS hl
      refine lv_iload hx hb dX1_wantedAt_5 (lv_at hl 0 rfl) ?_
      refine lv_iload_n hx hb dX1_wantedAt_7 rfl (lv_at hl 3 rfl) ?_
      refine lv_icmp_ge (tgt := 64) hx hb dX1_wantedAt_8 (by decide) (fun c_1 => ?_) (fun c_1 => ?_)
      · have nc_1 := (nI_leI (a := ah) (b := k) (by omega) (by omega)).mp c_1
        refine lv_iload_n hx hb dX1_wantedAt_64 rfl (lv_at hl 4 rfl) ?_
        exact W.iret (v := iI tg) hx hb hr (fun t ht hW => ⟨⟨iI tg, (), rfl, (by obtain rfl : k = ah := (by omega); rw [htg]), trivial⟩, hS.F ht⟩) hS.2.2 dX1_wantedAt_65
      · have nc_1 := mt (nI_leI (a := ah) (b := k) (by omega) (by omega)).mpr c_1
        refine lv_aload_n hx hb dX1_wantedAt_11 rfl (lv_at hl 1 rfl) ?_
        refine va_get (D := xD g) (ci := 1) (v := .ref tr) (C := RX1) (T := TX1) (N := 14) hx hb hts hFX1 hown hK hP 0 rfl rfl 8 (by decide) (hts (.fieldLink RX1 30 "Stevedore$BerthPlanner" "trial" "LStevedore$Plan;") (by decide +kernel)) (fun _ h9 => h9) rfl dX1_wantedAt_12 ?_
        refine va_get (D := xD g) (ci := 4) (v := .ref to_) (C := RX4) (T := TX4) (N := 4) hx hb hts hFX4 hown hK hP 2 rfl rfl 1 (by decide) (hts (.fieldLink RX1 110 "Stevedore$Plan" "order" "[I") (by decide +kernel)) (fun _ h9 => h9) rfl dX1_wantedAt_15 ?_
        refine lv_iload hx hb dX1_wantedAt_18 (lv_at hl 0 rfl) ?_
        refine va_iald hx hb hK hP 3 0 rfl rfl (vp_in_nI (by omega) (by omega)) dX1_wantedAt_20 ?_
        refine lv_topi (fun v_2 ev => ?_)
        obtain rfl : v_2 = nI (ord k) := ev.trans (congrArg (fun q9 => nI (ord q9)) (nI_clamp (by omega)))
        have b_3 := b_ord k
        refine lv_istore (lv' := [(5, .int (nI (ord k))), (4, .int (nI k)), (0, .ref bp), (1, .int (iI tm)), (2, .int (nI ah)), (3, .int (iI tg))]) hx hb dX1_wantedAt_21 hl (by decide) rfl (fun ls hl => ?_)
        refine lv_aload_n hx hb dX1_wantedAt_23 rfl (lv_at hl 2 rfl) ?_
        refine va_get (D := xD g) (ci := 1) (v := .ref tr) (C := RX1) (T := TX1) (N := 14) hx hb hts hFX1 hown hK hP 0 rfl rfl 8 (by decide) (hts (.fieldLink RX1 30 "Stevedore$BerthPlanner" "trial" "LStevedore$Plan;") (by decide +kernel)) (fun _ h9 => h9) rfl dX1_wantedAt_24 ?_
        refine va_get (D := xD g) (ci := 4) (v := .ref ts) (C := RX4) (T := TX4) (N := 4) hx hb hts hFX4 hown hK hP 2 rfl rfl 2 (by decide) (hts (.fieldLink RX1 107 "Stevedore$Plan" "start" "[I") (by decide +kernel)) (fun _ h9 => h9) rfl dX1_wantedAt_27 ?_
        refine lv_iload hx hb dX1_wantedAt_30 (lv_at hl 0 rfl) ?_
        refine va_iald hx hb hK hP 4 0 rfl rfl (vp_in_nI (by omega) (by omega)) dX1_wantedAt_32 ?_
        refine lv_topi (fun v_4 ev => ?_)
        obtain rfl : v_4 = iI (sta (ord k)) := ev.trans (congrArg (fun q9 => iI (sta q9)) (nI_clamp (by omega)))
        have b_5 := b_sta (ord k)
        refine lv_iload_n hx hb dX1_wantedAt_33 rfl (lv_at hl 3 rfl) ?_
        refine lv_icmp_gt (tgt := 58) hx hb dX1_wantedAt_34 (by decide) (fun c_6 => ?_) (fun c_6 => ?_)
        · have nc_6 := (iLt (a := tm) (b := sta (ord k)) rfl rfl (by omega)).mp c_6
          refine lv_iinc (v := nI (k + 1)) (lv' := [(4, .int (nI (k + 1))), (5, .int (nI (ord k))), (0, .ref bp), (1, .int (iI tm)), (2, .int (nI ah)), (3, .int (iI tg))]) hx hb dX1_wantedAt_58 hl (k := 1) rfl (nI_add k 1) (by decide) rfl (fun ls hl => ?_)
          refine lv_goto (tgt := 5) hx hb dX1_wantedAt_61 (by decide) ?_
          exact ih5 (k + 1) tg _ _ _ (by omega) (by omega) (by simp only [bW]; rw [← htg]; first | (rw [if_pos (by omega)]) | (rw [if_neg (by omega)]; omega)) hP hD hS (lv_sub hl [0, 2, 3, 4, 5] rfl)
        · have nc_6 := mt (iLt (a := tm) (b := sta (ord k)) rfl rfl (by omega)).mpr c_6
          refine lv_iload_n hx hb dX1_wantedAt_37 rfl (lv_at hl 3 rfl) ?_
          refine lv_aload_n hx hb dX1_wantedAt_38 rfl (lv_at hl 2 rfl) ?_
          refine va_get (D := xD g) (ci := 1) (v := .ref un) (C := RX1) (T := TX1) (N := 14) hx hb hts hFX1 hown hK hP 0 rfl rfl 9 (by decide) (hts (.fieldLink RX1 34 "Stevedore$BerthPlanner" "until" "[I") (by decide +kernel)) (fun _ h9 => h9) rfl dX1_wantedAt_39 ?_
          refine lv_iload hx hb dX1_wantedAt_42 (lv_at hl 0 rfl) ?_
          refine va_iald hx hb hK hP 5 0 rfl rfl (vp_in_nI (by omega) (by omega)) dX1_wantedAt_44 ?_
          refine lv_topi (fun v_7 ev => ?_)
          obtain rfl : v_7 = iI (unt (ord k)) := ev.trans (congrArg (fun q9 => iI (unt q9)) (nI_clamp (by omega)))
          have b_8 := b_unt (ord k)
          refine lv_icmp_ge (tgt := 58) hx hb dX1_wantedAt_45 (by decide) (fun c_9 => ?_) (fun c_9 => ?_)
          · have nc_9 := (iLe (a := unt (ord k)) (b := tm) rfl rfl (by omega)).mp c_9
            refine lv_iinc (v := nI (k + 1)) (lv' := [(4, .int (nI (k + 1))), (5, .int (nI (ord k))), (0, .ref bp), (1, .int (iI tm)), (2, .int (nI ah)), (3, .int (iI tg))]) hx hb dX1_wantedAt_58 hl (k := 1) rfl (nI_add k 1) (by decide) rfl (fun ls hl => ?_)
            refine lv_goto (tgt := 5) hx hb dX1_wantedAt_61 (by decide) ?_
            exact ih5 (k + 1) tg _ _ _ (by omega) (by omega) (by simp only [bW]; rw [← htg]; first | (rw [if_pos (by omega)]) | (rw [if_neg (by omega)]; omega)) hP hD hS (lv_sub hl [0, 2, 3, 4, 5] rfl)
          · have nc_9 := mt (iLe (a := unt (ord k)) (b := tm) rfl rfl (by omega)).mpr c_9
            refine lv_iload_n hx hb dX1_wantedAt_48 rfl (lv_at hl 5 rfl) ?_
            refine lv_aload_n hx hb dX1_wantedAt_49 rfl (lv_at hl 2 rfl) ?_
            refine va_get (D := xD g) (ci := 1) (v := .ref wa) (C := RX1) (T := TX1) (N := 14) hx hb hts hFX1 hown hK hP 0 rfl rfl 7 (by decide) (hts (.fieldLink RX1 24 "Stevedore$BerthPlanner" "wanted" "[I") (by decide +kernel)) (fun _ h9 => h9) rfl dX1_wantedAt_50 ?_
            refine lv_iload hx hb dX1_wantedAt_53 (lv_at hl 0 rfl) ?_
            refine va_iald hx hb hK hP 1 0 rfl rfl (vp_in_nI (by omega) (by omega)) dX1_wantedAt_55 ?_
            refine lv_topi (fun v_10 ev => ?_)
            obtain rfl : v_10 = iI (want (ord k)) := ev.trans (congrArg (fun q9 => iI (want q9)) (nI_clamp (by omega)))
            have b_11 := b_want (ord k)
            refine lv_iadd hx hb dX1_wantedAt_56 ?_
            refine lv_topi (fun v_12 ev => ?_)
            obtain rfl : v_12 = iI (tg + (want (ord k))) := ev.trans (iA rfl rfl)
            refine lv_istore_n (lv' := [(3, .int (iI (tg + (want (ord k))))), (5, .int (nI (ord k))), (4, .int (nI k)), (0, .ref bp), (1, .int (iI tm)), (2, .int (nI ah))]) hx hb dX1_wantedAt_57 rfl hl (by decide) rfl (fun ls hl => ?_)
            refine lv_iinc (v := nI (k + 1)) (lv' := [(4, .int (nI (k + 1))), (3, .int (iI (tg + (want (ord k))))), (5, .int (nI (ord k))), (0, .ref bp), (1, .int (iI tm)), (2, .int (nI ah))]) hx hb dX1_wantedAt_58 hl (k := 2) rfl (nI_add k 1) (by decide) rfl (fun ls hl => ?_)
            refine lv_goto (tgt := 5) hx hb dX1_wantedAt_61 (by decide) ?_
            exact ih5 (k + 1) (tg + (want (ord k))) _ _ _ (by omega) (by omega) (by simp only [bW]; rw [← htg]; first | (rw [if_pos (by omega)]) | (rw [if_neg (by omega)]; omega)) hP hD hS (lv_sub hl [0, 3, 4, 5, 1] rfl)
  exact hloop5 (ah + 1) 0 0 _ _ _ (by omega) (by omega) rfl hP hD hS (by rw [(show nI 0 = (0 : Int32) from by decide), (show iI 0 = (0 : Int32) from by decide)]; exact lv_sub hl [0, 2, 3, 4, 1] rfl)
theorem dX1_haveCranesFor_0 : decode cX1_haveCranesFor 0 = .ok (.aload_n 0, 1) := by decide +kernel
theorem dX1_haveCranesFor_1 : decode cX1_haveCranesFor 1 = .ok (.getfield 51, 3) := by decide +kernel
theorem dX1_haveCranesFor_4 : decode cX1_haveCranesFor 4 = .ok (.aload_n 0, 1) := by decide +kernel
theorem dX1_haveCranesFor_5 : decode cX1_haveCranesFor 5 = .ok (.getfield 24, 3) := by decide +kernel
theorem dX1_haveCranesFor_8 : decode cX1_haveCranesFor 8 = .ok (.iload_n 1, 1) := by decide +kernel
theorem dX1_haveCranesFor_9 : decode cX1_haveCranesFor 9 = .ok (.iaload, 1) := by decide +kernel
theorem dX1_haveCranesFor_10 : decode cX1_haveCranesFor 10 = .ok (.isub, 1) := by decide +kernel
theorem dX1_haveCranesFor_11 : decode cX1_haveCranesFor 11 = .ok (.istore 4, 2) := by decide +kernel
theorem dX1_haveCranesFor_13 : decode cX1_haveCranesFor 13 = .ok (.aload_n 0, 1) := by decide +kernel
theorem dX1_haveCranesFor_14 : decode cX1_haveCranesFor 14 = .ok (.iload_n 2, 1) := by decide +kernel
theorem dX1_haveCranesFor_15 : decode cX1_haveCranesFor 15 = .ok (.iload_n 3, 1) := by decide +kernel
theorem dX1_haveCranesFor_16 : decode cX1_haveCranesFor 16 = .ok (.invokevirtual 137, 3) := by decide +kernel
set_option maxRecDepth 20000 in
theorem ggX1_haveCranesFor_X1_wantedAt : GoodIn wsX1_haveCranesFor wsX1_wantedAt := goodIn_r _ [11, 3, 5, 4, 12, 2, 13, 14, 15, 16, 17, 18, 19, 20, 21, 22, 23, 24, 25, 26, 27, 28, 29, 30] rfl (by decide +kernel)
set_option maxRecDepth 20000 in
theorem gX1_haveCranesFor_X1_wantedAt : GoodIn wsX1_haveCranesFor (wsV RX1 137 RX1 yX1_wantedAt wsX1_wantedAt) := goodIn_app (goodIn_of _ (by decide +kernel)) ggX1_haveCranesFor_X1_wantedAt
theorem dX1_haveCranesFor_19 : decode cX1_haveCranesFor 19 = .ok (.iload 4, 2) := by decide +kernel
theorem dX1_haveCranesFor_21 : decode cX1_haveCranesFor 21 = .ok (.if_icmp .le 5, 3) := by decide +kernel
theorem dX1_haveCranesFor_26 : decode cX1_haveCranesFor 26 = .ok (.iconst 0, 1) := by decide +kernel
theorem dX1_haveCranesFor_27 : decode cX1_haveCranesFor 27 = .ok (.istore 5, 2) := by decide +kernel
theorem dX1_haveCranesFor_29 : decode cX1_haveCranesFor 29 = .ok (.iload 5, 2) := by decide +kernel
theorem dX1_haveCranesFor_31 : decode cX1_haveCranesFor 31 = .ok (.iload_n 3, 1) := by decide +kernel
theorem dX1_haveCranesFor_32 : decode cX1_haveCranesFor 32 = .ok (.if_icmp .ge 62, 3) := by decide +kernel
theorem dX1_haveCranesFor_94 : decode cX1_haveCranesFor 94 = .ok (.iconst 1, 1) := by decide +kernel
theorem dX1_haveCranesFor_95 : decode cX1_haveCranesFor 95 = .ok (.ireturn, 1) := by decide +kernel
theorem dX1_haveCranesFor_35 : decode cX1_haveCranesFor 35 = .ok (.aload_n 0, 1) := by decide +kernel
theorem dX1_haveCranesFor_36 : decode cX1_haveCranesFor 36 = .ok (.getfield 30, 3) := by decide +kernel
theorem dX1_haveCranesFor_39 : decode cX1_haveCranesFor 39 = .ok (.getfield 107, 3) := by decide +kernel
theorem dX1_haveCranesFor_42 : decode cX1_haveCranesFor 42 = .ok (.aload_n 0, 1) := by decide +kernel
theorem dX1_haveCranesFor_43 : decode cX1_haveCranesFor 43 = .ok (.getfield 30, 3) := by decide +kernel
theorem dX1_haveCranesFor_46 : decode cX1_haveCranesFor 46 = .ok (.getfield 110, 3) := by decide +kernel
theorem dX1_haveCranesFor_49 : decode cX1_haveCranesFor 49 = .ok (.iload 5, 2) := by decide +kernel
theorem dX1_haveCranesFor_51 : decode cX1_haveCranesFor 51 = .ok (.iaload, 1) := by decide +kernel
theorem dX1_haveCranesFor_52 : decode cX1_haveCranesFor 52 = .ok (.iaload, 1) := by decide +kernel
theorem dX1_haveCranesFor_53 : decode cX1_haveCranesFor 53 = .ok (.istore 6, 2) := by decide +kernel
theorem dX1_haveCranesFor_55 : decode cX1_haveCranesFor 55 = .ok (.iload 6, 2) := by decide +kernel
theorem dX1_haveCranesFor_57 : decode cX1_haveCranesFor 57 = .ok (.iload_n 2, 1) := by decide +kernel
theorem dX1_haveCranesFor_58 : decode cX1_haveCranesFor 58 = .ok (.if_icmp .le 30, 3) := by decide +kernel
theorem dX1_haveCranesFor_88 : decode cX1_haveCranesFor 88 = .ok (.iinc 5 1, 3) := by decide +kernel
theorem dX1_haveCranesFor_91 : decode cX1_haveCranesFor 91 = .ok (.goto (-62), 3) := by decide +kernel
theorem dX1_haveCranesFor_61 : decode cX1_haveCranesFor 61 = .ok (.iload 6, 2) := by decide +kernel
theorem dX1_haveCranesFor_63 : decode cX1_haveCranesFor 63 = .ok (.iload_n 2, 1) := by decide +kernel
theorem dX1_haveCranesFor_64 : decode cX1_haveCranesFor 64 = .ok (.aload_n 0, 1) := by decide +kernel
theorem dX1_haveCranesFor_65 : decode cX1_haveCranesFor 65 = .ok (.getfield 15, 3) := by decide +kernel
theorem dX1_haveCranesFor_68 : decode cX1_haveCranesFor 68 = .ok (.iload_n 1, 1) := by decide +kernel
theorem dX1_haveCranesFor_69 : decode cX1_haveCranesFor 69 = .ok (.iaload, 1) := by decide +kernel
theorem dX1_haveCranesFor_70 : decode cX1_haveCranesFor 70 = .ok (.iadd, 1) := by decide +kernel
theorem dX1_haveCranesFor_71 : decode cX1_haveCranesFor 71 = .ok (.if_icmp .ge 17, 3) := by decide +kernel
theorem dX1_haveCranesFor_74 : decode cX1_haveCranesFor 74 = .ok (.aload_n 0, 1) := by decide +kernel
theorem dX1_haveCranesFor_75 : decode cX1_haveCranesFor 75 = .ok (.iload 6, 2) := by decide +kernel
theorem dX1_haveCranesFor_77 : decode cX1_haveCranesFor 77 = .ok (.iload_n 3, 1) := by decide +kernel
theorem dX1_haveCranesFor_78 : decode cX1_haveCranesFor 78 = .ok (.invokevirtual 137, 3) := by decide +kernel
theorem dX1_haveCranesFor_81 : decode cX1_haveCranesFor 81 = .ok (.iload 4, 2) := by decide +kernel
theorem dX1_haveCranesFor_83 : decode cX1_haveCranesFor 83 = .ok (.if_icmp .le 5, 3) := by decide +kernel
theorem dX1_haveCranesFor_86 : decode cX1_haveCranesFor 86 = .ok (.iconst 0, 1) := by decide +kernel
theorem dX1_haveCranesFor_87 : decode cX1_haveCranesFor 87 = .ok (.ireturn, 1) := by decide +kernel
theorem dX1_haveCranesFor_24 : decode cX1_haveCranesFor 24 = .ok (.iconst 0, 1) := by decide +kernel
theorem dX1_haveCranesFor_25 : decode cX1_haveCranesFor 25 = .ok (.ireturn, 1) := by decide +kernel
set_option maxHeartbeats 4000000 in
set_option maxRecDepth 100000 in
theorem b_haveCranesFor (l : Launch) (g : xG) (sz : Nat) (bp : Nat) (ha : Nat) (wa : Nat) (tr : Nat) (un : Nat) (to_ : Nat) (ts : Nat) (vs : Nat) (ah : Nat) (tm : Int) (crn : Int) (p0 : Value) (p1 : Value) (p3 : Value) (p5 : Value) (p6 : Value) (p10 : Value) (p11 : Value) (p12 : Value) (p13 : Value) (t0 : Value) (t3 : Value) (han : Nat → Int) (want : Nat → Int) (ord : Nat → Nat) (sta : Nat → Int) (unt : Nat → Int)  (hvs : vs < 6) (hah : ah ≤ 6) (htm : 0 ≤ tm ∧ tm ≤ 1000000) (hcr : 0 ≤ crn ∧ crn ≤ 6) (b_han : ∀ j, 0 ≤ han j ∧ han j ≤ 10100) (b_want : ∀ j, 0 ≤ want j ∧ want j ≤ 4) (b_ord : ∀ j, ord j ≤ 5) (b_sta : ∀ j, 0 ≤ sta j ∧ sta j ≤ 1000000) (b_unt : ∀ j, 0 ≤ unt j ∧ unt j ≤ 2000000) : Met l yX1_haveCranesFor wsX1_haveCranesFor ({ frames := 1, cells := 0, slots := 0, locals := 25 }) (va_Pc [.ref bp, .int (nI vs), .int (iI tm), .int (nI ah)] (fun U => xB g [(bp, .inr (1, [p0, p1, .int (iI crn), p3, .ref ha, p5, p6, .ref wa, .ref tr, .ref un, p10, p11, p12, p13])), (ha, .inl (xI g, 6, .inl (fun j => iI (han j)))), (wa, .inl (xI g, 6, .inl (fun j => iI (want j)))), (tr, .inr (4, [t0, .ref to_, .ref ts, t3])), (to_, .inl (xI g, 6, .inl (fun j => nI (ord j)))), (ts, .inl (xI g, 6, .inl (fun j => iI (sta j)))), (un, .inl (xI g, 6, .inl (fun j => iI (unt j))))] sz U)) (va_Qi (fun (r : Int32) (_ : Unit) => (r = 1 ∧ (bHave (fun i => sta (ord i)) (fun i => unt (ord i)) (fun i => want (ord i)) ah (crn - want vs) tm (tm + han vs))) ∨ (r = 0 ∧ ¬ (bHave (fun i => sta (ord i)) (fun i => unt (ord i)) (fun i => want (ord i)) ah (crn - want vs) tm (tm + han vs)))) (fun (_ : Unit) (_ : State) => True) (va_A [] sz)) 0 0 (va_A [] sz) := by
  refine Met.ofW (cc := cX1_haveCranesFor) (maxL := 7) (ret := (some .boolean)) (by decide) rfl ?_
  intro p e s m args below meth c s₁ B hml hv
  obtain ⟨rfl, hsz, hP, hK, hD0⟩ := hv
  have hx := B.exec
  have hb := B.bytes
  have hr := B.returns
  have hts := atoms_spec (ws := wsX1_haveCranesFor) B.pre
  have hown : s.vm.findClass RX1 = some m.cls := findClass_of_methodNamed B.named
  have hlocks := B.notSynchronized
  subst hsz
  have hD := hD0
  generalize hAe : va_A [] s.heap.size = A
  have hA : ∀ q : Nat, s.heap.size ≤ q → A q := fun q h => by rw [← hAe]; exact Or.inr h
  have hS : va_S A s.heap s.heap [] := va_S.rf
  have hl := lv_entry ([.ref bp, .int (nI vs), .int (iI tm), .int (nI ah)]) (n := 7) (Nat.le_of_ble_eq_true rfl)
  rw [lg_entry_eq]
  generalize (lg_sl ([.ref bp, .int (nI vs), .int (iI tm), .int (nI ah)]) ++ List.replicate (7 - (lg_sl ([.ref bp, .int (nI vs), .int (iI tm), .int (nI ah)])).length) Slot.unset).toArray = ls at hl ⊢
  have hl : lv_has ls 7 [(0, .ref bp), (1, .int (nI vs)), (2, .int (iI tm)), (3, .int (nI ah))] := hl
  have hFX1 : ∀ w ∈ u_ws RX1 TX1 14, w ∈ wsX1_haveCranesFor := by decide +kernel
  have hFX4 : ∀ w ∈ u_ws RX4 TX4 4, w ∈ wsX1_haveCranesFor := by decide +kernel
  refine lv_aload_n hx hb dX1_haveCranesFor_0 rfl (lv_at hl 0 rfl) ?_
  refine va_get (D := xD g) (ci := 1) (v := .int (iI crn)) (C := RX1) (T := TX1) (N := 14) hx hb hts hFX1 hown hK hP 0 rfl rfl 2 (by decide) (hts (.fieldLink RX1 51 "Stevedore$BerthPlanner" "cranes" "I") (by decide +kernel)) (fun _ h9 => h9) rfl dX1_haveCranesFor_1 ?_
  refine lv_aload_n hx hb dX1_haveCranesFor_4 rfl (lv_at hl 0 rfl) ?_
  refine va_get (D := xD g) (ci := 1) (v := .ref wa) (C := RX1) (T := TX1) (N := 14) hx hb hts hFX1 hown hK hP 0 rfl rfl 7 (by decide) (hts (.fieldLink RX1 24 "Stevedore$BerthPlanner" "wanted" "[I") (by decide +kernel)) (fun _ h9 => h9) rfl dX1_haveCranesFor_5 ?_
  refine lv_iload_n hx hb dX1_haveCranesFor_8 rfl (lv_at hl 1 rfl) ?_
  refine va_iald hx hb hK hP 2 0 rfl rfl (vp_in_nI (by omega) (by omega)) dX1_haveCranesFor_9 ?_
  refine lv_topi (fun v_1 ev => ?_)
  obtain rfl : v_1 = iI (want vs) := ev.trans (congrArg (fun q9 => iI (want q9)) (nI_clamp (by omega)))
  have b_2 := b_want vs
  refine lv_isub hx hb dX1_haveCranesFor_10 ?_
  refine lv_topi (fun v_3 ev => ?_)
  obtain rfl : v_3 = iI (crn - (want vs)) := ev.trans (iS rfl rfl)
  refine lv_istore (lv' := [(4, .int (iI (crn - (want vs)))), (0, .ref bp), (1, .int (nI vs)), (2, .int (iI tm)), (3, .int (nI ah))]) hx hb dX1_haveCranesFor_11 hl (by decide) rfl (fun ls hl => ?_)
  refine lv_aload_n hx hb dX1_haveCranesFor_13 rfl (lv_at hl 1 rfl) ?_
  refine lv_iload_n hx hb dX1_haveCranesFor_14 rfl (lv_at hl 3 rfl) ?_
  refine lv_iload_n hx hb dX1_haveCranesFor_15 rfl (lv_at hl 4 rfl) ?_
  have hPc := hP.sub (ws' := [(bp, .inr (1, [p0, p1, .int (iI crn), p3, .ref ha, p5, p6, .ref wa, .ref tr, .ref un, p10, p11, p12, p13])), (wa, .inl (xI g, 6, .inl (fun j => iI (want j)))), (tr, .inr (4, [t0, .ref to_, .ref ts, t3])), (to_, .inl (xI g, 6, .inl (fun j => nI (ord j)))), (ts, .inl (xI g, 6, .inl (fun j => iI (sta j)))), (un, .inl (xI g, 6, .inl (fun j => iI (unt j))))]) [0, 2, 3, 4, 5, 6] rfl
  have hDc := hD.sub (ws' := [(bp, .inr (1, [p0, p1, .int (iI crn), p3, .ref ha, p5, p6, .ref wa, .ref tr, .ref un, p10, p11, p12, p13])), (wa, .inl (xI g, 6, .inl (fun j => iI (want j)))), (tr, .inr (4, [t0, .ref to_, .ref ts, t3])), (to_, .inl (xI g, 6, .inl (fun j => nI (ord j)))), (ts, .inl (xI g, 6, .inl (fun j => iI (sta j)))), (un, .inl (xI g, 6, .inl (fun j => iI (unt j))))]) [0, 2, 3, 4, 5, 6] (by decide) rfl
  have hFc := xFree hS hA
  refine va_calli (va_runV (As := [.int (iI tm), .int (nI ah)]) (rest := []) ⟨hx, hb, hml, hown, hts⟩ (b_wantedAt l g s.heap.size bp wa tr un to_ ts ah tm p0 p1 (.int (iI crn)) p3 (.ref ha) p5 p6 p10 p11 p12 p13 t0 t3 want ord sta unt (by first | assumption | omega) (by first | assumption | omega) b_want b_ord b_sta b_unt) (cwV 2 hts gX1_haveCranesFor_X1_wantedAt rfl rfl rfl (by decide +kernel) ⟨Nat.le_of_ble_eq_true rfl, Nat.le_of_ble_eq_true rfl⟩) ⟨xB.blind, va_recv hK hPc (ci := 1) (q0 := 0) rfl rfl, fun U9 hU9 hW9 => ⟨rfl, xB.mk hPc hK hDc hU9 hW9⟩⟩ rfl rfl hl.1 rfl (lv_room (Nat.le_of_ble_eq_true rfl)) dX1_haveCranesFor_16 ⟨Nat.le_of_ble_eq_true rfl, Nat.le_of_ble_eq_true rfl⟩) hS (fun q _ h => hFc q h) hFc (fun r_4 _ t H1 locs ht hvm hw_5 hB hz1 hk1 hS => ?_)
  have hP := xSame hP hk1
  generalize H1 = H at hP hS ⊢
  have hP : va_P (xD g) vwCl [(bp, .inr (1, [p0, p1, .int (iI crn), p3, .ref ha, p5, p6, .ref wa, .ref tr, .ref un, p10, p11, p12, p13])), (ha, .inl (xI g, 6, .inl (fun j => iI (han j)))), (wa, .inl (xI g, 6, .inl (fun j => iI (want j)))), (tr, .inr (4, [t0, .ref to_, .ref ts, t3])), (to_, .inl (xI g, 6, .inl (fun j => nI (ord j)))), (ts, .inl (xI g, 6, .inl (fun j => iI (sta j)))), (un, .inl (xI g, 6, .inl (fun j => iI (unt j))))] H := hP
  have hD : va_D (fun _ => True) [(bp, .inr (1, [p0, p1, .int (iI crn), p3, .ref ha, p5, p6, .ref wa, .ref tr, .ref un, p10, p11, p12, p13])), (ha, .inl (xI g, 6, .inl (fun j => iI (han j)))), (wa, .inl (xI g, 6, .inl (fun j => iI (want j)))), (tr, .inr (4, [t0, .ref to_, .ref ts, t3])), (to_, .inl (xI g, 6, .inl (fun j => nI (ord j)))), (ts, .inl (xI g, 6, .inl (fun j => iI (sta j)))), (un, .inl (xI g, 6, .inl (fun j => iI (unt j))))] := hD
  try dsimp only at hw_5
  obtain rfl : r_4 = iI (bW (fun i => sta (ord i)) (fun i => unt (ord i)) (fun i => want (ord i)) tm ah) := hw_5
  have hbw := bW_bd (a := (fun i => sta (ord i))) (u := (fun i => unt (ord i))) (w := (fun i => want (ord i))) (x := tm) (fun i => b_want (ord i)) ah
  refine lv_iload hx hb dX1_haveCranesFor_19 (lv_at hl 0 rfl) ?_
  refine lv_icmp_le (tgt := 26) hx hb dX1_haveCranesFor_21 (by decide) (fun c_6 => ?_) (fun c_6 => ?_)
  · have nc_6 := (iLe (a := bW (fun i => sta (ord i)) (fun i => unt (ord i)) (fun i => want (ord i)) tm ah) (b := crn - (want vs)) rfl rfl (by omega)).mp c_6
    refine lv_iconst (v := 0) hx hb dX1_haveCranesFor_26 (by decide) ?_
    refine lv_istore (lv' := [(5, .int 0), (4, .int (iI (crn - (want vs)))), (0, .ref bp), (1, .int (nI vs)), (2, .int (iI tm)), (3, .int (nI ah))]) hx hb dX1_haveCranesFor_27 hl (by decide) rfl (fun ls hl => ?_)
    have hloop29 : ∀ (n9 : Nat) (k : Nat) (H : Heap) (locs : List Loc) (ls : Array Slot), ah - k < n9 → (k ≤ ah) → (∀ i, i < k → tm < sta (ord i) → sta (ord i) < tm + han vs → bW (fun i => sta (ord i)) (fun i => unt (ord i)) (fun i => want (ord i)) (sta (ord i)) ah ≤ crn - want vs) → va_P (xD g) vwCl [(bp, .inr (1, [p0, p1, .int (iI crn), p3, .ref ha, p5, p6, .ref wa, .ref tr, .ref un, p10, p11, p12, p13])), (ha, .inl (xI g, 6, .inl (fun j => iI (han j)))), (wa, .inl (xI g, 6, .inl (fun j => iI (want j)))), (tr, .inr (4, [t0, .ref to_, .ref ts, t3])), (to_, .inl (xI g, 6, .inl (fun j => nI (ord j)))), (ts, .inl (xI g, 6, .inl (fun j => iI (sta j)))), (un, .inl (xI g, 6, .inl (fun j => iI (unt j))))] H → va_D (fun _ => True) [(bp, .inr (1, [p0, p1, .int (iI crn), p3, .ref ha, p5, p6, .ref wa, .ref tr, .ref un, p10, p11, p12, p13])), (ha, .inl (xI g, 6, .inl (fun j => iI (han j)))), (wa, .inl (xI g, 6, .inl (fun j => iI (want j)))), (tr, .inr (4, [t0, .ref to_, .ref ts, t3])), (to_, .inl (xI g, 6, .inl (fun j => nI (ord j)))), (ts, .inl (xI g, 6, .inl (fun j => iI (sta j)))), (un, .inl (xI g, 6, .inl (fun j => iI (unt j))))] → va_S A s.heap H locs → lv_has ls 7 [(5, .int (nI k)), (0, .ref bp), (1, .int (nI vs)), (2, .int (iI tm)), (3, .int (nI ah)), (4, .int (iI (crn - want vs)))] → W p l e (headSpec wsX1_haveCranesFor ({ frames := 1, cells := 0, slots := 0, locals := 25 })).room s m ([.ref bp, .int (nI vs), .int (iI tm), .int (nI ah)] : List Value).toArray below meth c H locs 0 0 (MQ below (va_Qi (fun (r : Int32) (_ : Unit) => (r = 1 ∧ (bHave (fun i => sta (ord i)) (fun i => unt (ord i)) (fun i => want (ord i)) ah (crn - want vs) tm (tm + han vs))) ∨ (r = 0 ∧ ¬ (bHave (fun i => sta (ord i)) (fun i => unt (ord i)) (fun i => want (ord i)) ah (crn - want vs) tm (tm + han vs)))) (fun (_ : Unit) (_ : State) => True) (A)) ([.ref bp, .int (nI vs), .int (iI tm), .int (nI ah)] : List Value).toArray s 0 0 A) (F0 m 29 ls []) := by
      intro n9
      induction n9 with
      | zero =>
        intro k H locs ls hm hk hfa hP hD hS hl
        exact absurd hm (Nat.not_lt_zero _)
      | succ n9 ih29 =>
        intro k H locs ls hm hk hfa hP hD hS hl
        have hbv := b_want vs
        have hbh := b_han vs
        have hbs := b_sta (ord k)
        refine lv_iload hx hb dX1_haveCranesFor_29 (lv_at hl 0 rfl) ?_
        refine lv_iload_n hx hb dX1_haveCranesFor_31 rfl (lv_at hl 4 rfl) ?_
        refine lv_icmp_ge (tgt := 94) hx hb dX1_haveCranesFor_32 (by decide) (fun c_7 => ?_) (fun c_7 => ?_)
        · have nc_7 := (nI_leI (a := ah) (b := k) (by omega) (by omega)).mp c_7
          refine lv_iconst (v := 1) hx hb dX1_haveCranesFor_94 (by decide) ?_
          exact W.zret (v := 1) hx hb hr (by rfl) (fun t ht hW => ⟨⟨1, (), rfl, (Or.inl ⟨rfl, by omega, fun i hi => hfa i (by omega)⟩), trivial⟩, hS.F ht⟩) hS.2.2 dX1_haveCranesFor_95
        · have nc_7 := mt (nI_leI (a := ah) (b := k) (by omega) (by omega)).mpr c_7
          refine lv_aload_n hx hb dX1_haveCranesFor_35 rfl (lv_at hl 1 rfl) ?_
          refine va_get (D := xD g) (ci := 1) (v := .ref tr) (C := RX1) (T := TX1) (N := 14) hx hb hts hFX1 hown hK hP 0 rfl rfl 8 (by decide) (hts (.fieldLink RX1 30 "Stevedore$BerthPlanner" "trial" "LStevedore$Plan;") (by decide +kernel)) (fun _ h9 => h9) rfl dX1_haveCranesFor_36 ?_
          refine va_get (D := xD g) (ci := 4) (v := .ref ts) (C := RX4) (T := TX4) (N := 4) hx hb hts hFX4 hown hK hP 3 rfl rfl 2 (by decide) (hts (.fieldLink RX1 107 "Stevedore$Plan" "start" "[I") (by decide +kernel)) (fun _ h9 => h9) rfl dX1_haveCranesFor_39 ?_
          refine lv_aload_n hx hb dX1_haveCranesFor_42 rfl (lv_at hl 1 rfl) ?_
          refine va_get (D := xD g) (ci := 1) (v := .ref tr) (C := RX1) (T := TX1) (N := 14) hx hb hts hFX1 hown hK hP 0 rfl rfl 8 (by decide) (hts (.fieldLink RX1 30 "Stevedore$BerthPlanner" "trial" "LStevedore$Plan;") (by decide +kernel)) (fun _ h9 => h9) rfl dX1_haveCranesFor_43 ?_
          refine va_get (D := xD g) (ci := 4) (v := .ref to_) (C := RX4) (T := TX4) (N := 4) hx hb hts hFX4 hown hK hP 3 rfl rfl 1 (by decide) (hts (.fieldLink RX1 110 "Stevedore$Plan" "order" "[I") (by decide +kernel)) (fun _ h9 => h9) rfl dX1_haveCranesFor_46 ?_
          refine lv_iload hx hb dX1_haveCranesFor_49 (lv_at hl 0 rfl) ?_
          refine va_iald hx hb hK hP 4 0 rfl rfl (vp_in_nI (by omega) (by omega)) dX1_haveCranesFor_51 ?_
          refine lv_topi (fun v_8 ev => ?_)
          obtain rfl : v_8 = nI (ord k) := ev.trans (congrArg (fun q9 => nI (ord q9)) (nI_clamp (by omega)))
          have b_9 := b_ord k
          refine va_iald hx hb hK hP 5 0 rfl rfl (vp_in_nI (by omega) (by omega)) dX1_haveCranesFor_52 ?_
          refine lv_topi (fun v_10 ev => ?_)
          obtain rfl : v_10 = iI (sta (ord k)) := ev.trans (congrArg (fun q9 => iI (sta q9)) (nI_clamp (by omega)))
          have b_11 := b_sta (ord k)
          refine lv_istore (lv' := [(6, .int (iI (sta (ord k)))), (5, .int (nI k)), (0, .ref bp), (1, .int (nI vs)), (2, .int (iI tm)), (3, .int (nI ah)), (4, .int (iI (crn - want vs)))]) hx hb dX1_haveCranesFor_53 hl (by decide) rfl (fun ls hl => ?_)
          refine lv_iload hx hb dX1_haveCranesFor_55 (lv_at hl 0 rfl) ?_
          refine lv_iload_n hx hb dX1_haveCranesFor_57 rfl (lv_at hl 4 rfl) ?_
          refine lv_icmp_le (tgt := 88) hx hb dX1_haveCranesFor_58 (by decide) (fun c_12 => ?_) (fun c_12 => ?_)
          · have nc_12 := (iLe (a := sta (ord k)) (b := tm) rfl rfl (by omega)).mp c_12
            refine lv_iinc (v := nI (k + 1)) (lv' := [(5, .int (nI (k + 1))), (6, .int (iI (sta (ord k)))), (0, .ref bp), (1, .int (nI vs)), (2, .int (iI tm)), (3, .int (nI ah)), (4, .int (iI (crn - want vs)))]) hx hb dX1_haveCranesFor_88 hl (k := 1) rfl (nI_add k 1) (by decide) rfl (fun ls hl => ?_)
            refine lv_goto (tgt := 29) hx hb dX1_haveCranesFor_91 (by decide) ?_
            exact ih29 (k + 1) _ _ _ (by omega) (by omega) (by intro i hi h1 h2; by_cases q : i = k; (subst q; omega); (exact hfa i (by omega) h1 h2)) hP hD hS (lv_sub hl [0, 2, 3, 4, 5, 6] rfl)
          · have nc_12 := mt (iLe (a := sta (ord k)) (b := tm) rfl rfl (by omega)).mpr c_12
            refine lv_iload hx hb dX1_haveCranesFor_61 (lv_at hl 0 rfl) ?_
            refine lv_iload_n hx hb dX1_haveCranesFor_63 rfl (lv_at hl 4 rfl) ?_
            refine lv_aload_n hx hb dX1_haveCranesFor_64 rfl (lv_at hl 2 rfl) ?_
            refine va_get (D := xD g) (ci := 1) (v := .ref ha) (C := RX1) (T := TX1) (N := 14) hx hb hts hFX1 hown hK hP 0 rfl rfl 4 (by decide) (hts (.fieldLink RX1 15 "Stevedore$BerthPlanner" "handling" "[I") (by decide +kernel)) (fun _ h9 => h9) rfl dX1_haveCranesFor_65 ?_
            refine lv_iload_n hx hb dX1_haveCranesFor_68 rfl (lv_at hl 3 rfl) ?_
            refine va_iald hx hb hK hP 1 0 rfl rfl (vp_in_nI (by omega) (by omega)) dX1_haveCranesFor_69 ?_
            refine lv_topi (fun v_13 ev => ?_)
            obtain rfl : v_13 = iI (han vs) := ev.trans (congrArg (fun q9 => iI (han q9)) (nI_clamp (by omega)))
            have b_14 := b_han vs
            refine lv_iadd hx hb dX1_haveCranesFor_70 ?_
            refine lv_topi (fun v_15 ev => ?_)
            obtain rfl : v_15 = iI (tm + (han vs)) := ev.trans (iA rfl rfl)
            refine lv_icmp_ge (tgt := 88) hx hb dX1_haveCranesFor_71 (by decide) (fun c_16 => ?_) (fun c_16 => ?_)
            · have nc_16 := (iLe (a := tm + (han vs)) (b := sta (ord k)) rfl rfl (by omega)).mp c_16
              refine lv_iinc (v := nI (k + 1)) (lv' := [(5, .int (nI (k + 1))), (6, .int (iI (sta (ord k)))), (0, .ref bp), (1, .int (nI vs)), (2, .int (iI tm)), (3, .int (nI ah)), (4, .int (iI (crn - want vs)))]) hx hb dX1_haveCranesFor_88 hl (k := 1) rfl (nI_add k 1) (by decide) rfl (fun ls hl => ?_)
              refine lv_goto (tgt := 29) hx hb dX1_haveCranesFor_91 (by decide) ?_
              exact ih29 (k + 1) _ _ _ (by omega) (by omega) (by intro i hi h1 h2; by_cases q : i = k; (subst q; omega); (exact hfa i (by omega) h1 h2)) hP hD hS (lv_sub hl [0, 2, 3, 4, 5, 6] rfl)
            · have nc_16 := mt (iLe (a := tm + (han vs)) (b := sta (ord k)) rfl rfl (by omega)).mpr c_16
              refine lv_aload_n hx hb dX1_haveCranesFor_74 rfl (lv_at hl 2 rfl) ?_
              refine lv_iload hx hb dX1_haveCranesFor_75 (lv_at hl 0 rfl) ?_
              refine lv_iload_n hx hb dX1_haveCranesFor_77 rfl (lv_at hl 5 rfl) ?_
              have hPc := hP.sub (ws' := [(bp, .inr (1, [p0, p1, .int (iI crn), p3, .ref ha, p5, p6, .ref wa, .ref tr, .ref un, p10, p11, p12, p13])), (wa, .inl (xI g, 6, .inl (fun j => iI (want j)))), (tr, .inr (4, [t0, .ref to_, .ref ts, t3])), (to_, .inl (xI g, 6, .inl (fun j => nI (ord j)))), (ts, .inl (xI g, 6, .inl (fun j => iI (sta j)))), (un, .inl (xI g, 6, .inl (fun j => iI (unt j))))]) [0, 2, 3, 4, 5, 6] rfl
              have hDc := hD.sub (ws' := [(bp, .inr (1, [p0, p1, .int (iI crn), p3, .ref ha, p5, p6, .ref wa, .ref tr, .ref un, p10, p11, p12, p13])), (wa, .inl (xI g, 6, .inl (fun j => iI (want j)))), (tr, .inr (4, [t0, .ref to_, .ref ts, t3])), (to_, .inl (xI g, 6, .inl (fun j => nI (ord j)))), (ts, .inl (xI g, 6, .inl (fun j => iI (sta j)))), (un, .inl (xI g, 6, .inl (fun j => iI (unt j))))]) [0, 2, 3, 4, 5, 6] (by decide) rfl
              have hFc := xFree hS hA
              refine va_calli (va_runV (As := [.int (iI (sta (ord k))), .int (nI ah)]) (rest := []) ⟨hx, hb, hml, hown, hts⟩ (b_wantedAt l g H.size bp wa tr un to_ ts ah (sta (ord k)) p0 p1 (.int (iI crn)) p3 (.ref ha) p5 p6 p10 p11 p12 p13 t0 t3 want ord sta unt (by first | assumption | omega) (by have z := b_sta (ord k); omega) b_want b_ord b_sta b_unt) (cwV 2 hts gX1_haveCranesFor_X1_wantedAt rfl rfl rfl (by decide +kernel) ⟨Nat.le_of_ble_eq_true rfl, Nat.le_of_ble_eq_true rfl⟩) ⟨xB.blind, va_recv hK hPc (ci := 1) (q0 := 0) rfl rfl, fun U9 hU9 hW9 => ⟨rfl, xB.mk hPc hK hDc hU9 hW9⟩⟩ rfl rfl hl.1 rfl (lv_room (Nat.le_of_ble_eq_true rfl)) dX1_haveCranesFor_78 ⟨Nat.le_of_ble_eq_true rfl, Nat.le_of_ble_eq_true rfl⟩) hS (fun q _ h => hFc q h) hFc (fun r_17 _ t H1 locs ht hvm hw_18 hB hz1 hk1 hS => ?_)
              have hP := xSame hP hk1
              generalize H1 = H at hP hS ⊢
              have hP : va_P (xD g) vwCl [(bp, .inr (1, [p0, p1, .int (iI crn), p3, .ref ha, p5, p6, .ref wa, .ref tr, .ref un, p10, p11, p12, p13])), (ha, .inl (xI g, 6, .inl (fun j => iI (han j)))), (wa, .inl (xI g, 6, .inl (fun j => iI (want j)))), (tr, .inr (4, [t0, .ref to_, .ref ts, t3])), (to_, .inl (xI g, 6, .inl (fun j => nI (ord j)))), (ts, .inl (xI g, 6, .inl (fun j => iI (sta j)))), (un, .inl (xI g, 6, .inl (fun j => iI (unt j))))] H := hP
              have hD : va_D (fun _ => True) [(bp, .inr (1, [p0, p1, .int (iI crn), p3, .ref ha, p5, p6, .ref wa, .ref tr, .ref un, p10, p11, p12, p13])), (ha, .inl (xI g, 6, .inl (fun j => iI (han j)))), (wa, .inl (xI g, 6, .inl (fun j => iI (want j)))), (tr, .inr (4, [t0, .ref to_, .ref ts, t3])), (to_, .inl (xI g, 6, .inl (fun j => nI (ord j)))), (ts, .inl (xI g, 6, .inl (fun j => iI (sta j)))), (un, .inl (xI g, 6, .inl (fun j => iI (unt j))))] := hD
              try dsimp only at hw_18
              obtain rfl : r_17 = iI (bW (fun i => sta (ord i)) (fun i => unt (ord i)) (fun i => want (ord i)) (sta (ord k)) ah) := hw_18
              have hbw2 := bW_bd (a := (fun i => sta (ord i))) (u := (fun i => unt (ord i))) (w := (fun i => want (ord i))) (x := sta (ord k)) (fun i => b_want (ord i)) ah
              refine lv_iload hx hb dX1_haveCranesFor_81 (lv_at hl 6 rfl) ?_
              refine lv_icmp_le (tgt := 88) hx hb dX1_haveCranesFor_83 (by decide) (fun c_19 => ?_) (fun c_19 => ?_)
              · have nc_19 := (iLe (a := bW (fun i => sta (ord i)) (fun i => unt (ord i)) (fun i => want (ord i)) (sta (ord k)) ah) (b := crn - want vs) rfl rfl (by omega)).mp c_19
                refine lv_iinc (v := nI (k + 1)) (lv' := [(5, .int (nI (k + 1))), (6, .int (iI (sta (ord k)))), (0, .ref bp), (1, .int (nI vs)), (2, .int (iI tm)), (3, .int (nI ah)), (4, .int (iI (crn - want vs)))]) hx hb dX1_haveCranesFor_88 hl (k := 1) rfl (nI_add k 1) (by decide) rfl (fun ls hl => ?_)
                refine lv_goto (tgt := 29) hx hb dX1_haveCranesFor_91 (by decide) ?_
                exact ih29 (k + 1) _ _ _ (by omega) (by omega) (by intro i hi h1 h2; by_cases q : i = k; (subst q; omega); (exact hfa i (by omega) h1 h2)) hP hD hS (lv_sub hl [0, 2, 3, 4, 5, 6] rfl)
              · have nc_19 := mt (iLe (a := bW (fun i => sta (ord i)) (fun i => unt (ord i)) (fun i => want (ord i)) (sta (ord k)) ah) (b := crn - want vs) rfl rfl (by omega)).mpr c_19
                refine lv_iconst (v := 0) hx hb dX1_haveCranesFor_86 (by decide) ?_
                exact W.zret (v := 0) hx hb hr (by rfl) (fun t ht hW => ⟨⟨0, (), rfl, (Or.inr ⟨rfl, fun q => by first | (have z := q.1; omega) | (have z := q.2 k (by omega) (by dsimp only; omega) (by dsimp only; omega); dsimp only at z; omega)⟩), trivial⟩, hS.F ht⟩) hS.2.2 dX1_haveCranesFor_87
    exact hloop29 (ah + 1) 0 _ _ _ (by omega) (by omega) (fun i hi => absurd hi (Nat.not_lt_zero _)) hP hD hS (by rw [(show nI 0 = (0 : Int32) from by decide)]; exact lv_sub hl [0, 2, 3, 4, 5, 1] rfl)
  · have nc_6 := mt (iLe (a := bW (fun i => sta (ord i)) (fun i => unt (ord i)) (fun i => want (ord i)) tm ah) (b := crn - (want vs)) rfl rfl (by omega)).mpr c_6
    refine lv_iconst (v := 0) hx hb dX1_haveCranesFor_24 (by decide) ?_
    exact W.zret (v := 0) hx hb hr (by rfl) (fun t ht hW => ⟨⟨0, (), rfl, (Or.inr ⟨rfl, fun q => by first | (have z := q.1; omega) | (have z := q.2 k (by omega) (by dsimp only; omega) (by dsimp only; omega); dsimp only at z; omega)⟩), trivial⟩, hS.F ht⟩) hS.2.2 dX1_haveCranesFor_25
theorem dX1_placeBehindConflict_0 : decode cX1_placeBehindConflict 0 = .ok (.iconst 0, 1) := by decide +kernel
theorem dX1_placeBehindConflict_1 : decode cX1_placeBehindConflict 1 = .ok (.istore 5, 2) := by decide +kernel
theorem dX1_placeBehindConflict_3 : decode cX1_placeBehindConflict 3 = .ok (.iload 5, 2) := by decide +kernel
theorem dX1_placeBehindConflict_5 : decode cX1_placeBehindConflict 5 = .ok (.iload 4, 2) := by decide +kernel
theorem dX1_placeBehindConflict_7 : decode cX1_placeBehindConflict 7 = .ok (.if_icmp .ge 96, 3) := by decide +kernel
theorem dX1_placeBehindConflict_103 : decode cX1_placeBehindConflict 103 = .ok (.iconst (-1), 1) := by decide +kernel
theorem dX1_placeBehindConflict_104 : decode cX1_placeBehindConflict 104 = .ok (.ireturn, 1) := by decide +kernel
theorem dX1_placeBehindConflict_10 : decode cX1_placeBehindConflict 10 = .ok (.aload_n 0, 1) := by decide +kernel
theorem dX1_placeBehindConflict_11 : decode cX1_placeBehindConflict 11 = .ok (.getfield 30, 3) := by decide +kernel
theorem dX1_placeBehindConflict_14 : decode cX1_placeBehindConflict 14 = .ok (.getfield 110, 3) := by decide +kernel
theorem dX1_placeBehindConflict_17 : decode cX1_placeBehindConflict 17 = .ok (.iload 5, 2) := by decide +kernel
theorem dX1_placeBehindConflict_19 : decode cX1_placeBehindConflict 19 = .ok (.iaload, 1) := by decide +kernel
theorem dX1_placeBehindConflict_20 : decode cX1_placeBehindConflict 20 = .ok (.istore 6, 2) := by decide +kernel
theorem dX1_placeBehindConflict_22 : decode cX1_placeBehindConflict 22 = .ok (.aload_n 0, 1) := by decide +kernel
theorem dX1_placeBehindConflict_23 : decode cX1_placeBehindConflict 23 = .ok (.getfield 30, 3) := by decide +kernel
theorem dX1_placeBehindConflict_26 : decode cX1_placeBehindConflict 26 = .ok (.getfield 120, 3) := by decide +kernel
theorem dX1_placeBehindConflict_29 : decode cX1_placeBehindConflict 29 = .ok (.iload 6, 2) := by decide +kernel
theorem dX1_placeBehindConflict_31 : decode cX1_placeBehindConflict 31 = .ok (.iaload, 1) := by decide +kernel
theorem dX1_placeBehindConflict_32 : decode cX1_placeBehindConflict 32 = .ok (.aload_n 0, 1) := by decide +kernel
theorem dX1_placeBehindConflict_33 : decode cX1_placeBehindConflict 33 = .ok (.getfield 18, 3) := by decide +kernel
theorem dX1_placeBehindConflict_36 : decode cX1_placeBehindConflict 36 = .ok (.iload 6, 2) := by decide +kernel
theorem dX1_placeBehindConflict_38 : decode cX1_placeBehindConflict 38 = .ok (.iaload, 1) := by decide +kernel
theorem dX1_placeBehindConflict_39 : decode cX1_placeBehindConflict 39 = .ok (.iadd, 1) := by decide +kernel
theorem dX1_placeBehindConflict_40 : decode cX1_placeBehindConflict 40 = .ok (.istore 7, 2) := by decide +kernel
theorem dX1_placeBehindConflict_42 : decode cX1_placeBehindConflict 42 = .ok (.iload_n 3, 1) := by decide +kernel
theorem dX1_placeBehindConflict_43 : decode cX1_placeBehindConflict 43 = .ok (.aload_n 0, 1) := by decide +kernel
theorem dX1_placeBehindConflict_44 : decode cX1_placeBehindConflict 44 = .ok (.getfield 18, 3) := by decide +kernel
theorem dX1_placeBehindConflict_47 : decode cX1_placeBehindConflict 47 = .ok (.iload_n 1, 1) := by decide +kernel
theorem dX1_placeBehindConflict_48 : decode cX1_placeBehindConflict 48 = .ok (.iaload, 1) := by decide +kernel
theorem dX1_placeBehindConflict_49 : decode cX1_placeBehindConflict 49 = .ok (.iadd, 1) := by decide +kernel
theorem dX1_placeBehindConflict_50 : decode cX1_placeBehindConflict 50 = .ok (.aload_n 0, 1) := by decide +kernel
theorem dX1_placeBehindConflict_51 : decode cX1_placeBehindConflict 51 = .ok (.getfield 30, 3) := by decide +kernel
theorem dX1_placeBehindConflict_54 : decode cX1_placeBehindConflict 54 = .ok (.getfield 120, 3) := by decide +kernel
theorem dX1_placeBehindConflict_57 : decode cX1_placeBehindConflict 57 = .ok (.iload 6, 2) := by decide +kernel
theorem dX1_placeBehindConflict_59 : decode cX1_placeBehindConflict 59 = .ok (.iaload, 1) := by decide +kernel
theorem dX1_placeBehindConflict_60 : decode cX1_placeBehindConflict 60 = .ok (.if_icmp .lt 9, 3) := by decide +kernel
theorem dX1_placeBehindConflict_69 : decode cX1_placeBehindConflict 69 = .ok (.iconst 1, 1) := by decide +kernel
theorem dX1_placeBehindConflict_70 : decode cX1_placeBehindConflict 70 = .ok (.goto 4, 3) := by decide +kernel
theorem dX1_placeBehindConflict_74 : decode cX1_placeBehindConflict 74 = .ok (.istore 8, 2) := by decide +kernel
theorem dX1_placeBehindConflict_76 : decode cX1_placeBehindConflict 76 = .ok (.iload 8, 2) := by decide +kernel
theorem dX1_placeBehindConflict_78 : decode cX1_placeBehindConflict 78 = .ok (.ifCond .ne 19, 3) := by decide +kernel
theorem dX1_placeBehindConflict_97 : decode cX1_placeBehindConflict 97 = .ok (.iinc 5 1, 3) := by decide +kernel
theorem dX1_placeBehindConflict_100 : decode cX1_placeBehindConflict 100 = .ok (.goto (-97), 3) := by decide +kernel
theorem dX1_placeBehindConflict_63 : decode cX1_placeBehindConflict 63 = .ok (.iload 7, 2) := by decide +kernel
theorem dX1_placeBehindConflict_65 : decode cX1_placeBehindConflict 65 = .ok (.iload_n 3, 1) := by decide +kernel
theorem dX1_placeBehindConflict_66 : decode cX1_placeBehindConflict 66 = .ok (.if_icmp .ge 7, 3) := by decide +kernel
theorem dX1_placeBehindConflict_73 : decode cX1_placeBehindConflict 73 = .ok (.iconst 0, 1) := by decide +kernel
theorem dX1_placeBehindConflict_81 : decode cX1_placeBehindConflict 81 = .ok (.aload_n 0, 1) := by decide +kernel
theorem dX1_placeBehindConflict_82 : decode cX1_placeBehindConflict 82 = .ok (.iload_n 1, 1) := by decide +kernel
theorem dX1_placeBehindConflict_83 : decode cX1_placeBehindConflict 83 = .ok (.iload_n 2, 1) := by decide +kernel
theorem dX1_placeBehindConflict_84 : decode cX1_placeBehindConflict 84 = .ok (.iload 6, 2) := by decide +kernel
theorem dX1_placeBehindConflict_86 : decode cX1_placeBehindConflict 86 = .ok (.invokevirtual 134, 3) := by decide +kernel
set_option maxRecDepth 20000 in
theorem ggX1_placeBehindConflict_X1_isMeeting : GoodIn wsX1_placeBehindConflict wsX1_isMeeting := goodIn_r _ [9, 1, 10, 11, 12, 13, 14, 15, 16, 17, 18, 19, 20, 21, 22, 23, 24, 25, 26, 27, 28, 29, 30] rfl (by decide +kernel)
set_option maxRecDepth 20000 in
theorem gX1_placeBehindConflict_X1_isMeeting : GoodIn wsX1_placeBehindConflict (wsV RX1 134 RX1 yX1_isMeeting wsX1_isMeeting) := goodIn_app (goodIn_of _ (by decide +kernel)) ggX1_placeBehindConflict_X1_isMeeting
theorem dX1_placeBehindConflict_89 : decode cX1_placeBehindConflict 89 = .ok (.ifCond .eq 8, 3) := by decide +kernel
theorem dX1_placeBehindConflict_92 : decode cX1_placeBehindConflict 92 = .ok (.iload 7, 2) := by decide +kernel
theorem dX1_placeBehindConflict_94 : decode cX1_placeBehindConflict 94 = .ok (.iconst 1, 1) := by decide +kernel
theorem dX1_placeBehindConflict_95 : decode cX1_placeBehindConflict 95 = .ok (.iadd, 1) := by decide +kernel
theorem dX1_placeBehindConflict_96 : decode cX1_placeBehindConflict 96 = .ok (.ireturn, 1) := by decide +kernel
set_option maxHeartbeats 4000000 in
set_option maxRecDepth 100000 in
theorem b_placeBehindConflict (l : Launch) (g : xG) (sz : Nat) (bp : Nat) (ha : Nat) (ba : Nat) (tr : Nat) (un : Nat) (to_ : Nat) (ts : Nat) (tp : Nat) (vs : Nat) (ah : Nat) (tm : Int) (pl : Int) (p0 : Value) (p1 : Value) (p2 : Value) (p3 : Value) (p6 : Value) (p7 : Value) (p10 : Value) (p11 : Value) (p12 : Value) (p13 : Value) (t0 : Value) (han : Nat → Int) (bay : Nat → Int) (ord : Nat → Nat) (sta : Nat → Int) (pla : Nat → Int) (unt : Nat → Int)  (hvs : vs < 6) (hah : ah ≤ 6) (htm : 0 ≤ tm ∧ tm ≤ 1000000) (hpl : 0 ≤ pl ∧ pl ≤ 1000) (b_han : ∀ j, 0 ≤ han j ∧ han j ≤ 10100) (b_bay : ∀ j, 0 ≤ bay j ∧ bay j ≤ 10) (b_ord : ∀ j, ord j ≤ 5) (b_sta : ∀ j, 0 ≤ sta j ∧ sta j ≤ 1000000) (b_pla : ∀ j, (-1) ≤ pla j ∧ pla j ≤ 60) (b_unt : ∀ j, 0 ≤ unt j ∧ unt j ≤ 2000000) : Met l yX1_placeBehindConflict wsX1_placeBehindConflict ({ frames := 1, cells := 0, slots := 0, locals := 23 }) (va_Pc [.ref bp, .int (nI vs), .int (iI tm), .int (iI pl), .int (nI ah)] (fun U => xB g [(bp, .inr (1, [p0, p1, p2, p3, .ref ha, .ref ba, p6, p7, .ref tr, .ref un, p10, p11, p12, p13])), (ha, .inl (xI g, 6, .inl (fun j => iI (han j)))), (ba, .inl (xI g, 6, .inl (fun j => iI (bay j)))), (tr, .inr (4, [t0, .ref to_, .ref ts, .ref tp])), (to_, .inl (xI g, 6, .inl (fun j => nI (ord j)))), (ts, .inl (xI g, 6, .inl (fun j => iI (sta j)))), (tp, .inl (xI g, 6, .inl (fun j => iI (pla j)))), (un, .inl (xI g, 6, .inl (fun j => iI (unt j))))] sz U)) (va_Qi (fun (r : Int32) (_ : Unit) => r = iI (bCf (fun i => sta (ord i)) (fun i => unt (ord i)) (fun i => pla (ord i)) (fun i => bay (ord i)) tm (tm + han vs) pl (bay vs) ah)) (fun (_ : Unit) (_ : State) => True) (va_A [] sz)) 0 0 (va_A [] sz) := by
  refine Met.ofW (cc := cX1_placeBehindConflict) (maxL := 9) (ret := (some .int)) (by decide) rfl ?_
  intro p e s m args below meth c s₁ B hml hv
  obtain ⟨rfl, hsz, hP, hK, hD0⟩ := hv
  have hx := B.exec
  have hb := B.bytes
  have hr := B.returns
  have hts := atoms_spec (ws := wsX1_placeBehindConflict) B.pre
  have hown : s.vm.findClass RX1 = some m.cls := findClass_of_methodNamed B.named
  have hlocks := B.notSynchronized
  subst hsz
  have hD := hD0
  generalize hAe : va_A [] s.heap.size = A
  have hA : ∀ q : Nat, s.heap.size ≤ q → A q := fun q h => by rw [← hAe]; exact Or.inr h
  have hS : va_S A s.heap s.heap [] := va_S.rf
  have hl := lv_entry ([.ref bp, .int (nI vs), .int (iI tm), .int (iI pl), .int (nI ah)]) (n := 9) (Nat.le_of_ble_eq_true rfl)
  rw [lg_entry_eq]
  generalize (lg_sl ([.ref bp, .int (nI vs), .int (iI tm), .int (iI pl), .int (nI ah)]) ++ List.replicate (9 - (lg_sl ([.ref bp, .int (nI vs), .int (iI tm), .int (iI pl), .int (nI ah)])).length) Slot.unset).toArray = ls at hl ⊢
  have hl : lv_has ls 9 [(0, .ref bp), (1, .int (nI vs)), (2, .int (iI tm)), (3, .int (iI pl)), (4, .int (nI ah))] := hl
  have hFX1 : ∀ w ∈ u_ws RX1 TX1 14, w ∈ wsX1_placeBehindConflict := by decide +kernel
  have hFX4 : ∀ w ∈ u_ws RX4 TX4 4, w ∈ wsX1_placeBehindConflict := by decide +kernel
  refine lv_iconst (v := 0) hx hb dX1_placeBehindConflict_0 (by decide) ?_
  refine lv_istore (lv' := [(5, .int 0), (0, .ref bp), (1, .int (nI vs)), (2, .int (iI tm)), (3, .int (iI pl)), (4, .int (nI ah))]) hx hb dX1_placeBehindConflict_1 hl (by decide) rfl (fun ls hl => ?_)
  have hloop3 : ∀ (n9 : Nat) (k : Nat) (H : Heap) (locs : List Loc) (ls : Array Slot), ah - k < n9 → (k ≤ ah) → (bCf (fun i => sta (ord i)) (fun i => unt (ord i)) (fun i => pla (ord i)) (fun i => bay (ord i)) tm (tm + han vs) pl (bay vs) k = -1) → va_P (xD g) vwCl [(bp, .inr (1, [p0, p1, p2, p3, .ref ha, .ref ba, p6, p7, .ref tr, .ref un, p10, p11, p12, p13])), (ha, .inl (xI g, 6, .inl (fun j => iI (han j)))), (ba, .inl (xI g, 6, .inl (fun j => iI (bay j)))), (tr, .inr (4, [t0, .ref to_, .ref ts, .ref tp])), (to_, .inl (xI g, 6, .inl (fun j => nI (ord j)))), (ts, .inl (xI g, 6, .inl (fun j => iI (sta j)))), (tp, .inl (xI g, 6, .inl (fun j => iI (pla j)))), (un, .inl (xI g, 6, .inl (fun j => iI (unt j))))] H → va_D (fun _ => True) [(bp, .inr (1, [p0, p1, p2, p3, .ref ha, .ref ba, p6, p7, .ref tr, .ref un, p10, p11, p12, p13])), (ha, .inl (xI g, 6, .inl (fun j => iI (han j)))), (ba, .inl (xI g, 6, .inl (fun j => iI (bay j)))), (tr, .inr (4, [t0, .ref to_, .ref ts, .ref tp])), (to_, .inl (xI g, 6, .inl (fun j => nI (ord j)))), (ts, .inl (xI g, 6, .inl (fun j => iI (sta j)))), (tp, .inl (xI g, 6, .inl (fun j => iI (pla j)))), (un, .inl (xI g, 6, .inl (fun j => iI (unt j))))] → va_S A s.heap H locs → lv_has ls 9 [(5, .int (nI k)), (0, .ref bp), (1, .int (nI vs)), (2, .int (iI tm)), (3, .int (iI pl)), (4, .int (nI ah))] → W p l e (headSpec wsX1_placeBehindConflict ({ frames := 1, cells := 0, slots := 0, locals := 23 })).room s m ([.ref bp, .int (nI vs), .int (iI tm), .int (iI pl), .int (nI ah)] : List Value).toArray below meth c H locs 0 0 (MQ below (va_Qi (fun (r : Int32) (_ : Unit) => r = iI (bCf (fun i => sta (ord i)) (fun i => unt (ord i)) (fun i => pla (ord i)) (fun i => bay (ord i)) tm (tm + han vs) pl (bay vs) ah)) (fun (_ : Unit) (_ : State) => True) (A)) ([.ref bp, .int (nI vs), .int (iI tm), .int (iI pl), .int (nI ah)] : List Value).toArray s 0 0 A) (F0 m 3 ls []) := by
    intro n9
    induction n9 with
    | zero =>
      intro k H locs ls hm hk hcf hP hD hS hl
      exact absurd hm (Nat.not_lt_zero _)
    | succ n9 ih3 =>
      intro k H locs ls hm hk hcf hP hD hS hl
      have hok := b_ord k
      refine lv_iload hx hb dX1_placeBehindConflict_3 (lv_at hl 0 rfl) ?_
      refine lv_iload hx hb dX1_placeBehindConflict_5 (lv_at hl 5 rfl) ?_
      refine lv_icmp_ge (tgt := 103) hx hb dX1_placeBehindConflict_7 (by decide) (fun c_1 => ?_) (fun c_1 => ?_)
      · have nc_1 := (nI_leI (a := ah) (b := k) (by omega) (by omega)).mp c_1
        refine lv_iconst (v := (-1)) hx hb dX1_placeBehindConflict_103 (by decide) ?_
        exact W.iret (v := (-1)) hx hb hr (fun t ht hW => ⟨⟨(-1), (), rfl, (by obtain rfl : k = ah := (by omega); rw [hcf]; decide), trivial⟩, hS.F ht⟩) hS.2.2 dX1_placeBehindConflict_104
      · have nc_1 := mt (nI_leI (a := ah) (b := k) (by omega) (by omega)).mpr c_1
        refine lv_aload_n hx hb dX1_placeBehindConflict_10 rfl (lv_at hl 1 rfl) ?_
        refine va_get (D := xD g) (ci := 1) (v := .ref tr) (C := RX1) (T := TX1) (N := 14) hx hb hts hFX1 hown hK hP 0 rfl rfl 8 (by decide) (hts (.fieldLink RX1 30 "Stevedore$BerthPlanner" "trial" "LStevedore$Plan;") (by decide +kernel)) (fun _ h9 => h9) rfl dX1_placeBehindConflict_11 ?_
        refine va_get (D := xD g) (ci := 4) (v := .ref to_) (C := RX4) (T := TX4) (N := 4) hx hb hts hFX4 hown hK hP 3 rfl rfl 1 (by decide) (hts (.fieldLink RX1 110 "Stevedore$Plan" "order" "[I") (by decide +kernel)) (fun _ h9 => h9) rfl dX1_placeBehindConflict_14 ?_
        refine lv_iload hx hb dX1_placeBehindConflict_17 (lv_at hl 0 rfl) ?_
        refine va_iald hx hb hK hP 4 0 rfl rfl (vp_in_nI (by omega) (by omega)) dX1_placeBehindConflict_19 ?_
        refine lv_topi (fun v_2 ev => ?_)
        obtain rfl : v_2 = nI (ord k) := ev.trans (congrArg (fun q9 => nI (ord q9)) (nI_clamp (by omega)))
        have b_3 := b_ord k
        refine lv_istore (lv' := [(6, .int (nI (ord k))), (5, .int (nI k)), (0, .ref bp), (1, .int (nI vs)), (2, .int (iI tm)), (3, .int (iI pl)), (4, .int (nI ah))]) hx hb dX1_placeBehindConflict_20 hl (by decide) rfl (fun ls hl => ?_)
        refine lv_aload_n hx hb dX1_placeBehindConflict_22 rfl (lv_at hl 2 rfl) ?_
        refine va_get (D := xD g) (ci := 1) (v := .ref tr) (C := RX1) (T := TX1) (N := 14) hx hb hts hFX1 hown hK hP 0 rfl rfl 8 (by decide) (hts (.fieldLink RX1 30 "Stevedore$BerthPlanner" "trial" "LStevedore$Plan;") (by decide +kernel)) (fun _ h9 => h9) rfl dX1_placeBehindConflict_23 ?_
        refine va_get (D := xD g) (ci := 4) (v := .ref tp) (C := RX4) (T := TX4) (N := 4) hx hb hts hFX4 hown hK hP 3 rfl rfl 3 (by decide) (hts (.fieldLink RX1 120 "Stevedore$Plan" "place" "[I") (by decide +kernel)) (fun _ h9 => h9) rfl dX1_placeBehindConflict_26 ?_
        refine lv_iload hx hb dX1_placeBehindConflict_29 (lv_at hl 0 rfl) ?_
        refine va_iald hx hb hK hP 6 0 rfl rfl (vp_in_nI (by omega) (by omega)) dX1_placeBehindConflict_31 ?_
        refine lv_topi (fun v_4 ev => ?_)
        obtain rfl : v_4 = iI (pla (ord k)) := ev.trans (congrArg (fun q9 => iI (pla q9)) (nI_clamp (by omega)))
        have b_5 := b_pla (ord k)
        refine lv_aload_n hx hb dX1_placeBehindConflict_32 rfl (lv_at hl 2 rfl) ?_
        refine va_get (D := xD g) (ci := 1) (v := .ref ba) (C := RX1) (T := TX1) (N := 14) hx hb hts hFX1 hown hK hP 0 rfl rfl 5 (by decide) (hts (.fieldLink RX1 18 "Stevedore$BerthPlanner" "bays" "[I") (by decide +kernel)) (fun _ h9 => h9) rfl dX1_placeBehindConflict_33 ?_
        refine lv_iload hx hb dX1_placeBehindConflict_36 (lv_at hl 0 rfl) ?_
        refine va_iald hx hb hK hP 2 0 rfl rfl (vp_in_nI (by omega) (by omega)) dX1_placeBehindConflict_38 ?_
        refine lv_topi (fun v_6 ev => ?_)
        obtain rfl : v_6 = iI (bay (ord k)) := ev.trans (congrArg (fun q9 => iI (bay q9)) (nI_clamp (by omega)))
        have b_7 := b_bay (ord k)
        refine lv_iadd hx hb dX1_placeBehindConflict_39 ?_
        refine lv_topi (fun v_8 ev => ?_)
        obtain rfl : v_8 = iI (pla (ord k) + (bay (ord k))) := ev.trans (iA rfl rfl)
        refine lv_istore (lv' := [(7, .int (iI (pla (ord k) + (bay (ord k))))), (6, .int (nI (ord k))), (5, .int (nI k)), (0, .ref bp), (1, .int (nI vs)), (2, .int (iI tm)), (3, .int (iI pl)), (4, .int (nI ah))]) hx hb dX1_placeBehindConflict_40 hl (by decide) rfl (fun ls hl => ?_)
        refine lv_iload_n hx hb dX1_placeBehindConflict_42 rfl (lv_at hl 6 rfl) ?_
        refine lv_aload_n hx hb dX1_placeBehindConflict_43 rfl (lv_at hl 3 rfl) ?_
        refine va_get (D := xD g) (ci := 1) (v := .ref ba) (C := RX1) (T := TX1) (N := 14) hx hb hts hFX1 hown hK hP 0 rfl rfl 5 (by decide) (hts (.fieldLink RX1 18 "Stevedore$BerthPlanner" "bays" "[I") (by decide +kernel)) (fun _ h9 => h9) rfl dX1_placeBehindConflict_44 ?_
        refine lv_iload_n hx hb dX1_placeBehindConflict_47 rfl (lv_at hl 4 rfl) ?_
        refine va_iald hx hb hK hP 2 0 rfl rfl (vp_in_nI (by omega) (by omega)) dX1_placeBehindConflict_48 ?_
        refine lv_topi (fun v_9 ev => ?_)
        obtain rfl : v_9 = iI (bay vs) := ev.trans (congrArg (fun q9 => iI (bay q9)) (nI_clamp (by omega)))
        have b_10 := b_bay vs
        refine lv_iadd hx hb dX1_placeBehindConflict_49 ?_
        refine lv_topi (fun v_11 ev => ?_)
        obtain rfl : v_11 = iI (pl + (bay vs)) := ev.trans (iA rfl rfl)
        refine lv_aload_n hx hb dX1_placeBehindConflict_50 rfl (lv_at hl 3 rfl) ?_
        refine va_get (D := xD g) (ci := 1) (v := .ref tr) (C := RX1) (T := TX1) (N := 14) hx hb hts hFX1 hown hK hP 0 rfl rfl 8 (by decide) (hts (.fieldLink RX1 30 "Stevedore$BerthPlanner" "trial" "LStevedore$Plan;") (by decide +kernel)) (fun _ h9 => h9) rfl dX1_placeBehindConflict_51 ?_
        refine va_get (D := xD g) (ci := 4) (v := .ref tp) (C := RX4) (T := TX4) (N := 4) hx hb hts hFX4 hown hK hP 3 rfl rfl 3 (by decide) (hts (.fieldLink RX1 120 "Stevedore$Plan" "place" "[I") (by decide +kernel)) (fun _ h9 => h9) rfl dX1_placeBehindConflict_54 ?_
        refine lv_iload hx hb dX1_placeBehindConflict_57 (lv_at hl 1 rfl) ?_
        refine va_iald hx hb hK hP 6 0 rfl rfl (vp_in_nI (by omega) (by omega)) dX1_placeBehindConflict_59 ?_
        refine lv_topi (fun v_12 ev => ?_)
        obtain rfl : v_12 = iI (pla (ord k)) := ev.trans (congrArg (fun q9 => iI (pla q9)) (nI_clamp (by omega)))
        have b_13 := b_pla (ord k)
        refine lv_icmp_lt (tgt := 69) hx hb dX1_placeBehindConflict_60 (by decide) (fun c_14 => ?_) (fun c_14 => ?_)
        · have nc_14 := (iLt (a := pl + (bay vs)) (b := pla (ord k)) rfl rfl (by omega)).mp c_14
          refine lv_iconst (v := 1) hx hb dX1_placeBehindConflict_69 (by decide) ?_
          refine lv_goto (tgt := 74) hx hb dX1_placeBehindConflict_70 (by decide) ?_
          refine lv_istore (lv' := [(8, .int 1), (7, .int (iI (pla (ord k) + (bay (ord k))))), (6, .int (nI (ord k))), (5, .int (nI k)), (0, .ref bp), (1, .int (nI vs)), (2, .int (iI tm)), (3, .int (iI pl)), (4, .int (nI ah))]) hx hb dX1_placeBehindConflict_74 hl (by decide) rfl (fun ls hl => ?_)
          refine lv_iload hx hb dX1_placeBehindConflict_76 (lv_at hl 0 rfl) ?_
          refine lv_if_ne (tgt := 97) hx hb dX1_placeBehindConflict_78 (by decide) (fun _ => ?_) (fun c0 => absurd c0 (by decide))
          refine lv_iinc (v := nI (k + 1)) (lv' := [(5, .int (nI (k + 1))), (8, .int 1), (7, .int (iI (pla (ord k) + (bay (ord k))))), (6, .int (nI (ord k))), (0, .ref bp), (1, .int (nI vs)), (2, .int (iI tm)), (3, .int (iI pl)), (4, .int (nI ah))]) hx hb dX1_placeBehindConflict_97 hl (k := 3) rfl (nI_add k 1) (by decide) rfl (fun ls hl => ?_)
          refine lv_goto (tgt := 3) hx hb dX1_placeBehindConflict_100 (by decide) ?_
          exact ih3 (k + 1) _ _ _ (by omega) (by omega) (bCf_no hcf (by omega)) hP hD hS (lv_sub hl [0, 4, 5, 6, 7, 8] rfl)
        · have nc_14 := mt (iLt (a := pl + (bay vs)) (b := pla (ord k)) rfl rfl (by omega)).mpr c_14
          refine lv_iload hx hb dX1_placeBehindConflict_63 (lv_at hl 0 rfl) ?_
          refine lv_iload_n hx hb dX1_placeBehindConflict_65 rfl (lv_at hl 6 rfl) ?_
          refine lv_icmp_ge (tgt := 73) hx hb dX1_placeBehindConflict_66 (by decide) (fun c_15 => ?_) (fun c_15 => ?_)
          · have nc_15 := (iLe (a := pl) (b := pla (ord k) + (bay (ord k))) rfl rfl (by omega)).mp c_15
            refine lv_iconst (v := 0) hx hb dX1_placeBehindConflict_73 (by decide) ?_
            refine lv_istore (lv' := [(8, .int 0), (7, .int (iI (pla (ord k) + (bay (ord k))))), (6, .int (nI (ord k))), (5, .int (nI k)), (0, .ref bp), (1, .int (nI vs)), (2, .int (iI tm)), (3, .int (iI pl)), (4, .int (nI ah))]) hx hb dX1_placeBehindConflict_74 hl (by decide) rfl (fun ls hl => ?_)
            refine lv_iload hx hb dX1_placeBehindConflict_76 (lv_at hl 0 rfl) ?_
            refine lv_if_ne (tgt := 97) hx hb dX1_placeBehindConflict_78 (by decide) (fun c0 => absurd (by decide) c0) (fun _ => ?_)
            refine lv_aload_n hx hb dX1_placeBehindConflict_81 rfl (lv_at hl 4 rfl) ?_
            refine lv_iload_n hx hb dX1_placeBehindConflict_82 rfl (lv_at hl 5 rfl) ?_
            refine lv_iload_n hx hb dX1_placeBehindConflict_83 rfl (lv_at hl 6 rfl) ?_
            refine lv_iload hx hb dX1_placeBehindConflict_84 (lv_at hl 2 rfl) ?_
            have hPc := hP.sub (ws' := [(bp, .inr (1, [p0, p1, p2, p3, .ref ha, .ref ba, p6, p7, .ref tr, .ref un, p10, p11, p12, p13])), (ha, .inl (xI g, 6, .inl (fun j => iI (han j)))), (tr, .inr (4, [t0, .ref to_, .ref ts, .ref tp])), (ts, .inl (xI g, 6, .inl (fun j => iI (sta j)))), (un, .inl (xI g, 6, .inl (fun j => iI (unt j))))]) [0, 1, 3, 5, 7] rfl
            have hDc := hD.sub (ws' := [(bp, .inr (1, [p0, p1, p2, p3, .ref ha, .ref ba, p6, p7, .ref tr, .ref un, p10, p11, p12, p13])), (ha, .inl (xI g, 6, .inl (fun j => iI (han j)))), (tr, .inr (4, [t0, .ref to_, .ref ts, .ref tp])), (ts, .inl (xI g, 6, .inl (fun j => iI (sta j)))), (un, .inl (xI g, 6, .inl (fun j => iI (unt j))))]) [0, 1, 3, 5, 7] (by decide) rfl
            have hFc := xFree hS hA
            refine va_calli (va_runV (As := [.int (nI vs), .int (iI tm), .int (nI (ord k))]) (rest := []) ⟨hx, hb, hml, hown, hts⟩ (b_isMeeting l g H.size bp ha tr un ts vs (ord k) tm p0 p1 p2 p3 (.ref ba) p6 p7 p10 p11 p12 p13 t0 (.ref to_) (.ref tp) han sta unt (by first | assumption | omega) (by first | assumption | omega) (by first | assumption | omega) b_han b_sta b_unt) (cwV 3 hts gX1_placeBehindConflict_X1_isMeeting rfl rfl rfl (by decide +kernel) ⟨Nat.le_of_ble_eq_true rfl, Nat.le_of_ble_eq_true rfl⟩) ⟨xB.blind, va_recv hK hPc (ci := 1) (q0 := 0) rfl rfl, fun U9 hU9 hW9 => ⟨rfl, xB.mk hPc hK hDc hU9 hW9⟩⟩ rfl rfl hl.1 rfl (lv_room (Nat.le_of_ble_eq_true rfl)) dX1_placeBehindConflict_86 ⟨Nat.le_of_ble_eq_true rfl, Nat.le_of_ble_eq_true rfl⟩) hS (fun q _ h => hFc q h) hFc (fun r_16 _ t H1 locs ht hvm hw_17 hB hz1 hk1 hS => ?_)
            have hP := xSame hP hk1
            generalize H1 = H at hP hS ⊢
            have hP : va_P (xD g) vwCl [(bp, .inr (1, [p0, p1, p2, p3, .ref ha, .ref ba, p6, p7, .ref tr, .ref un, p10, p11, p12, p13])), (ha, .inl (xI g, 6, .inl (fun j => iI (han j)))), (ba, .inl (xI g, 6, .inl (fun j => iI (bay j)))), (tr, .inr (4, [t0, .ref to_, .ref ts, .ref tp])), (to_, .inl (xI g, 6, .inl (fun j => nI (ord j)))), (ts, .inl (xI g, 6, .inl (fun j => iI (sta j)))), (tp, .inl (xI g, 6, .inl (fun j => iI (pla j)))), (un, .inl (xI g, 6, .inl (fun j => iI (unt j))))] H := hP
            have hD : va_D (fun _ => True) [(bp, .inr (1, [p0, p1, p2, p3, .ref ha, .ref ba, p6, p7, .ref tr, .ref un, p10, p11, p12, p13])), (ha, .inl (xI g, 6, .inl (fun j => iI (han j)))), (ba, .inl (xI g, 6, .inl (fun j => iI (bay j)))), (tr, .inr (4, [t0, .ref to_, .ref ts, .ref tp])), (to_, .inl (xI g, 6, .inl (fun j => nI (ord j)))), (ts, .inl (xI g, 6, .inl (fun j => iI (sta j)))), (tp, .inl (xI g, 6, .inl (fun j => iI (pla j)))), (un, .inl (xI g, 6, .inl (fun j => iI (unt j))))] := hD
            try dsimp only at hw_17
            rcases hw_17 with ⟨rfl, hw_17⟩ | ⟨rfl, hw_17⟩
            · refine lv_if_eq (tgt := 97) hx hb dX1_placeBehindConflict_89 (by decide) (fun c0 => absurd c0 (by decide)) (fun _ => ?_)
              refine lv_iload hx hb dX1_placeBehindConflict_92 (lv_at hl 1 rfl) ?_
              refine lv_iconst (v := 1) hx hb dX1_placeBehindConflict_94 (by decide) ?_
              refine lv_iadd hx hb dX1_placeBehindConflict_95 ?_
              refine lv_topi (fun v_18 ev => ?_)
              obtain rfl : v_18 = iI (pla (ord k) + (bay (ord k)) + 1) := ev.trans (iA rfl (by decide))
              exact W.iret (v := iI (pla (ord k) + (bay (ord k)) + 1)) hx hb hr (fun t ht hW => ⟨⟨iI (pla (ord k) + (bay (ord k)) + 1), (), rfl, (by have z := bCf_hit hcf ⟨by omega, by omega⟩ (by have q1 := b_pla (ord k); have q2 := b_bay (ord k); (try dsimp only); omega) (ah - (k + 1)); rw [show k + 1 + (ah - (k + 1)) = ah by omega] at z; rw [z]), trivial⟩, hS.F ht⟩) hS.2.2 dX1_placeBehindConflict_96
            · refine lv_if_eq (tgt := 97) hx hb dX1_placeBehindConflict_89 (by decide) (fun _ => ?_) (fun c0 => absurd (by decide) c0)
              refine lv_iinc (v := nI (k + 1)) (lv' := [(5, .int (nI (k + 1))), (8, .int 0), (7, .int (iI (pla (ord k) + (bay (ord k))))), (6, .int (nI (ord k))), (0, .ref bp), (1, .int (nI vs)), (2, .int (iI tm)), (3, .int (iI pl)), (4, .int (nI ah))]) hx hb dX1_placeBehindConflict_97 hl (k := 3) rfl (nI_add k 1) (by decide) rfl (fun ls hl => ?_)
              refine lv_goto (tgt := 3) hx hb dX1_placeBehindConflict_100 (by decide) ?_
              exact ih3 (k + 1) _ _ _ (by omega) (by omega) (bCf_no hcf (by omega)) hP hD hS (lv_sub hl [0, 4, 5, 6, 7, 8] rfl)
          · have nc_15 := mt (iLe (a := pl) (b := pla (ord k) + (bay (ord k))) rfl rfl (by omega)).mpr c_15
            refine lv_iconst (v := 1) hx hb dX1_placeBehindConflict_69 (by decide) ?_
            refine lv_goto (tgt := 74) hx hb dX1_placeBehindConflict_70 (by decide) ?_
            refine lv_istore (lv' := [(8, .int 1), (7, .int (iI (pla (ord k) + (bay (ord k))))), (6, .int (nI (ord k))), (5, .int (nI k)), (0, .ref bp), (1, .int (nI vs)), (2, .int (iI tm)), (3, .int (iI pl)), (4, .int (nI ah))]) hx hb dX1_placeBehindConflict_74 hl (by decide) rfl (fun ls hl => ?_)
            refine lv_iload hx hb dX1_placeBehindConflict_76 (lv_at hl 0 rfl) ?_
            refine lv_if_ne (tgt := 97) hx hb dX1_placeBehindConflict_78 (by decide) (fun _ => ?_) (fun c0 => absurd c0 (by decide))
            refine lv_iinc (v := nI (k + 1)) (lv' := [(5, .int (nI (k + 1))), (8, .int 1), (7, .int (iI (pla (ord k) + (bay (ord k))))), (6, .int (nI (ord k))), (0, .ref bp), (1, .int (nI vs)), (2, .int (iI tm)), (3, .int (iI pl)), (4, .int (nI ah))]) hx hb dX1_placeBehindConflict_97 hl (k := 3) rfl (nI_add k 1) (by decide) rfl (fun ls hl => ?_)
            refine lv_goto (tgt := 3) hx hb dX1_placeBehindConflict_100 (by decide) ?_
            exact ih3 (k + 1) _ _ _ (by omega) (by omega) (bCf_no hcf (by omega)) hP hD hS (lv_sub hl [0, 4, 5, 6, 7, 8] rfl)
  exact hloop3 (ah + 1) 0 _ _ _ (by omega) (by omega) rfl hP hD hS (by rw [(show nI 0 = (0 : Int32) from by decide)]; exact lv_sub hl [0, 1, 2, 3, 4, 5] rfl)
theorem dX1_nextEnd_0 : decode cX1_nextEnd 0 = .ok (.ldc 71, 2) := by decide +kernel
theorem dX1_nextEnd_2 : decode cX1_nextEnd 2 = .ok (.istore_n 3, 1) := by decide +kernel
theorem dX1_nextEnd_3 : decode cX1_nextEnd 3 = .ok (.iconst 0, 1) := by decide +kernel
theorem dX1_nextEnd_4 : decode cX1_nextEnd 4 = .ok (.istore 4, 2) := by decide +kernel
theorem dX1_nextEnd_6 : decode cX1_nextEnd 6 = .ok (.iload 4, 2) := by decide +kernel
theorem dX1_nextEnd_8 : decode cX1_nextEnd 8 = .ok (.iload_n 2, 1) := by decide +kernel
theorem dX1_nextEnd_9 : decode cX1_nextEnd 9 = .ok (.if_icmp .ge 39, 3) := by decide +kernel
theorem dX1_nextEnd_48 : decode cX1_nextEnd 48 = .ok (.iload_n 3, 1) := by decide +kernel
theorem dX1_nextEnd_49 : decode cX1_nextEnd 49 = .ok (.ireturn, 1) := by decide +kernel
theorem dX1_nextEnd_12 : decode cX1_nextEnd 12 = .ok (.aload_n 0, 1) := by decide +kernel
theorem dX1_nextEnd_13 : decode cX1_nextEnd 13 = .ok (.getfield 34, 3) := by decide +kernel
theorem dX1_nextEnd_16 : decode cX1_nextEnd 16 = .ok (.aload_n 0, 1) := by decide +kernel
theorem dX1_nextEnd_17 : decode cX1_nextEnd 17 = .ok (.getfield 30, 3) := by decide +kernel
theorem dX1_nextEnd_20 : decode cX1_nextEnd 20 = .ok (.getfield 110, 3) := by decide +kernel
theorem dX1_nextEnd_23 : decode cX1_nextEnd 23 = .ok (.iload 4, 2) := by decide +kernel
theorem dX1_nextEnd_25 : decode cX1_nextEnd 25 = .ok (.iaload, 1) := by decide +kernel
theorem dX1_nextEnd_26 : decode cX1_nextEnd 26 = .ok (.iaload, 1) := by decide +kernel
theorem dX1_nextEnd_27 : decode cX1_nextEnd 27 = .ok (.istore 5, 2) := by decide +kernel
theorem dX1_nextEnd_29 : decode cX1_nextEnd 29 = .ok (.iload 5, 2) := by decide +kernel
theorem dX1_nextEnd_31 : decode cX1_nextEnd 31 = .ok (.iload_n 1, 1) := by decide +kernel
theorem dX1_nextEnd_32 : decode cX1_nextEnd 32 = .ok (.if_icmp .le 10, 3) := by decide +kernel
theorem dX1_nextEnd_42 : decode cX1_nextEnd 42 = .ok (.iinc 4 1, 3) := by decide +kernel
theorem dX1_nextEnd_45 : decode cX1_nextEnd 45 = .ok (.goto (-39), 3) := by decide +kernel
theorem dX1_nextEnd_35 : decode cX1_nextEnd 35 = .ok (.iload_n 3, 1) := by decide +kernel
theorem dX1_nextEnd_36 : decode cX1_nextEnd 36 = .ok (.iload 5, 2) := by decide +kernel
theorem dX1_nextEnd_38 : decode cX1_nextEnd 38 = .ok (.invokestatic 123, 3) := by decide +kernel
theorem dX1_nextEnd_41 : decode cX1_nextEnd 41 = .ok (.istore_n 3, 1) := by decide +kernel
set_option maxHeartbeats 4000000 in
set_option maxRecDepth 100000 in
theorem b_nextEnd (l : Launch) (g : xG) (sz : Nat) (bp : Nat) (tr : Nat) (un : Nat) (to_ : Nat) (ah : Nat) (tm : Int) (p0 : Value) (p1 : Value) (p2 : Value) (p3 : Value) (p4 : Value) (p5 : Value) (p6 : Value) (p7 : Value) (p10 : Value) (p11 : Value) (p12 : Value) (p13 : Value) (t0 : Value) (t2 : Value) (t3 : Value) (ord : Nat → Nat) (unt : Nat → Int)  (hah : ah ≤ 6) (htm : 0 ≤ tm ∧ tm ≤ 1000000) (b_ord : ∀ j, ord j ≤ 5) (b_unt : ∀ j, 0 ≤ unt j ∧ unt j ≤ 2000000) : Met l yX1_nextEnd wsX1_nextEnd ({ frames := 1, cells := 0, slots := 0, locals := 24 }) (va_Pc [.ref bp, .int (iI tm), .int (nI ah)] (fun U => xB g [(bp, .inr (1, [p0, p1, p2, p3, p4, p5, p6, p7, .ref tr, .ref un, p10, p11, p12, p13])), (tr, .inr (4, [t0, .ref to_, t2, t3])), (to_, .inl (xI g, 6, .inl (fun j => nI (ord j)))), (un, .inl (xI g, 6, .inl (fun j => iI (unt j))))] sz U)) (va_Qi (fun (r : Int32) (_ : Unit) => r = iI (bNe (fun i => unt (ord i)) tm ah)) (fun (_ : Unit) (_ : State) => True) (va_A [] sz)) 0 0 (va_A [] sz) := by
  refine Met.ofW (cc := cX1_nextEnd) (maxL := 6) (ret := (some .int)) (by decide) rfl ?_
  intro p e s m args below meth c s₁ B hml hv
  obtain ⟨rfl, hsz, hP, hK, hD0⟩ := hv
  have hx := B.exec
  have hb := B.bytes
  have hr := B.returns
  have hts := atoms_spec (ws := wsX1_nextEnd) B.pre
  have hown : s.vm.findClass RX1 = some m.cls := findClass_of_methodNamed B.named
  have hlocks := B.notSynchronized
  subst hsz
  have hD := hD0
  generalize hAe : va_A [] s.heap.size = A
  have hA : ∀ q : Nat, s.heap.size ≤ q → A q := fun q h => by rw [← hAe]; exact Or.inr h
  have hS : va_S A s.heap s.heap [] := va_S.rf
  have hl := lv_entry ([.ref bp, .int (iI tm), .int (nI ah)]) (n := 6) (Nat.le_of_ble_eq_true rfl)
  rw [lg_entry_eq]
  generalize (lg_sl ([.ref bp, .int (iI tm), .int (nI ah)]) ++ List.replicate (6 - (lg_sl ([.ref bp, .int (iI tm), .int (nI ah)])).length) Slot.unset).toArray = ls at hl ⊢
  have hl : lv_has ls 6 [(0, .ref bp), (1, .int (iI tm)), (2, .int (nI ah))] := hl
  have hFX1 : ∀ w ∈ u_ws RX1 TX1 14, w ∈ wsX1_nextEnd := by decide +kernel
  have hFX4 : ∀ w ∈ u_ws RX4 TX4 4, w ∈ wsX1_nextEnd := by decide +kernel
  refine lv_ldc (v := 1000000) hx hb hown (hts (.constant RX1 71 (1000000)) (by decide +kernel)) dX1_nextEnd_0 ?_
  refine lv_istore_n (lv' := [(3, .int 1000000), (0, .ref bp), (1, .int (iI tm)), (2, .int (nI ah))]) hx hb dX1_nextEnd_2 rfl hl (by decide) rfl (fun ls hl => ?_)
  refine lv_iconst (v := 0) hx hb dX1_nextEnd_3 (by decide) ?_
  refine lv_istore (lv' := [(4, .int 0), (3, .int 1000000), (0, .ref bp), (1, .int (iI tm)), (2, .int (nI ah))]) hx hb dX1_nextEnd_4 hl (by decide) rfl (fun ls hl => ?_)
  have hloop6 : ∀ (n9 : Nat) (k : Nat) (nt : Int) (H : Heap) (locs : List Loc) (ls : Array Slot), ah - k < n9 → (k ≤ ah) → (nt = bNe (fun i => unt (ord i)) tm k) → va_P (xD g) vwCl [(bp, .inr (1, [p0, p1, p2, p3, p4, p5, p6, p7, .ref tr, .ref un, p10, p11, p12, p13])), (tr, .inr (4, [t0, .ref to_, t2, t3])), (to_, .inl (xI g, 6, .inl (fun j => nI (ord j)))), (un, .inl (xI g, 6, .inl (fun j => iI (unt j))))] H → va_D (fun _ => True) [(bp, .inr (1, [p0, p1, p2, p3, p4, p5, p6, p7, .ref tr, .ref un, p10, p11, p12, p13])), (tr, .inr (4, [t0, .ref to_, t2, t3])), (to_, .inl (xI g, 6, .inl (fun j => nI (ord j)))), (un, .inl (xI g, 6, .inl (fun j => iI (unt j))))] → va_S A s.heap H locs → lv_has ls 6 [(4, .int (nI k)), (0, .ref bp), (1, .int (iI tm)), (2, .int (nI ah)), (3, .int (iI nt))] → W p l e (headSpec wsX1_nextEnd ({ frames := 1, cells := 0, slots := 0, locals := 24 })).room s m ([.ref bp, .int (iI tm), .int (nI ah)] : List Value).toArray below meth c H locs 0 0 (MQ below (va_Qi (fun (r : Int32) (_ : Unit) => r = iI (bNe (fun i => unt (ord i)) tm ah)) (fun (_ : Unit) (_ : State) => True) (A)) ([.ref bp, .int (iI tm), .int (nI ah)] : List Value).toArray s 0 0 A) (F0 m 6 ls []) := by
    intro n9
    induction n9 with
    | zero =>
      intro k nt H locs ls hm hk hnt hP hD hS hl
      exact absurd hm (Nat.not_lt_zero _)
    | succ n9 ih6 =>
      intro k nt H locs ls hm hk hnt hP hD hS hl
      have hbn := bNe_bd (u := (fun i => unt (ord i))) (x := tm) (fun i => (b_unt (ord i)).1) k
      rw [← hnt] at hbn
      refine lv_iload hx hb dX1_nextEnd_6 (lv_at hl 0 rfl) ?_
      refine lv_iload_n hx hb dX1_nextEnd_8 rfl (lv_at hl 3 rfl) ?_
      refine lv_icmp_ge (tgt := 48) hx hb dX1_nextEnd_9 (by decide) (fun c_1 => ?_) (fun c_1 => ?_)
      · have nc_1 := (nI_leI (a := ah) (b := k) (by omega) (by omega)).mp c_1
        refine lv_iload_n hx hb dX1_nextEnd_48 rfl (lv_at hl 4 rfl) ?_
        exact W.iret (v := iI nt) hx hb hr (fun t ht hW => ⟨⟨iI nt, (), rfl, (by obtain rfl : k = ah := (by omega); rw [hnt]), trivial⟩, hS.F ht⟩) hS.2.2 dX1_nextEnd_49
      · have nc_1 := mt (nI_leI (a := ah) (b := k) (by omega) (by omega)).mpr c_1
        refine lv_aload_n hx hb dX1_nextEnd_12 rfl (lv_at hl 1 rfl) ?_
        refine va_get (D := xD g) (ci := 1) (v := .ref un) (C := RX1) (T := TX1) (N := 14) hx hb hts hFX1 hown hK hP 0 rfl rfl 9 (by decide) (hts (.fieldLink RX1 34 "Stevedore$BerthPlanner" "until" "[I") (by decide +kernel)) (fun _ h9 => h9) rfl dX1_nextEnd_13 ?_
        refine lv_aload_n hx hb dX1_nextEnd_16 rfl (lv_at hl 1 rfl) ?_
        refine va_get (D := xD g) (ci := 1) (v := .ref tr) (C := RX1) (T := TX1) (N := 14) hx hb hts hFX1 hown hK hP 0 rfl rfl 8 (by decide) (hts (.fieldLink RX1 30 "Stevedore$BerthPlanner" "trial" "LStevedore$Plan;") (by decide +kernel)) (fun _ h9 => h9) rfl dX1_nextEnd_17 ?_
        refine va_get (D := xD g) (ci := 4) (v := .ref to_) (C := RX4) (T := TX4) (N := 4) hx hb hts hFX4 hown hK hP 1 rfl rfl 1 (by decide) (hts (.fieldLink RX1 110 "Stevedore$Plan" "order" "[I") (by decide +kernel)) (fun _ h9 => h9) rfl dX1_nextEnd_20 ?_
        refine lv_iload hx hb dX1_nextEnd_23 (lv_at hl 0 rfl) ?_
        refine va_iald hx hb hK hP 2 0 rfl rfl (vp_in_nI (by omega) (by omega)) dX1_nextEnd_25 ?_
        refine lv_topi (fun v_2 ev => ?_)
        obtain rfl : v_2 = nI (ord k) := ev.trans (congrArg (fun q9 => nI (ord q9)) (nI_clamp (by omega)))
        have b_3 := b_ord k
        refine va_iald hx hb hK hP 3 0 rfl rfl (vp_in_nI (by omega) (by omega)) dX1_nextEnd_26 ?_
        refine lv_topi (fun v_4 ev => ?_)
        obtain rfl : v_4 = iI (unt (ord k)) := ev.trans (congrArg (fun q9 => iI (unt q9)) (nI_clamp (by omega)))
        have b_5 := b_unt (ord k)
        refine lv_istore (lv' := [(5, .int (iI (unt (ord k)))), (4, .int (nI k)), (0, .ref bp), (1, .int (iI tm)), (2, .int (nI ah)), (3, .int (iI nt))]) hx hb dX1_nextEnd_27 hl (by decide) rfl (fun ls hl => ?_)
        refine lv_iload hx hb dX1_nextEnd_29 (lv_at hl 0 rfl) ?_
        refine lv_iload_n hx hb dX1_nextEnd_31 rfl (lv_at hl 3 rfl) ?_
        refine lv_icmp_le (tgt := 42) hx hb dX1_nextEnd_32 (by decide) (fun c_6 => ?_) (fun c_6 => ?_)
        · have nc_6 := (iLe (a := unt (ord k)) (b := tm) rfl rfl (by omega)).mp c_6
          refine lv_iinc (v := nI (k + 1)) (lv' := [(4, .int (nI (k + 1))), (5, .int (iI (unt (ord k)))), (0, .ref bp), (1, .int (iI tm)), (2, .int (nI ah)), (3, .int (iI nt))]) hx hb dX1_nextEnd_42 hl (k := 1) rfl (nI_add k 1) (by decide) rfl (fun ls hl => ?_)
          refine lv_goto (tgt := 6) hx hb dX1_nextEnd_45 (by decide) ?_
          exact ih6 (k + 1) nt _ _ _ (by omega) (by omega) (by simp only [bNe]; rw [← hnt]; first | (rw [if_neg (by omega)]) | (rw [if_pos (by omega)]; assumption)) hP hD hS (lv_sub hl [0, 2, 3, 4, 5] rfl)
        · have nc_6 := mt (iLe (a := unt (ord k)) (b := tm) rfl rfl (by omega)).mpr c_6
          refine lv_iload_n hx hb dX1_nextEnd_35 rfl (lv_at hl 5 rfl) ?_
          refine lv_iload hx hb dX1_nextEnd_36 (lv_at hl 0 rfl) ?_
          refine va_mmin hx hb (by rw [hml]; exact hl.1.symm) hown (hts (.methodLink RX1 123 Lib.Math.min.name) (by decide +kernel)) (hts (.static Lib.Math.min.name) (by decide +kernel)) (hts (.initialized "java/lang/Math") (by decide +kernel)) (hts (.code Lib.Math.min.name Lib.Math.min.code 2 (some .int)) (by decide +kernel)) (Nat.le_of_ble_eq_true rfl) (Nat.le_of_ble_eq_true rfl) (Nat.le_of_ble_eq_true rfl) (Nat.le_of_ble_eq_true rfl) dX1_nextEnd_38 ?_
          refine lv_topi (fun v_8 ev => ?_)
          obtain rfl : v_8 = iI (if unt (ord k) < nt then unt (ord k) else nt) := ev.trans (iI_min rfl rfl (by omega))
          obtain ⟨z_7, ez_7⟩ : ∃ y : Int, y = if unt (ord k) < nt then unt (ord k) else nt := ⟨_, rfl⟩
          rw [← ez_7]
          have fz_7 : z_7 ≤ nt ∧ z_7 ≤ unt (ord k) ∧ (z_7 = nt ∨ z_7 = unt (ord k)) := by rw [ez_7]; split <;> omega
          refine lv_istore_n (lv' := [(3, .int (iI z_7)), (5, .int (iI (unt (ord k)))), (4, .int (nI k)), (0, .ref bp), (1, .int (iI tm)), (2, .int (nI ah))]) hx hb dX1_nextEnd_41 rfl hl (by decide) rfl (fun ls hl => ?_)
          refine lv_iinc (v := nI (k + 1)) (lv' := [(4, .int (nI (k + 1))), (3, .int (iI z_7)), (5, .int (iI (unt (ord k)))), (0, .ref bp), (1, .int (iI tm)), (2, .int (nI ah))]) hx hb dX1_nextEnd_42 hl (k := 2) rfl (nI_add k 1) (by decide) rfl (fun ls hl => ?_)
          refine lv_goto (tgt := 6) hx hb dX1_nextEnd_45 (by decide) ?_
          exact ih6 (k + 1) z_7 _ _ _ (by omega) (by omega) (by simp only [bNe]; rw [← hnt]; first | (rw [if_neg (by omega)]) | (rw [if_pos (by omega)]; assumption)) hP hD hS (lv_sub hl [0, 3, 4, 5, 1] rfl)
  exact hloop6 (ah + 1) 0 1000000 _ _ _ (by omega) (by omega) rfl hP hD hS (by rw [(show nI 0 = (0 : Int32) from by decide), (show iI 1000000 = (1000000 : Int32) from by decide)]; exact lv_sub hl [0, 2, 3, 4, 1] rfl)
