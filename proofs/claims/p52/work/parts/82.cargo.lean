/-- one is moved ahead of another of its bay -/
abbrev cAh (ex : Nat → Int) (a b : Nat) : Prop := (¬ ex a = ex b ∧ ex b = 1) ∨ (ex a = ex b ∧ a < b)
def cTn (ve ba : Nat → Nat) (ex : Nat → Int) (c : Nat) : Nat → Nat
  | 0 => 1
  | k + 1 => cTn ve ba ex c k + (if ve k = ve c ∧ ba k = ba c ∧ cAh ex k c then 1 else 0)
theorem cTn_bd {ve ba : Nat → Nat} {ex : Nat → Int} {c : Nat} : ∀ (k : Nat), 1 ≤ cTn ve ba ex c k ∧ cTn ve ba ex c k ≤ k + 1 := by
  intro k
  induction k with
  | zero => exact ⟨Nat.le_refl _, Nat.le_refl _⟩
  | succ k ih => simp only [cTn]; split <;> omega
theorem dX2_isMovedAhead_0 : decode cX2_isMovedAhead 0 = .ok (.aload_n 0, 1) := by decide +kernel
theorem dX2_isMovedAhead_1 : decode cX2_isMovedAhead 1 = .ok (.getfield 18, 3) := by decide +kernel
theorem dX2_isMovedAhead_4 : decode cX2_isMovedAhead 4 = .ok (.iload_n 1, 1) := by decide +kernel
theorem dX2_isMovedAhead_5 : decode cX2_isMovedAhead 5 = .ok (.baload, 1) := by decide +kernel
theorem dX2_isMovedAhead_6 : decode cX2_isMovedAhead 6 = .ok (.aload_n 0, 1) := by decide +kernel
theorem dX2_isMovedAhead_7 : decode cX2_isMovedAhead 7 = .ok (.getfield 18, 3) := by decide +kernel
theorem dX2_isMovedAhead_10 : decode cX2_isMovedAhead 10 = .ok (.iload_n 2, 1) := by decide +kernel
theorem dX2_isMovedAhead_11 : decode cX2_isMovedAhead 11 = .ok (.baload, 1) := by decide +kernel
theorem dX2_isMovedAhead_12 : decode cX2_isMovedAhead 12 = .ok (.if_icmp .eq 10, 3) := by decide +kernel
theorem dX2_isMovedAhead_22 : decode cX2_isMovedAhead 22 = .ok (.iload_n 1, 1) := by decide +kernel
theorem dX2_isMovedAhead_23 : decode cX2_isMovedAhead 23 = .ok (.iload_n 2, 1) := by decide +kernel
theorem dX2_isMovedAhead_24 : decode cX2_isMovedAhead 24 = .ok (.if_icmp .ge 7, 3) := by decide +kernel
theorem dX2_isMovedAhead_31 : decode cX2_isMovedAhead 31 = .ok (.iconst 0, 1) := by decide +kernel
theorem dX2_isMovedAhead_32 : decode cX2_isMovedAhead 32 = .ok (.ireturn, 1) := by decide +kernel
theorem dX2_isMovedAhead_27 : decode cX2_isMovedAhead 27 = .ok (.iconst 1, 1) := by decide +kernel
theorem dX2_isMovedAhead_28 : decode cX2_isMovedAhead 28 = .ok (.goto 4, 3) := by decide +kernel
theorem dX2_isMovedAhead_15 : decode cX2_isMovedAhead 15 = .ok (.aload_n 0, 1) := by decide +kernel
theorem dX2_isMovedAhead_16 : decode cX2_isMovedAhead 16 = .ok (.getfield 18, 3) := by decide +kernel
theorem dX2_isMovedAhead_19 : decode cX2_isMovedAhead 19 = .ok (.iload_n 2, 1) := by decide +kernel
theorem dX2_isMovedAhead_20 : decode cX2_isMovedAhead 20 = .ok (.baload, 1) := by decide +kernel
theorem dX2_isMovedAhead_21 : decode cX2_isMovedAhead 21 = .ok (.ireturn, 1) := by decide +kernel
set_option maxHeartbeats 4000000 in
set_option maxRecDepth 100000 in
theorem c_isMovedAhead (l : Launch) (g : xG) (sz : Nat) (ca : Nat) (ce : Nat) (x : Nat) (y : Nat) (c0 : Value) (c1 : Value) (c2 : Value) (c4 : Value) (c5 : Value) (cex : Nat → Int)  (hx : x < 24) (hy : y < 24) (b_cex : ∀ j, 0 ≤ cex j ∧ cex j ≤ 1) : Met l yX2_isMovedAhead wsX2_isMovedAhead ({ frames := 0, cells := 0, slots := 0, locals := 0 }) (va_Pc [.ref ca, .int (nI x), .int (nI y)] (fun U => xB g [(ca, .inr (2, [c0, c1, c2, .ref ce, c4, c5])), (ce, .inl (xZ g, 24, .inl (fun j => iI (cex j))))] sz U)) (va_Qi (fun (r : Int32) (_ : Unit) => (r = 1 ∧ (cAh cex x y)) ∨ (r = 0 ∧ ¬ (cAh cex x y))) (fun (_ : Unit) (_ : State) => True) (va_A [] sz)) 0 0 (va_A [] sz) := by
  refine Met.ofW (cc := cX2_isMovedAhead) (maxL := 3) (ret := (some .boolean)) (by decide) rfl ?_
  intro p e s m args below meth c s₁ B hml hv
  obtain ⟨rfl, hsz, hP, hK, hD0⟩ := hv
  have hx := B.exec
  have hb := B.bytes
  have hr := B.returns
  have hts := atoms_spec (ws := wsX2_isMovedAhead) B.pre
  have hown : s.vm.findClass RX2 = some m.cls := findClass_of_methodNamed B.named
  have hlocks := B.notSynchronized
  subst hsz
  have hD := hD0
  generalize hAe : va_A [] s.heap.size = A
  have hA : ∀ q : Nat, s.heap.size ≤ q → A q := fun q h => by rw [← hAe]; exact Or.inr h
  have hS : va_S A s.heap s.heap [] := va_S.rf
  have hl := lv_entry ([.ref ca, .int (nI x), .int (nI y)]) (n := 3) (Nat.le_of_ble_eq_true rfl)
  rw [lg_entry_eq]
  generalize (lg_sl ([.ref ca, .int (nI x), .int (nI y)]) ++ List.replicate (3 - (lg_sl ([.ref ca, .int (nI x), .int (nI y)])).length) Slot.unset).toArray = ls at hl ⊢
  have hl : lv_has ls 3 [(0, .ref ca), (1, .int (nI x)), (2, .int (nI y))] := hl
  have hFX2 : ∀ w ∈ u_ws RX2 TX2 6, w ∈ wsX2_isMovedAhead := by decide +kernel
  refine lv_aload_n hx hb dX2_isMovedAhead_0 rfl (lv_at hl 0 rfl) ?_
  refine va_get (D := xD g) (ci := 2) (v := .ref ce) (C := RX2) (T := TX2) (N := 6) hx hb hts hFX2 hown hK hP 0 rfl rfl 3 (by decide) (hts (.fieldLink RX2 18 "Stevedore$Cargo" "isExport" "[Z") (by decide +kernel)) (fun _ h9 => h9) rfl dX2_isMovedAhead_1 ?_
  refine lv_iload_n hx hb dX2_isMovedAhead_4 rfl (lv_at hl 1 rfl) ?_
  refine va_zald hx hb hK hP 1 1 rfl rfl (vp_in_nI (by omega) (by omega)) dX2_isMovedAhead_5 ?_
  refine lv_topi (fun v_1 ev => ?_)
  obtain rfl : v_1 = iI (cex x) := ev.trans (congrArg (fun q9 => iI (cex q9)) (nI_clamp (by omega)))
  have b_2 := b_cex x
  refine lv_aload_n hx hb dX2_isMovedAhead_6 rfl (lv_at hl 0 rfl) ?_
  refine va_get (D := xD g) (ci := 2) (v := .ref ce) (C := RX2) (T := TX2) (N := 6) hx hb hts hFX2 hown hK hP 0 rfl rfl 3 (by decide) (hts (.fieldLink RX2 18 "Stevedore$Cargo" "isExport" "[Z") (by decide +kernel)) (fun _ h9 => h9) rfl dX2_isMovedAhead_7 ?_
  refine lv_iload_n hx hb dX2_isMovedAhead_10 rfl (lv_at hl 2 rfl) ?_
  refine va_zald hx hb hK hP 1 1 rfl rfl (vp_in_nI (by omega) (by omega)) dX2_isMovedAhead_11 ?_
  refine lv_topi (fun v_3 ev => ?_)
  obtain rfl : v_3 = iI (cex y) := ev.trans (congrArg (fun q9 => iI (cex q9)) (nI_clamp (by omega)))
  have b_4 := b_cex y
  refine lv_icmp_eq (tgt := 22) hx hb dX2_isMovedAhead_12 (by decide) (fun c_5 => ?_) (fun c_5 => ?_)
  · have nc_5 := (iEq (a := cex x) (b := cex y) rfl rfl (by omega)).mp c_5
    refine lv_iload_n hx hb dX2_isMovedAhead_22 rfl (lv_at hl 1 rfl) ?_
    refine lv_iload_n hx hb dX2_isMovedAhead_23 rfl (lv_at hl 2 rfl) ?_
    refine lv_icmp_ge (tgt := 31) hx hb dX2_isMovedAhead_24 (by decide) (fun c_6 => ?_) (fun c_6 => ?_)
    · have nc_6 := (nI_leI (a := y) (b := x) (by omega) (by omega)).mp c_6
      refine lv_iconst (v := 0) hx hb dX2_isMovedAhead_31 (by decide) ?_
      exact W.zret (v := 0) hx hb hr (by rfl) (fun t ht hW => ⟨⟨0, (), rfl, (by unfold cAh; first | (refine Or.inl ⟨rfl, ?_⟩; omega) | (refine Or.inr ⟨rfl, ?_⟩; omega)), trivial⟩, hS.F ht⟩) hS.2.2 dX2_isMovedAhead_32
    · have nc_6 := mt (nI_leI (a := y) (b := x) (by omega) (by omega)).mpr c_6
      refine lv_iconst (v := 1) hx hb dX2_isMovedAhead_27 (by decide) ?_
      refine lv_goto (tgt := 32) hx hb dX2_isMovedAhead_28 (by decide) ?_
      exact W.zret (v := 1) hx hb hr (by rfl) (fun t ht hW => ⟨⟨1, (), rfl, (by unfold cAh; first | (refine Or.inl ⟨rfl, ?_⟩; omega) | (refine Or.inr ⟨rfl, ?_⟩; omega)), trivial⟩, hS.F ht⟩) hS.2.2 dX2_isMovedAhead_32
  · have nc_5 := mt (iEq (a := cex x) (b := cex y) rfl rfl (by omega)).mpr c_5
    refine lv_aload_n hx hb dX2_isMovedAhead_15 rfl (lv_at hl 0 rfl) ?_
    refine va_get (D := xD g) (ci := 2) (v := .ref ce) (C := RX2) (T := TX2) (N := 6) hx hb hts hFX2 hown hK hP 0 rfl rfl 3 (by decide) (hts (.fieldLink RX2 18 "Stevedore$Cargo" "isExport" "[Z") (by decide +kernel)) (fun _ h9 => h9) rfl dX2_isMovedAhead_16 ?_
    refine lv_iload_n hx hb dX2_isMovedAhead_19 rfl (lv_at hl 2 rfl) ?_
    refine va_zald hx hb hK hP 1 1 rfl rfl (vp_in_nI (by omega) (by omega)) dX2_isMovedAhead_20 ?_
    refine lv_topi (fun v_7 ev => ?_)
    obtain rfl : v_7 = iI (cex y) := ev.trans (congrArg (fun q9 => iI (cex q9)) (nI_clamp (by omega)))
    have b_8 := b_cex y
    exact W.zret (v := iI (cex y)) hx hb hr (by have z := b_cex y; rcases (show cex y = 0 ∨ cex y = 1 by omega) with q | q; (rw [q]; rfl); (rw [q]; rfl)) (fun t ht hW => ⟨⟨iI (cex y), (), rfl, (by have z := b_cex y; rcases (show cex y = 0 ∨ cex y = 1 by omega) with q | q; (refine Or.inr ⟨by rw [q]; decide, ?_⟩; unfold cAh; omega); (refine Or.inl ⟨by rw [q]; decide, ?_⟩; unfold cAh; omega)), trivial⟩, hS.F ht⟩) hS.2.2 dX2_isMovedAhead_21
theorem dX2_turnInBay_0 : decode cX2_turnInBay 0 = .ok (.iconst 1, 1) := by decide +kernel
theorem dX2_turnInBay_1 : decode cX2_turnInBay 1 = .ok (.istore_n 2, 1) := by decide +kernel
theorem dX2_turnInBay_2 : decode cX2_turnInBay 2 = .ok (.iconst 0, 1) := by decide +kernel
theorem dX2_turnInBay_3 : decode cX2_turnInBay 3 = .ok (.istore_n 3, 1) := by decide +kernel
theorem dX2_turnInBay_4 : decode cX2_turnInBay 4 = .ok (.iload_n 3, 1) := by decide +kernel
theorem dX2_turnInBay_5 : decode cX2_turnInBay 5 = .ok (.aload_n 0, 1) := by decide +kernel
theorem dX2_turnInBay_6 : decode cX2_turnInBay 6 = .ok (.getfield 28, 3) := by decide +kernel
theorem dX2_turnInBay_9 : decode cX2_turnInBay 9 = .ok (.if_icmp .ge 51, 3) := by decide +kernel
theorem dX2_turnInBay_60 : decode cX2_turnInBay 60 = .ok (.iload_n 2, 1) := by decide +kernel
theorem dX2_turnInBay_61 : decode cX2_turnInBay 61 = .ok (.ireturn, 1) := by decide +kernel
theorem dX2_turnInBay_12 : decode cX2_turnInBay 12 = .ok (.aload_n 0, 1) := by decide +kernel
theorem dX2_turnInBay_13 : decode cX2_turnInBay 13 = .ok (.getfield 9, 3) := by decide +kernel
theorem dX2_turnInBay_16 : decode cX2_turnInBay 16 = .ok (.iload_n 3, 1) := by decide +kernel
theorem dX2_turnInBay_17 : decode cX2_turnInBay 17 = .ok (.iaload, 1) := by decide +kernel
theorem dX2_turnInBay_18 : decode cX2_turnInBay 18 = .ok (.aload_n 0, 1) := by decide +kernel
theorem dX2_turnInBay_19 : decode cX2_turnInBay 19 = .ok (.getfield 9, 3) := by decide +kernel
theorem dX2_turnInBay_22 : decode cX2_turnInBay 22 = .ok (.iload_n 1, 1) := by decide +kernel
theorem dX2_turnInBay_23 : decode cX2_turnInBay 23 = .ok (.iaload, 1) := by decide +kernel
theorem dX2_turnInBay_24 : decode cX2_turnInBay 24 = .ok (.if_icmp .ne 30, 3) := by decide +kernel
theorem dX2_turnInBay_54 : decode cX2_turnInBay 54 = .ok (.iinc 3 1, 3) := by decide +kernel
theorem dX2_turnInBay_57 : decode cX2_turnInBay 57 = .ok (.goto (-53), 3) := by decide +kernel
theorem dX2_turnInBay_27 : decode cX2_turnInBay 27 = .ok (.aload_n 0, 1) := by decide +kernel
theorem dX2_turnInBay_28 : decode cX2_turnInBay 28 = .ok (.getfield 15, 3) := by decide +kernel
theorem dX2_turnInBay_31 : decode cX2_turnInBay 31 = .ok (.iload_n 3, 1) := by decide +kernel
theorem dX2_turnInBay_32 : decode cX2_turnInBay 32 = .ok (.iaload, 1) := by decide +kernel
theorem dX2_turnInBay_33 : decode cX2_turnInBay 33 = .ok (.aload_n 0, 1) := by decide +kernel
theorem dX2_turnInBay_34 : decode cX2_turnInBay 34 = .ok (.getfield 15, 3) := by decide +kernel
theorem dX2_turnInBay_37 : decode cX2_turnInBay 37 = .ok (.iload_n 1, 1) := by decide +kernel
theorem dX2_turnInBay_38 : decode cX2_turnInBay 38 = .ok (.iaload, 1) := by decide +kernel
theorem dX2_turnInBay_39 : decode cX2_turnInBay 39 = .ok (.if_icmp .ne 15, 3) := by decide +kernel
theorem dX2_turnInBay_42 : decode cX2_turnInBay 42 = .ok (.aload_n 0, 1) := by decide +kernel
theorem dX2_turnInBay_43 : decode cX2_turnInBay 43 = .ok (.iload_n 3, 1) := by decide +kernel
theorem dX2_turnInBay_44 : decode cX2_turnInBay 44 = .ok (.iload_n 1, 1) := by decide +kernel
theorem dX2_turnInBay_45 : decode cX2_turnInBay 45 = .ok (.invokevirtual 32, 3) := by decide +kernel
set_option maxRecDepth 20000 in
theorem ggX2_turnInBay_X2_isMovedAhead : GoodIn wsX2_turnInBay wsX2_isMovedAhead := goodIn_r _ [8, 9, 10, 11, 12, 13, 14, 15] rfl (by decide +kernel)
set_option maxRecDepth 20000 in
theorem gX2_turnInBay_X2_isMovedAhead : GoodIn wsX2_turnInBay (wsV RX2 32 RX2 yX2_isMovedAhead wsX2_isMovedAhead) := goodIn_app (goodIn_of _ (by decide +kernel)) ggX2_turnInBay_X2_isMovedAhead
theorem dX2_turnInBay_48 : decode cX2_turnInBay 48 = .ok (.ifCond .eq 6, 3) := by decide +kernel
theorem dX2_turnInBay_51 : decode cX2_turnInBay 51 = .ok (.iinc 2 1, 3) := by decide +kernel
set_option maxHeartbeats 4000000 in
set_option maxRecDepth 100000 in
theorem c_turnInBay (l : Launch) (g : xG) (sz : Nat) (ca : Nat) (cv : Nat) (cb : Nat) (ce : Nat) (n : Nat) (c_ : Nat) (c4 : Value) (c5 : Value) (cve : Nat → Nat) (cba : Nat → Nat) (cex : Nat → Int)  (hn : n ≤ 24) (hc : c_ < 24) (b_cve : ∀ j, cve j ≤ 5) (b_cba : ∀ j, cba j ≤ 9) (b_cex : ∀ j, 0 ≤ cex j ∧ cex j ≤ 1) : Met l yX2_turnInBay wsX2_turnInBay ({ frames := 1, cells := 0, slots := 0, locals := 22 }) (va_Pc [.ref ca, .int (nI c_)] (fun U => xB g [(ca, .inr (2, [.int (nI n), .ref cv, .ref cb, .ref ce, c4, c5])), (cv, .inl (xI g, 24, .inl (fun j => nI (cve j)))), (cb, .inl (xI g, 24, .inl (fun j => nI (cba j)))), (ce, .inl (xZ g, 24, .inl (fun j => iI (cex j))))] sz U)) (va_Qi (fun (r : Int32) (_ : Unit) => r = nI (cTn cve cba cex c_ n)) (fun (_ : Unit) (_ : State) => True) (va_A [] sz)) 0 0 (va_A [] sz) := by
  refine Met.ofW (cc := cX2_turnInBay) (maxL := 4) (ret := (some .int)) (by decide) rfl ?_
  intro p e s m args below meth c s₁ B hml hv
  obtain ⟨rfl, hsz, hP, hK, hD0⟩ := hv
  have hx := B.exec
  have hb := B.bytes
  have hr := B.returns
  have hts := atoms_spec (ws := wsX2_turnInBay) B.pre
  have hown : s.vm.findClass RX2 = some m.cls := findClass_of_methodNamed B.named
  have hlocks := B.notSynchronized
  subst hsz
  have hD := hD0
  generalize hAe : va_A [] s.heap.size = A
  have hA : ∀ q : Nat, s.heap.size ≤ q → A q := fun q h => by rw [← hAe]; exact Or.inr h
  have hS : va_S A s.heap s.heap [] := va_S.rf
  have hl := lv_entry ([.ref ca, .int (nI c_)]) (n := 4) (Nat.le_of_ble_eq_true rfl)
  rw [lg_entry_eq]
  generalize (lg_sl ([.ref ca, .int (nI c_)]) ++ List.replicate (4 - (lg_sl ([.ref ca, .int (nI c_)])).length) Slot.unset).toArray = ls at hl ⊢
  have hl : lv_has ls 4 [(0, .ref ca), (1, .int (nI c_))] := hl
  have hFX2 : ∀ w ∈ u_ws RX2 TX2 6, w ∈ wsX2_turnInBay := by decide +kernel
  refine lv_iconst (v := 1) hx hb dX2_turnInBay_0 (by decide) ?_
  refine lv_istore_n (lv' := [(2, .int 1), (0, .ref ca), (1, .int (nI c_))]) hx hb dX2_turnInBay_1 rfl hl (by decide) rfl (fun ls hl => ?_)
  refine lv_iconst (v := 0) hx hb dX2_turnInBay_2 (by decide) ?_
  refine lv_istore_n (lv' := [(3, .int 0), (2, .int 1), (0, .ref ca), (1, .int (nI c_))]) hx hb dX2_turnInBay_3 rfl hl (by decide) rfl (fun ls hl => ?_)
  have hloop4 : ∀ (n9 : Nat) (k : Nat) (tn : Nat) (H : Heap) (locs : List Loc) (ls : Array Slot), n - k < n9 → (k ≤ n) → (tn = cTn cve cba cex c_ k) → va_P (xD g) vwCl [(ca, .inr (2, [.int (nI n), .ref cv, .ref cb, .ref ce, c4, c5])), (cv, .inl (xI g, 24, .inl (fun j => nI (cve j)))), (cb, .inl (xI g, 24, .inl (fun j => nI (cba j)))), (ce, .inl (xZ g, 24, .inl (fun j => iI (cex j))))] H → va_D (fun _ => True) [(ca, .inr (2, [.int (nI n), .ref cv, .ref cb, .ref ce, c4, c5])), (cv, .inl (xI g, 24, .inl (fun j => nI (cve j)))), (cb, .inl (xI g, 24, .inl (fun j => nI (cba j)))), (ce, .inl (xZ g, 24, .inl (fun j => iI (cex j))))] → va_S A s.heap H locs → lv_has ls 4 [(3, .int (nI k)), (0, .ref ca), (1, .int (nI c_)), (2, .int (nI tn))] → W p l e (headSpec wsX2_turnInBay ({ frames := 1, cells := 0, slots := 0, locals := 22 })).room s m ([.ref ca, .int (nI c_)] : List Value).toArray below meth c H locs 0 0 (MQ below (va_Qi (fun (r : Int32) (_ : Unit) => r = nI (cTn cve cba cex c_ n)) (fun (_ : Unit) (_ : State) => True) (A)) ([.ref ca, .int (nI c_)] : List Value).toArray s 0 0 A) (F0 m 4 ls []) := by
    intro n9
    induction n9 with
    | zero =>
      intro k tn H locs ls hm hk htn hP hD hS hl
      exact absurd hm (Nat.not_lt_zero _)
    | succ n9 ih4 =>
      intro k tn H locs ls hm hk htn hP hD hS hl
      refine lv_iload_n hx hb dX2_turnInBay_4 rfl (lv_at hl 0 rfl) ?_
      refine lv_aload_n hx hb dX2_turnInBay_5 rfl (lv_at hl 1 rfl) ?_
      refine va_get (D := xD g) (ci := 2) (v := .int (nI n)) (C := RX2) (T := TX2) (N := 6) hx hb hts hFX2 hown hK hP 0 rfl rfl 0 (by decide) (hts (.fieldLink RX2 28 "Stevedore$Cargo" "count" "I") (by decide +kernel)) (fun _ h9 => h9) rfl dX2_turnInBay_6 ?_
      refine lv_icmp_ge (tgt := 60) hx hb dX2_turnInBay_9 (by decide) (fun c_1 => ?_) (fun c_1 => ?_)
      · have nc_1 := (nI_leI (a := n) (b := k) (by omega) (by omega)).mp c_1
        refine lv_iload_n hx hb dX2_turnInBay_60 rfl (lv_at hl 3 rfl) ?_
        exact W.iret (v := nI tn) hx hb hr (fun t ht hW => ⟨⟨nI tn, (), rfl, (by obtain rfl : k = n := (by omega); rw [htn]), trivial⟩, hS.F ht⟩) hS.2.2 dX2_turnInBay_61
      · have nc_1 := mt (nI_leI (a := n) (b := k) (by omega) (by omega)).mpr c_1
        refine lv_aload_n hx hb dX2_turnInBay_12 rfl (lv_at hl 1 rfl) ?_
        refine va_get (D := xD g) (ci := 2) (v := .ref cv) (C := RX2) (T := TX2) (N := 6) hx hb hts hFX2 hown hK hP 0 rfl rfl 1 (by decide) (hts (.fieldLink RX2 9 "Stevedore$Cargo" "vessel" "[I") (by decide +kernel)) (fun _ h9 => h9) rfl dX2_turnInBay_13 ?_
        refine lv_iload_n hx hb dX2_turnInBay_16 rfl (lv_at hl 0 rfl) ?_
        refine va_iald hx hb hK hP 1 0 rfl rfl (vp_in_nI (by omega) (by omega)) dX2_turnInBay_17 ?_
        refine lv_topi (fun v_2 ev => ?_)
        obtain rfl : v_2 = nI (cve k) := ev.trans (congrArg (fun q9 => nI (cve q9)) (nI_clamp (by omega)))
        have b_3 := b_cve k
        refine lv_aload_n hx hb dX2_turnInBay_18 rfl (lv_at hl 1 rfl) ?_
        refine va_get (D := xD g) (ci := 2) (v := .ref cv) (C := RX2) (T := TX2) (N := 6) hx hb hts hFX2 hown hK hP 0 rfl rfl 1 (by decide) (hts (.fieldLink RX2 9 "Stevedore$Cargo" "vessel" "[I") (by decide +kernel)) (fun _ h9 => h9) rfl dX2_turnInBay_19 ?_
        refine lv_iload_n hx hb dX2_turnInBay_22 rfl (lv_at hl 2 rfl) ?_
        refine va_iald hx hb hK hP 1 0 rfl rfl (vp_in_nI (by omega) (by omega)) dX2_turnInBay_23 ?_
        refine lv_topi (fun v_4 ev => ?_)
        obtain rfl : v_4 = nI (cve c_) := ev.trans (congrArg (fun q9 => nI (cve q9)) (nI_clamp (by omega)))
        have b_5 := b_cve c_
        refine lv_icmp_ne (tgt := 54) hx hb dX2_turnInBay_24 (by decide) (fun c_6 => ?_) (fun c_6 => ?_)
        · have nc_6 := mt (nI_eq (a := cve k) (b := cve c_) (by omega) (by omega)).mpr c_6
          refine lv_iinc (v := nI (k + 1)) (lv' := [(3, .int (nI (k + 1))), (0, .ref ca), (1, .int (nI c_)), (2, .int (nI tn))]) hx hb dX2_turnInBay_54 hl (k := 0) rfl (nI_add k 1) (by decide) rfl (fun ls hl => ?_)
          refine lv_goto (tgt := 4) hx hb dX2_turnInBay_57 (by decide) ?_
          exact ih4 (k + 1) tn _ _ _ (by omega) (by omega) (by simp only [cTn]; first | (rw [if_pos ⟨by omega, by omega, by assumption⟩]; omega) | (rw [if_neg (fun q => by obtain ⟨q1, q2, q3⟩ := q; first | omega | contradiction)]; omega)) hP hD hS (lv_sub hl [0, 1, 2, 3] rfl)
        · have nc_6 := (nI_eq (a := cve k) (b := cve c_) (by omega) (by omega)).mp c_6
          refine lv_aload_n hx hb dX2_turnInBay_27 rfl (lv_at hl 1 rfl) ?_
          refine va_get (D := xD g) (ci := 2) (v := .ref cb) (C := RX2) (T := TX2) (N := 6) hx hb hts hFX2 hown hK hP 0 rfl rfl 2 (by decide) (hts (.fieldLink RX2 15 "Stevedore$Cargo" "bay" "[I") (by decide +kernel)) (fun _ h9 => h9) rfl dX2_turnInBay_28 ?_
          refine lv_iload_n hx hb dX2_turnInBay_31 rfl (lv_at hl 0 rfl) ?_
          refine va_iald hx hb hK hP 2 0 rfl rfl (vp_in_nI (by omega) (by omega)) dX2_turnInBay_32 ?_
          refine lv_topi (fun v_7 ev => ?_)
          obtain rfl : v_7 = nI (cba k) := ev.trans (congrArg (fun q9 => nI (cba q9)) (nI_clamp (by omega)))
          have b_8 := b_cba k
          refine lv_aload_n hx hb dX2_turnInBay_33 rfl (lv_at hl 1 rfl) ?_
          refine va_get (D := xD g) (ci := 2) (v := .ref cb) (C := RX2) (T := TX2) (N := 6) hx hb hts hFX2 hown hK hP 0 rfl rfl 2 (by decide) (hts (.fieldLink RX2 15 "Stevedore$Cargo" "bay" "[I") (by decide +kernel)) (fun _ h9 => h9) rfl dX2_turnInBay_34 ?_
          refine lv_iload_n hx hb dX2_turnInBay_37 rfl (lv_at hl 2 rfl) ?_
          refine va_iald hx hb hK hP 2 0 rfl rfl (vp_in_nI (by omega) (by omega)) dX2_turnInBay_38 ?_
          refine lv_topi (fun v_9 ev => ?_)
          obtain rfl : v_9 = nI (cba c_) := ev.trans (congrArg (fun q9 => nI (cba q9)) (nI_clamp (by omega)))
          have b_10 := b_cba c_
          refine lv_icmp_ne (tgt := 54) hx hb dX2_turnInBay_39 (by decide) (fun c_11 => ?_) (fun c_11 => ?_)
          · have nc_11 := mt (nI_eq (a := cba k) (b := cba c_) (by omega) (by omega)).mpr c_11
            refine lv_iinc (v := nI (k + 1)) (lv' := [(3, .int (nI (k + 1))), (0, .ref ca), (1, .int (nI c_)), (2, .int (nI tn))]) hx hb dX2_turnInBay_54 hl (k := 0) rfl (nI_add k 1) (by decide) rfl (fun ls hl => ?_)
            refine lv_goto (tgt := 4) hx hb dX2_turnInBay_57 (by decide) ?_
            exact ih4 (k + 1) tn _ _ _ (by omega) (by omega) (by simp only [cTn]; first | (rw [if_pos ⟨by omega, by omega, by assumption⟩]; omega) | (rw [if_neg (fun q => by obtain ⟨q1, q2, q3⟩ := q; first | omega | contradiction)]; omega)) hP hD hS (lv_sub hl [0, 1, 2, 3] rfl)
          · have nc_11 := (nI_eq (a := cba k) (b := cba c_) (by omega) (by omega)).mp c_11
            refine lv_aload_n hx hb dX2_turnInBay_42 rfl (lv_at hl 1 rfl) ?_
            refine lv_iload_n hx hb dX2_turnInBay_43 rfl (lv_at hl 0 rfl) ?_
            refine lv_iload_n hx hb dX2_turnInBay_44 rfl (lv_at hl 2 rfl) ?_
            have hPc := hP.sub (ws' := [(ca, .inr (2, [.int (nI n), .ref cv, .ref cb, .ref ce, c4, c5])), (ce, .inl (xZ g, 24, .inl (fun j => iI (cex j))))]) [0, 3] rfl
            have hDc := hD.sub (ws' := [(ca, .inr (2, [.int (nI n), .ref cv, .ref cb, .ref ce, c4, c5])), (ce, .inl (xZ g, 24, .inl (fun j => iI (cex j))))]) [0, 3] (by decide) rfl
            have hFc := xFree hS hA
            refine va_calli (va_runV (As := [.int (nI k), .int (nI c_)]) (rest := []) ⟨hx, hb, hml, hown, hts⟩ (c_isMovedAhead l g H.size ca ce k c_ (.int (nI n)) (.ref cv) (.ref cb) c4 c5 cex (by first | assumption | omega) (by first | assumption | omega) b_cex) (cwV 2 hts gX2_turnInBay_X2_isMovedAhead rfl rfl rfl (by decide +kernel) ⟨Nat.le_of_ble_eq_true rfl, Nat.le_of_ble_eq_true rfl⟩) ⟨xB.blind, va_recv hK hPc (ci := 2) (q0 := 0) rfl rfl, fun U9 hU9 hW9 => ⟨rfl, xB.mk hPc hK hDc hU9 hW9⟩⟩ rfl rfl hl.1 rfl (lv_room (Nat.le_of_ble_eq_true rfl)) dX2_turnInBay_45 ⟨Nat.le_of_ble_eq_true rfl, Nat.le_of_ble_eq_true rfl⟩) hS (fun q _ h => hFc q h) hFc (fun r_12 _ t H1 locs ht hvm hw_13 hB hz1 hk1 hS => ?_)
            have hP := xSame hP hk1
            generalize H1 = H at hP hS ⊢
            have hP : va_P (xD g) vwCl [(ca, .inr (2, [.int (nI n), .ref cv, .ref cb, .ref ce, c4, c5])), (cv, .inl (xI g, 24, .inl (fun j => nI (cve j)))), (cb, .inl (xI g, 24, .inl (fun j => nI (cba j)))), (ce, .inl (xZ g, 24, .inl (fun j => iI (cex j))))] H := hP
            have hD : va_D (fun _ => True) [(ca, .inr (2, [.int (nI n), .ref cv, .ref cb, .ref ce, c4, c5])), (cv, .inl (xI g, 24, .inl (fun j => nI (cve j)))), (cb, .inl (xI g, 24, .inl (fun j => nI (cba j)))), (ce, .inl (xZ g, 24, .inl (fun j => iI (cex j))))] := hD
            try dsimp only at hw_13
            rcases hw_13 with ⟨rfl, hw_13⟩ | ⟨rfl, hw_13⟩
            · refine lv_if_eq (tgt := 54) hx hb dX2_turnInBay_48 (by decide) (fun c0 => absurd c0 (by decide)) (fun _ => ?_)
              refine lv_iinc (v := nI (tn + 1)) (lv' := [(2, .int (nI (tn + 1))), (3, .int (nI k)), (0, .ref ca), (1, .int (nI c_))]) hx hb dX2_turnInBay_51 hl (k := 3) rfl (nI_add tn 1) (by decide) rfl (fun ls hl => ?_)
              refine lv_iinc (v := nI (k + 1)) (lv' := [(3, .int (nI (k + 1))), (2, .int (nI (tn + 1))), (0, .ref ca), (1, .int (nI c_))]) hx hb dX2_turnInBay_54 hl (k := 1) rfl (nI_add k 1) (by decide) rfl (fun ls hl => ?_)
              refine lv_goto (tgt := 4) hx hb dX2_turnInBay_57 (by decide) ?_
              exact ih4 (k + 1) (tn + 1) _ _ _ (by omega) (by omega) (by simp only [cTn]; first | (rw [if_pos ⟨by omega, by omega, by assumption⟩]; omega) | (rw [if_neg (fun q => by obtain ⟨q1, q2, q3⟩ := q; first | omega | contradiction)]; omega)) hP hD hS (lv_sub hl [0, 2, 3, 1] rfl)
            · refine lv_if_eq (tgt := 54) hx hb dX2_turnInBay_48 (by decide) (fun _ => ?_) (fun c0 => absurd (by decide) c0)
              refine lv_iinc (v := nI (k + 1)) (lv' := [(3, .int (nI (k + 1))), (0, .ref ca), (1, .int (nI c_)), (2, .int (nI tn))]) hx hb dX2_turnInBay_54 hl (k := 0) rfl (nI_add k 1) (by decide) rfl (fun ls hl => ?_)
              refine lv_goto (tgt := 4) hx hb dX2_turnInBay_57 (by decide) ?_
              exact ih4 (k + 1) tn _ _ _ (by omega) (by omega) (by simp only [cTn]; first | (rw [if_pos ⟨by omega, by omega, by assumption⟩]; omega) | (rw [if_neg (fun q => by obtain ⟨q1, q2, q3⟩ := q; first | omega | contradiction)]; omega)) hP hD hS (lv_sub hl [0, 1, 2, 3] rfl)
  exact hloop4 (n + 1) 0 1 _ _ _ (by omega) (Nat.zero_le _) rfl hP hD hS (by rw [(show nI 0 = (0 : Int32) from by decide), (show nI 1 = (1 : Int32) from by decide)]; exact lv_sub hl [0, 2, 3, 1] rfl)
