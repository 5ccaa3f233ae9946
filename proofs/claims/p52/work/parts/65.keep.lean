theorem dX4_copyFrom_0 : decode cX4_copyFrom 0 = .ok (.aload_n 1, 1) := by decide +kernel
theorem dX4_copyFrom_1 : decode cX4_copyFrom 1 = .ok (.getfield 9, 3) := by decide +kernel
theorem dX4_copyFrom_4 : decode cX4_copyFrom 4 = .ok (.iconst 0, 1) := by decide +kernel
theorem dX4_copyFrom_5 : decode cX4_copyFrom 5 = .ok (.aload_n 0, 1) := by decide +kernel
theorem dX4_copyFrom_6 : decode cX4_copyFrom 6 = .ok (.getfield 9, 3) := by decide +kernel
theorem dX4_copyFrom_9 : decode cX4_copyFrom 9 = .ok (.iconst 0, 1) := by decide +kernel
theorem dX4_copyFrom_10 : decode cX4_copyFrom 10 = .ok (.bipush 6, 2) := by decide +kernel
theorem dX4_copyFrom_12 : decode cX4_copyFrom 12 = .ok (.invokestatic 21, 3) := by decide +kernel
theorem dX4_copyFrom_15 : decode cX4_copyFrom 15 = .ok (.aload_n 1, 1) := by decide +kernel
theorem dX4_copyFrom_16 : decode cX4_copyFrom 16 = .ok (.getfield 15, 3) := by decide +kernel
theorem dX4_copyFrom_19 : decode cX4_copyFrom 19 = .ok (.iconst 0, 1) := by decide +kernel
theorem dX4_copyFrom_20 : decode cX4_copyFrom 20 = .ok (.aload_n 0, 1) := by decide +kernel
theorem dX4_copyFrom_21 : decode cX4_copyFrom 21 = .ok (.getfield 15, 3) := by decide +kernel
theorem dX4_copyFrom_24 : decode cX4_copyFrom 24 = .ok (.iconst 0, 1) := by decide +kernel
theorem dX4_copyFrom_25 : decode cX4_copyFrom 25 = .ok (.bipush 6, 2) := by decide +kernel
theorem dX4_copyFrom_27 : decode cX4_copyFrom 27 = .ok (.invokestatic 21, 3) := by decide +kernel
theorem dX4_copyFrom_30 : decode cX4_copyFrom 30 = .ok (.aload_n 1, 1) := by decide +kernel
theorem dX4_copyFrom_31 : decode cX4_copyFrom 31 = .ok (.getfield 18, 3) := by decide +kernel
theorem dX4_copyFrom_34 : decode cX4_copyFrom 34 = .ok (.iconst 0, 1) := by decide +kernel
theorem dX4_copyFrom_35 : decode cX4_copyFrom 35 = .ok (.aload_n 0, 1) := by decide +kernel
theorem dX4_copyFrom_36 : decode cX4_copyFrom 36 = .ok (.getfield 18, 3) := by decide +kernel
theorem dX4_copyFrom_39 : decode cX4_copyFrom 39 = .ok (.iconst 0, 1) := by decide +kernel
theorem dX4_copyFrom_40 : decode cX4_copyFrom 40 = .ok (.bipush 6, 2) := by decide +kernel
theorem dX4_copyFrom_42 : decode cX4_copyFrom 42 = .ok (.invokestatic 21, 3) := by decide +kernel
theorem dX4_copyFrom_45 : decode cX4_copyFrom 45 = .ok (.return_, 1) := by decide +kernel
set_option maxHeartbeats 4000000 in
set_option maxRecDepth 100000 in
theorem p_copyFrom (l : Launch) (g : xG) (sz : Nat) (pn : Nat) (po : Nat) (ps : Nat) (pp : Nat) (tr : Nat) (to_ : Nat) (ts : Nat) (tp : Nat) (q0 : Value) (t0 : Value) (qrd : Nat → Nat) (qta : Nat → Int) (qla : Nat → Int) (ord : Nat → Nat) (sta : Nat → Int) (pla : Nat → Int)  (b_qrd : ∀ j, qrd j ≤ 5) (b_qta : ∀ j, 0 ≤ qta j ∧ qta j ≤ 1000000) (b_qla : ∀ j, (-1) ≤ qla j ∧ qla j ≤ 60) (b_ord : ∀ j, ord j ≤ 5) (b_sta : ∀ j, 0 ≤ sta j ∧ sta j ≤ 1000000) (b_pla : ∀ j, (-1) ≤ pla j ∧ pla j ≤ 60) : Met l yX4_copyFrom wsX4_copyFrom ({ frames := 1, cells := 0, slots := 0, locals := 60 }) (va_Pc [.ref pn, .ref tr] (fun U => xB g [(pn, .inr (4, [q0, .ref po, .ref ps, .ref pp])), (po, .inl (xI g, 6, .inl (fun j => nI (qrd j)))), (ps, .inl (xI g, 6, .inl (fun j => iI (qta j)))), (pp, .inl (xI g, 6, .inl (fun j => iI (qla j)))), (tr, .inr (4, [t0, .ref to_, .ref ts, .ref tp])), (to_, .inl (xI g, 6, .inl (fun j => nI (ord j)))), (ts, .inl (xI g, 6, .inl (fun j => iI (sta j)))), (tp, .inl (xI g, 6, .inl (fun j => iI (pla j))))] sz U)) (va_Qv (fun (_ : Unit) => True) (fun (_ : Unit) (t : State) => xE g [(pn, .inr (4, [q0, .ref po, .ref ps, .ref pp])), (po, .inl (xI g, 6, .inl (fun j => nI (ord j)))), (ps, .inl (xI g, 6, .inl (fun j => iI (sta j)))), (pp, .inl (xI g, 6, .inl (fun j => iI (pla j)))), (tr, .inr (4, [t0, .ref to_, .ref ts, .ref tp])), (to_, .inl (xI g, 6, .inl (fun j => nI (ord j)))), (ts, .inl (xI g, 6, .inl (fun j => iI (sta j)))), (tp, .inl (xI g, 6, .inl (fun j => iI (pla j))))] (va_A [(pn, .inr (4, [q0, .ref po, .ref ps, .ref pp])), (po, .inl (xI g, 6, .inl (fun j => nI (qrd j)))), (ps, .inl (xI g, 6, .inl (fun j => iI (qta j)))), (pp, .inl (xI g, 6, .inl (fun j => iI (qla j)))), (tr, .inr (4, [t0, .ref to_, .ref ts, .ref tp])), (to_, .inl (xI g, 6, .inl (fun j => nI (ord j)))), (ts, .inl (xI g, 6, .inl (fun j => iI (sta j)))), (tp, .inl (xI g, 6, .inl (fun j => iI (pla j))))] sz) t) (va_A [(pn, .inr (4, [q0, .ref po, .ref ps, .ref pp])), (po, .inl (xI g, 6, .inl (fun j => nI (qrd j)))), (ps, .inl (xI g, 6, .inl (fun j => iI (qta j)))), (pp, .inl (xI g, 6, .inl (fun j => iI (qla j)))), (tr, .inr (4, [t0, .ref to_, .ref ts, .ref tp])), (to_, .inl (xI g, 6, .inl (fun j => nI (ord j)))), (ts, .inl (xI g, 6, .inl (fun j => iI (sta j)))), (tp, .inl (xI g, 6, .inl (fun j => iI (pla j))))] sz)) 0 0 (va_A [(pn, .inr (4, [q0, .ref po, .ref ps, .ref pp])), (po, .inl (xI g, 6, .inl (fun j => nI (qrd j)))), (ps, .inl (xI g, 6, .inl (fun j => iI (qta j)))), (pp, .inl (xI g, 6, .inl (fun j => iI (qla j)))), (tr, .inr (4, [t0, .ref to_, .ref ts, .ref tp])), (to_, .inl (xI g, 6, .inl (fun j => nI (ord j)))), (ts, .inl (xI g, 6, .inl (fun j => iI (sta j)))), (tp, .inl (xI g, 6, .inl (fun j => iI (pla j))))] sz) := by
  refine Met.ofW (cc := cX4_copyFrom) (maxL := 2) (ret := none) (by decide) rfl ?_
  intro p e s m args below meth c s₁ B hml hv
  obtain ⟨rfl, hsz, hP, hK, hD0⟩ := hv
  have hx := B.exec
  have hb := B.bytes
  have hr := B.returns
  have hts := atoms_spec (ws := wsX4_copyFrom) B.pre
  have hown : s.vm.findClass RX4 = some m.cls := findClass_of_methodNamed B.named
  have hlocks := B.notSynchronized
  subst hsz
  have hD := hD0.self (sz := s.heap.size)
  generalize hAe : va_A [(pn, .inr (4, [q0, .ref po, .ref ps, .ref pp])), (po, .inl (xI g, 6, .inl (fun j => nI (qrd j)))), (ps, .inl (xI g, 6, .inl (fun j => iI (qta j)))), (pp, .inl (xI g, 6, .inl (fun j => iI (qla j)))), (tr, .inr (4, [t0, .ref to_, .ref ts, .ref tp])), (to_, .inl (xI g, 6, .inl (fun j => nI (ord j)))), (ts, .inl (xI g, 6, .inl (fun j => iI (sta j)))), (tp, .inl (xI g, 6, .inl (fun j => iI (pla j))))] s.heap.size = A at hD ⊢
  have hA : ∀ q : Nat, s.heap.size ≤ q → A q := fun q h => by rw [← hAe]; exact Or.inr h
  have hS : va_S A s.heap s.heap [] := va_S.rf
  have hl := lv_entry ([.ref pn, .ref tr]) (n := 2) (Nat.le_of_ble_eq_true rfl)
  rw [lg_entry_eq]
  generalize (lg_sl ([.ref pn, .ref tr]) ++ List.replicate (2 - (lg_sl ([.ref pn, .ref tr])).length) Slot.unset).toArray = ls at hl ⊢
  have hl : lv_has ls 2 [(0, .ref pn), (1, .ref tr)] := hl
  have hFX4 : ∀ w ∈ u_ws RX4 TX4 4, w ∈ wsX4_copyFrom := by decide +kernel
  refine lv_aload_n hx hb dX4_copyFrom_0 rfl (lv_at hl 1 rfl) ?_
  refine va_get (D := xD g) (ci := 4) (v := .ref to_) (C := RX4) (T := TX4) (N := 4) hx hb hts hFX4 hown hK hP 4 rfl rfl 1 (by decide) (hts (.fieldLink RX4 9 "Stevedore$Plan" "order" "[I") (by decide +kernel)) (fun _ h9 => h9) rfl dX4_copyFrom_1 ?_
  refine lv_iconst (v := 0) hx hb dX4_copyFrom_4 (by decide) ?_
  refine lv_aload_n hx hb dX4_copyFrom_5 rfl (lv_at hl 0 rfl) ?_
  refine va_get (D := xD g) (ci := 4) (v := .ref po) (C := RX4) (T := TX4) (N := 4) hx hb hts hFX4 hown hK hP 0 rfl rfl 1 (by decide) (hts (.fieldLink RX4 9 "Stevedore$Plan" "order" "[I") (by decide +kernel)) (fun _ h9 => h9) rfl dX4_copyFrom_6 ?_
  refine lv_iconst (v := 0) hx hb dX4_copyFrom_9 (by decide) ?_
  refine lv_bipush (v := 6) hx hb dX4_copyFrom_10 (by decide) ?_
  refine va_copyi hx hb (by rw [hml]; exact hl.1.symm) hown (hts (.methodLink RX4 21 arraycopyName) (by decide +kernel)) (hts (.native arraycopyName) (by decide +kernel)) (hts (.static arraycopyName) (by decide +kernel)) (hts (.initialized "java/lang/System") (by decide +kernel)) hK hP hD hS 5 1 0 0 rfl rfl rfl rfl rfl (by decide) (by decide) (by decide) (by decide) (by decide) (fun _ _ => rfl) (Nat.le_of_ble_eq_true rfl) (Nat.le_of_ble_eq_true rfl) dX4_copyFrom_12 (fun H locs hP hD hS => ?_)
  have hP := xPnorm (k := 1) (f1 := (fun j => nI (ord j))) hP rfl (fun j hj => cpy_all (by decide) hj)
  have hD := xDnorm (k := 1) (f1 := (fun j => nI (ord j))) hD rfl
  have hb_1 : ∀ j, ord j ≤ 5 := (fun j => by have := b_ord j; omega)
  have hP : va_P (xD g) vwCl [(pn, .inr (4, [q0, .ref po, .ref ps, .ref pp])), (po, .inl (xI g, 6, .inl (fun j => nI (ord j)))), (ps, .inl (xI g, 6, .inl (fun j => iI (qta j)))), (pp, .inl (xI g, 6, .inl (fun j => iI (qla j)))), (tr, .inr (4, [t0, .ref to_, .ref ts, .ref tp])), (to_, .inl (xI g, 6, .inl (fun j => nI (ord j)))), (ts, .inl (xI g, 6, .inl (fun j => iI (sta j)))), (tp, .inl (xI g, 6, .inl (fun j => iI (pla j))))] H := hP
  have hD : va_D A [(pn, .inr (4, [q0, .ref po, .ref ps, .ref pp])), (po, .inl (xI g, 6, .inl (fun j => nI (ord j)))), (ps, .inl (xI g, 6, .inl (fun j => iI (qta j)))), (pp, .inl (xI g, 6, .inl (fun j => iI (qla j)))), (tr, .inr (4, [t0, .ref to_, .ref ts, .ref tp])), (to_, .inl (xI g, 6, .inl (fun j => nI (ord j)))), (ts, .inl (xI g, 6, .inl (fun j => iI (sta j)))), (tp, .inl (xI g, 6, .inl (fun j => iI (pla j))))] := hD
  refine lv_aload_n hx hb dX4_copyFrom_15 rfl (lv_at hl 1 rfl) ?_
  refine va_get (D := xD g) (ci := 4) (v := .ref ts) (C := RX4) (T := TX4) (N := 4) hx hb hts hFX4 hown hK hP 4 rfl rfl 2 (by decide) (hts (.fieldLink RX4 15 "Stevedore$Plan" "start" "[I") (by decide +kernel)) (fun _ h9 => h9) rfl dX4_copyFrom_16 ?_
  refine lv_iconst (v := 0) hx hb dX4_copyFrom_19 (by decide) ?_
  refine lv_aload_n hx hb dX4_copyFrom_20 rfl (lv_at hl 0 rfl) ?_
  refine va_get (D := xD g) (ci := 4) (v := .ref ps) (C := RX4) (T := TX4) (N := 4) hx hb hts hFX4 hown hK hP 0 rfl rfl 2 (by decide) (hts (.fieldLink RX4 15 "Stevedore$Plan" "start" "[I") (by decide +kernel)) (fun _ h9 => h9) rfl dX4_copyFrom_21 ?_
  refine lv_iconst (v := 0) hx hb dX4_copyFrom_24 (by decide) ?_
  refine lv_bipush (v := 6) hx hb dX4_copyFrom_25 (by decide) ?_
  refine va_copyi hx hb (by rw [hml]; exact hl.1.symm) hown (hts (.methodLink RX4 21 arraycopyName) (by decide +kernel)) (hts (.native arraycopyName) (by decide +kernel)) (hts (.static arraycopyName) (by decide +kernel)) (hts (.initialized "java/lang/System") (by decide +kernel)) hK hP hD hS 6 2 0 0 rfl rfl rfl rfl rfl (by decide) (by decide) (by decide) (by decide) (by decide) (fun _ _ => rfl) (Nat.le_of_ble_eq_true rfl) (Nat.le_of_ble_eq_true rfl) dX4_copyFrom_27 (fun H locs hP hD hS => ?_)
  have hP := xPnorm (k := 2) (f1 := (fun j => iI (sta j))) hP rfl (fun j hj => cpy_all (by decide) hj)
  have hD := xDnorm (k := 2) (f1 := (fun j => iI (sta j))) hD rfl
  have hb_2 : ∀ j, 0 ≤ sta j ∧ sta j ≤ 1000000 := (fun j => by have := b_sta j; omega)
  have hP : va_P (xD g) vwCl [(pn, .inr (4, [q0, .ref po, .ref ps, .ref pp])), (po, .inl (xI g, 6, .inl (fun j => nI (ord j)))), (ps, .inl (xI g, 6, .inl (fun j => iI (sta j)))), (pp, .inl (xI g, 6, .inl (fun j => iI (qla j)))), (tr, .inr (4, [t0, .ref to_, .ref ts, .ref tp])), (to_, .inl (xI g, 6, .inl (fun j => nI (ord j)))), (ts, .inl (xI g, 6, .inl (fun j => iI (sta j)))), (tp, .inl (xI g, 6, .inl (fun j => iI (pla j))))] H := hP
  have hD : va_D A [(pn, .inr (4, [q0, .ref po, .ref ps, .ref pp])), (po, .inl (xI g, 6, .inl (fun j => nI (ord j)))), (ps, .inl (xI g, 6, .inl (fun j => iI (sta j)))), (pp, .inl (xI g, 6, .inl (fun j => iI (qla j)))), (tr, .inr (4, [t0, .ref to_, .ref ts, .ref tp])), (to_, .inl (xI g, 6, .inl (fun j => nI (ord j)))), (ts, .inl (xI g, 6, .inl (fun j => iI (sta j)))), (tp, .inl (xI g, 6, .inl (fun j => iI (pla j))))] := hD
  refine lv_aload_n hx hb dX4_copyFrom_30 rfl (lv_at hl 1 rfl) ?_
  refine va_get (D := xD g) (ci := 4) (v := .ref tp) (C := RX4) (T := TX4) (N := 4) hx hb hts hFX4 hown hK hP 4 rfl rfl 3 (by decide) (hts (.fieldLink RX4 18 "Stevedore$Plan" "place" "[I") (by decide +kernel)) (fun _ h9 => h9) rfl dX4_copyFrom_31 ?_
  refine lv_iconst (v := 0) hx hb dX4_copyFrom_34 (by decide) ?_
  refine lv_aload_n hx hb dX4_copyFrom_35 rfl (lv_at hl 0 rfl) ?_
  refine va_get (D := xD g) (ci := 4) (v := .ref pp) (C := RX4) (T := TX4) (N := 4) hx hb hts hFX4 hown hK hP 0 rfl rfl 3 (by decide) (hts (.fieldLink RX4 18 "Stevedore$Plan" "place" "[I") (by decide +kernel)) (fun _ h9 => h9) rfl dX4_copyFrom_36 ?_
  refine lv_iconst (v := 0) hx hb dX4_copyFrom_39 (by decide) ?_
  refine lv_bipush (v := 6) hx hb dX4_copyFrom_40 (by decide) ?_
  refine va_copyi hx hb (by rw [hml]; exact hl.1.symm) hown (hts (.methodLink RX4 21 arraycopyName) (by decide +kernel)) (hts (.native arraycopyName) (by decide +kernel)) (hts (.static arraycopyName) (by decide +kernel)) (hts (.initialized "java/lang/System") (by decide +kernel)) hK hP hD hS 7 3 0 0 rfl rfl rfl rfl rfl (by decide) (by decide) (by decide) (by decide) (by decide) (fun _ _ => rfl) (Nat.le_of_ble_eq_true rfl) (Nat.le_of_ble_eq_true rfl) dX4_copyFrom_42 (fun H locs hP hD hS => ?_)
  have hP := xPnorm (k := 3) (f1 := (fun j => iI (pla j))) hP rfl (fun j hj => cpy_all (by decide) hj)
  have hD := xDnorm (k := 3) (f1 := (fun j => iI (pla j))) hD rfl
  have hb_3 : ∀ j, (-1) ≤ pla j ∧ pla j ≤ 60 := (fun j => by have := b_pla j; omega)
  have hP : va_P (xD g) vwCl [(pn, .inr (4, [q0, .ref po, .ref ps, .ref pp])), (po, .inl (xI g, 6, .inl (fun j => nI (ord j)))), (ps, .inl (xI g, 6, .inl (fun j => iI (sta j)))), (pp, .inl (xI g, 6, .inl (fun j => iI (pla j)))), (tr, .inr (4, [t0, .ref to_, .ref ts, .ref tp])), (to_, .inl (xI g, 6, .inl (fun j => nI (ord j)))), (ts, .inl (xI g, 6, .inl (fun j => iI (sta j)))), (tp, .inl (xI g, 6, .inl (fun j => iI (pla j))))] H := hP
  have hD : va_D A [(pn, .inr (4, [q0, .ref po, .ref ps, .ref pp])), (po, .inl (xI g, 6, .inl (fun j => nI (ord j)))), (ps, .inl (xI g, 6, .inl (fun j => iI (sta j)))), (pp, .inl (xI g, 6, .inl (fun j => iI (pla j)))), (tr, .inr (4, [t0, .ref to_, .ref ts, .ref tp])), (to_, .inl (xI g, 6, .inl (fun j => nI (ord j)))), (ts, .inl (xI g, 6, .inl (fun j => iI (sta j)))), (tp, .inl (xI g, 6, .inl (fun j => iI (pla j))))] := hD
  have hP9 := hP
  have hD9 := hD
  exact W.vret hx hb hr (fun t ht hW => ⟨⟨(), rfl, (by first | trivial | rfl | assumption | omega), ⟨by rw [ht]; exact hP9, va_K.moved hW.alike hK, hD9⟩⟩, hS.F ht⟩) hS.2.2 dX4_copyFrom_45
theorem dX1_keep_0 : decode cX1_keep 0 = .ok (.aload_n 0, 1) := by decide +kernel
theorem dX1_keep_1 : decode cX1_keep 1 = .ok (.iload_n 1, 1) := by decide +kernel
theorem dX1_keep_2 : decode cX1_keep 2 = .ok (.putfield 72, 3) := by decide +kernel
theorem dX1_keep_5 : decode cX1_keep 5 = .ok (.aload_n 0, 1) := by decide +kernel
theorem dX1_keep_6 : decode cX1_keep 6 = .ok (.iload_n 2, 1) := by decide +kernel
theorem dX1_keep_7 : decode cX1_keep 7 = .ok (.putfield 75, 3) := by decide +kernel
theorem dX1_keep_10 : decode cX1_keep 10 = .ok (.aload_n 0, 1) := by decide +kernel
theorem dX1_keep_11 : decode cX1_keep 11 = .ok (.getfield 41, 3) := by decide +kernel
theorem dX1_keep_14 : decode cX1_keep 14 = .ok (.aload_n 0, 1) := by decide +kernel
theorem dX1_keep_15 : decode cX1_keep 15 = .ok (.getfield 30, 3) := by decide +kernel
theorem dX1_keep_18 : decode cX1_keep 18 = .ok (.invokevirtual 103, 3) := by decide +kernel
set_option maxRecDepth 20000 in
theorem ggX1_keep_X4_copyFrom : GoodIn wsX1_keep wsX4_copyFrom := goodIn_r _ [9, 10, 11, 12, 13, 14, 15, 16, 31, 32, 33, 34] rfl (by decide +kernel)
set_option maxRecDepth 20000 in
theorem gX1_keep_X4_copyFrom : GoodIn wsX1_keep (wsV RX1 103 RX4 yX4_copyFrom wsX4_copyFrom) := goodIn_app (goodIn_of _ (by decide +kernel)) ggX1_keep_X4_copyFrom
theorem dX1_keep_21 : decode cX1_keep 21 = .ok (.return_, 1) := by decide +kernel
set_option maxHeartbeats 4000000 in
set_option maxRecDepth 100000 in
theorem b_keep (l : Launch) (g : xG) (sz : Nat) (bp : Nat) (pn : Nat) (po : Nat) (ps : Nat) (pp : Nat) (tr : Nat) (to_ : Nat) (ts : Nat) (tp : Nat) (dl : Int) (lt : Int) (bd : Int) (bl : Int) (p0 : Value) (p1 : Value) (p2 : Value) (p3 : Value) (p4 : Value) (p5 : Value) (p6 : Value) (p7 : Value) (p9 : Value) (p10 : Value) (q0 : Value) (t0 : Value) (qrd : Nat → Nat) (qta : Nat → Int) (qla : Nat → Int) (ord : Nat → Nat) (sta : Nat → Int) (pla : Nat → Int)  (b_qrd : ∀ j, qrd j ≤ 5) (b_qta : ∀ j, 0 ≤ qta j ∧ qta j ≤ 1000000) (b_qla : ∀ j, (-1) ≤ qla j ∧ qla j ≤ 60) (b_ord : ∀ j, ord j ≤ 5) (b_sta : ∀ j, 0 ≤ sta j ∧ sta j ≤ 1000000) (b_pla : ∀ j, (-1) ≤ pla j ∧ pla j ≤ 60) : Met l yX1_keep wsX1_keep ({ frames := 2, cells := 0, slots := 0, locals := 81 }) (va_Pc [.ref bp, .int (iI dl), .int (iI lt)] (fun U => xB g [(bp, .inr (1, [p0, p1, p2, p3, p4, p5, p6, p7, .ref tr, p9, p10, .ref pn, .int (iI bd), .int (iI bl)])), (pn, .inr (4, [q0, .ref po, .ref ps, .ref pp])), (po, .inl (xI g, 6, .inl (fun j => nI (qrd j)))), (ps, .inl (xI g, 6, .inl (fun j => iI (qta j)))), (pp, .inl (xI g, 6, .inl (fun j => iI (qla j)))), (tr, .inr (4, [t0, .ref to_, .ref ts, .ref tp])), (to_, .inl (xI g, 6, .inl (fun j => nI (ord j)))), (ts, .inl (xI g, 6, .inl (fun j => iI (sta j)))), (tp, .inl (xI g, 6, .inl (fun j => iI (pla j))))] sz U)) (va_Qv (fun (_ : Unit) => True) (fun (_ : Unit) (t : State) => xE g [(bp, .inr (1, [p0, p1, p2, p3, p4, p5, p6, p7, .ref tr, p9, p10, .ref pn, .int (iI dl), .int (iI lt)])), (pn, .inr (4, [q0, .ref po, .ref ps, .ref pp])), (po, .inl (xI g, 6, .inl (fun j => nI (ord j)))), (ps, .inl (xI g, 6, .inl (fun j => iI (sta j)))), (pp, .inl (xI g, 6, .inl (fun j => iI (pla j)))), (tr, .inr (4, [t0, .ref to_, .ref ts, .ref tp])), (to_, .inl (xI g, 6, .inl (fun j => nI (ord j)))), (ts, .inl (xI g, 6, .inl (fun j => iI (sta j)))), (tp, .inl (xI g, 6, .inl (fun j => iI (pla j))))] (va_A [(bp, .inr (1, [p0, p1, p2, p3, p4, p5, p6, p7, .ref tr, p9, p10, .ref pn, .int (iI bd), .int (iI bl)])), (pn, .inr (4, [q0, .ref po, .ref ps, .ref pp])), (po, .inl (xI g, 6, .inl (fun j => nI (qrd j)))), (ps, .inl (xI g, 6, .inl (fun j => iI (qta j)))), (pp, .inl (xI g, 6, .inl (fun j => iI (qla j)))), (tr, .inr (4, [t0, .ref to_, .ref ts, .ref tp])), (to_, .inl (xI g, 6, .inl (fun j => nI (ord j)))), (ts, .inl (xI g, 6, .inl (fun j => iI (sta j)))), (tp, .inl (xI g, 6, .inl (fun j => iI (pla j))))] sz) t) (va_A [(bp, .inr (1, [p0, p1, p2, p3, p4, p5, p6, p7, .ref tr, p9, p10, .ref pn, .int (iI bd), .int (iI bl)])), (pn, .inr (4, [q0, .ref po, .ref ps, .ref pp])), (po, .inl (xI g, 6, .inl (fun j => nI (qrd j)))), (ps, .inl (xI g, 6, .inl (fun j => iI (qta j)))), (pp, .inl (xI g, 6, .inl (fun j => iI (qla j)))), (tr, .inr (4, [t0, .ref to_, .ref ts, .ref tp])), (to_, .inl (xI g, 6, .inl (fun j => nI (ord j)))), (ts, .inl (xI g, 6, .inl (fun j => iI (sta j)))), (tp, .inl (xI g, 6, .inl (fun j => iI (pla j))))] sz)) 0 0 (va_A [(bp, .inr (1, [p0, p1, p2, p3, p4, p5, p6, p7, .ref tr, p9, p10, .ref pn, .int (iI bd), .int (iI bl)])), (pn, .inr (4, [q0, .ref po, .ref ps, .ref pp])), (po, .inl (xI g, 6, .inl (fun j => nI (qrd j)))), (ps, .inl (xI g, 6, .inl (fun j => iI (qta j)))), (pp, .inl (xI g, 6, .inl (fun j => iI (qla j)))), (tr, .inr (4, [t0, .ref to_, .ref ts, .ref tp])), (to_, .inl (xI g, 6, .inl (fun j => nI (ord j)))), (ts, .inl (xI g, 6, .inl (fun j => iI (sta j)))), (tp, .inl (xI g, 6, .inl (fun j => iI (pla j))))] sz) := by
  refine Met.ofW (cc := cX1_keep) (maxL := 3) (ret := none) (by decide) rfl ?_
  intro p e s m args below meth c s₁ B hml hv
  obtain ⟨rfl, hsz, hP, hK, hD0⟩ := hv
  have hx := B.exec
  have hb := B.bytes
  have hr := B.returns
  have hts := atoms_spec (ws := wsX1_keep) B.pre
  have hown : s.vm.findClass RX1 = some m.cls := findClass_of_methodNamed B.named
  have hlocks := B.notSynchronized
  subst hsz
  have hD := hD0.self (sz := s.heap.size)
  generalize hAe : va_A [(bp, .inr (1, [p0, p1, p2, p3, p4, p5, p6, p7, .ref tr, p9, p10, .ref pn, .int (iI bd), .int (iI bl)])), (pn, .inr (4, [q0, .ref po, .ref ps, .ref pp])), (po, .inl (xI g, 6, .inl (fun j => nI (qrd j)))), (ps, .inl (xI g, 6, .inl (fun j => iI (qta j)))), (pp, .inl (xI g, 6, .inl (fun j => iI (qla j)))), (tr, .inr (4, [t0, .ref to_, .ref ts, .ref tp])), (to_, .inl (xI g, 6, .inl (fun j => nI (ord j)))), (ts, .inl (xI g, 6, .inl (fun j => iI (sta j)))), (tp, .inl (xI g, 6, .inl (fun j => iI (pla j))))] s.heap.size = A at hD ⊢
  have hA : ∀ q : Nat, s.heap.size ≤ q → A q := fun q h => by rw [← hAe]; exact Or.inr h
  have hS : va_S A s.heap s.heap [] := va_S.rf
  have hl := lv_entry ([.ref bp, .int (iI dl), .int (iI lt)]) (n := 3) (Nat.le_of_ble_eq_true rfl)
  rw [lg_entry_eq]
  generalize (lg_sl ([.ref bp, .int (iI dl), .int (iI lt)]) ++ List.replicate (3 - (lg_sl ([.ref bp, .int (iI dl), .int (iI lt)])).length) Slot.unset).toArray = ls at hl ⊢
  have hl : lv_has ls 3 [(0, .ref bp), (1, .int (iI dl)), (2, .int (iI lt))] := hl
  have hFX1 : ∀ w ∈ u_ws RX1 TX1 14, w ∈ wsX1_keep := by decide +kernel
  refine lv_aload_n hx hb dX1_keep_0 rfl (lv_at hl 0 rfl) ?_
  refine lv_iload_n hx hb dX1_keep_1 rfl (lv_at hl 1 rfl) ?_
  refine va_put (D := xD g) (ci := 1) (v := .int (iI dl)) (ty := .int) (C := RX1) (T := TX1) (N := 14) hx hb hts hFX1 tyX1 tyX1_ok nmX1 hown hK hP hD hS 0 rfl rfl 12 (by decide) (hts (.fieldLink RX1 72 "Stevedore$BerthPlanner" "bestDelay" "I") (by decide +kernel)) (fun _ h9 => h9) rfl (by decide +kernel) rfl rfl (Nat.le_of_ble_eq_true rfl) dX1_keep_2 (fun H locs hP hD hS => ?_)
  have hP : va_P (xD g) vwCl [(bp, .inr (1, [p0, p1, p2, p3, p4, p5, p6, p7, .ref tr, p9, p10, .ref pn, .int (iI dl), .int (iI bl)])), (pn, .inr (4, [q0, .ref po, .ref ps, .ref pp])), (po, .inl (xI g, 6, .inl (fun j => nI (qrd j)))), (ps, .inl (xI g, 6, .inl (fun j => iI (qta j)))), (pp, .inl (xI g, 6, .inl (fun j => iI (qla j)))), (tr, .inr (4, [t0, .ref to_, .ref ts, .ref tp])), (to_, .inl (xI g, 6, .inl (fun j => nI (ord j)))), (ts, .inl (xI g, 6, .inl (fun j => iI (sta j)))), (tp, .inl (xI g, 6, .inl (fun j => iI (pla j))))] H := hP
  have hD : va_D A [(bp, .inr (1, [p0, p1, p2, p3, p4, p5, p6, p7, .ref tr, p9, p10, .ref pn, .int (iI dl), .int (iI bl)])), (pn, .inr (4, [q0, .ref po, .ref ps, .ref pp])), (po, .inl (xI g, 6, .inl (fun j => nI (qrd j)))), (ps, .inl (xI g, 6, .inl (fun j => iI (qta j)))), (pp, .inl (xI g, 6, .inl (fun j => iI (qla j)))), (tr, .inr (4, [t0, .ref to_, .ref ts, .ref tp])), (to_, .inl (xI g, 6, .inl (fun j => nI (ord j)))), (ts, .inl (xI g, 6, .inl (fun j => iI (sta j)))), (tp, .inl (xI g, 6, .inl (fun j => iI (pla j))))] := hD
  refine lv_aload_n hx hb dX1_keep_5 rfl (lv_at hl 0 rfl) ?_
  refine lv_iload_n hx hb dX1_keep_6 rfl (lv_at hl 2 rfl) ?_
  refine va_put (D := xD g) (ci := 1) (v := .int (iI lt)) (ty := .int) (C := RX1) (T := TX1) (N := 14) hx hb hts hFX1 tyX1 tyX1_ok nmX1 hown hK hP hD hS 0 rfl rfl 13 (by decide) (hts (.fieldLink RX1 75 "Stevedore$BerthPlanner" "bestLatest" "I") (by decide +kernel)) (fun _ h9 => h9) rfl (by decide +kernel) rfl rfl (Nat.le_of_ble_eq_true rfl) dX1_keep_7 (fun H locs hP hD hS => ?_)
  have hP : va_P (xD g) vwCl [(bp, .inr (1, [p0, p1, p2, p3, p4, p5, p6, p7, .ref tr, p9, p10, .ref pn, .int (iI dl), .int (iI lt)])), (pn, .inr (4, [q0, .ref po, .ref ps, .ref pp])), (po, .inl (xI g, 6, .inl (fun j => nI (qrd j)))), (ps, .inl (xI g, 6, .inl (fun j => iI (qta j)))), (pp, .inl (xI g, 6, .inl (fun j => iI (qla j)))), (tr, .inr (4, [t0, .ref to_, .ref ts, .ref tp])), (to_, .inl (xI g, 6, .inl (fun j => nI (ord j)))), (ts, .inl (xI g, 6, .inl (fun j => iI (sta j)))), (tp, .inl (xI g, 6, .inl (fun j => iI (pla j))))] H := hP
  have hD : va_D A [(bp, .inr (1, [p0, p1, p2, p3, p4, p5, p6, p7, .ref tr, p9, p10, .ref pn, .int (iI dl), .int (iI lt)])), (pn, .inr (4, [q0, .ref po, .ref ps, .ref pp])), (po, .inl (xI g, 6, .inl (fun j => nI (qrd j)))), (ps, .inl (xI g, 6, .inl (fun j => iI (qta j)))), (pp, .inl (xI g, 6, .inl (fun j => iI (qla j)))), (tr, .inr (4, [t0, .ref to_, .ref ts, .ref tp])), (to_, .inl (xI g, 6, .inl (fun j => nI (ord j)))), (ts, .inl (xI g, 6, .inl (fun j => iI (sta j)))), (tp, .inl (xI g, 6, .inl (fun j => iI (pla j))))] := hD
  refine lv_aload_n hx hb dX1_keep_10 rfl (lv_at hl 0 rfl) ?_
  refine va_get (D := xD g) (ci := 1) (v := .ref pn) (C := RX1) (T := TX1) (N := 14) hx hb hts hFX1 hown hK hP 0 rfl rfl 11 (by decide) (hts (.fieldLink RX1 41 "Stevedore$BerthPlanner" "best" "LStevedore$Plan;") (by decide +kernel)) (fun _ h9 => h9) rfl dX1_keep_11 ?_
  refine lv_aload_n hx hb dX1_keep_14 rfl (lv_at hl 0 rfl) ?_
  refine va_get (D := xD g) (ci := 1) (v := .ref tr) (C := RX1) (T := TX1) (N := 14) hx hb hts hFX1 hown hK hP 0 rfl rfl 8 (by decide) (hts (.fieldLink RX1 30 "Stevedore$BerthPlanner" "trial" "LStevedore$Plan;") (by decide +kernel)) (fun _ h9 => h9) rfl dX1_keep_15 ?_
  have hPc := hP.sub (ws' := [(pn, .inr (4, [q0, .ref po, .ref ps, .ref pp])), (po, .inl (xI g, 6, .inl (fun j => nI (qrd j)))), (ps, .inl (xI g, 6, .inl (fun j => iI (qta j)))), (pp, .inl (xI g, 6, .inl (fun j => iI (qla j)))), (tr, .inr (4, [t0, .ref to_, .ref ts, .ref tp])), (to_, .inl (xI g, 6, .inl (fun j => nI (ord j)))), (ts, .inl (xI g, 6, .inl (fun j => iI (sta j)))), (tp, .inl (xI g, 6, .inl (fun j => iI (pla j))))]) [1, 2, 3, 4, 5, 6, 7, 8] rfl
  have hDc := hD.sub (ws' := [(pn, .inr (4, [q0, .ref po, .ref ps, .ref pp])), (po, .inl (xI g, 6, .inl (fun j => nI (qrd j)))), (ps, .inl (xI g, 6, .inl (fun j => iI (qta j)))), (pp, .inl (xI g, 6, .inl (fun j => iI (qla j)))), (tr, .inr (4, [t0, .ref to_, .ref ts, .ref tp])), (to_, .inl (xI g, 6, .inl (fun j => nI (ord j)))), (ts, .inl (xI g, 6, .inl (fun j => iI (sta j)))), (tp, .inl (xI g, 6, .inl (fun j => iI (pla j))))]) [1, 2, 3, 4, 5, 6, 7, 8] (by decide) rfl
  have hFc := va_free (wc := [(pn, .inr (4, [q0, .ref po, .ref ps, .ref pp])), (po, .inl (xI g, 6, .inl (fun j => nI (qrd j)))), (ps, .inl (xI g, 6, .inl (fun j => iI (qta j)))), (pp, .inl (xI g, 6, .inl (fun j => iI (qla j)))), (tr, .inr (4, [t0, .ref to_, .ref ts, .ref tp])), (to_, .inl (xI g, 6, .inl (fun j => nI (ord j)))), (ts, .inl (xI g, 6, .inl (fun j => iI (sta j)))), (tp, .inl (xI g, 6, .inl (fun j => iI (pla j))))]) hD hS hA [1, 2, 3, 4, 5, 6, 7, 8] rfl
  refine va_callv (va_runV (As := [.ref tr]) (rest := []) ⟨hx, hb, hml, hown, hts⟩ (p_copyFrom l g H.size pn po ps pp tr to_ ts tp q0 t0 qrd qta qla ord sta pla b_qrd b_qta b_qla b_ord b_sta b_pla) (cwV 1 hts gX1_keep_X4_copyFrom rfl rfl rfl (by decide +kernel) ⟨Nat.le_of_ble_eq_true rfl, Nat.le_of_ble_eq_true rfl⟩) ⟨xB.blind, va_recv hK hPc (ci := 4) (q0 := 0) rfl rfl, fun U9 hU9 hW9 => ⟨rfl, xB.mk hPc hK hDc hU9 hW9⟩⟩ rfl rfl hl.1 rfl (lv_room (Nat.le_of_ble_eq_true rfl)) dX1_keep_18 ⟨Nat.le_of_ble_eq_true rfl, Nat.le_of_ble_eq_true rfl⟩) hS (fun q _ h => hFc q h) hFc (fun _ t H1 locs ht hvm hw_2 hB hz1 hk1 hS => ?_)
  obtain ⟨hP1, hK1, hD1⟩ := hB
  rw [ht] at hP1
  obtain ⟨hP, hD⟩ := va_join (wr := [(bp, .inr (1, [p0, p1, p2, p3, p4, p5, p6, p7, .ref tr, p9, p10, .ref pn, .int (iI dl), .int (iI lt)]))]) (w1 := [(pn, .inr (4, [q0, .ref po, .ref ps, .ref pp])), (po, .inl (xI g, 6, .inl (fun j => nI (ord j)))), (ps, .inl (xI g, 6, .inl (fun j => iI (sta j)))), (pp, .inl (xI g, 6, .inl (fun j => iI (pla j)))), (tr, .inr (4, [t0, .ref to_, .ref ts, .ref tp])), (to_, .inl (xI g, 6, .inl (fun j => nI (ord j)))), (ts, .inl (xI g, 6, .inl (fun j => iI (sta j)))), (tp, .inl (xI g, 6, .inl (fun j => iI (pla j))))]) hP hD [1, 2, 3, 4, 5, 6, 7, 8] [0] rfl rfl (by decide) (by decide) hk1 hFc hP1 hD1
  generalize H1 = H at hP hS ⊢
  have hP : va_P (xD g) vwCl [(bp, .inr (1, [p0, p1, p2, p3, p4, p5, p6, p7, .ref tr, p9, p10, .ref pn, .int (iI dl), .int (iI lt)])), (pn, .inr (4, [q0, .ref po, .ref ps, .ref pp])), (po, .inl (xI g, 6, .inl (fun j => nI (ord j)))), (ps, .inl (xI g, 6, .inl (fun j => iI (sta j)))), (pp, .inl (xI g, 6, .inl (fun j => iI (pla j)))), (tr, .inr (4, [t0, .ref to_, .ref ts, .ref tp])), (to_, .inl (xI g, 6, .inl (fun j => nI (ord j)))), (ts, .inl (xI g, 6, .inl (fun j => iI (sta j)))), (tp, .inl (xI g, 6, .inl (fun j => iI (pla j))))] H := hP
  have hD : va_D A [(bp, .inr (1, [p0, p1, p2, p3, p4, p5, p6, p7, .ref tr, p9, p10, .ref pn, .int (iI dl), .int (iI lt)])), (pn, .inr (4, [q0, .ref po, .ref ps, .ref pp])), (po, .inl (xI g, 6, .inl (fun j => nI (ord j)))), (ps, .inl (xI g, 6, .inl (fun j => iI (sta j)))), (pp, .inl (xI g, 6, .inl (fun j => iI (pla j)))), (tr, .inr (4, [t0, .ref to_, .ref ts, .ref tp])), (to_, .inl (xI g, 6, .inl (fun j => nI (ord j)))), (ts, .inl (xI g, 6, .inl (fun j => iI (sta j)))), (tp, .inl (xI g, 6, .inl (fun j => iI (pla j))))] := hD
  try dsimp only at hw_2
  have hP9 := hP
  have hD9 := hD
  exact W.vret hx hb hr (fun t ht hW => ⟨⟨(), rfl, (by first | trivial | rfl | assumption | omega), ⟨by rw [ht]; exact hP9, va_K.moved hW.alike hK, hD9⟩⟩, hS.F ht⟩) hS.2.2 dX1_keep_21
