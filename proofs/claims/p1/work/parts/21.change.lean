theorem dX7_empty_0 : decode cX7_empty 0 = .ok (.aload_n 0, 1) := by decide +kernel
theorem dX7_empty_1 : decode cX7_empty 1 = .ok (.iconst 0, 1) := by decide +kernel
theorem dX7_empty_2 : decode cX7_empty 2 = .ok (.putfield 44, 3) := by decide +kernel
theorem dX7_empty_5 : decode cX7_empty 5 = .ok (.aload_n 0, 1) := by decide +kernel
theorem dX7_empty_6 : decode cX7_empty 6 = .ok (.iconst 0, 1) := by decide +kernel
theorem dX7_empty_7 : decode cX7_empty 7 = .ok (.putfield 48, 3) := by decide +kernel
theorem dX7_empty_10 : decode cX7_empty 10 = .ok (.aload_n 0, 1) := by decide +kernel
theorem dX7_empty_11 : decode cX7_empty 11 = .ok (.getfield 15, 3) := by decide +kernel
theorem dX7_empty_14 : decode cX7_empty 14 = .ok (.iconst 0, 1) := by decide +kernel
theorem dX7_empty_15 : decode cX7_empty 15 = .ok (.invokestatic 38, 3) := by decide +kernel
set_option maxRecDepth 20000 in
theorem ggX7_empty_J7_fill_53178 : GoodIn wsX7_empty wsJ7_fill_53178 := goodIn_r _ [9] rfl (by decide +kernel)
set_option maxRecDepth 20000 in
theorem gX7_empty_J7_fill_53178 : GoodIn wsX7_empty (va_wsS RX7 38 yJ7_fill_53178 wsJ7_fill_53178) := goodIn_app (goodIn_of _ (by decide +kernel)) ggX7_empty_J7_fill_53178
theorem dX7_empty_18 : decode cX7_empty 18 = .ok (.aload_n 0, 1) := by decide +kernel
theorem dX7_empty_19 : decode cX7_empty 19 = .ok (.getfield 29, 3) := by decide +kernel
theorem dX7_empty_22 : decode cX7_empty 22 = .ok (.iconst 0, 1) := by decide +kernel
theorem dX7_empty_23 : decode cX7_empty 23 = .ok (.invokestatic 38, 3) := by decide +kernel
theorem dX7_empty_26 : decode cX7_empty 26 = .ok (.aload_n 0, 1) := by decide +kernel
theorem dX7_empty_27 : decode cX7_empty 27 = .ok (.getfield 32, 3) := by decide +kernel
theorem dX7_empty_30 : decode cX7_empty 30 = .ok (.iconst (-1), 1) := by decide +kernel
theorem dX7_empty_31 : decode cX7_empty 31 = .ok (.invokestatic 38, 3) := by decide +kernel
theorem dX7_empty_34 : decode cX7_empty 34 = .ok (.return_, 1) := by decide +kernel
set_option maxHeartbeats 4000000 in
set_option maxRecDepth 100000 in
theorem x_empty (l : Launch) (g : xG) (sz : Nat) (yd : Nat) (hg : Nat) (st : Nat) (so : Nat) (y0 : Value) (y1 : Value) (y2 : Value) (y3 : Value) (y5 : Value) (y6 : Value) (y7 : Value) (y10 : Value) (fh : Nat → Int32) (ft : Nat → Int32) (fo : Nat → Int32)  : Met l yX7_empty wsX7_empty ({ frames := 1, cells := 0, slots := 0, locals := 23 }) (va_Pc [.ref yd] (fun U => xB g [(yd, .inr (7, [y0, y1, y2, y3, .ref hg, y5, y6, y7, .ref st, .ref so, y10])), (hg, .inl (xI g, 12, .inl fh)), (st, .inl (xI g, 24, .inl ft)), (so, .inl (xI g, 24, .inl fo))] sz U)) (va_Qv (fun (u : Unit) => True) (fun (u : Unit) (t : State) => xE g [(yd, .inr (7, [y0, .int 0, .int 0, y3, .ref hg, y5, y6, y7, .ref st, .ref so, y10]))] (va_A [(yd, .inr (7, [y0, y1, y2, y3, .ref hg, y5, y6, y7, .ref st, .ref so, y10])), (hg, .inl (xI g, 12, .inl fh)), (st, .inl (xI g, 24, .inl ft)), (so, .inl (xI g, 24, .inl fo))] sz) t) (va_A [(yd, .inr (7, [y0, y1, y2, y3, .ref hg, y5, y6, y7, .ref st, .ref so, y10])), (hg, .inl (xI g, 12, .inl fh)), (st, .inl (xI g, 24, .inl ft)), (so, .inl (xI g, 24, .inl fo))] sz)) 0 0 (va_A [(yd, .inr (7, [y0, y1, y2, y3, .ref hg, y5, y6, y7, .ref st, .ref so, y10])), (hg, .inl (xI g, 12, .inl fh)), (st, .inl (xI g, 24, .inl ft)), (so, .inl (xI g, 24, .inl fo))] sz) := by
  refine Met.ofW (cc := cX7_empty) (maxL := 1) (ret := none) (by decide) rfl ?_
  intro p e s m args below meth c s₁ B hml hv
  obtain ⟨rfl, ⟨hsz, hP, hK, hD0⟩⟩ := hv
  have hx := B.exec
  have hb := B.bytes
  have hr := B.returns
  have hts := atoms_spec (ws := wsX7_empty) B.pre
  have hown : s.vm.findClass RX7 = some m.cls := findClass_of_methodNamed B.named
  have hlocks := B.notSynchronized
  subst hsz
  have hD := hD0.self (sz := s.heap.size)
  generalize hAe : va_A [(yd, .inr (7, [y0, y1, y2, y3, .ref hg, y5, y6, y7, .ref st, .ref so, y10])), (hg, .inl (xI g, 12, .inl fh)), (st, .inl (xI g, 24, .inl ft)), (so, .inl (xI g, 24, .inl fo))] s.heap.size = A at hD ⊢
  have hA : ∀ q : Nat, s.heap.size ≤ q → A q := fun q h => by rw [← hAe]; exact Or.inr h
  have hS : va_S A s.heap s.heap [] := va_S.rf
  have hl := lv_entry ([.ref yd]) (n := 1) (Nat.le_of_ble_eq_true rfl)
  rw [lg_entry_eq]
  generalize (lg_sl ([.ref yd]) ++ List.replicate (1 - (lg_sl ([.ref yd])).length) Slot.unset).toArray = ls at hl ⊢
  have hl : lv_has ls 1 [(0, .ref yd)] := hl
  have hFX7 : ∀ w ∈ u_ws RX7 TX7 11, w ∈ wsX7_empty := by decide +kernel
  refine lv_aload_n hx hb dX7_empty_0 rfl (lv_at hl 0 rfl) ?_
  refine lv_iconst (v := 0) hx hb dX7_empty_1 (by decide) ?_
  refine va_put (D := xD g) (ci := 7) (v := .int 0) (ty := .int) (C := RX7) (T := TX7) (N := 11) hx hb hts hFX7 tyX7 tyX7_ok nmX7 hown hK hP hD hS 0 rfl rfl 1 (by decide) (hts (.fieldLink RX7 44 "Stevedore$Yard" "reshuffleCount" "I") (by decide +kernel)) (fun _ h9 => h9) rfl (by decide +kernel) rfl rfl (Nat.le_of_ble_eq_true rfl) dX7_empty_2 (fun H locs hP hD hS => ?_)
  have hP : va_P (xD g) vwCl [(yd, .inr (7, [y0, .int 0, y2, y3, .ref hg, y5, y6, y7, .ref st, .ref so, y10])), (hg, .inl (xI g, 12, .inl fh)), (st, .inl (xI g, 24, .inl ft)), (so, .inl (xI g, 24, .inl fo))] H := hP
  have hD : va_D A [(yd, .inr (7, [y0, .int 0, y2, y3, .ref hg, y5, y6, y7, .ref st, .ref so, y10])), (hg, .inl (xI g, 12, .inl fh)), (st, .inl (xI g, 24, .inl ft)), (so, .inl (xI g, 24, .inl fo))] := hD
  refine lv_aload_n hx hb dX7_empty_5 rfl (lv_at hl 0 rfl) ?_
  refine lv_iconst (v := 0) hx hb dX7_empty_6 (by decide) ?_
  refine va_put (D := xD g) (ci := 7) (v := .int 0) (ty := .int) (C := RX7) (T := TX7) (N := 11) hx hb hts hFX7 tyX7 tyX7_ok nmX7 hown hK hP hD hS 0 rfl rfl 2 (by decide) (hts (.fieldLink RX7 48 "Stevedore$Yard" "workedOff" "I") (by decide +kernel)) (fun _ h9 => h9) rfl (by decide +kernel) rfl rfl (Nat.le_of_ble_eq_true rfl) dX7_empty_7 (fun H locs hP hD hS => ?_)
  have hP : va_P (xD g) vwCl [(yd, .inr (7, [y0, .int 0, .int 0, y3, .ref hg, y5, y6, y7, .ref st, .ref so, y10])), (hg, .inl (xI g, 12, .inl fh)), (st, .inl (xI g, 24, .inl ft)), (so, .inl (xI g, 24, .inl fo))] H := hP
  have hD : va_D A [(yd, .inr (7, [y0, .int 0, .int 0, y3, .ref hg, y5, y6, y7, .ref st, .ref so, y10])), (hg, .inl (xI g, 12, .inl fh)), (st, .inl (xI g, 24, .inl ft)), (so, .inl (xI g, 24, .inl fo))] := hD
  refine lv_aload_n hx hb dX7_empty_10 rfl (lv_at hl 0 rfl) ?_
  refine va_get (D := xD g) (ci := 7) (v := .ref hg) (C := RX7) (T := TX7) (N := 11) hx hb hts hFX7 hown hK hP 0 rfl rfl 4 (by decide) (hts (.fieldLink RX7 15 "Stevedore$Yard" "height" "[I") (by decide +kernel)) (fun _ h9 => h9) rfl dX7_empty_11 ?_
  refine lv_iconst (v := 0) hx hb dX7_empty_14 (by decide) ?_
  have hPc := hP.sub (ws' := [(hg, .inl (xI g, 12, .inl fh))]) [1] rfl
  have hDc := hD.sub (ws' := [(hg, .inl (xI g, 12, .inl fh))]) [1] (by decide) rfl
  have hFc := va_free (wc := [(hg, .inl (xI g, 12, .inl fh))]) hD hS hA [1] rfl
  refine va_callv (va_runS (As := [.ref hg, .int 0]) (rest := []) ⟨hx, hb, hml, hown, hts⟩ (j_fill l g H.size hg 12 fh 0 (by first | assumption | decide | omega | simp_all)) (va_cwS 2 hts gX7_empty_J7_fill_53178 rfl rfl rfl (by decide +kernel) ⟨Nat.le_of_ble_eq_true rfl, Nat.le_of_ble_eq_true rfl⟩) ⟨xB.blind, fun U9 hU9 hW9 => ⟨rfl, xB.mk hPc hK hDc hU9 hW9⟩⟩ rfl rfl hl.1 rfl (lv_room (Nat.le_of_ble_eq_true rfl)) dX7_empty_15 ⟨Nat.le_of_ble_eq_true rfl, Nat.le_of_ble_eq_true rfl⟩) hS (fun q _ h => hFc q h) hFc (fun u_2 t H1 locs ht hvm hw_3 hB hz1 hk1 hS => ?_)
  obtain ⟨f1_4, hc_5, hP1, hK1, hD1⟩ := hB
  try dsimp only at hc_5
  rw [ht] at hP1
  obtain ⟨hP, hD⟩ := va_join (wr := [(yd, .inr (7, [y0, .int 0, .int 0, y3, .ref hg, y5, y6, y7, .ref st, .ref so, y10])), (st, .inl (xI g, 24, .inl ft)), (so, .inl (xI g, 24, .inl fo))]) (w1 := [(hg, .inl (xI g, 12, .inl f1_4))]) hP hD [1] [0, 2, 3] rfl rfl (by decide) (by decide) hk1 hFc hP1 hD1
  generalize H1 = H at hP hS ⊢
  have hP : va_P (xD g) vwCl [(yd, .inr (7, [y0, .int 0, .int 0, y3, .ref hg, y5, y6, y7, .ref st, .ref so, y10])), (st, .inl (xI g, 24, .inl ft)), (so, .inl (xI g, 24, .inl fo)), (hg, .inl (xI g, 12, .inl f1_4))] H := hP
  have hD : va_D A [(yd, .inr (7, [y0, .int 0, .int 0, y3, .ref hg, y5, y6, y7, .ref st, .ref so, y10])), (st, .inl (xI g, 24, .inl ft)), (so, .inl (xI g, 24, .inl fo)), (hg, .inl (xI g, 12, .inl f1_4))] := hD
  try dsimp only at hw_3
  refine lv_aload_n hx hb dX7_empty_18 rfl (lv_at hl 0 rfl) ?_
  refine va_get (D := xD g) (ci := 7) (v := .ref st) (C := RX7) (T := TX7) (N := 11) hx hb hts hFX7 hown hK hP 0 rfl rfl 8 (by decide) (hts (.fieldLink RX7 29 "Stevedore$Yard" "state" "[I") (by decide +kernel)) (fun _ h9 => h9) rfl dX7_empty_19 ?_
  refine lv_iconst (v := 0) hx hb dX7_empty_22 (by decide) ?_
  have hPc := hP.sub (ws' := [(st, .inl (xI g, 24, .inl ft))]) [1] rfl
  have hDc := hD.sub (ws' := [(st, .inl (xI g, 24, .inl ft))]) [1] (by decide) rfl
  have hFc := va_free (wc := [(st, .inl (xI g, 24, .inl ft))]) hD hS hA [1] rfl
  refine va_callv (va_runS (As := [.ref st, .int 0]) (rest := []) ⟨hx, hb, hml, hown, hts⟩ (j_fill l g H.size st 24 ft 0 (by first | assumption | decide | omega | simp_all)) (va_cwS 2 hts gX7_empty_J7_fill_53178 rfl rfl rfl (by decide +kernel) ⟨Nat.le_of_ble_eq_true rfl, Nat.le_of_ble_eq_true rfl⟩) ⟨xB.blind, fun U9 hU9 hW9 => ⟨rfl, xB.mk hPc hK hDc hU9 hW9⟩⟩ rfl rfl hl.1 rfl (lv_room (Nat.le_of_ble_eq_true rfl)) dX7_empty_23 ⟨Nat.le_of_ble_eq_true rfl, Nat.le_of_ble_eq_true rfl⟩) hS (fun q _ h => hFc q h) hFc (fun u_7 t H1 locs ht hvm hw_8 hB hz1 hk1 hS => ?_)
  obtain ⟨f1_9, hc_10, hP1, hK1, hD1⟩ := hB
  try dsimp only at hc_10
  rw [ht] at hP1
  obtain ⟨hP, hD⟩ := va_join (wr := [(yd, .inr (7, [y0, .int 0, .int 0, y3, .ref hg, y5, y6, y7, .ref st, .ref so, y10])), (so, .inl (xI g, 24, .inl fo)), (hg, .inl (xI g, 12, .inl f1_4))]) (w1 := [(st, .inl (xI g, 24, .inl f1_9))]) hP hD [1] [0, 2, 3] rfl rfl (by decide) (by decide) hk1 hFc hP1 hD1
  generalize H1 = H at hP hS ⊢
  have hP : va_P (xD g) vwCl [(yd, .inr (7, [y0, .int 0, .int 0, y3, .ref hg, y5, y6, y7, .ref st, .ref so, y10])), (so, .inl (xI g, 24, .inl fo)), (hg, .inl (xI g, 12, .inl f1_4)), (st, .inl (xI g, 24, .inl f1_9))] H := hP
  have hD : va_D A [(yd, .inr (7, [y0, .int 0, .int 0, y3, .ref hg, y5, y6, y7, .ref st, .ref so, y10])), (so, .inl (xI g, 24, .inl fo)), (hg, .inl (xI g, 12, .inl f1_4)), (st, .inl (xI g, 24, .inl f1_9))] := hD
  try dsimp only at hw_8
  refine lv_aload_n hx hb dX7_empty_26 rfl (lv_at hl 0 rfl) ?_
  refine va_get (D := xD g) (ci := 7) (v := .ref so) (C := RX7) (T := TX7) (N := 11) hx hb hts hFX7 hown hK hP 0 rfl rfl 9 (by decide) (hts (.fieldLink RX7 32 "Stevedore$Yard" "stackOfContainer" "[I") (by decide +kernel)) (fun _ h9 => h9) rfl dX7_empty_27 ?_
  refine lv_iconst (v := (-1)) hx hb dX7_empty_30 (by decide) ?_
  have hPc := hP.sub (ws' := [(so, .inl (xI g, 24, .inl fo))]) [1] rfl
  have hDc := hD.sub (ws' := [(so, .inl (xI g, 24, .inl fo))]) [1] (by decide) rfl
  have hFc := va_free (wc := [(so, .inl (xI g, 24, .inl fo))]) hD hS hA [1] rfl
  refine va_callv (va_runS (As := [.ref so, .int (-1)]) (rest := []) ⟨hx, hb, hml, hown, hts⟩ (j_fill l g H.size so 24 fo (-1) (by first | assumption | decide | omega | simp_all)) (va_cwS 2 hts gX7_empty_J7_fill_53178 rfl rfl rfl (by decide +kernel) ⟨Nat.le_of_ble_eq_true rfl, Nat.le_of_ble_eq_true rfl⟩) ⟨xB.blind, fun U9 hU9 hW9 => ⟨rfl, xB.mk hPc hK hDc hU9 hW9⟩⟩ rfl rfl hl.1 rfl (lv_room (Nat.le_of_ble_eq_true rfl)) dX7_empty_31 ⟨Nat.le_of_ble_eq_true rfl, Nat.le_of_ble_eq_true rfl⟩) hS (fun q _ h => hFc q h) hFc (fun u_12 t H1 locs ht hvm hw_13 hB hz1 hk1 hS => ?_)
  obtain ⟨f1_14, hc_15, hP1, hK1, hD1⟩ := hB
  try dsimp only at hc_15
  rw [ht] at hP1
  obtain ⟨hP, hD⟩ := va_join (wr := [(yd, .inr (7, [y0, .int 0, .int 0, y3, .ref hg, y5, y6, y7, .ref st, .ref so, y10])), (hg, .inl (xI g, 12, .inl f1_4)), (st, .inl (xI g, 24, .inl f1_9))]) (w1 := [(so, .inl (xI g, 24, .inl f1_14))]) hP hD [1] [0, 2, 3] rfl rfl (by decide) (by decide) hk1 hFc hP1 hD1
  generalize H1 = H at hP hS ⊢
  have hP : va_P (xD g) vwCl [(yd, .inr (7, [y0, .int 0, .int 0, y3, .ref hg, y5, y6, y7, .ref st, .ref so, y10])), (hg, .inl (xI g, 12, .inl f1_4)), (st, .inl (xI g, 24, .inl f1_9)), (so, .inl (xI g, 24, .inl f1_14))] H := hP
  have hD : va_D A [(yd, .inr (7, [y0, .int 0, .int 0, y3, .ref hg, y5, y6, y7, .ref st, .ref so, y10])), (hg, .inl (xI g, 12, .inl f1_4)), (st, .inl (xI g, 24, .inl f1_9)), (so, .inl (xI g, 24, .inl f1_14))] := hD
  try dsimp only at hw_13
  have hP9 := hP.sub (ws' := [(yd, .inr (7, [y0, .int 0, .int 0, y3, .ref hg, y5, y6, y7, .ref st, .ref so, y10]))]) [0] rfl
  have hD9 := hD.sub (ws' := [(yd, .inr (7, [y0, .int 0, .int 0, y3, .ref hg, y5, y6, y7, .ref st, .ref so, y10]))]) [0] (by decide) rfl
  exact W.vret hx hb hr (fun t ht hW => ⟨⟨(), rfl, (by first | trivial | rfl | assumption | omega | simp_all), ⟨by rw [ht]; exact hP9, va_K.moved hW.alike hK, hD9⟩⟩, hS.F ht⟩) hS.2.2 dX7_empty_34
theorem dX8_forgetSlots_0 : decode cX8_forgetSlots 0 = .ok (.aload_n 0, 1) := by decide +kernel
theorem dX8_forgetSlots_1 : decode cX8_forgetSlots 1 = .ok (.iconst 0, 1) := by decide +kernel
theorem dX8_forgetSlots_2 : decode cX8_forgetSlots 2 = .ok (.putfield 268, 3) := by decide +kernel
theorem dX8_forgetSlots_5 : decode cX8_forgetSlots 5 = .ok (.aload_n 0, 1) := by decide +kernel
theorem dX8_forgetSlots_6 : decode cX8_forgetSlots 6 = .ok (.getfield 74, 3) := by decide +kernel
theorem dX8_forgetSlots_9 : decode cX8_forgetSlots 9 = .ok (.iconst 0, 1) := by decide +kernel
theorem dX8_forgetSlots_10 : decode cX8_forgetSlots 10 = .ok (.putfield 278, 3) := by decide +kernel
theorem dX8_forgetSlots_13 : decode cX8_forgetSlots 13 = .ok (.aload_n 0, 1) := by decide +kernel
theorem dX8_forgetSlots_14 : decode cX8_forgetSlots 14 = .ok (.getfield 81, 3) := by decide +kernel
theorem dX8_forgetSlots_17 : decode cX8_forgetSlots 17 = .ok (.invokevirtual 170, 3) := by decide +kernel
set_option maxRecDepth 20000 in
theorem ggX8_forgetSlots_X7_empty : GoodIn wsX8_forgetSlots wsX7_empty := goodIn_r _ [9, 10, 11, 12, 13, 14, 15, 16, 17, 18, 36, 37, 38, 39, 40, 41, 42, 43, 44, 45, 46] rfl (by decide +kernel)
set_option maxRecDepth 20000 in
theorem gX8_forgetSlots_X7_empty : GoodIn wsX8_forgetSlots (wsV RX8 170 RX7 yX7_empty wsX7_empty) := goodIn_app (goodIn_of _ (by decide +kernel)) ggX8_forgetSlots_X7_empty
theorem dX8_forgetSlots_20 : decode cX8_forgetSlots 20 = .ok (.return_, 1) := by decide +kernel
set_option maxHeartbeats 4000000 in
set_option maxRecDepth 100000 in
theorem x_forgetSlots (l : Launch) (g : xG) (sz : Nat) (h0 : Nat) (ag : Nat) (yd : Nat) (hg : Nat) (st : Nat) (so : Nat) (f0 : Value) (f1 : Value) (f2 : Value) (f3 : Value) (f4 : Value) (f5 : Value) (f6 : Value) (f7 : Value) (f8 : Value) (f9 : Value) (f10 : Value) (f11 : Value) (f14 : Value) (a0 : Value) (a1 : Value) (y0 : Value) (y1 : Value) (y2 : Value) (y3 : Value) (y5 : Value) (y6 : Value) (y7 : Value) (y10 : Value) (fh : Nat → Int32) (ft : Nat → Int32) (fo : Nat → Int32)  : Met l yX8_forgetSlots wsX8_forgetSlots ({ frames := 2, cells := 0, slots := 0, locals := 43 }) (va_Pc [.ref h0] (fun U => xB g [(h0, .inr (8, [f0, f1, f2, f3, f4, f5, f6, f7, f8, f9, f10, f11, .ref ag, .ref yd, f14])), (ag, .inr (0, [a0, a1])), (yd, .inr (7, [y0, y1, y2, y3, .ref hg, y5, y6, y7, .ref st, .ref so, y10])), (hg, .inl (xI g, 12, .inl fh)), (st, .inl (xI g, 24, .inl ft)), (so, .inl (xI g, 24, .inl fo))] sz U)) (va_Qv (fun (u : Unit) => True) (fun (u : Unit) (t : State) => xE g [(h0, .inr (8, [f0, f1, f2, f3, f4, f5, f6, f7, f8, f9, .int 0, f11, .ref ag, .ref yd, f14]))] (va_A [(h0, .inr (8, [f0, f1, f2, f3, f4, f5, f6, f7, f8, f9, f10, f11, .ref ag, .ref yd, f14])), (ag, .inr (0, [a0, a1])), (yd, .inr (7, [y0, y1, y2, y3, .ref hg, y5, y6, y7, .ref st, .ref so, y10])), (hg, .inl (xI g, 12, .inl fh)), (st, .inl (xI g, 24, .inl ft)), (so, .inl (xI g, 24, .inl fo))] sz) t) (va_A [(h0, .inr (8, [f0, f1, f2, f3, f4, f5, f6, f7, f8, f9, f10, f11, .ref ag, .ref yd, f14])), (ag, .inr (0, [a0, a1])), (yd, .inr (7, [y0, y1, y2, y3, .ref hg, y5, y6, y7, .ref st, .ref so, y10])), (hg, .inl (xI g, 12, .inl fh)), (st, .inl (xI g, 24, .inl ft)), (so, .inl (xI g, 24, .inl fo))] sz)) 0 0 (va_A [(h0, .inr (8, [f0, f1, f2, f3, f4, f5, f6, f7, f8, f9, f10, f11, .ref ag, .ref yd, f14])), (ag, .inr (0, [a0, a1])), (yd, .inr (7, [y0, y1, y2, y3, .ref hg, y5, y6, y7, .ref st, .ref so, y10])), (hg, .inl (xI g, 12, .inl fh)), (st, .inl (xI g, 24, .inl ft)), (so, .inl (xI g, 24, .inl fo))] sz) := by
  refine Met.ofW (cc := cX8_forgetSlots) (maxL := 1) (ret := none) (by decide) rfl ?_
  intro p e s m args below meth c s₁ B hml hv
  obtain ⟨rfl, ⟨hsz, hP, hK, hD0⟩⟩ := hv
  have hx := B.exec
  have hb := B.bytes
  have hr := B.returns
  have hts := atoms_spec (ws := wsX8_forgetSlots) B.pre
  have hown : s.vm.findClass RX8 = some m.cls := findClass_of_methodNamed B.named
  have hlocks := B.notSynchronized
  subst hsz
  have hD := hD0.self (sz := s.heap.size)
  generalize hAe : va_A [(h0, .inr (8, [f0, f1, f2, f3, f4, f5, f6, f7, f8, f9, f10, f11, .ref ag, .ref yd, f14])), (ag, .inr (0, [a0, a1])), (yd, .inr (7, [y0, y1, y2, y3, .ref hg, y5, y6, y7, .ref st, .ref so, y10])), (hg, .inl (xI g, 12, .inl fh)), (st, .inl (xI g, 24, .inl ft)), (so, .inl (xI g, 24, .inl fo))] s.heap.size = A at hD ⊢
  have hA : ∀ q : Nat, s.heap.size ≤ q → A q := fun q h => by rw [← hAe]; exact Or.inr h
  have hS : va_S A s.heap s.heap [] := va_S.rf
  have hl := lv_entry ([.ref h0]) (n := 1) (Nat.le_of_ble_eq_true rfl)
  rw [lg_entry_eq]
  generalize (lg_sl ([.ref h0]) ++ List.replicate (1 - (lg_sl ([.ref h0])).length) Slot.unset).toArray = ls at hl ⊢
  have hl : lv_has ls 1 [(0, .ref h0)] := hl
  have hFX0 : ∀ w ∈ u_ws RX0 TX0 2, w ∈ wsX8_forgetSlots := by decide +kernel
  have hFX8 : ∀ w ∈ u_ws RX8 TX8 15, w ∈ wsX8_forgetSlots := by decide +kernel
  refine lv_aload_n hx hb dX8_forgetSlots_0 rfl (lv_at hl 0 rfl) ?_
  refine lv_iconst (v := 0) hx hb dX8_forgetSlots_1 (by decide) ?_
  refine va_put (D := xD g) (ci := 8) (v := .int 0) (ty := .boolean) (C := RX8) (T := TX8) (N := 15) hx hb hts hFX8 tyX8 tyX8_ok nmX8 hown hK hP hD hS 0 rfl rfl 10 (by decide) (hts (.fieldLink RX8 268 "Stevedore" "hasSlots" "Z") (by decide +kernel)) (fun _ h9 => h9) rfl (by decide +kernel) rfl rfl (Nat.le_of_ble_eq_true rfl) dX8_forgetSlots_2 (fun H locs hP hD hS => ?_)
  have hP : va_P (xD g) vwCl [(h0, .inr (8, [f0, f1, f2, f3, f4, f5, f6, f7, f8, f9, .int 0, f11, .ref ag, .ref yd, f14])), (ag, .inr (0, [a0, a1])), (yd, .inr (7, [y0, y1, y2, y3, .ref hg, y5, y6, y7, .ref st, .ref so, y10])), (hg, .inl (xI g, 12, .inl fh)), (st, .inl (xI g, 24, .inl ft)), (so, .inl (xI g, 24, .inl fo))] H := hP
  have hD : va_D A [(h0, .inr (8, [f0, f1, f2, f3, f4, f5, f6, f7, f8, f9, .int 0, f11, .ref ag, .ref yd, f14])), (ag, .inr (0, [a0, a1])), (yd, .inr (7, [y0, y1, y2, y3, .ref hg, y5, y6, y7, .ref st, .ref so, y10])), (hg, .inl (xI g, 12, .inl fh)), (st, .inl (xI g, 24, .inl ft)), (so, .inl (xI g, 24, .inl fo))] := hD
  refine lv_aload_n hx hb dX8_forgetSlots_5 rfl (lv_at hl 0 rfl) ?_
  refine va_get (D := xD g) (ci := 8) (v := .ref ag) (C := RX8) (T := TX8) (N := 15) hx hb hts hFX8 hown hK hP 0 rfl rfl 12 (by decide) (hts (.fieldLink RX8 74 "Stevedore" "agenda" "LStevedore$Agenda;") (by decide +kernel)) (fun _ h9 => h9) rfl dX8_forgetSlots_6 ?_
  refine lv_iconst (v := 0) hx hb dX8_forgetSlots_9 (by decide) ?_
  refine va_put (D := xD g) (ci := 0) (v := .int 0) (ty := .int) (C := RX0) (T := TX0) (N := 2) hx hb hts hFX0 tyX0 tyX0_ok nmX0 hown hK hP hD hS 1 rfl rfl 0 (by decide) (hts (.fieldLink RX8 278 "Stevedore$Agenda" "count" "I") (by decide +kernel)) (fun _ h9 => h9) rfl (by decide +kernel) rfl rfl (Nat.le_of_ble_eq_true rfl) dX8_forgetSlots_10 (fun H locs hP hD hS => ?_)
  have hP : va_P (xD g) vwCl [(h0, .inr (8, [f0, f1, f2, f3, f4, f5, f6, f7, f8, f9, .int 0, f11, .ref ag, .ref yd, f14])), (ag, .inr (0, [.int 0, a1])), (yd, .inr (7, [y0, y1, y2, y3, .ref hg, y5, y6, y7, .ref st, .ref so, y10])), (hg, .inl (xI g, 12, .inl fh)), (st, .inl (xI g, 24, .inl ft)), (so, .inl (xI g, 24, .inl fo))] H := hP
  have hD : va_D A [(h0, .inr (8, [f0, f1, f2, f3, f4, f5, f6, f7, f8, f9, .int 0, f11, .ref ag, .ref yd, f14])), (ag, .inr (0, [.int 0, a1])), (yd, .inr (7, [y0, y1, y2, y3, .ref hg, y5, y6, y7, .ref st, .ref so, y10])), (hg, .inl (xI g, 12, .inl fh)), (st, .inl (xI g, 24, .inl ft)), (so, .inl (xI g, 24, .inl fo))] := hD
  refine lv_aload_n hx hb dX8_forgetSlots_13 rfl (lv_at hl 0 rfl) ?_
  refine va_get (D := xD g) (ci := 8) (v := .ref yd) (C := RX8) (T := TX8) (N := 15) hx hb hts hFX8 hown hK hP 0 rfl rfl 13 (by decide) (hts (.fieldLink RX8 81 "Stevedore" "yard" "LStevedore$Yard;") (by decide +kernel)) (fun _ h9 => h9) rfl dX8_forgetSlots_14 ?_
  have hPc := hP.sub (ws' := [(yd, .inr (7, [y0, y1, y2, y3, .ref hg, y5, y6, y7, .ref st, .ref so, y10])), (hg, .inl (xI g, 12, .inl fh)), (st, .inl (xI g, 24, .inl ft)), (so, .inl (xI g, 24, .inl fo))]) [2, 3, 4, 5] rfl
  have hDc := hD.sub (ws' := [(yd, .inr (7, [y0, y1, y2, y3, .ref hg, y5, y6, y7, .ref st, .ref so, y10])), (hg, .inl (xI g, 12, .inl fh)), (st, .inl (xI g, 24, .inl ft)), (so, .inl (xI g, 24, .inl fo))]) [2, 3, 4, 5] (by decide) rfl
  have hFc := va_free (wc := [(yd, .inr (7, [y0, y1, y2, y3, .ref hg, y5, y6, y7, .ref st, .ref so, y10])), (hg, .inl (xI g, 12, .inl fh)), (st, .inl (xI g, 24, .inl ft)), (so, .inl (xI g, 24, .inl fo))]) hD hS hA [2, 3, 4, 5] rfl
  refine va_callv (va_runV (As := []) (rest := []) ⟨hx, hb, hml, hown, hts⟩ (x_empty l g H.size yd hg st so y0 y1 y2 y3 y5 y6 y7 y10 fh ft fo) (cwV 0 hts gX8_forgetSlots_X7_empty rfl rfl rfl (by decide +kernel) ⟨Nat.le_of_ble_eq_true rfl, Nat.le_of_ble_eq_true rfl⟩) ⟨xB.blind, va_recv hK hPc (ci := 7) (q0 := 0) rfl rfl, fun U9 hU9 hW9 => ⟨rfl, xB.mk hPc hK hDc hU9 hW9⟩⟩ rfl rfl hl.1 rfl (lv_room (Nat.le_of_ble_eq_true rfl)) dX8_forgetSlots_17 ⟨Nat.le_of_ble_eq_true rfl, Nat.le_of_ble_eq_true rfl⟩) hS (fun q _ h => hFc q h) hFc (fun u_2 t H1 locs ht hvm hw_3 hB hz1 hk1 hS => ?_)
  obtain ⟨hP1, hK1, hD1⟩ := hB
  rw [ht] at hP1
  obtain ⟨hP, hD⟩ := va_join (wr := [(h0, .inr (8, [f0, f1, f2, f3, f4, f5, f6, f7, f8, f9, .int 0, f11, .ref ag, .ref yd, f14])), (ag, .inr (0, [.int 0, a1]))]) (w1 := [(yd, .inr (7, [y0, .int 0, .int 0, y3, .ref hg, y5, y6, y7, .ref st, .ref so, y10]))]) hP hD [2, 3, 4, 5] [0, 1] rfl rfl (by decide) (by decide) hk1 hFc hP1 hD1
  generalize H1 = H at hP hS ⊢
  have hP : va_P (xD g) vwCl [(h0, .inr (8, [f0, f1, f2, f3, f4, f5, f6, f7, f8, f9, .int 0, f11, .ref ag, .ref yd, f14])), (ag, .inr (0, [.int 0, a1])), (yd, .inr (7, [y0, .int 0, .int 0, y3, .ref hg, y5, y6, y7, .ref st, .ref so, y10]))] H := hP
  have hD : va_D A [(h0, .inr (8, [f0, f1, f2, f3, f4, f5, f6, f7, f8, f9, .int 0, f11, .ref ag, .ref yd, f14])), (ag, .inr (0, [.int 0, a1])), (yd, .inr (7, [y0, .int 0, .int 0, y3, .ref hg, y5, y6, y7, .ref st, .ref so, y10]))] := hD
  try dsimp only at hw_3
  have hP9 := hP.sub (ws' := [(h0, .inr (8, [f0, f1, f2, f3, f4, f5, f6, f7, f8, f9, .int 0, f11, .ref ag, .ref yd, f14]))]) [0] rfl
  have hD9 := hD.sub (ws' := [(h0, .inr (8, [f0, f1, f2, f3, f4, f5, f6, f7, f8, f9, .int 0, f11, .ref ag, .ref yd, f14]))]) [0] (by decide) rfl
  exact W.vret hx hb hr (fun t ht hW => ⟨⟨(), rfl, (by first | trivial | rfl | assumption | omega | simp_all), ⟨by rw [ht]; exact hP9, va_K.moved hW.alike hK, hD9⟩⟩, hS.F ht⟩) hS.2.2 dX8_forgetSlots_20
theorem dX8_forgetPlan_0 : decode cX8_forgetPlan 0 = .ok (.aload_n 0, 1) := by decide +kernel
theorem dX8_forgetPlan_1 : decode cX8_forgetPlan 1 = .ok (.getfield 57, 3) := by decide +kernel
theorem dX8_forgetPlan_4 : decode cX8_forgetPlan 4 = .ok (.iconst 0, 1) := by decide +kernel
theorem dX8_forgetPlan_5 : decode cX8_forgetPlan 5 = .ok (.putfield 218, 3) := by decide +kernel
theorem dX8_forgetPlan_8 : decode cX8_forgetPlan 8 = .ok (.aload_n 0, 1) := by decide +kernel
theorem dX8_forgetPlan_9 : decode cX8_forgetPlan 9 = .ok (.invokevirtual 156, 3) := by decide +kernel
set_option maxRecDepth 20000 in
theorem ggX8_forgetPlan_X8_forgetSlots : GoodIn wsX8_forgetPlan wsX8_forgetSlots := goodIn_r _ [7, 8, 9, 10, 11, 12, 13, 14, 15, 16, 17, 18, 19, 20, 21, 22, 23, 24, 25, 26, 27, 28, 29, 30, 31, 32, 33, 34, 35, 36, 37, 38, 39, 40, 45, 46, 47, 48, 49, 50, 51, 52, 53, 54, 55, 56, 57] rfl (by decide +kernel)
set_option maxRecDepth 20000 in
theorem gX8_forgetPlan_X8_forgetSlots : GoodIn wsX8_forgetPlan (wsV RX8 156 RX8 yX8_forgetSlots wsX8_forgetSlots) := goodIn_app (goodIn_of _ (by decide +kernel)) ggX8_forgetPlan_X8_forgetSlots
theorem dX8_forgetPlan_12 : decode cX8_forgetPlan 12 = .ok (.return_, 1) := by decide +kernel
set_option maxHeartbeats 4000000 in
set_option maxRecDepth 100000 in
theorem x_forgetPlan (l : Launch) (g : xG) (sz : Nat) (h0 : Nat) (pl : Nat) (ag : Nat) (yd : Nat) (hg : Nat) (st : Nat) (so : Nat) (f0 : Value) (f1 : Value) (f2 : Value) (f3 : Value) (f4 : Value) (f5 : Value) (f6 : Value) (f7 : Value) (f9 : Value) (f10 : Value) (f11 : Value) (f14 : Value) (q0 : Value) (q1 : Value) (q2 : Value) (q3 : Value) (a0 : Value) (a1 : Value) (y0 : Value) (y1 : Value) (y2 : Value) (y3 : Value) (y5 : Value) (y6 : Value) (y7 : Value) (y10 : Value) (fh : Nat → Int32) (ft : Nat → Int32) (fo : Nat → Int32)  : Met l yX8_forgetPlan wsX8_forgetPlan ({ frames := 3, cells := 0, slots := 0, locals := 63 }) (va_Pc [.ref h0] (fun U => xB g [(h0, .inr (8, [f0, f1, f2, f3, f4, f5, f6, f7, .ref pl, f9, f10, f11, .ref ag, .ref yd, f14])), (pl, .inr (4, [q0, q1, q2, q3])), (ag, .inr (0, [a0, a1])), (yd, .inr (7, [y0, y1, y2, y3, .ref hg, y5, y6, y7, .ref st, .ref so, y10])), (hg, .inl (xI g, 12, .inl fh)), (st, .inl (xI g, 24, .inl ft)), (so, .inl (xI g, 24, .inl fo))] sz U)) (va_Qv (fun (u : Unit) => True) (fun (u : Unit) (t : State) => xE g [(h0, .inr (8, [f0, f1, f2, f3, f4, f5, f6, f7, .ref pl, f9, .int 0, f11, .ref ag, .ref yd, f14]))] (va_A [(h0, .inr (8, [f0, f1, f2, f3, f4, f5, f6, f7, .ref pl, f9, f10, f11, .ref ag, .ref yd, f14])), (pl, .inr (4, [q0, q1, q2, q3])), (ag, .inr (0, [a0, a1])), (yd, .inr (7, [y0, y1, y2, y3, .ref hg, y5, y6, y7, .ref st, .ref so, y10])), (hg, .inl (xI g, 12, .inl fh)), (st, .inl (xI g, 24, .inl ft)), (so, .inl (xI g, 24, .inl fo))] sz) t) (va_A [(h0, .inr (8, [f0, f1, f2, f3, f4, f5, f6, f7, .ref pl, f9, f10, f11, .ref ag, .ref yd, f14])), (pl, .inr (4, [q0, q1, q2, q3])), (ag, .inr (0, [a0, a1])), (yd, .inr (7, [y0, y1, y2, y3, .ref hg, y5, y6, y7, .ref st, .ref so, y10])), (hg, .inl (xI g, 12, .inl fh)), (st, .inl (xI g, 24, .inl ft)), (so, .inl (xI g, 24, .inl fo))] sz)) 0 0 (va_A [(h0, .inr (8, [f0, f1, f2, f3, f4, f5, f6, f7, .ref pl, f9, f10, f11, .ref ag, .ref yd, f14])), (pl, .inr (4, [q0, q1, q2, q3])), (ag, .inr (0, [a0, a1])), (yd, .inr (7, [y0, y1, y2, y3, .ref hg, y5, y6, y7, .ref st, .ref so, y10])), (hg, .inl (xI g, 12, .inl fh)), (st, .inl (xI g, 24, .inl ft)), (so, .inl (xI g, 24, .inl fo))] sz) := by
  refine Met.ofW (cc := cX8_forgetPlan) (maxL := 1) (ret := none) (by decide) rfl ?_
  intro p e s m args below meth c s₁ B hml hv
  obtain ⟨rfl, ⟨hsz, hP, hK, hD0⟩⟩ := hv
  have hx := B.exec
  have hb := B.bytes
  have hr := B.returns
  have hts := atoms_spec (ws := wsX8_forgetPlan) B.pre
  have hown : s.vm.findClass RX8 = some m.cls := findClass_of_methodNamed B.named
  have hlocks := B.notSynchronized
  subst hsz
  have hD := hD0.self (sz := s.heap.size)
  generalize hAe : va_A [(h0, .inr (8, [f0, f1, f2, f3, f4, f5, f6, f7, .ref pl, f9, f10, f11, .ref ag, .ref yd, f14])), (pl, .inr (4, [q0, q1, q2, q3])), (ag, .inr (0, [a0, a1])), (yd, .inr (7, [y0, y1, y2, y3, .ref hg, y5, y6, y7, .ref st, .ref so, y10])), (hg, .inl (xI g, 12, .inl fh)), (st, .inl (xI g, 24, .inl ft)), (so, .inl (xI g, 24, .inl fo))] s.heap.size = A at hD ⊢
  have hA : ∀ q : Nat, s.heap.size ≤ q → A q := fun q h => by rw [← hAe]; exact Or.inr h
  have hS : va_S A s.heap s.heap [] := va_S.rf
  have hl := lv_entry ([.ref h0]) (n := 1) (Nat.le_of_ble_eq_true rfl)
  rw [lg_entry_eq]
  generalize (lg_sl ([.ref h0]) ++ List.replicate (1 - (lg_sl ([.ref h0])).length) Slot.unset).toArray = ls at hl ⊢
  have hl : lv_has ls 1 [(0, .ref h0)] := hl
  have hFX4 : ∀ w ∈ u_ws RX4 TX4 4, w ∈ wsX8_forgetPlan := by decide +kernel
  have hFX8 : ∀ w ∈ u_ws RX8 TX8 15, w ∈ wsX8_forgetPlan := by decide +kernel
  refine lv_aload_n hx hb dX8_forgetPlan_0 rfl (lv_at hl 0 rfl) ?_
  refine va_get (D := xD g) (ci := 8) (v := .ref pl) (C := RX8) (T := TX8) (N := 15) hx hb hts hFX8 hown hK hP 0 rfl rfl 8 (by decide) (hts (.fieldLink RX8 57 "Stevedore" "plan" "LStevedore$Plan;") (by decide +kernel)) (fun _ h9 => h9) rfl dX8_forgetPlan_1 ?_
  refine lv_iconst (v := 0) hx hb dX8_forgetPlan_4 (by decide) ?_
  refine va_put (D := xD g) (ci := 4) (v := .int 0) (ty := .boolean) (C := RX4) (T := TX4) (N := 4) hx hb hts hFX4 tyX4 tyX4_ok nmX4 hown hK hP hD hS 1 rfl rfl 0 (by decide) (hts (.fieldLink RX8 218 "Stevedore$Plan" "isMade" "Z") (by decide +kernel)) (fun _ h9 => h9) rfl (by decide +kernel) rfl rfl (Nat.le_of_ble_eq_true rfl) dX8_forgetPlan_5 (fun H locs hP hD hS => ?_)
  have hP : va_P (xD g) vwCl [(h0, .inr (8, [f0, f1, f2, f3, f4, f5, f6, f7, .ref pl, f9, f10, f11, .ref ag, .ref yd, f14])), (pl, .inr (4, [.int 0, q1, q2, q3])), (ag, .inr (0, [a0, a1])), (yd, .inr (7, [y0, y1, y2, y3, .ref hg, y5, y6, y7, .ref st, .ref so, y10])), (hg, .inl (xI g, 12, .inl fh)), (st, .inl (xI g, 24, .inl ft)), (so, .inl (xI g, 24, .inl fo))] H := hP
  have hD : va_D A [(h0, .inr (8, [f0, f1, f2, f3, f4, f5, f6, f7, .ref pl, f9, f10, f11, .ref ag, .ref yd, f14])), (pl, .inr (4, [.int 0, q1, q2, q3])), (ag, .inr (0, [a0, a1])), (yd, .inr (7, [y0, y1, y2, y3, .ref hg, y5, y6, y7, .ref st, .ref so, y10])), (hg, .inl (xI g, 12, .inl fh)), (st, .inl (xI g, 24, .inl ft)), (so, .inl (xI g, 24, .inl fo))] := hD
  refine lv_aload_n hx hb dX8_forgetPlan_8 rfl (lv_at hl 0 rfl) ?_
  have hPc := hP.sub (ws' := [(h0, .inr (8, [f0, f1, f2, f3, f4, f5, f6, f7, .ref pl, f9, f10, f11, .ref ag, .ref yd, f14])), (ag, .inr (0, [a0, a1])), (yd, .inr (7, [y0, y1, y2, y3, .ref hg, y5, y6, y7, .ref st, .ref so, y10])), (hg, .inl (xI g, 12, .inl fh)), (st, .inl (xI g, 24, .inl ft)), (so, .inl (xI g, 24, .inl fo))]) [0, 2, 3, 4, 5, 6] rfl
  have hDc := hD.sub (ws' := [(h0, .inr (8, [f0, f1, f2, f3, f4, f5, f6, f7, .ref pl, f9, f10, f11, .ref ag, .ref yd, f14])), (ag, .inr (0, [a0, a1])), (yd, .inr (7, [y0, y1, y2, y3, .ref hg, y5, y6, y7, .ref st, .ref so, y10])), (hg, .inl (xI g, 12, .inl fh)), (st, .inl (xI g, 24, .inl ft)), (so, .inl (xI g, 24, .inl fo))]) [0, 2, 3, 4, 5, 6] (by decide) rfl
  have hFc := va_free (wc := [(h0, .inr (8, [f0, f1, f2, f3, f4, f5, f6, f7, .ref pl, f9, f10, f11, .ref ag, .ref yd, f14])), (ag, .inr (0, [a0, a1])), (yd, .inr (7, [y0, y1, y2, y3, .ref hg, y5, y6, y7, .ref st, .ref so, y10])), (hg, .inl (xI g, 12, .inl fh)), (st, .inl (xI g, 24, .inl ft)), (so, .inl (xI g, 24, .inl fo))]) hD hS hA [0, 2, 3, 4, 5, 6] rfl
  refine va_callv (va_runV (As := []) (rest := []) ⟨hx, hb, hml, hown, hts⟩ (x_forgetSlots l g H.size h0 ag yd hg st so f0 f1 f2 f3 f4 f5 f6 f7 (.ref pl) f9 f10 f11 f14 a0 a1 y0 y1 y2 y3 y5 y6 y7 y10 fh ft fo) (cwV 0 hts gX8_forgetPlan_X8_forgetSlots rfl rfl rfl (by decide +kernel) ⟨Nat.le_of_ble_eq_true rfl, Nat.le_of_ble_eq_true rfl⟩) ⟨xB.blind, va_recv hK hPc (ci := 8) (q0 := 0) rfl rfl, fun U9 hU9 hW9 => ⟨rfl, xB.mk hPc hK hDc hU9 hW9⟩⟩ rfl rfl hl.1 rfl (lv_room (Nat.le_of_ble_eq_true rfl)) dX8_forgetPlan_9 ⟨Nat.le_of_ble_eq_true rfl, Nat.le_of_ble_eq_true rfl⟩) hS (fun q _ h => hFc q h) hFc (fun u_2 t H1 locs ht hvm hw_3 hB hz1 hk1 hS => ?_)
  obtain ⟨hP1, hK1, hD1⟩ := hB
  rw [ht] at hP1
  obtain ⟨hP, hD⟩ := va_join (wr := [(pl, .inr (4, [.int 0, q1, q2, q3]))]) (w1 := [(h0, .inr (8, [f0, f1, f2, f3, f4, f5, f6, f7, .ref pl, f9, .int 0, f11, .ref ag, .ref yd, f14]))]) hP hD [0, 2, 3, 4, 5, 6] [1] rfl rfl (by decide) (by decide) hk1 hFc hP1 hD1
  generalize H1 = H at hP hS ⊢
  have hP : va_P (xD g) vwCl [(pl, .inr (4, [.int 0, q1, q2, q3])), (h0, .inr (8, [f0, f1, f2, f3, f4, f5, f6, f7, .ref pl, f9, .int 0, f11, .ref ag, .ref yd, f14]))] H := hP
  have hD : va_D A [(pl, .inr (4, [.int 0, q1, q2, q3])), (h0, .inr (8, [f0, f1, f2, f3, f4, f5, f6, f7, .ref pl, f9, .int 0, f11, .ref ag, .ref yd, f14]))] := hD
  try dsimp only at hw_3
  have hP9 := hP.sub (ws' := [(h0, .inr (8, [f0, f1, f2, f3, f4, f5, f6, f7, .ref pl, f9, .int 0, f11, .ref ag, .ref yd, f14]))]) [1] rfl
  have hD9 := hD.sub (ws' := [(h0, .inr (8, [f0, f1, f2, f3, f4, f5, f6, f7, .ref pl, f9, .int 0, f11, .ref ag, .ref yd, f14]))]) [1] (by decide) rfl
  exact W.vret hx hb hr (fun t ht hW => ⟨⟨(), rfl, (by first | trivial | rfl | assumption | omega | simp_all), ⟨by rw [ht]; exact hP9, va_K.moved hW.alike hK, hD9⟩⟩, hS.F ht⟩) hS.2.2 dX8_forgetPlan_12
theorem dX8_setQuay_0 : decode cX8_setQuay 0 = .ok (.iload_n 1, 1) := by decide +kernel
theorem dX8_setQuay_1 : decode cX8_setQuay 1 = .ok (.iconst 4, 1) := by decide +kernel
theorem dX8_setQuay_2 : decode cX8_setQuay 2 = .ok (.bipush 60, 2) := by decide +kernel
theorem dX8_setQuay_4 : decode cX8_setQuay 4 = .ok (.invokestatic 88, 3) := by decide +kernel
set_option maxRecDepth 20000 in
theorem ggX8_setQuay_X8_needWithin : GoodIn wsX8_setQuay wsX8_needWithin := goodIn_ca (goodIn_r _ [5, 6, 7] rfl (by decide +kernel)) (goodIn_sub (fun _ h => List.mem_cons_of_mem _ (List.mem_append_right _ h)) (by decide +kernel))
set_option maxRecDepth 20000 in
theorem gX8_setQuay_X8_needWithin : GoodIn wsX8_setQuay (va_wsS RX8 88 yX8_needWithin wsX8_needWithin) := goodIn_app (goodIn_of _ (by decide +kernel)) ggX8_setQuay_X8_needWithin
theorem dX8_setQuay_7 : decode cX8_setQuay 7 = .ok (.aload_n 0, 1) := by decide +kernel
theorem dX8_setQuay_8 : decode cX8_setQuay 8 = .ok (.getfield 9, 3) := by decide +kernel
theorem dX8_setQuay_11 : decode cX8_setQuay 11 = .ok (.istore_n 2, 1) := by decide +kernel
theorem dX8_setQuay_12 : decode cX8_setQuay 12 = .ok (.aload_n 0, 1) := by decide +kernel
theorem dX8_setQuay_13 : decode cX8_setQuay 13 = .ok (.iload_n 1, 1) := by decide +kernel
theorem dX8_setQuay_14 : decode cX8_setQuay 14 = .ok (.putfield 9, 3) := by decide +kernel
theorem dX8_setQuay_17 : decode cX8_setQuay 17 = .ok (.aload_n 0, 1) := by decide +kernel
theorem dX8_setQuay_18 : decode cX8_setQuay 18 = .ok (.invokevirtual 92, 3) := by decide +kernel
set_option maxRecDepth 20000 in
theorem ggX8_setQuay_X8_forgetPlan : GoodIn wsX8_setQuay wsX8_forgetPlan := goodIn_r _ [11, 12, 13, 14, 15, 16, 4, 17, 18, 19, 20, 21, 22, 23, 24, 25, 26, 27, 28, 29, 30, 31, 32, 33, 34, 35, 36, 37, 38, 39, 40, 41, 42, 43, 44, 45, 46, 47, 48, 49, 50, 51, 52, 53, 54, 55, 56, 57, 58, 59, 60, 61, 62, 63, 64, 65, 66, 67] rfl (by decide +kernel)
set_option maxRecDepth 20000 in
theorem gX8_setQuay_X8_forgetPlan : GoodIn wsX8_setQuay (wsV RX8 92 RX8 yX8_forgetPlan wsX8_forgetPlan) := goodIn_app (goodIn_of _ (by decide +kernel)) ggX8_setQuay_X8_forgetPlan
theorem dX8_setQuay_21 : decode cX8_setQuay 21 = .ok (.iload_n 2, 1) := by decide +kernel
theorem dX8_setQuay_22 : decode cX8_setQuay 22 = .ok (.ireturn, 1) := by decide +kernel
set_option maxHeartbeats 4000000 in
set_option maxRecDepth 100000 in
theorem x_setQuay (l : Launch) (hfl : l.stackTraces = false) (g : xG) (sz : Nat) (h0 : Nat) (pl : Nat) (ag : Nat) (yd : Nat) (hg : Nat) (st : Nat) (so : Nat) (f1 : Value) (f2 : Value) (f3 : Value) (f4 : Value) (f5 : Value) (f6 : Value) (f7 : Value) (f9 : Value) (f10 : Value) (f11 : Value) (f14 : Value) (q0 : Value) (q1 : Value) (q2 : Value) (q3 : Value) (a0 : Value) (a1 : Value) (y0 : Value) (y1 : Value) (y2 : Value) (y3 : Value) (y5 : Value) (y6 : Value) (y7 : Value) (y10 : Value) (fh : Nat → Int32) (ft : Nat → Int32) (fo : Nat → Int32) (was : Int32) (p0 : Int32)  : vx_Met l yX8_setQuay wsX8_setQuay ({ frames := 7, cells := 1, slots := 6, locals := 142 }) (va_Pc [.ref h0, .int p0] (fun U => xB g [(h0, .inr (8, [.int was, f1, f2, f3, f4, f5, f6, f7, .ref pl, f9, f10, f11, .ref ag, .ref yd, f14])), (pl, .inr (4, [q0, q1, q2, q3])), (ag, .inr (0, [a0, a1])), (yd, .inr (7, [y0, y1, y2, y3, .ref hg, y5, y6, y7, .ref st, .ref so, y10])), (hg, .inl (xI g, 12, .inl fh)), (st, .inl (xI g, 24, .inl ft)), (so, .inl (xI g, 24, .inl fo))] sz U ∧ xU (va_A [(h0, .inr (8, [.int was, f1, f2, f3, f4, f5, f6, f7, .ref pl, f9, f10, f11, .ref ag, .ref yd, f14])), (pl, .inr (4, [q0, q1, q2, q3])), (ag, .inr (0, [a0, a1])), (yd, .inr (7, [y0, y1, y2, y3, .ref hg, y5, y6, y7, .ref st, .ref so, y10])), (hg, .inl (xI g, 12, .inl fh)), (st, .inl (xI g, 24, .inl ft)), (so, .inl (xI g, 24, .inl fo))] sz) U)) (va_Qi (fun (r : Int32) (u : Unit) => r = was ∧ ¬ p0 < 4 ∧ ¬ 60 < p0) (fun _ _ => True) (va_A [(h0, .inr (8, [.int was, f1, f2, f3, f4, f5, f6, f7, .ref pl, f9, f10, f11, .ref ag, .ref yd, f14])), (pl, .inr (4, [q0, q1, q2, q3])), (ag, .inr (0, [a0, a1])), (yd, .inr (7, [y0, y1, y2, y3, .ref hg, y5, y6, y7, .ref st, .ref so, y10])), (hg, .inl (xI g, 12, .inl fh)), (st, .inl (xI g, 24, .inl ft)), (so, .inl (xI g, 24, .inl fo))] sz)) (vx_X (fun _ : Unit => True) (fun E _ _ => (E = "java/lang/IllegalArgumentException" ∧ (p0 < 4 ∨ 60 < p0))) (va_A [(h0, .inr (8, [.int was, f1, f2, f3, f4, f5, f6, f7, .ref pl, f9, f10, f11, .ref ag, .ref yd, f14])), (pl, .inr (4, [q0, q1, q2, q3])), (ag, .inr (0, [a0, a1])), (yd, .inr (7, [y0, y1, y2, y3, .ref hg, y5, y6, y7, .ref st, .ref so, y10])), (hg, .inl (xI g, 12, .inl fh)), (st, .inl (xI g, 24, .inl ft)), (so, .inl (xI g, 24, .inl fo))] sz)) 1 6 (va_A [(h0, .inr (8, [.int was, f1, f2, f3, f4, f5, f6, f7, .ref pl, f9, f10, f11, .ref ag, .ref yd, f14])), (pl, .inr (4, [q0, q1, q2, q3])), (ag, .inr (0, [a0, a1])), (yd, .inr (7, [y0, y1, y2, y3, .ref hg, y5, y6, y7, .ref st, .ref so, y10])), (hg, .inl (xI g, 12, .inl fh)), (st, .inl (xI g, 24, .inl ft)), (so, .inl (xI g, 24, .inl fo))] sz) := by
  refine vx_ofW (cc := cX8_setQuay) (maxL := 3) (ret := (some .int)) (by decide) rfl ?_
  intro p e s m args below meth c s₁ B hml htab hv
  obtain ⟨rfl, ⟨hsz, hP, hK, hD0⟩, hU⟩ := hv
  have hx := B.exec
  have hb := B.bytes
  have hr := B.returns
  have hts := atoms_spec (ws := wsX8_setQuay) B.pre
  have hown : s.vm.findClass RX8 = some m.cls := findClass_of_methodNamed B.named
  have hlocks := B.notSynchronized
  subst hsz
  have hD := hD0.self (sz := s.heap.size)
  generalize hAe : va_A [(h0, .inr (8, [.int was, f1, f2, f3, f4, f5, f6, f7, .ref pl, f9, f10, f11, .ref ag, .ref yd, f14])), (pl, .inr (4, [q0, q1, q2, q3])), (ag, .inr (0, [a0, a1])), (yd, .inr (7, [y0, y1, y2, y3, .ref hg, y5, y6, y7, .ref st, .ref so, y10])), (hg, .inl (xI g, 12, .inl fh)), (st, .inl (xI g, 24, .inl ft)), (so, .inl (xI g, 24, .inl fo))] s.heap.size = A at hD hU ⊢
  have hA : ∀ q : Nat, s.heap.size ≤ q → A q := fun q h => by rw [← hAe]; exact Or.inr h
  have hS : va_S A s.heap s.heap [] := va_S.rf
  have hl := lv_entry ([.ref h0, .int p0]) (n := 3) (Nat.le_of_ble_eq_true rfl)
  rw [lg_entry_eq]
  generalize (lg_sl ([.ref h0, .int p0]) ++ List.replicate (3 - (lg_sl ([.ref h0, .int p0])).length) Slot.unset).toArray = ls at hl ⊢
  have hl : lv_has ls 3 [(0, .ref h0), (1, .int p0)] := hl
  have hFX8 : ∀ w ∈ u_ws RX8 TX8 15, w ∈ wsX8_setQuay := by decide +kernel
  refine lv_iload_n hx hb dX8_setQuay_0 rfl (lv_at hl 1 rfl) ?_
  refine lv_iconst (v := 4) hx hb dX8_setQuay_1 (by decide) ?_
  refine lv_bipush (v := 60) hx hb dX8_setQuay_2 (by decide) ?_
  have hPc := hP.sub (ws' := []) [] rfl
  have hDc := hD.sub (ws' := []) [] (by decide) rfl
  have hFc := xFree hS hA
  refine vx_callv (vx_runS (As := [.int p0, .int 4, .int 60]) (rest := []) ⟨hx, hb, hml, hown, hts⟩ (x_needWithin l hfl g s.heap.size p0 4 60) (va_cwS 3 hts gX8_setQuay_X8_needWithin rfl rfl rfl (by decide +kernel) ⟨Nat.le_of_ble_eq_true rfl, Nat.le_of_ble_eq_true rfl⟩) ⟨xBU.blind, fun U9 hU9 hW9 => ⟨rfl, xB.mk hPc hK hDc hU9 hW9, hU.call hS hFc hU9 hW9⟩⟩ rfl rfl hl.1 rfl (lv_room (Nat.le_of_ble_eq_true rfl)) dX8_setQuay_4 ⟨Nat.le_of_ble_eq_true rfl, Nat.le_of_ble_eq_true rfl⟩) hS (fun q _ h => hFc q h) hFc (fun q _ h => hFc q h) (fun E ce q9 ux t H1 locs1 ht hvm hpx hB hz1 hk1 hS hce hcv hcl => ?_) (fun u_2 t H1 locs ht hvm hw_3 hB hz1 hk1 hS => ?_)
  · obtain ⟨rfl, hB⟩ := hB
    refine vx_out (fun x hx => (htab x hx).elim) hlocks hce hcv hcl (fun t9 ht9 hal9 => ⟨(), trivial, ⟨rfl, by first | trivial | exact hB | (rcases hB with h | h <;> simp only [h, true_or, or_true]; done) | simp_all | omega⟩, hS.F ht9⟩) hS.2.2 (Nat.le_of_ble_eq_true rfl) (Nat.le_of_ble_eq_true rfl)
  · have hP := xSame hP hk1
    generalize H1 = H at hP hS ⊢
    have hP : va_P (xD g) vwCl [(h0, .inr (8, [.int was, f1, f2, f3, f4, f5, f6, f7, .ref pl, f9, f10, f11, .ref ag, .ref yd, f14])), (pl, .inr (4, [q0, q1, q2, q3])), (ag, .inr (0, [a0, a1])), (yd, .inr (7, [y0, y1, y2, y3, .ref hg, y5, y6, y7, .ref st, .ref so, y10])), (hg, .inl (xI g, 12, .inl fh)), (st, .inl (xI g, 24, .inl ft)), (so, .inl (xI g, 24, .inl fo))] H := hP
    have hD : va_D A [(h0, .inr (8, [.int was, f1, f2, f3, f4, f5, f6, f7, .ref pl, f9, f10, f11, .ref ag, .ref yd, f14])), (pl, .inr (4, [q0, q1, q2, q3])), (ag, .inr (0, [a0, a1])), (yd, .inr (7, [y0, y1, y2, y3, .ref hg, y5, y6, y7, .ref st, .ref so, y10])), (hg, .inl (xI g, 12, .inl fh)), (st, .inl (xI g, 24, .inl ft)), (so, .inl (xI g, 24, .inl fo))] := hD
    refine W.widen (k := 1) (n := 6) (by omega) (by omega) ?_
    try dsimp only at hw_3
    refine lv_aload_n hx hb dX8_setQuay_7 rfl (lv_at hl 0 rfl) ?_
    refine va_get (D := xD g) (ci := 8) (v := .int was) (C := RX8) (T := TX8) (N := 15) hx hb hts hFX8 hown hK hP 0 rfl rfl 0 (by decide) (hts (.fieldLink RX8 9 "Stevedore" "quay" "I") (by decide +kernel)) (fun _ h9 => h9) rfl dX8_setQuay_8 ?_
    refine lv_istore_n (lv' := [(2, .int was), (0, .ref h0), (1, .int p0)]) hx hb dX8_setQuay_11 rfl hl (by decide) rfl (fun ls hl => ?_)
    refine lv_aload_n hx hb dX8_setQuay_12 rfl (lv_at hl 1 rfl) ?_
    refine lv_iload_n hx hb dX8_setQuay_13 rfl (lv_at hl 2 rfl) ?_
    refine va_put (D := xD g) (ci := 8) (v := .int p0) (ty := .int) (C := RX8) (T := TX8) (N := 15) hx hb hts hFX8 tyX8 tyX8_ok nmX8 hown hK hP hD hS 0 rfl rfl 0 (by decide) (hts (.fieldLink RX8 9 "Stevedore" "quay" "I") (by decide +kernel)) (fun _ h9 => h9) rfl (by decide +kernel) rfl rfl (Nat.le_of_ble_eq_true rfl) dX8_setQuay_14 (fun H locs hP hD hS => ?_)
    have hP : va_P (xD g) vwCl [(h0, .inr (8, [.int p0, f1, f2, f3, f4, f5, f6, f7, .ref pl, f9, f10, f11, .ref ag, .ref yd, f14])), (pl, .inr (4, [q0, q1, q2, q3])), (ag, .inr (0, [a0, a1])), (yd, .inr (7, [y0, y1, y2, y3, .ref hg, y5, y6, y7, .ref st, .ref so, y10])), (hg, .inl (xI g, 12, .inl fh)), (st, .inl (xI g, 24, .inl ft)), (so, .inl (xI g, 24, .inl fo))] H := hP
    have hD : va_D A [(h0, .inr (8, [.int p0, f1, f2, f3, f4, f5, f6, f7, .ref pl, f9, f10, f11, .ref ag, .ref yd, f14])), (pl, .inr (4, [q0, q1, q2, q3])), (ag, .inr (0, [a0, a1])), (yd, .inr (7, [y0, y1, y2, y3, .ref hg, y5, y6, y7, .ref st, .ref so, y10])), (hg, .inl (xI g, 12, .inl fh)), (st, .inl (xI g, 24, .inl ft)), (so, .inl (xI g, 24, .inl fo))] := hD
    refine lv_aload_n hx hb dX8_setQuay_17 rfl (lv_at hl 1 rfl) ?_
    have hPc := hP.sub (ws' := [(h0, .inr (8, [.int p0, f1, f2, f3, f4, f5, f6, f7, .ref pl, f9, f10, f11, .ref ag, .ref yd, f14])), (pl, .inr (4, [q0, q1, q2, q3])), (ag, .inr (0, [a0, a1])), (yd, .inr (7, [y0, y1, y2, y3, .ref hg, y5, y6, y7, .ref st, .ref so, y10])), (hg, .inl (xI g, 12, .inl fh)), (st, .inl (xI g, 24, .inl ft)), (so, .inl (xI g, 24, .inl fo))]) [0, 1, 2, 3, 4, 5, 6] rfl
    have hDc := hD.sub (ws' := [(h0, .inr (8, [.int p0, f1, f2, f3, f4, f5, f6, f7, .ref pl, f9, f10, f11, .ref ag, .ref yd, f14])), (pl, .inr (4, [q0, q1, q2, q3])), (ag, .inr (0, [a0, a1])), (yd, .inr (7, [y0, y1, y2, y3, .ref hg, y5, y6, y7, .ref st, .ref so, y10])), (hg, .inl (xI g, 12, .inl fh)), (st, .inl (xI g, 24, .inl ft)), (so, .inl (xI g, 24, .inl fo))]) [0, 1, 2, 3, 4, 5, 6] (by decide) rfl
    have hFc := va_free (wc := [(h0, .inr (8, [.int p0, f1, f2, f3, f4, f5, f6, f7, .ref pl, f9, f10, f11, .ref ag, .ref yd, f14])), (pl, .inr (4, [q0, q1, q2, q3])), (ag, .inr (0, [a0, a1])), (yd, .inr (7, [y0, y1, y2, y3, .ref hg, y5, y6, y7, .ref st, .ref so, y10])), (hg, .inl (xI g, 12, .inl fh)), (st, .inl (xI g, 24, .inl ft)), (so, .inl (xI g, 24, .inl fo))]) hD hS hA [0, 1, 2, 3, 4, 5, 6] rfl
    refine va_callv (va_runV (As := []) (rest := []) ⟨hx, hb, hml, hown, hts⟩ (x_forgetPlan l g H.size h0 pl ag yd hg st so (.int p0) f1 f2 f3 f4 f5 f6 f7 f9 f10 f11 f14 q0 q1 q2 q3 a0 a1 y0 y1 y2 y3 y5 y6 y7 y10 fh ft fo) (cwV 0 hts gX8_setQuay_X8_forgetPlan rfl rfl rfl (by decide +kernel) ⟨Nat.le_of_ble_eq_true rfl, Nat.le_of_ble_eq_true rfl⟩) ⟨xB.blind, va_recv hK hPc (ci := 8) (q0 := 0) rfl rfl, fun U9 hU9 hW9 => ⟨rfl, xB.mk hPc hK hDc hU9 hW9⟩⟩ rfl rfl hl.1 rfl (lv_room (Nat.le_of_ble_eq_true rfl)) dX8_setQuay_18 ⟨Nat.le_of_ble_eq_true rfl, Nat.le_of_ble_eq_true rfl⟩) hS (fun q _ h => hFc q h) hFc (fun u_5 t H1 locs ht hvm hw_6 hB hz1 hk1 hS => ?_)
    obtain ⟨hP1, hK1, hD1⟩ := hB
    rw [ht] at hP1
    obtain ⟨hP, hD⟩ := va_join (wr := []) (w1 := [(h0, .inr (8, [.int p0, f1, f2, f3, f4, f5, f6, f7, .ref pl, f9, .int 0, f11, .ref ag, .ref yd, f14]))]) hP hD [0, 1, 2, 3, 4, 5, 6] [] rfl rfl (by decide) (by decide) hk1 hFc hP1 hD1
    generalize H1 = H at hP hS ⊢
    have hP : va_P (xD g) vwCl [(h0, .inr (8, [.int p0, f1, f2, f3, f4, f5, f6, f7, .ref pl, f9, .int 0, f11, .ref ag, .ref yd, f14]))] H := hP
    have hD : va_D A [(h0, .inr (8, [.int p0, f1, f2, f3, f4, f5, f6, f7, .ref pl, f9, .int 0, f11, .ref ag, .ref yd, f14]))] := hD
    try dsimp only at hw_6
    refine lv_iload_n hx hb dX8_setQuay_21 rfl (lv_at hl 0 rfl) ?_
    refine vx_ret ?_
    exact W.iret (v := was) hx hb hr (fun t ht hW => ⟨⟨was, (), rfl, ⟨rfl, (by first | trivial | assumption | (refine ⟨?_, ?_⟩ <;> assumption) | (simp only [Int32.lt_iff_toInt_lt, Int32.le_iff_toInt_le, Int32.reduceToInt] at *; omega))⟩, trivial⟩, hS.F ht⟩) hS.2.2 dX8_setQuay_22
theorem dX8_setCranes_0 : decode cX8_setCranes 0 = .ok (.iload_n 1, 1) := by decide +kernel
theorem dX8_setCranes_1 : decode cX8_setCranes 1 = .ok (.iconst 1, 1) := by decide +kernel
theorem dX8_setCranes_2 : decode cX8_setCranes 2 = .ok (.bipush 6, 2) := by decide +kernel
theorem dX8_setCranes_4 : decode cX8_setCranes 4 = .ok (.invokestatic 88, 3) := by decide +kernel
set_option maxRecDepth 20000 in
theorem ggX8_setCranes_X8_needWithin : GoodIn wsX8_setCranes wsX8_needWithin := goodIn_ca (goodIn_r _ [5, 6, 7] rfl (by decide +kernel)) (goodIn_sub (fun _ h => List.mem_cons_of_mem _ (List.mem_append_right _ h)) (by decide +kernel))
set_option maxRecDepth 20000 in
theorem gX8_setCranes_X8_needWithin : GoodIn wsX8_setCranes (va_wsS RX8 88 yX8_needWithin wsX8_needWithin) := goodIn_app (goodIn_of _ (by decide +kernel)) ggX8_setCranes_X8_needWithin
theorem dX8_setCranes_7 : decode cX8_setCranes 7 = .ok (.aload_n 0, 1) := by decide +kernel
theorem dX8_setCranes_8 : decode cX8_setCranes 8 = .ok (.getfield 13, 3) := by decide +kernel
theorem dX8_setCranes_11 : decode cX8_setCranes 11 = .ok (.istore_n 2, 1) := by decide +kernel
theorem dX8_setCranes_12 : decode cX8_setCranes 12 = .ok (.aload_n 0, 1) := by decide +kernel
theorem dX8_setCranes_13 : decode cX8_setCranes 13 = .ok (.iload_n 1, 1) := by decide +kernel
theorem dX8_setCranes_14 : decode cX8_setCranes 14 = .ok (.putfield 13, 3) := by decide +kernel
theorem dX8_setCranes_17 : decode cX8_setCranes 17 = .ok (.aload_n 0, 1) := by decide +kernel
theorem dX8_setCranes_18 : decode cX8_setCranes 18 = .ok (.invokevirtual 92, 3) := by decide +kernel
set_option maxRecDepth 20000 in
theorem ggX8_setCranes_X8_forgetPlan : GoodIn wsX8_setCranes wsX8_forgetPlan := goodIn_r _ [11, 12, 13, 14, 15, 16, 4, 17, 18, 19, 20, 21, 22, 23, 24, 25, 26, 27, 28, 29, 30, 31, 32, 33, 34, 35, 36, 37, 38, 39, 40, 41, 42, 43, 44, 45, 46, 47, 48, 49, 50, 51, 52, 53, 54, 55, 56, 57, 58, 59, 60, 61, 62, 63, 64, 65, 66, 67] rfl (by decide +kernel)
set_option maxRecDepth 20000 in
theorem gX8_setCranes_X8_forgetPlan : GoodIn wsX8_setCranes (wsV RX8 92 RX8 yX8_forgetPlan wsX8_forgetPlan) := goodIn_app (goodIn_of _ (by decide +kernel)) ggX8_setCranes_X8_forgetPlan
theorem dX8_setCranes_21 : decode cX8_setCranes 21 = .ok (.iload_n 2, 1) := by decide +kernel
theorem dX8_setCranes_22 : decode cX8_setCranes 22 = .ok (.ireturn, 1) := by decide +kernel
set_option maxHeartbeats 4000000 in
set_option maxRecDepth 100000 in
theorem x_setCranes (l : Launch) (hfl : l.stackTraces = false) (g : xG) (sz : Nat) (h0 : Nat) (pl : Nat) (ag : Nat) (yd : Nat) (hg : Nat) (st : Nat) (so : Nat) (f0 : Value) (f2 : Value) (f3 : Value) (f4 : Value) (f5 : Value) (f6 : Value) (f7 : Value) (f9 : Value) (f10 : Value) (f11 : Value) (f14 : Value) (q0 : Value) (q1 : Value) (q2 : Value) (q3 : Value) (a0 : Value) (a1 : Value) (y0 : Value) (y1 : Value) (y2 : Value) (y3 : Value) (y5 : Value) (y6 : Value) (y7 : Value) (y10 : Value) (fh : Nat → Int32) (ft : Nat → Int32) (fo : Nat → Int32) (was : Int32) (p0 : Int32)  : vx_Met l yX8_setCranes wsX8_setCranes ({ frames := 7, cells := 1, slots := 6, locals := 142 }) (va_Pc [.ref h0, .int p0] (fun U => xB g [(h0, .inr (8, [f0, .int was, f2, f3, f4, f5, f6, f7, .ref pl, f9, f10, f11, .ref ag, .ref yd, f14])), (pl, .inr (4, [q0, q1, q2, q3])), (ag, .inr (0, [a0, a1])), (yd, .inr (7, [y0, y1, y2, y3, .ref hg, y5, y6, y7, .ref st, .ref so, y10])), (hg, .inl (xI g, 12, .inl fh)), (st, .inl (xI g, 24, .inl ft)), (so, .inl (xI g, 24, .inl fo))] sz U ∧ xU (va_A [(h0, .inr (8, [f0, .int was, f2, f3, f4, f5, f6, f7, .ref pl, f9, f10, f11, .ref ag, .ref yd, f14])), (pl, .inr (4, [q0, q1, q2, q3])), (ag, .inr (0, [a0, a1])), (yd, .inr (7, [y0, y1, y2, y3, .ref hg, y5, y6, y7, .ref st, .ref so, y10])), (hg, .inl (xI g, 12, .inl fh)), (st, .inl (xI g, 24, .inl ft)), (so, .inl (xI g, 24, .inl fo))] sz) U)) (va_Qi (fun (r : Int32) (u : Unit) => r = was ∧ ¬ p0 < 1 ∧ ¬ 6 < p0) (fun _ _ => True) (va_A [(h0, .inr (8, [f0, .int was, f2, f3, f4, f5, f6, f7, .ref pl, f9, f10, f11, .ref ag, .ref yd, f14])), (pl, .inr (4, [q0, q1, q2, q3])), (ag, .inr (0, [a0, a1])), (yd, .inr (7, [y0, y1, y2, y3, .ref hg, y5, y6, y7, .ref st, .ref so, y10])), (hg, .inl (xI g, 12, .inl fh)), (st, .inl (xI g, 24, .inl ft)), (so, .inl (xI g, 24, .inl fo))] sz)) (vx_X (fun _ : Unit => True) (fun E _ _ => (E = "java/lang/IllegalArgumentException" ∧ (p0 < 1 ∨ 6 < p0))) (va_A [(h0, .inr (8, [f0, .int was, f2, f3, f4, f5, f6, f7, .ref pl, f9, f10, f11, .ref ag, .ref yd, f14])), (pl, .inr (4, [q0, q1, q2, q3])), (ag, .inr (0, [a0, a1])), (yd, .inr (7, [y0, y1, y2, y3, .ref hg, y5, y6, y7, .ref st, .ref so, y10])), (hg, .inl (xI g, 12, .inl fh)), (st, .inl (xI g, 24, .inl ft)), (so, .inl (xI g, 24, .inl fo))] sz)) 1 6 (va_A [(h0, .inr (8, [f0, .int was, f2, f3, f4, f5, f6, f7, .ref pl, f9, f10, f11, .ref ag, .ref yd, f14])), (pl, .inr (4, [q0, q1, q2, q3])), (ag, .inr (0, [a0, a1])), (yd, .inr (7, [y0, y1, y2, y3, .ref hg, y5, y6, y7, .ref st, .ref so, y10])), (hg, .inl (xI g, 12, .inl fh)), (st, .inl (xI g, 24, .inl ft)), (so, .inl (xI g, 24, .inl fo))] sz) := by
  refine vx_ofW (cc := cX8_setCranes) (maxL := 3) (ret := (some .int)) (by decide) rfl ?_
  intro p e s m args below meth c s₁ B hml htab hv
  obtain ⟨rfl, ⟨hsz, hP, hK, hD0⟩, hU⟩ := hv
  have hx := B.exec
  have hb := B.bytes
  have hr := B.returns
  have hts := atoms_spec (ws := wsX8_setCranes) B.pre
  have hown : s.vm.findClass RX8 = some m.cls := findClass_of_methodNamed B.named
  have hlocks := B.notSynchronized
  subst hsz
  have hD := hD0.self (sz := s.heap.size)
  generalize hAe : va_A [(h0, .inr (8, [f0, .int was, f2, f3, f4, f5, f6, f7, .ref pl, f9, f10, f11, .ref ag, .ref yd, f14])), (pl, .inr (4, [q0, q1, q2, q3])), (ag, .inr (0, [a0, a1])), (yd, .inr (7, [y0, y1, y2, y3, .ref hg, y5, y6, y7, .ref st, .ref so, y10])), (hg, .inl (xI g, 12, .inl fh)), (st, .inl (xI g, 24, .inl ft)), (so, .inl (xI g, 24, .inl fo))] s.heap.size = A at hD hU ⊢
  have hA : ∀ q : Nat, s.heap.size ≤ q → A q := fun q h => by rw [← hAe]; exact Or.inr h
  have hS : va_S A s.heap s.heap [] := va_S.rf
  have hl := lv_entry ([.ref h0, .int p0]) (n := 3) (Nat.le_of_ble_eq_true rfl)
  rw [lg_entry_eq]
  generalize (lg_sl ([.ref h0, .int p0]) ++ List.replicate (3 - (lg_sl ([.ref h0, .int p0])).length) Slot.unset).toArray = ls at hl ⊢
  have hl : lv_has ls 3 [(0, .ref h0), (1, .int p0)] := hl
  have hFX8 : ∀ w ∈ u_ws RX8 TX8 15, w ∈ wsX8_setCranes := by decide +kernel
  refine lv_iload_n hx hb dX8_setCranes_0 rfl (lv_at hl 1 rfl) ?_
  refine lv_iconst (v := 1) hx hb dX8_setCranes_1 (by decide) ?_
  refine lv_bipush (v := 6) hx hb dX8_setCranes_2 (by decide) ?_
  have hPc := hP.sub (ws' := []) [] rfl
  have hDc := hD.sub (ws' := []) [] (by decide) rfl
  have hFc := xFree hS hA
  refine vx_callv (vx_runS (As := [.int p0, .int 1, .int 6]) (rest := []) ⟨hx, hb, hml, hown, hts⟩ (x_needWithin l hfl g s.heap.size p0 1 6) (va_cwS 3 hts gX8_setCranes_X8_needWithin rfl rfl rfl (by decide +kernel) ⟨Nat.le_of_ble_eq_true rfl, Nat.le_of_ble_eq_true rfl⟩) ⟨xBU.blind, fun U9 hU9 hW9 => ⟨rfl, xB.mk hPc hK hDc hU9 hW9, hU.call hS hFc hU9 hW9⟩⟩ rfl rfl hl.1 rfl (lv_room (Nat.le_of_ble_eq_true rfl)) dX8_setCranes_4 ⟨Nat.le_of_ble_eq_true rfl, Nat.le_of_ble_eq_true rfl⟩) hS (fun q _ h => hFc q h) hFc (fun q _ h => hFc q h) (fun E ce q9 ux t H1 locs1 ht hvm hpx hB hz1 hk1 hS hce hcv hcl => ?_) (fun u_2 t H1 locs ht hvm hw_3 hB hz1 hk1 hS => ?_)
  · obtain ⟨rfl, hB⟩ := hB
    refine vx_out (fun x hx => (htab x hx).elim) hlocks hce hcv hcl (fun t9 ht9 hal9 => ⟨(), trivial, ⟨rfl, by first | trivial | exact hB | (rcases hB with h | h <;> simp only [h, true_or, or_true]; done) | simp_all | omega⟩, hS.F ht9⟩) hS.2.2 (Nat.le_of_ble_eq_true rfl) (Nat.le_of_ble_eq_true rfl)
  · have hP := xSame hP hk1
    generalize H1 = H at hP hS ⊢
    have hP : va_P (xD g) vwCl [(h0, .inr (8, [f0, .int was, f2, f3, f4, f5, f6, f7, .ref pl, f9, f10, f11, .ref ag, .ref yd, f14])), (pl, .inr (4, [q0, q1, q2, q3])), (ag, .inr (0, [a0, a1])), (yd, .inr (7, [y0, y1, y2, y3, .ref hg, y5, y6, y7, .ref st, .ref so, y10])), (hg, .inl (xI g, 12, .inl fh)), (st, .inl (xI g, 24, .inl ft)), (so, .inl (xI g, 24, .inl fo))] H := hP
    have hD : va_D A [(h0, .inr (8, [f0, .int was, f2, f3, f4, f5, f6, f7, .ref pl, f9, f10, f11, .ref ag, .ref yd, f14])), (pl, .inr (4, [q0, q1, q2, q3])), (ag, .inr (0, [a0, a1])), (yd, .inr (7, [y0, y1, y2, y3, .ref hg, y5, y6, y7, .ref st, .ref so, y10])), (hg, .inl (xI g, 12, .inl fh)), (st, .inl (xI g, 24, .inl ft)), (so, .inl (xI g, 24, .inl fo))] := hD
    refine W.widen (k := 1) (n := 6) (by omega) (by omega) ?_
    try dsimp only at hw_3
    refine lv_aload_n hx hb dX8_setCranes_7 rfl (lv_at hl 0 rfl) ?_
    refine va_get (D := xD g) (ci := 8) (v := .int was) (C := RX8) (T := TX8) (N := 15) hx hb hts hFX8 hown hK hP 0 rfl rfl 1 (by decide) (hts (.fieldLink RX8 13 "Stevedore" "cranes" "I") (by decide +kernel)) (fun _ h9 => h9) rfl dX8_setCranes_8 ?_
    refine lv_istore_n (lv' := [(2, .int was), (0, .ref h0), (1, .int p0)]) hx hb dX8_setCranes_11 rfl hl (by decide) rfl (fun ls hl => ?_)
    refine lv_aload_n hx hb dX8_setCranes_12 rfl (lv_at hl 1 rfl) ?_
    refine lv_iload_n hx hb dX8_setCranes_13 rfl (lv_at hl 2 rfl) ?_
    refine va_put (D := xD g) (ci := 8) (v := .int p0) (ty := .int) (C := RX8) (T := TX8) (N := 15) hx hb hts hFX8 tyX8 tyX8_ok nmX8 hown hK hP hD hS 0 rfl rfl 1 (by decide) (hts (.fieldLink RX8 13 "Stevedore" "cranes" "I") (by decide +kernel)) (fun _ h9 => h9) rfl (by decide +kernel) rfl rfl (Nat.le_of_ble_eq_true rfl) dX8_setCranes_14 (fun H locs hP hD hS => ?_)
    have hP : va_P (xD g) vwCl [(h0, .inr (8, [f0, .int p0, f2, f3, f4, f5, f6, f7, .ref pl, f9, f10, f11, .ref ag, .ref yd, f14])), (pl, .inr (4, [q0, q1, q2, q3])), (ag, .inr (0, [a0, a1])), (yd, .inr (7, [y0, y1, y2, y3, .ref hg, y5, y6, y7, .ref st, .ref so, y10])), (hg, .inl (xI g, 12, .inl fh)), (st, .inl (xI g, 24, .inl ft)), (so, .inl (xI g, 24, .inl fo))] H := hP
    have hD : va_D A [(h0, .inr (8, [f0, .int p0, f2, f3, f4, f5, f6, f7, .ref pl, f9, f10, f11, .ref ag, .ref yd, f14])), (pl, .inr (4, [q0, q1, q2, q3])), (ag, .inr (0, [a0, a1])), (yd, .inr (7, [y0, y1, y2, y3, .ref hg, y5, y6, y7, .ref st, .ref so, y10])), (hg, .inl (xI g, 12, .inl fh)), (st, .inl (xI g, 24, .inl ft)), (so, .inl (xI g, 24, .inl fo))] := hD
    refine lv_aload_n hx hb dX8_setCranes_17 rfl (lv_at hl 1 rfl) ?_
    have hPc := hP.sub (ws' := [(h0, .inr (8, [f0, .int p0, f2, f3, f4, f5, f6, f7, .ref pl, f9, f10, f11, .ref ag, .ref yd, f14])), (pl, .inr (4, [q0, q1, q2, q3])), (ag, .inr (0, [a0, a1])), (yd, .inr (7, [y0, y1, y2, y3, .ref hg, y5, y6, y7, .ref st, .ref so, y10])), (hg, .inl (xI g, 12, .inl fh)), (st, .inl (xI g, 24, .inl ft)), (so, .inl (xI g, 24, .inl fo))]) [0, 1, 2, 3, 4, 5, 6] rfl
    have hDc := hD.sub (ws' := [(h0, .inr (8, [f0, .int p0, f2, f3, f4, f5, f6, f7, .ref pl, f9, f10, f11, .ref ag, .ref yd, f14])), (pl, .inr (4, [q0, q1, q2, q3])), (ag, .inr (0, [a0, a1])), (yd, .inr (7, [y0, y1, y2, y3, .ref hg, y5, y6, y7, .ref st, .ref so, y10])), (hg, .inl (xI g, 12, .inl fh)), (st, .inl (xI g, 24, .inl ft)), (so, .inl (xI g, 24, .inl fo))]) [0, 1, 2, 3, 4, 5, 6] (by decide) rfl
    have hFc := va_free (wc := [(h0, .inr (8, [f0, .int p0, f2, f3, f4, f5, f6, f7, .ref pl, f9, f10, f11, .ref ag, .ref yd, f14])), (pl, .inr (4, [q0, q1, q2, q3])), (ag, .inr (0, [a0, a1])), (yd, .inr (7, [y0, y1, y2, y3, .ref hg, y5, y6, y7, .ref st, .ref so, y10])), (hg, .inl (xI g, 12, .inl fh)), (st, .inl (xI g, 24, .inl ft)), (so, .inl (xI g, 24, .inl fo))]) hD hS hA [0, 1, 2, 3, 4, 5, 6] rfl
    refine va_callv (va_runV (As := []) (rest := []) ⟨hx, hb, hml, hown, hts⟩ (x_forgetPlan l g H.size h0 pl ag yd hg st so f0 (.int p0) f2 f3 f4 f5 f6 f7 f9 f10 f11 f14 q0 q1 q2 q3 a0 a1 y0 y1 y2 y3 y5 y6 y7 y10 fh ft fo) (cwV 0 hts gX8_setCranes_X8_forgetPlan rfl rfl rfl (by decide +kernel) ⟨Nat.le_of_ble_eq_true rfl, Nat.le_of_ble_eq_true rfl⟩) ⟨xB.blind, va_recv hK hPc (ci := 8) (q0 := 0) rfl rfl, fun U9 hU9 hW9 => ⟨rfl, xB.mk hPc hK hDc hU9 hW9⟩⟩ rfl rfl hl.1 rfl (lv_room (Nat.le_of_ble_eq_true rfl)) dX8_setCranes_18 ⟨Nat.le_of_ble_eq_true rfl, Nat.le_of_ble_eq_true rfl⟩) hS (fun q _ h => hFc q h) hFc (fun u_5 t H1 locs ht hvm hw_6 hB hz1 hk1 hS => ?_)
    obtain ⟨hP1, hK1, hD1⟩ := hB
    rw [ht] at hP1
    obtain ⟨hP, hD⟩ := va_join (wr := []) (w1 := [(h0, .inr (8, [f0, .int p0, f2, f3, f4, f5, f6, f7, .ref pl, f9, .int 0, f11, .ref ag, .ref yd, f14]))]) hP hD [0, 1, 2, 3, 4, 5, 6] [] rfl rfl (by decide) (by decide) hk1 hFc hP1 hD1
    generalize H1 = H at hP hS ⊢
    have hP : va_P (xD g) vwCl [(h0, .inr (8, [f0, .int p0, f2, f3, f4, f5, f6, f7, .ref pl, f9, .int 0, f11, .ref ag, .ref yd, f14]))] H := hP
    have hD : va_D A [(h0, .inr (8, [f0, .int p0, f2, f3, f4, f5, f6, f7, .ref pl, f9, .int 0, f11, .ref ag, .ref yd, f14]))] := hD
    try dsimp only at hw_6
    refine lv_iload_n hx hb dX8_setCranes_21 rfl (lv_at hl 0 rfl) ?_
    refine vx_ret ?_
    exact W.iret (v := was) hx hb hr (fun t ht hW => ⟨⟨was, (), rfl, ⟨rfl, (by first | trivial | assumption | (refine ⟨?_, ?_⟩ <;> assumption) | (simp only [Int32.lt_iff_toInt_lt, Int32.le_iff_toInt_le, Int32.reduceToInt] at *; omega))⟩, trivial⟩, hS.F ht⟩) hS.2.2 dX8_setCranes_22
theorem dX8_setRoom_0 : decode cX8_setRoom 0 = .ok (.iload_n 1, 1) := by decide +kernel
theorem dX8_setRoom_1 : decode cX8_setRoom 1 = .ok (.invokestatic 159, 3) := by decide +kernel
set_option maxRecDepth 20000 in
theorem ggX8_setRoom_X8_needSlot : GoodIn wsX8_setRoom wsX8_needSlot := goodIn_ca (goodIn_r _ [5, 6, 7] rfl (by decide +kernel)) (goodIn_sub (fun _ h => List.mem_cons_of_mem _ (List.mem_append_left _ (List.mem_append_right _ h))) (by decide +kernel))
set_option maxRecDepth 20000 in
theorem gX8_setRoom_X8_needSlot : GoodIn wsX8_setRoom (va_wsS RX8 159 yX8_needSlot wsX8_needSlot) := goodIn_app (goodIn_of _ (by decide +kernel)) ggX8_setRoom_X8_needSlot
theorem dX8_setRoom_4 : decode cX8_setRoom 4 = .ok (.iload_n 2, 1) := by decide +kernel
theorem dX8_setRoom_5 : decode cX8_setRoom 5 = .ok (.iconst 0, 1) := by decide +kernel
theorem dX8_setRoom_6 : decode cX8_setRoom 6 = .ok (.bipush 6, 2) := by decide +kernel
theorem dX8_setRoom_8 : decode cX8_setRoom 8 = .ok (.invokestatic 88, 3) := by decide +kernel
set_option maxRecDepth 20000 in
theorem ggX8_setRoom_X8_needWithin : GoodIn wsX8_setRoom wsX8_needWithin := goodIn_ca (goodIn_r _ [10, 11, 12] rfl (by decide +kernel)) (goodIn_sub (fun _ h => List.mem_cons_of_mem _ (List.mem_append_right _ h)) (by decide +kernel))
set_option maxRecDepth 20000 in
theorem gX8_setRoom_X8_needWithin : GoodIn wsX8_setRoom (va_wsS RX8 88 yX8_needWithin wsX8_needWithin) := goodIn_app (goodIn_of _ (by decide +kernel)) ggX8_setRoom_X8_needWithin
theorem dX8_setRoom_11 : decode cX8_setRoom 11 = .ok (.aload_n 0, 1) := by decide +kernel
theorem dX8_setRoom_12 : decode cX8_setRoom 12 = .ok (.getfield 30, 3) := by decide +kernel
theorem dX8_setRoom_15 : decode cX8_setRoom 15 = .ok (.iload_n 1, 1) := by decide +kernel
theorem dX8_setRoom_16 : decode cX8_setRoom 16 = .ok (.iaload, 1) := by decide +kernel
theorem dX8_setRoom_17 : decode cX8_setRoom 17 = .ok (.istore_n 3, 1) := by decide +kernel
theorem dX8_setRoom_18 : decode cX8_setRoom 18 = .ok (.aload_n 0, 1) := by decide +kernel
theorem dX8_setRoom_19 : decode cX8_setRoom 19 = .ok (.getfield 30, 3) := by decide +kernel
theorem dX8_setRoom_22 : decode cX8_setRoom 22 = .ok (.iload_n 1, 1) := by decide +kernel
theorem dX8_setRoom_23 : decode cX8_setRoom 23 = .ok (.iload_n 2, 1) := by decide +kernel
theorem dX8_setRoom_24 : decode cX8_setRoom 24 = .ok (.iastore, 1) := by decide +kernel
theorem dX8_setRoom_25 : decode cX8_setRoom 25 = .ok (.aload_n 0, 1) := by decide +kernel
theorem dX8_setRoom_26 : decode cX8_setRoom 26 = .ok (.invokevirtual 156, 3) := by decide +kernel
set_option maxRecDepth 20000 in
theorem ggX8_setRoom_X8_forgetSlots : GoodIn wsX8_setRoom wsX8_forgetSlots := goodIn_r _ [16, 17, 18, 19, 20, 21, 22, 23, 24, 25, 26, 27, 28, 29, 30, 31, 32, 33, 34, 35, 36, 37, 38, 39, 40, 41, 42, 43, 44, 45, 46, 47, 48, 49, 50, 51, 52, 53, 54, 55, 56, 57, 58, 59, 60, 61, 62] rfl (by decide +kernel)
set_option maxRecDepth 20000 in
theorem gX8_setRoom_X8_forgetSlots : GoodIn wsX8_setRoom (wsV RX8 156 RX8 yX8_forgetSlots wsX8_forgetSlots) := goodIn_app (goodIn_of _ (by decide +kernel)) ggX8_setRoom_X8_forgetSlots
theorem dX8_setRoom_29 : decode cX8_setRoom 29 = .ok (.iload_n 3, 1) := by decide +kernel
theorem dX8_setRoom_30 : decode cX8_setRoom 30 = .ok (.ireturn, 1) := by decide +kernel
set_option maxHeartbeats 4000000 in
set_option maxRecDepth 100000 in
theorem x2_setRoom (l : Launch) (hfl : l.stackTraces = false) (g : xG) (sz : Nat) (h0 : Nat) (rm : Nat) (ag : Nat) (yd : Nat) (hg : Nat) (st : Nat) (so : Nat) (f0 : Value) (f1 : Value) (f2 : Value) (f3 : Value) (f4 : Value) (f6 : Value) (f7 : Value) (f8 : Value) (f9 : Value) (f10 : Value) (f11 : Value) (f14 : Value) (a0 : Value) (a1 : Value) (y0 : Value) (y1 : Value) (y2 : Value) (y3 : Value) (y5 : Value) (y6 : Value) (y7 : Value) (y10 : Value) (fh : Nat → Int32) (ft : Nat → Int32) (fo : Nat → Int32) (rf : Nat → Int32) (p0 : Int32) (p1 : Int32)  (hrf : ∀ j : Nat, j < 16 → rf j = 2) : vx_Met l yX8_setRoom wsX8_setRoom ({ frames := 7, cells := 2, slots := 12, locals := 142 }) (va_Pc [.ref h0, .int p0, .int p1] (fun U => xB g [(h0, .inr (8, [f0, f1, f2, f3, f4, .ref rm, f6, f7, f8, f9, f10, f11, .ref ag, .ref yd, f14])), (rm, .inl (xI g, 16, .inl rf)), (ag, .inr (0, [a0, a1])), (yd, .inr (7, [y0, y1, y2, y3, .ref hg, y5, y6, y7, .ref st, .ref so, y10])), (hg, .inl (xI g, 12, .inl fh)), (st, .inl (xI g, 24, .inl ft)), (so, .inl (xI g, 24, .inl fo))] sz U ∧ xU (va_A [(h0, .inr (8, [f0, f1, f2, f3, f4, .ref rm, f6, f7, f8, f9, f10, f11, .ref ag, .ref yd, f14])), (rm, .inl (xI g, 16, .inl rf)), (ag, .inr (0, [a0, a1])), (yd, .inr (7, [y0, y1, y2, y3, .ref hg, y5, y6, y7, .ref st, .ref so, y10])), (hg, .inl (xI g, 12, .inl fh)), (st, .inl (xI g, 24, .inl ft)), (so, .inl (xI g, 24, .inl fo))] sz) U)) (va_Qi (fun (r : Int32) (u : Unit) => r = 2 ∧ (¬ p0 < 0 ∧ p0 < 16) ∧ ¬ p1 < 0 ∧ ¬ 6 < p1) (fun _ _ => True) (va_A [(h0, .inr (8, [f0, f1, f2, f3, f4, .ref rm, f6, f7, f8, f9, f10, f11, .ref ag, .ref yd, f14])), (rm, .inl (xI g, 16, .inl rf)), (ag, .inr (0, [a0, a1])), (yd, .inr (7, [y0, y1, y2, y3, .ref hg, y5, y6, y7, .ref st, .ref so, y10])), (hg, .inl (xI g, 12, .inl fh)), (st, .inl (xI g, 24, .inl ft)), (so, .inl (xI g, 24, .inl fo))] sz)) (vx_X (fun _ : Unit => True) (fun E _ _ => (E = "java/lang/IndexOutOfBoundsException" ∧ (p0 < 0 ∨ ¬ p0 < 16)) ∨ (E = "java/lang/IllegalArgumentException" ∧ ((¬ p0 < 0 ∧ p0 < 16) ∧ (p1 < 0 ∨ 6 < p1)))) (va_A [(h0, .inr (8, [f0, f1, f2, f3, f4, .ref rm, f6, f7, f8, f9, f10, f11, .ref ag, .ref yd, f14])), (rm, .inl (xI g, 16, .inl rf)), (ag, .inr (0, [a0, a1])), (yd, .inr (7, [y0, y1, y2, y3, .ref hg, y5, y6, y7, .ref st, .ref so, y10])), (hg, .inl (xI g, 12, .inl fh)), (st, .inl (xI g, 24, .inl ft)), (so, .inl (xI g, 24, .inl fo))] sz)) 2 12 (va_A [(h0, .inr (8, [f0, f1, f2, f3, f4, .ref rm, f6, f7, f8, f9, f10, f11, .ref ag, .ref yd, f14])), (rm, .inl (xI g, 16, .inl rf)), (ag, .inr (0, [a0, a1])), (yd, .inr (7, [y0, y1, y2, y3, .ref hg, y5, y6, y7, .ref st, .ref so, y10])), (hg, .inl (xI g, 12, .inl fh)), (st, .inl (xI g, 24, .inl ft)), (so, .inl (xI g, 24, .inl fo))] sz) := by
  refine vx_ofW (cc := cX8_setRoom) (maxL := 4) (ret := (some .int)) (by decide) rfl ?_
  intro p e s m args below meth c s₁ B hml htab hv
  obtain ⟨rfl, ⟨hsz, hP, hK, hD0⟩, hU⟩ := hv
  have hx := B.exec
  have hb := B.bytes
  have hr := B.returns
  have hts := atoms_spec (ws := wsX8_setRoom) B.pre
  have hown : s.vm.findClass RX8 = some m.cls := findClass_of_methodNamed B.named
  have hlocks := B.notSynchronized
  subst hsz
  have hD := hD0.self (sz := s.heap.size)
  generalize hAe : va_A [(h0, .inr (8, [f0, f1, f2, f3, f4, .ref rm, f6, f7, f8, f9, f10, f11, .ref ag, .ref yd, f14])), (rm, .inl (xI g, 16, .inl rf)), (ag, .inr (0, [a0, a1])), (yd, .inr (7, [y0, y1, y2, y3, .ref hg, y5, y6, y7, .ref st, .ref so, y10])), (hg, .inl (xI g, 12, .inl fh)), (st, .inl (xI g, 24, .inl ft)), (so, .inl (xI g, 24, .inl fo))] s.heap.size = A at hD hU ⊢
  have hA : ∀ q : Nat, s.heap.size ≤ q → A q := fun q h => by rw [← hAe]; exact Or.inr h
  have hS : va_S A s.heap s.heap [] := va_S.rf
  have hl := lv_entry ([.ref h0, .int p0, .int p1]) (n := 4) (Nat.le_of_ble_eq_true rfl)
  rw [lg_entry_eq]
  generalize (lg_sl ([.ref h0, .int p0, .int p1]) ++ List.replicate (4 - (lg_sl ([.ref h0, .int p0, .int p1])).length) Slot.unset).toArray = ls at hl ⊢
  have hl : lv_has ls 4 [(0, .ref h0), (1, .int p0), (2, .int p1)] := hl
  have hFX8 : ∀ w ∈ u_ws RX8 TX8 15, w ∈ wsX8_setRoom := by decide +kernel
  refine lv_iload_n hx hb dX8_setRoom_0 rfl (lv_at hl 1 rfl) ?_
  have hPc := hP.sub (ws' := []) [] rfl
  have hDc := hD.sub (ws' := []) [] (by decide) rfl
  have hFc := xFree hS hA
  refine vx_callv (vx_runS (As := [.int p0]) (rest := []) ⟨hx, hb, hml, hown, hts⟩ (x_needSlot l hfl g s.heap.size p0) (va_cwS 1 hts gX8_setRoom_X8_needSlot rfl rfl rfl (by decide +kernel) ⟨Nat.le_of_ble_eq_true rfl, Nat.le_of_ble_eq_true rfl⟩) ⟨xBU.blind, fun U9 hU9 hW9 => ⟨rfl, xB.mk hPc hK hDc hU9 hW9, hU.call hS hFc hU9 hW9⟩⟩ rfl rfl hl.1 rfl (lv_room (Nat.le_of_ble_eq_true rfl)) dX8_setRoom_1 ⟨Nat.le_of_ble_eq_true rfl, Nat.le_of_ble_eq_true rfl⟩) hS (fun q _ h => hFc q h) hFc (fun q _ h => hFc q h) (fun E ce q9 ux t H1 locs1 ht hvm hpx hB hz1 hk1 hS hce hcv hcl => ?_) (fun u_2 t H1 locs ht hvm hw_3 hB hz1 hk1 hS => ?_)
  · obtain ⟨rfl, hB⟩ := hB
    refine vx_out (fun x hx => (htab x hx).elim) hlocks hce hcv hcl (fun t9 ht9 hal9 => ⟨(), trivial, Or.inl (⟨rfl, by first | trivial | exact hB | (rcases hB with h | h <;> simp only [h, true_or, or_true]; done) | simp_all | omega⟩), hS.F ht9⟩) hS.2.2 (Nat.le_of_ble_eq_true rfl) (Nat.le_of_ble_eq_true rfl)
  · have hP := xSame hP hk1
    generalize H1 = H at hP hS ⊢
    have hP : va_P (xD g) vwCl [(h0, .inr (8, [f0, f1, f2, f3, f4, .ref rm, f6, f7, f8, f9, f10, f11, .ref ag, .ref yd, f14])), (rm, .inl (xI g, 16, .inl rf)), (ag, .inr (0, [a0, a1])), (yd, .inr (7, [y0, y1, y2, y3, .ref hg, y5, y6, y7, .ref st, .ref so, y10])), (hg, .inl (xI g, 12, .inl fh)), (st, .inl (xI g, 24, .inl ft)), (so, .inl (xI g, 24, .inl fo))] H := hP
    have hD : va_D A [(h0, .inr (8, [f0, f1, f2, f3, f4, .ref rm, f6, f7, f8, f9, f10, f11, .ref ag, .ref yd, f14])), (rm, .inl (xI g, 16, .inl rf)), (ag, .inr (0, [a0, a1])), (yd, .inr (7, [y0, y1, y2, y3, .ref hg, y5, y6, y7, .ref st, .ref so, y10])), (hg, .inl (xI g, 12, .inl fh)), (st, .inl (xI g, 24, .inl ft)), (so, .inl (xI g, 24, .inl fo))] := hD
    refine W.widen (k := 1) (n := 6) (by omega) (by omega) ?_
    try dsimp only at hw_3
    refine lv_iload_n hx hb dX8_setRoom_4 rfl (lv_at hl 2 rfl) ?_
    refine lv_iconst (v := 0) hx hb dX8_setRoom_5 (by decide) ?_
    refine lv_bipush (v := 6) hx hb dX8_setRoom_6 (by decide) ?_
    have hPc := hP.sub (ws' := []) [] rfl
    have hDc := hD.sub (ws' := []) [] (by decide) rfl
    have hFc := xFree hS hA
    refine vx_callv (vx_runS (As := [.int p1, .int 0, .int 6]) (rest := []) ⟨hx, hb, hml, hown, hts⟩ (x_needWithin l hfl g H.size p1 0 6) (va_cwS 3 hts gX8_setRoom_X8_needWithin rfl rfl rfl (by decide +kernel) ⟨Nat.le_of_ble_eq_true rfl, Nat.le_of_ble_eq_true rfl⟩) ⟨xBU.blind, fun U9 hU9 hW9 => ⟨rfl, xB.mk hPc hK hDc hU9 hW9, hU.call hS hFc hU9 hW9⟩⟩ rfl rfl hl.1 rfl (lv_room (Nat.le_of_ble_eq_true rfl)) dX8_setRoom_8 ⟨Nat.le_of_ble_eq_true rfl, Nat.le_of_ble_eq_true rfl⟩) hS (fun q _ h => hFc q h) hFc (fun q _ h => hFc q h) (fun E ce q9 ux t H1 locs1 ht hvm hpx hB hz1 hk1 hS hce hcv hcl => ?_) (fun u_5 t H1 locs ht hvm hw_6 hB hz1 hk1 hS => ?_)
    · obtain ⟨rfl, hB⟩ := hB
      refine vx_out (fun x hx => (htab x hx).elim) hlocks hce hcv hcl (fun t9 ht9 hal9 => ⟨(), trivial, Or.inr (⟨rfl, by first | trivial | exact hB | (rcases hB with h | h <;> simp only [h, true_or, or_true]; done) | simp_all | omega⟩), hS.F ht9⟩) hS.2.2 (Nat.le_of_ble_eq_true rfl) (Nat.le_of_ble_eq_true rfl)
    · have hP := xSame hP hk1
      generalize H1 = H at hP hS ⊢
      have hP : va_P (xD g) vwCl [(h0, .inr (8, [f0, f1, f2, f3, f4, .ref rm, f6, f7, f8, f9, f10, f11, .ref ag, .ref yd, f14])), (rm, .inl (xI g, 16, .inl rf)), (ag, .inr (0, [a0, a1])), (yd, .inr (7, [y0, y1, y2, y3, .ref hg, y5, y6, y7, .ref st, .ref so, y10])), (hg, .inl (xI g, 12, .inl fh)), (st, .inl (xI g, 24, .inl ft)), (so, .inl (xI g, 24, .inl fo))] H := hP
      have hD : va_D A [(h0, .inr (8, [f0, f1, f2, f3, f4, .ref rm, f6, f7, f8, f9, f10, f11, .ref ag, .ref yd, f14])), (rm, .inl (xI g, 16, .inl rf)), (ag, .inr (0, [a0, a1])), (yd, .inr (7, [y0, y1, y2, y3, .ref hg, y5, y6, y7, .ref st, .ref so, y10])), (hg, .inl (xI g, 12, .inl fh)), (st, .inl (xI g, 24, .inl ft)), (so, .inl (xI g, 24, .inl fo))] := hD
      refine W.widen (k := 2) (n := 12) (by omega) (by omega) ?_
      try dsimp only at hw_6
      refine lv_aload_n hx hb dX8_setRoom_11 rfl (lv_at hl 0 rfl) ?_
      refine va_get (D := xD g) (ci := 8) (v := .ref rm) (C := RX8) (T := TX8) (N := 15) hx hb hts hFX8 hown hK hP 0 rfl rfl 5 (by decide) (hts (.fieldLink RX8 30 "Stevedore" "room" "[I") (by decide +kernel)) (fun _ h9 => h9) rfl dX8_setRoom_12 ?_
      refine lv_iload_n hx hb dX8_setRoom_15 rfl (lv_at hl 1 rfl) ?_
      refine va_iald hx hb hK hP 1 0 rfl rfl (vp_in_iff.mpr (by simp only [Int32.lt_iff_toInt_lt, Int32.reduceToInt] at *; omega)) dX8_setRoom_16 ?_
      refine lv_topi (fun v_7 ev_7 => ?_)
      refine lv_istore_n (lv' := [(3, .int v_7), (0, .ref h0), (1, .int p0), (2, .int p1)]) hx hb dX8_setRoom_17 rfl hl (by decide) rfl (fun ls hl => ?_)
      refine lv_aload_n hx hb dX8_setRoom_18 rfl (lv_at hl 1 rfl) ?_
      refine va_get (D := xD g) (ci := 8) (v := .ref rm) (C := RX8) (T := TX8) (N := 15) hx hb hts hFX8 hown hK hP 0 rfl rfl 5 (by decide) (hts (.fieldLink RX8 30 "Stevedore" "room" "[I") (by decide +kernel)) (fun _ h9 => h9) rfl dX8_setRoom_19 ?_
      refine lv_iload_n hx hb dX8_setRoom_22 rfl (lv_at hl 2 rfl) ?_
      refine lv_iload_n hx hb dX8_setRoom_23 rfl (lv_at hl 3 rfl) ?_
      refine va_iast (x := p1) hx hb hK hP hD hS 1 0 rfl rfl (vp_in_iff.mpr (by simp only [Int32.lt_iff_toInt_lt, Int32.reduceToInt] at *; omega)) dX8_setRoom_24 (fun H locs hP hD hS => ?_)
      have hP : va_P (xD g) vwCl [(h0, .inr (8, [f0, f1, f2, f3, f4, .ref rm, f6, f7, f8, f9, f10, f11, .ref ag, .ref yd, f14])), (rm, .inl (xI g, 16, .inl (upd rf p0.toNatClampNeg p1))), (ag, .inr (0, [a0, a1])), (yd, .inr (7, [y0, y1, y2, y3, .ref hg, y5, y6, y7, .ref st, .ref so, y10])), (hg, .inl (xI g, 12, .inl fh)), (st, .inl (xI g, 24, .inl ft)), (so, .inl (xI g, 24, .inl fo))] H := hP
      have hD : va_D A [(h0, .inr (8, [f0, f1, f2, f3, f4, .ref rm, f6, f7, f8, f9, f10, f11, .ref ag, .ref yd, f14])), (rm, .inl (xI g, 16, .inl (upd rf p0.toNatClampNeg p1))), (ag, .inr (0, [a0, a1])), (yd, .inr (7, [y0, y1, y2, y3, .ref hg, y5, y6, y7, .ref st, .ref so, y10])), (hg, .inl (xI g, 12, .inl fh)), (st, .inl (xI g, 24, .inl ft)), (so, .inl (xI g, 24, .inl fo))] := hD
      obtain ⟨g_8, eg_8⟩ : ∃ y : Nat → Int32, y = upd rf p0.toNatClampNeg p1 := ⟨_, rfl⟩
      rw [← eg_8] at hP hD
      refine lv_aload_n hx hb dX8_setRoom_25 rfl (lv_at hl 1 rfl) ?_
      have hPc := hP.sub (ws' := [(h0, .inr (8, [f0, f1, f2, f3, f4, .ref rm, f6, f7, f8, f9, f10, f11, .ref ag, .ref yd, f14])), (ag, .inr (0, [a0, a1])), (yd, .inr (7, [y0, y1, y2, y3, .ref hg, y5, y6, y7, .ref st, .ref so, y10])), (hg, .inl (xI g, 12, .inl fh)), (st, .inl (xI g, 24, .inl ft)), (so, .inl (xI g, 24, .inl fo))]) [0, 2, 3, 4, 5, 6] rfl
      have hDc := hD.sub (ws' := [(h0, .inr (8, [f0, f1, f2, f3, f4, .ref rm, f6, f7, f8, f9, f10, f11, .ref ag, .ref yd, f14])), (ag, .inr (0, [a0, a1])), (yd, .inr (7, [y0, y1, y2, y3, .ref hg, y5, y6, y7, .ref st, .ref so, y10])), (hg, .inl (xI g, 12, .inl fh)), (st, .inl (xI g, 24, .inl ft)), (so, .inl (xI g, 24, .inl fo))]) [0, 2, 3, 4, 5, 6] (by decide) rfl
      have hFc := va_free (wc := [(h0, .inr (8, [f0, f1, f2, f3, f4, .ref rm, f6, f7, f8, f9, f10, f11, .ref ag, .ref yd, f14])), (ag, .inr (0, [a0, a1])), (yd, .inr (7, [y0, y1, y2, y3, .ref hg, y5, y6, y7, .ref st, .ref so, y10])), (hg, .inl (xI g, 12, .inl fh)), (st, .inl (xI g, 24, .inl ft)), (so, .inl (xI g, 24, .inl fo))]) hD hS hA [0, 2, 3, 4, 5, 6] rfl
      refine va_callv (va_runV (As := []) (rest := []) ⟨hx, hb, hml, hown, hts⟩ (x_forgetSlots l g H.size h0 ag yd hg st so f0 f1 f2 f3 f4 (.ref rm) f6 f7 f8 f9 f10 f11 f14 a0 a1 y0 y1 y2 y3 y5 y6 y7 y10 fh ft fo) (cwV 0 hts gX8_setRoom_X8_forgetSlots rfl rfl rfl (by decide +kernel) ⟨Nat.le_of_ble_eq_true rfl, Nat.le_of_ble_eq_true rfl⟩) ⟨xB.blind, va_recv hK hPc (ci := 8) (q0 := 0) rfl rfl, fun U9 hU9 hW9 => ⟨rfl, xB.mk hPc hK hDc hU9 hW9⟩⟩ rfl rfl hl.1 rfl (lv_room (Nat.le_of_ble_eq_true rfl)) dX8_setRoom_26 ⟨Nat.le_of_ble_eq_true rfl, Nat.le_of_ble_eq_true rfl⟩) hS (fun q _ h => hFc q h) hFc (fun u_10 t H1 locs ht hvm hw_11 hB hz1 hk1 hS => ?_)
      obtain ⟨hP1, hK1, hD1⟩ := hB
      rw [ht] at hP1
      obtain ⟨hP, hD⟩ := va_join (wr := [(rm, .inl (xI g, 16, .inl g_8))]) (w1 := [(h0, .inr (8, [f0, f1, f2, f3, f4, .ref rm, f6, f7, f8, f9, .int 0, f11, .ref ag, .ref yd, f14]))]) hP hD [0, 2, 3, 4, 5, 6] [1] rfl rfl (by decide) (by decide) hk1 hFc hP1 hD1
      generalize H1 = H at hP hS ⊢
      have hP : va_P (xD g) vwCl [(rm, .inl (xI g, 16, .inl g_8)), (h0, .inr (8, [f0, f1, f2, f3, f4, .ref rm, f6, f7, f8, f9, .int 0, f11, .ref ag, .ref yd, f14]))] H := hP
      have hD : va_D A [(rm, .inl (xI g, 16, .inl g_8)), (h0, .inr (8, [f0, f1, f2, f3, f4, .ref rm, f6, f7, f8, f9, .int 0, f11, .ref ag, .ref yd, f14]))] := hD
      try dsimp only at hw_11
      refine lv_iload_n hx hb dX8_setRoom_29 rfl (lv_at hl 0 rfl) ?_
      refine vx_ret ?_
      exact W.iret (v := v_7) hx hb hr (fun t ht hW => ⟨⟨v_7, (), rfl, ⟨by rw [ev_7]; exact hrf _ (Nat.not_le.mp fun q => (vp_in_iff.mpr (by simp only [Int32.lt_iff_toInt_lt, Int32.reduceToInt] at *; omega) : vp_in p0 16) (Or.inr q)), by first | exact ⟨by assumption, by assumption⟩ | (simp only [Int32.lt_iff_toInt_lt, Int32.reduceToInt] at *; omega)⟩, trivial⟩, hS.F ht⟩) hS.2.2 dX8_setRoom_30
theorem dX8_addStack_0 : decode cX8_addStack 0 = .ok (.iload_n 1, 1) := by decide +kernel
theorem dX8_addStack_1 : decode cX8_addStack 1 = .ok (.iconst 1, 1) := by decide +kernel
theorem dX8_addStack_2 : decode cX8_addStack 2 = .ok (.iconst 5, 1) := by decide +kernel
theorem dX8_addStack_3 : decode cX8_addStack 3 = .ok (.invokestatic 88, 3) := by decide +kernel
set_option maxRecDepth 20000 in
theorem ggX8_addStack_X8_needWithin : GoodIn wsX8_addStack wsX8_needWithin := goodIn_ca (goodIn_r _ [9, 10, 11] rfl (by decide +kernel)) (goodIn_sub (fun _ h => List.mem_cons_of_mem _ (List.mem_append_right _ h)) (by decide +kernel))
set_option maxRecDepth 20000 in
theorem gX8_addStack_X8_needWithin : GoodIn wsX8_addStack (va_wsS RX8 88 yX8_needWithin wsX8_needWithin) := goodIn_app (goodIn_of _ (by decide +kernel)) ggX8_addStack_X8_needWithin
theorem dX8_addStack_6 : decode cX8_addStack 6 = .ok (.aload_n 0, 1) := by decide +kernel
theorem dX8_addStack_7 : decode cX8_addStack 7 = .ok (.getfield 81, 3) := by decide +kernel
theorem dX8_addStack_10 : decode cX8_addStack 10 = .ok (.getfield 162, 3) := by decide +kernel
theorem dX8_addStack_13 : decode cX8_addStack 13 = .ok (.bipush 12, 2) := by decide +kernel
theorem dX8_addStack_15 : decode cX8_addStack 15 = .ok (.if_icmp .lt 13, 3) := by decide +kernel
theorem dX8_addStack_28 : decode cX8_addStack 28 = .ok (.aload_n 0, 1) := by decide +kernel
theorem dX8_addStack_29 : decode cX8_addStack 29 = .ok (.getfield 81, 3) := by decide +kernel
theorem dX8_addStack_32 : decode cX8_addStack 32 = .ok (.getfield 167, 3) := by decide +kernel
theorem dX8_addStack_35 : decode cX8_addStack 35 = .ok (.aload_n 0, 1) := by decide +kernel
theorem dX8_addStack_36 : decode cX8_addStack 36 = .ok (.getfield 81, 3) := by decide +kernel
theorem dX8_addStack_39 : decode cX8_addStack 39 = .ok (.getfield 162, 3) := by decide +kernel
theorem dX8_addStack_42 : decode cX8_addStack 42 = .ok (.iload_n 1, 1) := by decide +kernel
theorem dX8_addStack_43 : decode cX8_addStack 43 = .ok (.iastore, 1) := by decide +kernel
theorem dX8_addStack_44 : decode cX8_addStack 44 = .ok (.aload_n 0, 1) := by decide +kernel
theorem dX8_addStack_45 : decode cX8_addStack 45 = .ok (.getfield 81, 3) := by decide +kernel
theorem dX8_addStack_48 : decode cX8_addStack 48 = .ok (.dup, 1) := by decide +kernel
theorem dX8_addStack_49 : decode cX8_addStack 49 = .ok (.getfield 162, 3) := by decide +kernel
theorem dX8_addStack_52 : decode cX8_addStack 52 = .ok (.iconst 1, 1) := by decide +kernel
theorem dX8_addStack_53 : decode cX8_addStack 53 = .ok (.iadd, 1) := by decide +kernel
theorem dX8_addStack_54 : decode cX8_addStack 54 = .ok (.putfield 162, 3) := by decide +kernel
theorem dX8_addStack_57 : decode cX8_addStack 57 = .ok (.aload_n 0, 1) := by decide +kernel
theorem dX8_addStack_58 : decode cX8_addStack 58 = .ok (.getfield 81, 3) := by decide +kernel
theorem dX8_addStack_61 : decode cX8_addStack 61 = .ok (.invokevirtual 170, 3) := by decide +kernel
set_option maxRecDepth 20000 in
theorem ggX8_addStack_X7_empty : GoodIn wsX8_addStack wsX7_empty := goodIn_r _ [16, 17, 18, 19, 20, 21, 22, 23, 24, 25, 41, 42, 43, 44, 45, 46, 47, 48, 49, 50, 51] rfl (by decide +kernel)
set_option maxRecDepth 20000 in
theorem gX8_addStack_X7_empty : GoodIn wsX8_addStack (wsV RX8 170 RX7 yX7_empty wsX7_empty) := goodIn_app (goodIn_of _ (by decide +kernel)) ggX8_addStack_X7_empty
theorem dX8_addStack_64 : decode cX8_addStack 64 = .ok (.aload_n 0, 1) := by decide +kernel
theorem dX8_addStack_65 : decode cX8_addStack 65 = .ok (.getfield 81, 3) := by decide +kernel
theorem dX8_addStack_68 : decode cX8_addStack 68 = .ok (.getfield 162, 3) := by decide +kernel
theorem dX8_addStack_71 : decode cX8_addStack 71 = .ok (.iconst 1, 1) := by decide +kernel
theorem dX8_addStack_72 : decode cX8_addStack 72 = .ok (.isub, 1) := by decide +kernel
theorem dX8_addStack_73 : decode cX8_addStack 73 = .ok (.ireturn, 1) := by decide +kernel
set_option maxHeartbeats 4000000 in
set_option maxRecDepth 100000 in
theorem x0_addStack (l : Launch) (hfl : l.stackTraces = false) (g : xG) (sz : Nat) (h0 : Nat) (lm : Nat) (yd : Nat) (hg : Nat) (st : Nat) (so : Nat) (f0 : Value) (f1 : Value) (f2 : Value) (f3 : Value) (f4 : Value) (f5 : Value) (f6 : Value) (f7 : Value) (f8 : Value) (f9 : Value) (f10 : Value) (f11 : Value) (f12 : Value) (f14 : Value) (y1 : Value) (y2 : Value) (y5 : Value) (y6 : Value) (y7 : Value) (y10 : Value) (fh : Nat → Int32) (ft : Nat → Int32) (fo : Nat → Int32) (fl : Nat → Int32) (p0 : Int32)  : vx_Met l yX8_addStack wsX8_addStack ({ frames := 7, cells := 1, slots := 6, locals := 142 }) (va_Pc [.ref h0, .int p0] (fun U => xB g [(h0, .inr (8, [f0, f1, f2, f3, f4, f5, f6, f7, f8, f9, f10, f11, f12, .ref yd, f14])), (yd, .inr (7, [.int 0, y1, y2, .ref lm, .ref hg, y5, y6, y7, .ref st, .ref so, y10])), (lm, .inl (xI g, 12, .inl fl)), (hg, .inl (xI g, 12, .inl fh)), (st, .inl (xI g, 24, .inl ft)), (so, .inl (xI g, 24, .inl fo))] sz U ∧ xU (va_A [(h0, .inr (8, [f0, f1, f2, f3, f4, f5, f6, f7, f8, f9, f10, f11, f12, .ref yd, f14])), (yd, .inr (7, [.int 0, y1, y2, .ref lm, .ref hg, y5, y6, y7, .ref st, .ref so, y10])), (lm, .inl (xI g, 12, .inl fl)), (hg, .inl (xI g, 12, .inl fh)), (st, .inl (xI g, 24, .inl ft)), (so, .inl (xI g, 24, .inl fo))] sz) U)) (va_Qi (fun (r : Int32) (u : Unit) => r = 0 ∧ ¬ p0 < 1 ∧ ¬ 5 < p0) (fun _ _ => True) (va_A [(h0, .inr (8, [f0, f1, f2, f3, f4, f5, f6, f7, f8, f9, f10, f11, f12, .ref yd, f14])), (yd, .inr (7, [.int 0, y1, y2, .ref lm, .ref hg, y5, y6, y7, .ref st, .ref so, y10])), (lm, .inl (xI g, 12, .inl fl)), (hg, .inl (xI g, 12, .inl fh)), (st, .inl (xI g, 24, .inl ft)), (so, .inl (xI g, 24, .inl fo))] sz)) (vx_X (fun _ : Unit => True) (fun E _ _ => (E = "java/lang/IllegalArgumentException" ∧ (p0 < 1 ∨ 5 < p0))) (va_A [(h0, .inr (8, [f0, f1, f2, f3, f4, f5, f6, f7, f8, f9, f10, f11, f12, .ref yd, f14])), (yd, .inr (7, [.int 0, y1, y2, .ref lm, .ref hg, y5, y6, y7, .ref st, .ref so, y10])), (lm, .inl (xI g, 12, .inl fl)), (hg, .inl (xI g, 12, .inl fh)), (st, .inl (xI g, 24, .inl ft)), (so, .inl (xI g, 24, .inl fo))] sz)) 1 6 (va_A [(h0, .inr (8, [f0, f1, f2, f3, f4, f5, f6, f7, f8, f9, f10, f11, f12, .ref yd, f14])), (yd, .inr (7, [.int 0, y1, y2, .ref lm, .ref hg, y5, y6, y7, .ref st, .ref so, y10])), (lm, .inl (xI g, 12, .inl fl)), (hg, .inl (xI g, 12, .inl fh)), (st, .inl (xI g, 24, .inl ft)), (so, .inl (xI g, 24, .inl fo))] sz) := by
  refine vx_ofW (cc := cX8_addStack) (maxL := 2) (ret := (some .int)) (by decide) rfl ?_
  intro p e s m args below meth c s₁ B hml htab hv
  obtain ⟨rfl, ⟨hsz, hP, hK, hD0⟩, hU⟩ := hv
  have hx := B.exec
  have hb := B.bytes
  have hr := B.returns
  have hts := atoms_spec (ws := wsX8_addStack) B.pre
  have hown : s.vm.findClass RX8 = some m.cls := findClass_of_methodNamed B.named
  have hlocks := B.notSynchronized
  subst hsz
  have hD := hD0.self (sz := s.heap.size)
  generalize hAe : va_A [(h0, .inr (8, [f0, f1, f2, f3, f4, f5, f6, f7, f8, f9, f10, f11, f12, .ref yd, f14])), (yd, .inr (7, [.int 0, y1, y2, .ref lm, .ref hg, y5, y6, y7, .ref st, .ref so, y10])), (lm, .inl (xI g, 12, .inl fl)), (hg, .inl (xI g, 12, .inl fh)), (st, .inl (xI g, 24, .inl ft)), (so, .inl (xI g, 24, .inl fo))] s.heap.size = A at hD hU ⊢
  have hA : ∀ q : Nat, s.heap.size ≤ q → A q := fun q h => by rw [← hAe]; exact Or.inr h
  have hS : va_S A s.heap s.heap [] := va_S.rf
  have hl := lv_entry ([.ref h0, .int p0]) (n := 2) (Nat.le_of_ble_eq_true rfl)
  rw [lg_entry_eq]
  generalize (lg_sl ([.ref h0, .int p0]) ++ List.replicate (2 - (lg_sl ([.ref h0, .int p0])).length) Slot.unset).toArray = ls at hl ⊢
  have hl : lv_has ls 2 [(0, .ref h0), (1, .int p0)] := hl
  have hFX7 : ∀ w ∈ u_ws RX7 TX7 11, w ∈ wsX8_addStack := by decide +kernel
  have hFX8 : ∀ w ∈ u_ws RX8 TX8 15, w ∈ wsX8_addStack := by decide +kernel
  refine lv_iload_n hx hb dX8_addStack_0 rfl (lv_at hl 1 rfl) ?_
  refine lv_iconst (v := 1) hx hb dX8_addStack_1 (by decide) ?_
  refine lv_iconst (v := 5) hx hb dX8_addStack_2 (by decide) ?_
  have hPc := hP.sub (ws' := []) [] rfl
  have hDc := hD.sub (ws' := []) [] (by decide) rfl
  have hFc := xFree hS hA
  refine vx_callv (vx_runS (As := [.int p0, .int 1, .int 5]) (rest := []) ⟨hx, hb, hml, hown, hts⟩ (x_needWithin l hfl g s.heap.size p0 1 5) (va_cwS 3 hts gX8_addStack_X8_needWithin rfl rfl rfl (by decide +kernel) ⟨Nat.le_of_ble_eq_true rfl, Nat.le_of_ble_eq_true rfl⟩) ⟨xBU.blind, fun U9 hU9 hW9 => ⟨rfl, xB.mk hPc hK hDc hU9 hW9, hU.call hS hFc hU9 hW9⟩⟩ rfl rfl hl.1 rfl (lv_room (Nat.le_of_ble_eq_true rfl)) dX8_addStack_3 ⟨Nat.le_of_ble_eq_true rfl, Nat.le_of_ble_eq_true rfl⟩) hS (fun q _ h => hFc q h) hFc (fun q _ h => hFc q h) (fun E ce q9 ux t H1 locs1 ht hvm hpx hB hz1 hk1 hS hce hcv hcl => ?_) (fun u_2 t H1 locs ht hvm hw_3 hB hz1 hk1 hS => ?_)
  · obtain ⟨rfl, hB⟩ := hB
    refine vx_out (fun x hx => (htab x hx).elim) hlocks hce hcv hcl (fun t9 ht9 hal9 => ⟨(), trivial, ⟨rfl, by first | trivial | exact hB | (rcases hB with h | h <;> simp only [h, true_or, or_true]; done) | simp_all | omega⟩, hS.F ht9⟩) hS.2.2 (Nat.le_of_ble_eq_true rfl) (Nat.le_of_ble_eq_true rfl)
  · have hP := xSame hP hk1
    generalize H1 = H at hP hS ⊢
    have hP : va_P (xD g) vwCl [(h0, .inr (8, [f0, f1, f2, f3, f4, f5, f6, f7, f8, f9, f10, f11, f12, .ref yd, f14])), (yd, .inr (7, [.int 0, y1, y2, .ref lm, .ref hg, y5, y6, y7, .ref st, .ref so, y10])), (lm, .inl (xI g, 12, .inl fl)), (hg, .inl (xI g, 12, .inl fh)), (st, .inl (xI g, 24, .inl ft)), (so, .inl (xI g, 24, .inl fo))] H := hP
    have hD : va_D A [(h0, .inr (8, [f0, f1, f2, f3, f4, f5, f6, f7, f8, f9, f10, f11, f12, .ref yd, f14])), (yd, .inr (7, [.int 0, y1, y2, .ref lm, .ref hg, y5, y6, y7, .ref st, .ref so, y10])), (lm, .inl (xI g, 12, .inl fl)), (hg, .inl (xI g, 12, .inl fh)), (st, .inl (xI g, 24, .inl ft)), (so, .inl (xI g, 24, .inl fo))] := hD
    refine W.widen (k := 1) (n := 6) (by omega) (by omega) ?_
    try dsimp only at hw_3
    refine lv_aload_n hx hb dX8_addStack_6 rfl (lv_at hl 0 rfl) ?_
    refine va_get (D := xD g) (ci := 8) (v := .ref yd) (C := RX8) (T := TX8) (N := 15) hx hb hts hFX8 hown hK hP 0 rfl rfl 13 (by decide) (hts (.fieldLink RX8 81 "Stevedore" "yard" "LStevedore$Yard;") (by decide +kernel)) (fun _ h9 => h9) rfl dX8_addStack_7 ?_
    refine va_get (D := xD g) (ci := 7) (v := .int 0) (C := RX7) (T := TX7) (N := 11) hx hb hts hFX7 hown hK hP 1 rfl rfl 0 (by decide) (hts (.fieldLink RX8 162 "Stevedore$Yard" "stackCount" "I") (by decide +kernel)) (fun _ h9 => h9) rfl dX8_addStack_10 ?_
    refine lv_bipush (v := 12) hx hb dX8_addStack_13 (by decide) ?_
    refine lv_icmp_lt (tgt := 28) hx hb dX8_addStack_15 (by decide) (fun _ => ?_) (fun c0 => absurd (by decide) c0)
    refine lv_aload_n hx hb dX8_addStack_28 rfl (lv_at hl 0 rfl) ?_
    refine va_get (D := xD g) (ci := 8) (v := .ref yd) (C := RX8) (T := TX8) (N := 15) hx hb hts hFX8 hown hK hP 0 rfl rfl 13 (by decide) (hts (.fieldLink RX8 81 "Stevedore" "yard" "LStevedore$Yard;") (by decide +kernel)) (fun _ h9 => h9) rfl dX8_addStack_29 ?_
    refine va_get (D := xD g) (ci := 7) (v := .ref lm) (C := RX7) (T := TX7) (N := 11) hx hb hts hFX7 hown hK hP 1 rfl rfl 3 (by decide) (hts (.fieldLink RX8 167 "Stevedore$Yard" "limit" "[I") (by decide +kernel)) (fun _ h9 => h9) rfl dX8_addStack_32 ?_
    refine lv_aload_n hx hb dX8_addStack_35 rfl (lv_at hl 0 rfl) ?_
    refine va_get (D := xD g) (ci := 8) (v := .ref yd) (C := RX8) (T := TX8) (N := 15) hx hb hts hFX8 hown hK hP 0 rfl rfl 13 (by decide) (hts (.fieldLink RX8 81 "Stevedore" "yard" "LStevedore$Yard;") (by decide +kernel)) (fun _ h9 => h9) rfl dX8_addStack_36 ?_
    refine va_get (D := xD g) (ci := 7) (v := .int 0) (C := RX7) (T := TX7) (N := 11) hx hb hts hFX7 hown hK hP 1 rfl rfl 0 (by decide) (hts (.fieldLink RX8 162 "Stevedore$Yard" "stackCount" "I") (by decide +kernel)) (fun _ h9 => h9) rfl dX8_addStack_39 ?_
    refine lv_iload_n hx hb dX8_addStack_42 rfl (lv_at hl 1 rfl) ?_
    refine va_iast (x := p0) hx hb hK hP hD hS 2 0 rfl rfl (by unfold vp_in; decide) dX8_addStack_43 (fun H locs hP hD hS => ?_)
    have hP : va_P (xD g) vwCl [(h0, .inr (8, [f0, f1, f2, f3, f4, f5, f6, f7, f8, f9, f10, f11, f12, .ref yd, f14])), (yd, .inr (7, [.int 0, y1, y2, .ref lm, .ref hg, y5, y6, y7, .ref st, .ref so, y10])), (lm, .inl (xI g, 12, .inl (upd fl (0 : Int32).toNatClampNeg p0))), (hg, .inl (xI g, 12, .inl fh)), (st, .inl (xI g, 24, .inl ft)), (so, .inl (xI g, 24, .inl fo))] H := hP
    have hD : va_D A [(h0, .inr (8, [f0, f1, f2, f3, f4, f5, f6, f7, f8, f9, f10, f11, f12, .ref yd, f14])), (yd, .inr (7, [.int 0, y1, y2, .ref lm, .ref hg, y5, y6, y7, .ref st, .ref so, y10])), (lm, .inl (xI g, 12, .inl (upd fl (0 : Int32).toNatClampNeg p0))), (hg, .inl (xI g, 12, .inl fh)), (st, .inl (xI g, 24, .inl ft)), (so, .inl (xI g, 24, .inl fo))] := hD
    obtain ⟨g_4, eg_4⟩ : ∃ y : Nat → Int32, y = upd fl (0 : Int32).toNatClampNeg p0 := ⟨_, rfl⟩
    rw [← eg_4] at hP hD
    refine lv_aload_n hx hb dX8_addStack_44 rfl (lv_at hl 0 rfl) ?_
    refine va_get (D := xD g) (ci := 8) (v := .ref yd) (C := RX8) (T := TX8) (N := 15) hx hb hts hFX8 hown hK hP 0 rfl rfl 13 (by decide) (hts (.fieldLink RX8 81 "Stevedore" "yard" "LStevedore$Yard;") (by decide +kernel)) (fun _ h9 => h9) rfl dX8_addStack_45 ?_
    refine lv_dup hx hb dX8_addStack_48 rfl ?_
    refine va_get (D := xD g) (ci := 7) (v := .int 0) (C := RX7) (T := TX7) (N := 11) hx hb hts hFX7 hown hK hP 1 rfl rfl 0 (by decide) (hts (.fieldLink RX8 162 "Stevedore$Yard" "stackCount" "I") (by decide +kernel)) (fun _ h9 => h9) rfl dX8_addStack_49 ?_
    refine lv_iconst (v := 1) hx hb dX8_addStack_52 (by decide) ?_
    refine lv_iadd hx hb dX8_addStack_53 ?_
    refine lv_topi (fun v_5 ev => ?_)
    obtain rfl : v_5 = (1 : Int32) := ev.trans (by decide)
    refine va_put (D := xD g) (ci := 7) (v := .int 1) (ty := .int) (C := RX7) (T := TX7) (N := 11) hx hb hts hFX7 tyX7 tyX7_ok nmX7 hown hK hP hD hS 1 rfl rfl 0 (by decide) (hts (.fieldLink RX8 162 "Stevedore$Yard" "stackCount" "I") (by decide +kernel)) (fun _ h9 => h9) rfl (by decide +kernel) rfl rfl (Nat.le_of_ble_eq_true rfl) dX8_addStack_54 (fun H locs hP hD hS => ?_)
    have hP : va_P (xD g) vwCl [(h0, .inr (8, [f0, f1, f2, f3, f4, f5, f6, f7, f8, f9, f10, f11, f12, .ref yd, f14])), (yd, .inr (7, [.int 1, y1, y2, .ref lm, .ref hg, y5, y6, y7, .ref st, .ref so, y10])), (lm, .inl (xI g, 12, .inl g_4)), (hg, .inl (xI g, 12, .inl fh)), (st, .inl (xI g, 24, .inl ft)), (so, .inl (xI g, 24, .inl fo))] H := hP
    have hD : va_D A [(h0, .inr (8, [f0, f1, f2, f3, f4, f5, f6, f7, f8, f9, f10, f11, f12, .ref yd, f14])), (yd, .inr (7, [.int 1, y1, y2, .ref lm, .ref hg, y5, y6, y7, .ref st, .ref so, y10])), (lm, .inl (xI g, 12, .inl g_4)), (hg, .inl (xI g, 12, .inl fh)), (st, .inl (xI g, 24, .inl ft)), (so, .inl (xI g, 24, .inl fo))] := hD
    refine lv_aload_n hx hb dX8_addStack_57 rfl (lv_at hl 0 rfl) ?_
    refine va_get (D := xD g) (ci := 8) (v := .ref yd) (C := RX8) (T := TX8) (N := 15) hx hb hts hFX8 hown hK hP 0 rfl rfl 13 (by decide) (hts (.fieldLink RX8 81 "Stevedore" "yard" "LStevedore$Yard;") (by decide +kernel)) (fun _ h9 => h9) rfl dX8_addStack_58 ?_
    have hPc := hP.sub (ws' := [(yd, .inr (7, [.int 1, y1, y2, .ref lm, .ref hg, y5, y6, y7, .ref st, .ref so, y10])), (hg, .inl (xI g, 12, .inl fh)), (st, .inl (xI g, 24, .inl ft)), (so, .inl (xI g, 24, .inl fo))]) [1, 3, 4, 5] rfl
    have hDc := hD.sub (ws' := [(yd, .inr (7, [.int 1, y1, y2, .ref lm, .ref hg, y5, y6, y7, .ref st, .ref so, y10])), (hg, .inl (xI g, 12, .inl fh)), (st, .inl (xI g, 24, .inl ft)), (so, .inl (xI g, 24, .inl fo))]) [1, 3, 4, 5] (by decide) rfl
    have hFc := va_free (wc := [(yd, .inr (7, [.int 1, y1, y2, .ref lm, .ref hg, y5, y6, y7, .ref st, .ref so, y10])), (hg, .inl (xI g, 12, .inl fh)), (st, .inl (xI g, 24, .inl ft)), (so, .inl (xI g, 24, .inl fo))]) hD hS hA [1, 3, 4, 5] rfl
    refine va_callv (va_runV (As := []) (rest := []) ⟨hx, hb, hml, hown, hts⟩ (x_empty l g H.size yd hg st so (.int 1) y1 y2 (.ref lm) y5 y6 y7 y10 fh ft fo) (cwV 0 hts gX8_addStack_X7_empty rfl rfl rfl (by decide +kernel) ⟨Nat.le_of_ble_eq_true rfl, Nat.le_of_ble_eq_true rfl⟩) ⟨xB.blind, va_recv hK hPc (ci := 7) (q0 := 0) rfl rfl, fun U9 hU9 hW9 => ⟨rfl, xB.mk hPc hK hDc hU9 hW9⟩⟩ rfl rfl hl.1 rfl (lv_room (Nat.le_of_ble_eq_true rfl)) dX8_addStack_61 ⟨Nat.le_of_ble_eq_true rfl, Nat.le_of_ble_eq_true rfl⟩) hS (fun q _ h => hFc q h) hFc (fun u_7 t H1 locs ht hvm hw_8 hB hz1 hk1 hS => ?_)
    obtain ⟨hP1, hK1, hD1⟩ := hB
    rw [ht] at hP1
    obtain ⟨hP, hD⟩ := va_join (wr := [(h0, .inr (8, [f0, f1, f2, f3, f4, f5, f6, f7, f8, f9, f10, f11, f12, .ref yd, f14])), (lm, .inl (xI g, 12, .inl g_4))]) (w1 := [(yd, .inr (7, [.int 1, .int 0, .int 0, .ref lm, .ref hg, y5, y6, y7, .ref st, .ref so, y10]))]) hP hD [1, 3, 4, 5] [0, 2] rfl rfl (by decide) (by decide) hk1 hFc hP1 hD1
    generalize H1 = H at hP hS ⊢
    have hP : va_P (xD g) vwCl [(h0, .inr (8, [f0, f1, f2, f3, f4, f5, f6, f7, f8, f9, f10, f11, f12, .ref yd, f14])), (lm, .inl (xI g, 12, .inl g_4)), (yd, .inr (7, [.int 1, .int 0, .int 0, .ref lm, .ref hg, y5, y6, y7, .ref st, .ref so, y10]))] H := hP
    have hD : va_D A [(h0, .inr (8, [f0, f1, f2, f3, f4, f5, f6, f7, f8, f9, f10, f11, f12, .ref yd, f14])), (lm, .inl (xI g, 12, .inl g_4)), (yd, .inr (7, [.int 1, .int 0, .int 0, .ref lm, .ref hg, y5, y6, y7, .ref st, .ref so, y10]))] := hD
    try dsimp only at hw_8
    refine lv_aload_n hx hb dX8_addStack_64 rfl (lv_at hl 0 rfl) ?_
    refine va_get (D := xD g) (ci := 8) (v := .ref yd) (C := RX8) (T := TX8) (N := 15) hx hb hts hFX8 hown hK hP 0 rfl rfl 13 (by decide) (hts (.fieldLink RX8 81 "Stevedore" "yard" "LStevedore$Yard;") (by decide +kernel)) (fun _ h9 => h9) rfl dX8_addStack_65 ?_
    refine va_get (D := xD g) (ci := 7) (v := .int 1) (C := RX7) (T := TX7) (N := 11) hx hb hts hFX7 hown hK hP 2 rfl rfl 0 (by decide) (hts (.fieldLink RX8 162 "Stevedore$Yard" "stackCount" "I") (by decide +kernel)) (fun _ h9 => h9) rfl dX8_addStack_68 ?_
    refine lv_iconst (v := 1) hx hb dX8_addStack_71 (by decide) ?_
    refine lv_isub hx hb dX8_addStack_72 ?_
    refine lv_topi (fun v_9 ev => ?_)
    obtain rfl : v_9 = (0 : Int32) := ev.trans (by decide)
    refine vx_ret ?_
    exact W.iret (v := 0) hx hb hr (fun t ht hW => ⟨⟨0, (), rfl, ⟨rfl, (by first | trivial | assumption | (refine ⟨?_, ?_⟩ <;> assumption) | (simp only [Int32.lt_iff_toInt_lt, Int32.le_iff_toInt_le, Int32.reduceToInt] at *; omega))⟩, trivial⟩, hS.F ht⟩) hS.2.2 dX8_addStack_73
