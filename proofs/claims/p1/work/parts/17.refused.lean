theorem dX8_needBay_0 : decode cX8_needBay 0 = .ok (.aload_n 0, 1) := by decide +kernel
theorem dX8_needBay_1 : decode cX8_needBay 1 = .ok (.iload_n 1, 1) := by decide +kernel
theorem dX8_needBay_2 : decode cX8_needBay 2 = .ok (.invokevirtual 121, 3) := by decide +kernel
set_option maxRecDepth 20000 in
theorem ggX8_needBay_X8_needVessel : GoodIn wsX8_needBay wsX8_needVessel := goodIn_ca (goodIn_r _ [9, 1, 2, 10, 11, 12, 13, 14, 15, 16, 17, 18, 19, 20, 21, 22, 23, 24, 25] rfl (by decide +kernel)) (goodIn_sub (fun _ h => List.mem_cons_of_mem _ (List.mem_append_right _ h)) (by decide +kernel))
set_option maxRecDepth 20000 in
theorem gX8_needBay_X8_needVessel : GoodIn wsX8_needBay (wsV RX8 121 RX8 yX8_needVessel wsX8_needVessel) := goodIn_app (goodIn_of _ (by decide +kernel)) ggX8_needBay_X8_needVessel
set_option maxHeartbeats 4000000 in
set_option maxRecDepth 100000 in
theorem x0_needBay (l : Launch) (hfl : l.stackTraces = false) (g : xG) (sz : Nat) (h0 : Nat) (f0 : Value) (f1 : Value) (f3 : Value) (f4 : Value) (f5 : Value) (f6 : Value) (f7 : Value) (f8 : Value) (f9 : Value) (f10 : Value) (f11 : Value) (f12 : Value) (f13 : Value) (f14 : Value) (p0 : Int32) (p1 : Int32)  : vx_Met l yX8_needBay wsX8_needBay ({ frames := 7, cells := 1, slots := 6, locals := 150 }) (va_Pc [.ref h0, .int p0, .int p1] (fun U => xB g [(h0, .inr (8, [f0, f1, .int 0, f3, f4, f5, f6, f7, f8, f9, f10, f11, f12, f13, f14]))] sz U ∧ xU (va_A [] sz) U)) (va_Qv (fun (u : Unit) => False) (fun _ _ => True) (va_A [] sz)) (vx_X (fun _ : Unit => True) (fun E _ _ => (E = "java/lang/IndexOutOfBoundsException" ∧ True)) (va_A [] sz)) 1 6 (va_A [] sz) := by
  refine vx_ofW (cc := cX8_needBay) (maxL := 3) (ret := none) (by decide) rfl ?_
  intro p e s m args below meth c s₁ B hml htab hv
  obtain ⟨rfl, ⟨hsz, hP, hK, hD0⟩, hU⟩ := hv
  have hx := B.exec
  have hb := B.bytes
  have hr := B.returns
  have hts := atoms_spec (ws := wsX8_needBay) B.pre
  have hown : s.vm.findClass RX8 = some m.cls := findClass_of_methodNamed B.named
  have hlocks := B.notSynchronized
  subst hsz
  have hD := hD0
  generalize hAe : va_A [] s.heap.size = A at hU ⊢
  have hA : ∀ q : Nat, s.heap.size ≤ q → A q := fun q h => by rw [← hAe]; exact Or.inr h
  have hS : va_S A s.heap s.heap [] := va_S.rf
  have hl := lv_entry ([.ref h0, .int p0, .int p1]) (n := 3) (Nat.le_of_ble_eq_true rfl)
  rw [lg_entry_eq]
  generalize (lg_sl ([.ref h0, .int p0, .int p1]) ++ List.replicate (3 - (lg_sl ([.ref h0, .int p0, .int p1])).length) Slot.unset).toArray = ls at hl ⊢
  have hl : lv_has ls 3 [(0, .ref h0), (1, .int p0), (2, .int p1)] := hl
  refine lv_aload_n hx hb dX8_needBay_0 rfl (lv_at hl 0 rfl) ?_
  refine lv_iload_n hx hb dX8_needBay_1 rfl (lv_at hl 1 rfl) ?_
  have hPc := hP.sub (ws' := [(h0, .inr (8, [f0, f1, .int 0, f3, f4, f5, f6, f7, f8, f9, f10, f11, f12, f13, f14]))]) [0] rfl
  have hDc := hD.sub (ws' := [(h0, .inr (8, [f0, f1, .int 0, f3, f4, f5, f6, f7, f8, f9, f10, f11, f12, f13, f14]))]) [0] (by decide) rfl
  have hFc := xFree hS hA
  refine vx_callv (vx_runV (As := [.int p0]) (rest := []) ⟨hx, hb, hml, hown, hts⟩ (x_needVessel l hfl g s.heap.size h0 f0 f1 f3 f4 f5 f6 f7 f8 f9 f10 f11 f12 f13 f14 0 p0) (cwV 1 hts gX8_needBay_X8_needVessel rfl rfl rfl (by decide +kernel) ⟨Nat.le_of_ble_eq_true rfl, Nat.le_of_ble_eq_true rfl⟩) ⟨xBU.blind, va_recv hK hPc (ci := 8) (q0 := 0) rfl rfl, fun U9 hU9 hW9 => ⟨rfl, xB.mk hPc hK hDc hU9 hW9, hU.call hS hFc hU9 hW9⟩⟩ rfl rfl hl.1 rfl (lv_room (Nat.le_of_ble_eq_true rfl)) dX8_needBay_2 ⟨Nat.le_of_ble_eq_true rfl, Nat.le_of_ble_eq_true rfl⟩) hS (fun q _ h => hFc q h) hFc (fun q _ h => hFc q h) (fun E ce q9 ux t H1 locs1 ht hvm hpx hB hz1 hk1 hS hce hcv hcl => ?_) (fun u_2 t H1 locs ht hvm hw_3 hB hz1 hk1 hS => ?_)
  · obtain ⟨rfl, hB⟩ := hB
    refine vx_out (fun x hx => (htab x hx).elim) hlocks hce hcv hcl (fun t9 ht9 hal9 => ⟨(), trivial, ⟨rfl, by first | trivial | exact hB | (rcases hB with h | h <;> simp only [h, true_or, or_true]; done) | simp_all | omega⟩, hS.F ht9⟩) hS.2.2 (Nat.le_of_ble_eq_true rfl) (Nat.le_of_ble_eq_true rfl)
  · exact absurd hw_3.2 hw_3.1
theorem dX8_setVessel_0 : decode cX8_setVessel 0 = .ok (.aload_n 0, 1) := by decide +kernel
theorem dX8_setVessel_1 : decode cX8_setVessel 1 = .ok (.iload_n 1, 1) := by decide +kernel
theorem dX8_setVessel_2 : decode cX8_setVessel 2 = .ok (.invokevirtual 121, 3) := by decide +kernel
set_option maxRecDepth 20000 in
theorem ggX8_setVessel_X8_needVessel : GoodIn wsX8_setVessel wsX8_needVessel := goodIn_ca (goodIn_r _ [9, 10, 11, 12, 124, 125, 126, 127, 128, 129, 130, 131, 132, 133, 134, 135, 136, 137, 138] rfl (by decide +kernel)) (goodIn_sub (fun _ h => List.mem_cons_of_mem _ (List.mem_append_left _ (List.mem_append_right _ h))) (by decide +kernel))
set_option maxRecDepth 20000 in
theorem gX8_setVessel_X8_needVessel : GoodIn wsX8_setVessel (wsV RX8 121 RX8 yX8_needVessel wsX8_needVessel) := goodIn_app (goodIn_of _ (by decide +kernel)) ggX8_setVessel_X8_needVessel
set_option maxHeartbeats 4000000 in
set_option maxRecDepth 100000 in
theorem x0_setVessel (l : Launch) (hfl : l.stackTraces = false) (g : xG) (sz : Nat) (h0 : Nat) (f0 : Value) (f1 : Value) (f3 : Value) (f4 : Value) (f5 : Value) (f6 : Value) (f7 : Value) (f8 : Value) (f9 : Value) (f10 : Value) (f11 : Value) (f12 : Value) (f13 : Value) (f14 : Value) (p0 : Int32) (p1 : Int32) (p2 : Int32)  : vx_Met l yX8_setVessel wsX8_setVessel ({ frames := 8, cells := 1, slots := 6, locals := 185 }) (va_Pc [.ref h0, .int p0, .int p1, .int p2] (fun U => xB g [(h0, .inr (8, [f0, f1, .int 0, f3, f4, f5, f6, f7, f8, f9, f10, f11, f12, f13, f14]))] sz U ∧ xU (va_A [] sz) U)) (va_Qi (fun (r : Int32) (u : Unit) => False) (fun _ _ => True) (va_A [] sz)) (vx_X (fun _ : Unit => True) (fun E _ _ => (E = "java/lang/IndexOutOfBoundsException" ∧ True)) (va_A [] sz)) 1 6 (va_A [] sz) := by
  refine vx_ofW (cc := cX8_setVessel) (maxL := 6) (ret := (some .int)) (by decide) rfl ?_
  intro p e s m args below meth c s₁ B hml htab hv
  obtain ⟨rfl, ⟨hsz, hP, hK, hD0⟩, hU⟩ := hv
  have hx := B.exec
  have hb := B.bytes
  have hr := B.returns
  have hts := atoms_spec (ws := wsX8_setVessel) B.pre
  have hown : s.vm.findClass RX8 = some m.cls := findClass_of_methodNamed B.named
  have hlocks := B.notSynchronized
  subst hsz
  have hD := hD0
  generalize hAe : va_A [] s.heap.size = A at hU ⊢
  have hA : ∀ q : Nat, s.heap.size ≤ q → A q := fun q h => by rw [← hAe]; exact Or.inr h
  have hS : va_S A s.heap s.heap [] := va_S.rf
  have hl := lv_entry ([.ref h0, .int p0, .int p1, .int p2]) (n := 6) (Nat.le_of_ble_eq_true rfl)
  rw [lg_entry_eq]
  generalize (lg_sl ([.ref h0, .int p0, .int p1, .int p2]) ++ List.replicate (6 - (lg_sl ([.ref h0, .int p0, .int p1, .int p2])).length) Slot.unset).toArray = ls at hl ⊢
  have hl : lv_has ls 6 [(0, .ref h0), (1, .int p0), (2, .int p1), (3, .int p2)] := hl
  refine lv_aload_n hx hb dX8_setVessel_0 rfl (lv_at hl 0 rfl) ?_
  refine lv_iload_n hx hb dX8_setVessel_1 rfl (lv_at hl 1 rfl) ?_
  have hPc := hP.sub (ws' := [(h0, .inr (8, [f0, f1, .int 0, f3, f4, f5, f6, f7, f8, f9, f10, f11, f12, f13, f14]))]) [0] rfl
  have hDc := hD.sub (ws' := [(h0, .inr (8, [f0, f1, .int 0, f3, f4, f5, f6, f7, f8, f9, f10, f11, f12, f13, f14]))]) [0] (by decide) rfl
  have hFc := xFree hS hA
  refine vx_callv (vx_runV (As := [.int p0]) (rest := []) ⟨hx, hb, hml, hown, hts⟩ (x_needVessel l hfl g s.heap.size h0 f0 f1 f3 f4 f5 f6 f7 f8 f9 f10 f11 f12 f13 f14 0 p0) (cwV 1 hts gX8_setVessel_X8_needVessel rfl rfl rfl (by decide +kernel) ⟨Nat.le_of_ble_eq_true rfl, Nat.le_of_ble_eq_true rfl⟩) ⟨xBU.blind, va_recv hK hPc (ci := 8) (q0 := 0) rfl rfl, fun U9 hU9 hW9 => ⟨rfl, xB.mk hPc hK hDc hU9 hW9, hU.call hS hFc hU9 hW9⟩⟩ rfl rfl hl.1 rfl (lv_room (Nat.le_of_ble_eq_true rfl)) dX8_setVessel_2 ⟨Nat.le_of_ble_eq_true rfl, Nat.le_of_ble_eq_true rfl⟩) hS (fun q _ h => hFc q h) hFc (fun q _ h => hFc q h) (fun E ce q9 ux t H1 locs1 ht hvm hpx hB hz1 hk1 hS hce hcv hcl => ?_) (fun u_2 t H1 locs ht hvm hw_3 hB hz1 hk1 hS => ?_)
  · obtain ⟨rfl, hB⟩ := hB
    refine vx_out (fun x hx => (htab x hx).elim) hlocks hce hcv hcl (fun t9 ht9 hal9 => ⟨(), trivial, ⟨rfl, by first | trivial | exact hB | (rcases hB with h | h <;> simp only [h, true_or, or_true]; done) | simp_all | omega⟩, hS.F ht9⟩) hS.2.2 (Nat.le_of_ble_eq_true rfl) (Nat.le_of_ble_eq_true rfl)
  · exact absurd hw_3.2 hw_3.1
theorem dX8_ranges_0 : decode cX8_ranges 0 = .ok (.aload_n 0, 1) := by decide +kernel
theorem dX8_ranges_1 : decode cX8_ranges 1 = .ok (.iload_n 1, 1) := by decide +kernel
theorem dX8_ranges_2 : decode cX8_ranges 2 = .ok (.invokevirtual 121, 3) := by decide +kernel
set_option maxRecDepth 20000 in
theorem ggX8_ranges_X8_needVessel : GoodIn wsX8_ranges wsX8_needVessel := goodIn_ca (goodIn_r _ [7, 8, 9, 10, 11, 12, 13, 14, 15, 16, 17, 18, 19, 20, 21, 22, 23, 24, 25] rfl (by decide +kernel)) (goodIn_sub (fun _ h => List.mem_cons_of_mem _ (List.mem_append_right _ h)) (by decide +kernel))
set_option maxRecDepth 20000 in
theorem gX8_ranges_X8_needVessel : GoodIn wsX8_ranges (wsV RX8 121 RX8 yX8_needVessel wsX8_needVessel) := goodIn_app (goodIn_of _ (by decide +kernel)) ggX8_ranges_X8_needVessel
set_option maxHeartbeats 4000000 in
set_option maxRecDepth 100000 in
theorem x0_ranges (l : Launch) (hfl : l.stackTraces = false) (g : xG) (sz : Nat) (h0 : Nat) (f0 : Value) (f1 : Value) (f3 : Value) (f4 : Value) (f5 : Value) (f6 : Value) (f7 : Value) (f8 : Value) (f9 : Value) (f10 : Value) (f11 : Value) (f12 : Value) (f13 : Value) (f14 : Value) (p0 : Int32)  : vx_Met l yX8_ranges wsX8_ranges ({ frames := 8, cells := 1, slots := 6, locals := 185 }) (va_Pc [.ref h0, .int p0] (fun U => xB g [(h0, .inr (8, [f0, f1, .int 0, f3, f4, f5, f6, f7, f8, f9, f10, f11, f12, f13, f14]))] sz U ∧ xU (va_A [] sz) U)) (va_Qi (fun (r : Int32) (u : Unit) => False) (fun _ _ => True) (va_A [] sz)) (vx_X (fun _ : Unit => True) (fun E _ _ => (E = "java/lang/IndexOutOfBoundsException" ∧ True)) (va_A [] sz)) 1 6 (va_A [] sz) := by
  refine vx_ofW (cc := cX8_ranges) (maxL := 2) (ret := (some .int)) (by decide) rfl ?_
  intro p e s m args below meth c s₁ B hml htab hv
  obtain ⟨rfl, ⟨hsz, hP, hK, hD0⟩, hU⟩ := hv
  have hx := B.exec
  have hb := B.bytes
  have hr := B.returns
  have hts := atoms_spec (ws := wsX8_ranges) B.pre
  have hown : s.vm.findClass RX8 = some m.cls := findClass_of_methodNamed B.named
  have hlocks := B.notSynchronized
  subst hsz
  have hD := hD0
  generalize hAe : va_A [] s.heap.size = A at hU ⊢
  have hA : ∀ q : Nat, s.heap.size ≤ q → A q := fun q h => by rw [← hAe]; exact Or.inr h
  have hS : va_S A s.heap s.heap [] := va_S.rf
  have hl := lv_entry ([.ref h0, .int p0]) (n := 2) (Nat.le_of_ble_eq_true rfl)
  rw [lg_entry_eq]
  generalize (lg_sl ([.ref h0, .int p0]) ++ List.replicate (2 - (lg_sl ([.ref h0, .int p0])).length) Slot.unset).toArray = ls at hl ⊢
  have hl : lv_has ls 2 [(0, .ref h0), (1, .int p0)] := hl
  refine lv_aload_n hx hb dX8_ranges_0 rfl (lv_at hl 0 rfl) ?_
  refine lv_iload_n hx hb dX8_ranges_1 rfl (lv_at hl 1 rfl) ?_
  have hPc := hP.sub (ws' := [(h0, .inr (8, [f0, f1, .int 0, f3, f4, f5, f6, f7, f8, f9, f10, f11, f12, f13, f14]))]) [0] rfl
  have hDc := hD.sub (ws' := [(h0, .inr (8, [f0, f1, .int 0, f3, f4, f5, f6, f7, f8, f9, f10, f11, f12, f13, f14]))]) [0] (by decide) rfl
  have hFc := xFree hS hA
  refine vx_callv (vx_runV (As := [.int p0]) (rest := []) ⟨hx, hb, hml, hown, hts⟩ (x_needVessel l hfl g s.heap.size h0 f0 f1 f3 f4 f5 f6 f7 f8 f9 f10 f11 f12 f13 f14 0 p0) (cwV 1 hts gX8_ranges_X8_needVessel rfl rfl rfl (by decide +kernel) ⟨Nat.le_of_ble_eq_true rfl, Nat.le_of_ble_eq_true rfl⟩) ⟨xBU.blind, va_recv hK hPc (ci := 8) (q0 := 0) rfl rfl, fun U9 hU9 hW9 => ⟨rfl, xB.mk hPc hK hDc hU9 hW9, hU.call hS hFc hU9 hW9⟩⟩ rfl rfl hl.1 rfl (lv_room (Nat.le_of_ble_eq_true rfl)) dX8_ranges_2 ⟨Nat.le_of_ble_eq_true rfl, Nat.le_of_ble_eq_true rfl⟩) hS (fun q _ h => hFc q h) hFc (fun q _ h => hFc q h) (fun E ce q9 ux t H1 locs1 ht hvm hpx hB hz1 hk1 hS hce hcv hcl => ?_) (fun u_2 t H1 locs ht hvm hw_3 hB hz1 hk1 hS => ?_)
  · obtain ⟨rfl, hB⟩ := hB
    refine vx_out (fun x hx => (htab x hx).elim) hlocks hce hcv hcl (fun t9 ht9 hal9 => ⟨(), trivial, ⟨rfl, by first | trivial | exact hB | (rcases hB with h | h <;> simp only [h, true_or, or_true]; done) | simp_all | omega⟩, hS.F ht9⟩) hS.2.2 (Nat.le_of_ble_eq_true rfl) (Nat.le_of_ble_eq_true rfl)
  · exact absurd hw_3.2 hw_3.1
theorem dX8_firstBay_0 : decode cX8_firstBay 0 = .ok (.aload_n 0, 1) := by decide +kernel
theorem dX8_firstBay_1 : decode cX8_firstBay 1 = .ok (.iload_n 1, 1) := by decide +kernel
theorem dX8_firstBay_2 : decode cX8_firstBay 2 = .ok (.invokevirtual 121, 3) := by decide +kernel
set_option maxRecDepth 20000 in
theorem ggX8_firstBay_X8_needVessel : GoodIn wsX8_firstBay wsX8_needVessel := goodIn_ca (goodIn_r _ [10, 1, 2, 11, 12, 13, 14, 15, 16, 17, 18, 19, 20, 21, 22, 23, 24, 25, 26] rfl (by decide +kernel)) (goodIn_sub (fun _ h => List.mem_cons_of_mem _ (List.mem_append_right _ h)) (by decide +kernel))
set_option maxRecDepth 20000 in
theorem gX8_firstBay_X8_needVessel : GoodIn wsX8_firstBay (wsV RX8 121 RX8 yX8_needVessel wsX8_needVessel) := goodIn_app (goodIn_of _ (by decide +kernel)) ggX8_firstBay_X8_needVessel
set_option maxHeartbeats 4000000 in
set_option maxRecDepth 100000 in
theorem x0_firstBay (l : Launch) (hfl : l.stackTraces = false) (g : xG) (sz : Nat) (h0 : Nat) (f0 : Value) (f1 : Value) (f3 : Value) (f4 : Value) (f5 : Value) (f6 : Value) (f7 : Value) (f8 : Value) (f9 : Value) (f10 : Value) (f11 : Value) (f12 : Value) (f13 : Value) (f14 : Value) (p0 : Int32) (p1 : Int32)  : vx_Met l yX8_firstBay wsX8_firstBay ({ frames := 8, cells := 1, slots := 6, locals := 185 }) (va_Pc [.ref h0, .int p0, .int p1] (fun U => xB g [(h0, .inr (8, [f0, f1, .int 0, f3, f4, f5, f6, f7, f8, f9, f10, f11, f12, f13, f14]))] sz U ∧ xU (va_A [] sz) U)) (va_Qi (fun (r : Int32) (u : Unit) => False) (fun _ _ => True) (va_A [] sz)) (vx_X (fun _ : Unit => True) (fun E _ _ => (E = "java/lang/IndexOutOfBoundsException" ∧ True)) (va_A [] sz)) 1 6 (va_A [] sz) := by
  refine vx_ofW (cc := cX8_firstBay) (maxL := 3) (ret := (some .int)) (by decide) rfl ?_
  intro p e s m args below meth c s₁ B hml htab hv
  obtain ⟨rfl, ⟨hsz, hP, hK, hD0⟩, hU⟩ := hv
  have hx := B.exec
  have hb := B.bytes
  have hr := B.returns
  have hts := atoms_spec (ws := wsX8_firstBay) B.pre
  have hown : s.vm.findClass RX8 = some m.cls := findClass_of_methodNamed B.named
  have hlocks := B.notSynchronized
  subst hsz
  have hD := hD0
  generalize hAe : va_A [] s.heap.size = A at hU ⊢
  have hA : ∀ q : Nat, s.heap.size ≤ q → A q := fun q h => by rw [← hAe]; exact Or.inr h
  have hS : va_S A s.heap s.heap [] := va_S.rf
  have hl := lv_entry ([.ref h0, .int p0, .int p1]) (n := 3) (Nat.le_of_ble_eq_true rfl)
  rw [lg_entry_eq]
  generalize (lg_sl ([.ref h0, .int p0, .int p1]) ++ List.replicate (3 - (lg_sl ([.ref h0, .int p0, .int p1])).length) Slot.unset).toArray = ls at hl ⊢
  have hl : lv_has ls 3 [(0, .ref h0), (1, .int p0), (2, .int p1)] := hl
  refine lv_aload_n hx hb dX8_firstBay_0 rfl (lv_at hl 0 rfl) ?_
  refine lv_iload_n hx hb dX8_firstBay_1 rfl (lv_at hl 1 rfl) ?_
  have hPc := hP.sub (ws' := [(h0, .inr (8, [f0, f1, .int 0, f3, f4, f5, f6, f7, f8, f9, f10, f11, f12, f13, f14]))]) [0] rfl
  have hDc := hD.sub (ws' := [(h0, .inr (8, [f0, f1, .int 0, f3, f4, f5, f6, f7, f8, f9, f10, f11, f12, f13, f14]))]) [0] (by decide) rfl
  have hFc := xFree hS hA
  refine vx_callv (vx_runV (As := [.int p0]) (rest := []) ⟨hx, hb, hml, hown, hts⟩ (x_needVessel l hfl g s.heap.size h0 f0 f1 f3 f4 f5 f6 f7 f8 f9 f10 f11 f12 f13 f14 0 p0) (cwV 1 hts gX8_firstBay_X8_needVessel rfl rfl rfl (by decide +kernel) ⟨Nat.le_of_ble_eq_true rfl, Nat.le_of_ble_eq_true rfl⟩) ⟨xBU.blind, va_recv hK hPc (ci := 8) (q0 := 0) rfl rfl, fun U9 hU9 hW9 => ⟨rfl, xB.mk hPc hK hDc hU9 hW9, hU.call hS hFc hU9 hW9⟩⟩ rfl rfl hl.1 rfl (lv_room (Nat.le_of_ble_eq_true rfl)) dX8_firstBay_2 ⟨Nat.le_of_ble_eq_true rfl, Nat.le_of_ble_eq_true rfl⟩) hS (fun q _ h => hFc q h) hFc (fun q _ h => hFc q h) (fun E ce q9 ux t H1 locs1 ht hvm hpx hB hz1 hk1 hS hce hcv hcl => ?_) (fun u_2 t H1 locs ht hvm hw_3 hB hz1 hk1 hS => ?_)
  · obtain ⟨rfl, hB⟩ := hB
    refine vx_out (fun x hx => (htab x hx).elim) hlocks hce hcv hcl (fun t9 ht9 hal9 => ⟨(), trivial, ⟨rfl, by first | trivial | exact hB | (rcases hB with h | h <;> simp only [h, true_or, or_true]; done) | simp_all | omega⟩, hS.F ht9⟩) hS.2.2 (Nat.le_of_ble_eq_true rfl) (Nat.le_of_ble_eq_true rfl)
  · exact absurd hw_3.2 hw_3.1
theorem dX8_load_0 : decode cX8_load 0 = .ok (.aload_n 0, 1) := by decide +kernel
theorem dX8_load_1 : decode cX8_load 1 = .ok (.iload_n 1, 1) := by decide +kernel
theorem dX8_load_2 : decode cX8_load 2 = .ok (.invokevirtual 121, 3) := by decide +kernel
set_option maxRecDepth 20000 in
theorem ggX8_load_X8_needVessel : GoodIn wsX8_load wsX8_needVessel := goodIn_ca (goodIn_r _ [7, 8, 9, 10, 11, 12, 13, 14, 15, 16, 17, 18, 19, 20, 21, 22, 23, 24, 25] rfl (by decide +kernel)) (goodIn_sub (fun _ h => List.mem_cons_of_mem _ (List.mem_append_right _ h)) (by decide +kernel))
set_option maxRecDepth 20000 in
theorem gX8_load_X8_needVessel : GoodIn wsX8_load (wsV RX8 121 RX8 yX8_needVessel wsX8_needVessel) := goodIn_app (goodIn_of _ (by decide +kernel)) ggX8_load_X8_needVessel
set_option maxHeartbeats 4000000 in
set_option maxRecDepth 100000 in
theorem x0_load (l : Launch) (hfl : l.stackTraces = false) (g : xG) (sz : Nat) (h0 : Nat) (f0 : Value) (f1 : Value) (f3 : Value) (f4 : Value) (f5 : Value) (f6 : Value) (f7 : Value) (f8 : Value) (f9 : Value) (f10 : Value) (f11 : Value) (f12 : Value) (f13 : Value) (f14 : Value) (p0 : Int32)  : vx_Met l yX8_load wsX8_load ({ frames := 8, cells := 1, slots := 6, locals := 185 }) (va_Pc [.ref h0, .int p0] (fun U => xB g [(h0, .inr (8, [f0, f1, .int 0, f3, f4, f5, f6, f7, f8, f9, f10, f11, f12, f13, f14]))] sz U ∧ xU (va_A [] sz) U)) (va_Qi (fun (r : Int32) (u : Unit) => False) (fun _ _ => True) (va_A [] sz)) (vx_X (fun _ : Unit => True) (fun E _ _ => (E = "java/lang/IndexOutOfBoundsException" ∧ True)) (va_A [] sz)) 1 6 (va_A [] sz) := by
  refine vx_ofW (cc := cX8_load) (maxL := 2) (ret := (some .int)) (by decide) rfl ?_
  intro p e s m args below meth c s₁ B hml htab hv
  obtain ⟨rfl, ⟨hsz, hP, hK, hD0⟩, hU⟩ := hv
  have hx := B.exec
  have hb := B.bytes
  have hr := B.returns
  have hts := atoms_spec (ws := wsX8_load) B.pre
  have hown : s.vm.findClass RX8 = some m.cls := findClass_of_methodNamed B.named
  have hlocks := B.notSynchronized
  subst hsz
  have hD := hD0
  generalize hAe : va_A [] s.heap.size = A at hU ⊢
  have hA : ∀ q : Nat, s.heap.size ≤ q → A q := fun q h => by rw [← hAe]; exact Or.inr h
  have hS : va_S A s.heap s.heap [] := va_S.rf
  have hl := lv_entry ([.ref h0, .int p0]) (n := 2) (Nat.le_of_ble_eq_true rfl)
  rw [lg_entry_eq]
  generalize (lg_sl ([.ref h0, .int p0]) ++ List.replicate (2 - (lg_sl ([.ref h0, .int p0])).length) Slot.unset).toArray = ls at hl ⊢
  have hl : lv_has ls 2 [(0, .ref h0), (1, .int p0)] := hl
  refine lv_aload_n hx hb dX8_load_0 rfl (lv_at hl 0 rfl) ?_
  refine lv_iload_n hx hb dX8_load_1 rfl (lv_at hl 1 rfl) ?_
  have hPc := hP.sub (ws' := [(h0, .inr (8, [f0, f1, .int 0, f3, f4, f5, f6, f7, f8, f9, f10, f11, f12, f13, f14]))]) [0] rfl
  have hDc := hD.sub (ws' := [(h0, .inr (8, [f0, f1, .int 0, f3, f4, f5, f6, f7, f8, f9, f10, f11, f12, f13, f14]))]) [0] (by decide) rfl
  have hFc := xFree hS hA
  refine vx_callv (vx_runV (As := [.int p0]) (rest := []) ⟨hx, hb, hml, hown, hts⟩ (x_needVessel l hfl g s.heap.size h0 f0 f1 f3 f4 f5 f6 f7 f8 f9 f10 f11 f12 f13 f14 0 p0) (cwV 1 hts gX8_load_X8_needVessel rfl rfl rfl (by decide +kernel) ⟨Nat.le_of_ble_eq_true rfl, Nat.le_of_ble_eq_true rfl⟩) ⟨xBU.blind, va_recv hK hPc (ci := 8) (q0 := 0) rfl rfl, fun U9 hU9 hW9 => ⟨rfl, xB.mk hPc hK hDc hU9 hW9, hU.call hS hFc hU9 hW9⟩⟩ rfl rfl hl.1 rfl (lv_room (Nat.le_of_ble_eq_true rfl)) dX8_load_2 ⟨Nat.le_of_ble_eq_true rfl, Nat.le_of_ble_eq_true rfl⟩) hS (fun q _ h => hFc q h) hFc (fun q _ h => hFc q h) (fun E ce q9 ux t H1 locs1 ht hvm hpx hB hz1 hk1 hS hce hcv hcl => ?_) (fun u_2 t H1 locs ht hvm hw_3 hB hz1 hk1 hS => ?_)
  · obtain ⟨rfl, hB⟩ := hB
    refine vx_out (fun x hx => (htab x hx).elim) hlocks hce hcv hcl (fun t9 ht9 hal9 => ⟨(), trivial, ⟨rfl, by first | trivial | exact hB | (rcases hB with h | h <;> simp only [h, true_or, or_true]; done) | simp_all | omega⟩, hS.F ht9⟩) hS.2.2 (Nat.le_of_ble_eq_true rfl) (Nat.le_of_ble_eq_true rfl)
  · exact absurd hw_3.2 hw_3.1
theorem dX8_handling_0 : decode cX8_handling 0 = .ok (.aload_n 0, 1) := by decide +kernel
theorem dX8_handling_1 : decode cX8_handling 1 = .ok (.iload_n 1, 1) := by decide +kernel
theorem dX8_handling_2 : decode cX8_handling 2 = .ok (.invokevirtual 121, 3) := by decide +kernel
set_option maxRecDepth 20000 in
theorem ggX8_handling_X8_needVessel : GoodIn wsX8_handling wsX8_needVessel := goodIn_ca (goodIn_r _ [7, 8, 9, 10, 11, 12, 13, 14, 15, 16, 17, 18, 19, 20, 21, 22, 23, 24, 25] rfl (by decide +kernel)) (goodIn_sub (fun _ h => List.mem_cons_of_mem _ (List.mem_append_right _ h)) (by decide +kernel))
set_option maxRecDepth 20000 in
theorem gX8_handling_X8_needVessel : GoodIn wsX8_handling (wsV RX8 121 RX8 yX8_needVessel wsX8_needVessel) := goodIn_app (goodIn_of _ (by decide +kernel)) ggX8_handling_X8_needVessel
set_option maxHeartbeats 4000000 in
set_option maxRecDepth 100000 in
theorem x0_handling (l : Launch) (hfl : l.stackTraces = false) (g : xG) (sz : Nat) (h0 : Nat) (f0 : Value) (f1 : Value) (f3 : Value) (f4 : Value) (f5 : Value) (f6 : Value) (f7 : Value) (f8 : Value) (f9 : Value) (f10 : Value) (f11 : Value) (f12 : Value) (f13 : Value) (f14 : Value) (p0 : Int32)  : vx_Met l yX8_handling wsX8_handling ({ frames := 8, cells := 1, slots := 6, locals := 185 }) (va_Pc [.ref h0, .int p0] (fun U => xB g [(h0, .inr (8, [f0, f1, .int 0, f3, f4, f5, f6, f7, f8, f9, f10, f11, f12, f13, f14]))] sz U ∧ xU (va_A [] sz) U)) (va_Qi (fun (r : Int32) (u : Unit) => False) (fun _ _ => True) (va_A [] sz)) (vx_X (fun _ : Unit => True) (fun E _ _ => (E = "java/lang/IndexOutOfBoundsException" ∧ True)) (va_A [] sz)) 1 6 (va_A [] sz) := by
  refine vx_ofW (cc := cX8_handling) (maxL := 2) (ret := (some .int)) (by decide) rfl ?_
  intro p e s m args below meth c s₁ B hml htab hv
  obtain ⟨rfl, ⟨hsz, hP, hK, hD0⟩, hU⟩ := hv
  have hx := B.exec
  have hb := B.bytes
  have hr := B.returns
  have hts := atoms_spec (ws := wsX8_handling) B.pre
  have hown : s.vm.findClass RX8 = some m.cls := findClass_of_methodNamed B.named
  have hlocks := B.notSynchronized
  subst hsz
  have hD := hD0
  generalize hAe : va_A [] s.heap.size = A at hU ⊢
  have hA : ∀ q : Nat, s.heap.size ≤ q → A q := fun q h => by rw [← hAe]; exact Or.inr h
  have hS : va_S A s.heap s.heap [] := va_S.rf
  have hl := lv_entry ([.ref h0, .int p0]) (n := 2) (Nat.le_of_ble_eq_true rfl)
  rw [lg_entry_eq]
  generalize (lg_sl ([.ref h0, .int p0]) ++ List.replicate (2 - (lg_sl ([.ref h0, .int p0])).length) Slot.unset).toArray = ls at hl ⊢
  have hl : lv_has ls 2 [(0, .ref h0), (1, .int p0)] := hl
  refine lv_aload_n hx hb dX8_handling_0 rfl (lv_at hl 0 rfl) ?_
  refine lv_iload_n hx hb dX8_handling_1 rfl (lv_at hl 1 rfl) ?_
  have hPc := hP.sub (ws' := [(h0, .inr (8, [f0, f1, .int 0, f3, f4, f5, f6, f7, f8, f9, f10, f11, f12, f13, f14]))]) [0] rfl
  have hDc := hD.sub (ws' := [(h0, .inr (8, [f0, f1, .int 0, f3, f4, f5, f6, f7, f8, f9, f10, f11, f12, f13, f14]))]) [0] (by decide) rfl
  have hFc := xFree hS hA
  refine vx_callv (vx_runV (As := [.int p0]) (rest := []) ⟨hx, hb, hml, hown, hts⟩ (x_needVessel l hfl g s.heap.size h0 f0 f1 f3 f4 f5 f6 f7 f8 f9 f10 f11 f12 f13 f14 0 p0) (cwV 1 hts gX8_handling_X8_needVessel rfl rfl rfl (by decide +kernel) ⟨Nat.le_of_ble_eq_true rfl, Nat.le_of_ble_eq_true rfl⟩) ⟨xBU.blind, va_recv hK hPc (ci := 8) (q0 := 0) rfl rfl, fun U9 hU9 hW9 => ⟨rfl, xB.mk hPc hK hDc hU9 hW9, hU.call hS hFc hU9 hW9⟩⟩ rfl rfl hl.1 rfl (lv_room (Nat.le_of_ble_eq_true rfl)) dX8_handling_2 ⟨Nat.le_of_ble_eq_true rfl, Nat.le_of_ble_eq_true rfl⟩) hS (fun q _ h => hFc q h) hFc (fun q _ h => hFc q h) (fun E ce q9 ux t H1 locs1 ht hvm hpx hB hz1 hk1 hS hce hcv hcl => ?_) (fun u_2 t H1 locs ht hvm hw_3 hB hz1 hk1 hS => ?_)
  · obtain ⟨rfl, hB⟩ := hB
    refine vx_out (fun x hx => (htab x hx).elim) hlocks hce hcv hcl (fun t9 ht9 hal9 => ⟨(), trivial, ⟨rfl, by first | trivial | exact hB | (rcases hB with h | h <;> simp only [h, true_or, or_true]; done) | simp_all | omega⟩, hS.F ht9⟩) hS.2.2 (Nat.le_of_ble_eq_true rfl) (Nat.le_of_ble_eq_true rfl)
  · exact absurd hw_3.2 hw_3.1
theorem dX8_waits_0 : decode cX8_waits 0 = .ok (.aload_n 0, 1) := by decide +kernel
theorem dX8_waits_1 : decode cX8_waits 1 = .ok (.iload_n 1, 1) := by decide +kernel
theorem dX8_waits_2 : decode cX8_waits 2 = .ok (.invokevirtual 121, 3) := by decide +kernel
set_option maxRecDepth 20000 in
theorem ggX8_waits_X8_needVessel : GoodIn wsX8_waits wsX8_needVessel := goodIn_ca (goodIn_r _ [7, 8, 9, 10, 11, 12, 13, 14, 15, 16, 17, 18, 19, 20, 21, 22, 23, 24, 25] rfl (by decide +kernel)) (goodIn_sub (fun _ h => List.mem_cons_of_mem _ (List.mem_append_right _ h)) (by decide +kernel))
set_option maxRecDepth 20000 in
theorem gX8_waits_X8_needVessel : GoodIn wsX8_waits (wsV RX8 121 RX8 yX8_needVessel wsX8_needVessel) := goodIn_app (goodIn_of _ (by decide +kernel)) ggX8_waits_X8_needVessel
set_option maxHeartbeats 4000000 in
set_option maxRecDepth 100000 in
theorem x0_waits (l : Launch) (hfl : l.stackTraces = false) (g : xG) (sz : Nat) (h0 : Nat) (f0 : Value) (f1 : Value) (f3 : Value) (f4 : Value) (f5 : Value) (f6 : Value) (f7 : Value) (f8 : Value) (f9 : Value) (f10 : Value) (f11 : Value) (f12 : Value) (f13 : Value) (f14 : Value) (p0 : Int32)  : vx_Met l yX8_waits wsX8_waits ({ frames := 8, cells := 1, slots := 6, locals := 185 }) (va_Pc [.ref h0, .int p0] (fun U => xB g [(h0, .inr (8, [f0, f1, .int 0, f3, f4, f5, f6, f7, f8, f9, f10, f11, f12, f13, f14]))] sz U ∧ xU (va_A [] sz) U)) (va_Qi (fun (r : Int32) (u : Unit) => False) (fun _ _ => True) (va_A [] sz)) (vx_X (fun _ : Unit => True) (fun E _ _ => (E = "java/lang/IndexOutOfBoundsException" ∧ True)) (va_A [] sz)) 1 6 (va_A [] sz) := by
  refine vx_ofW (cc := cX8_waits) (maxL := 2) (ret := (some .int)) (by decide) rfl ?_
  intro p e s m args below meth c s₁ B hml htab hv
  obtain ⟨rfl, ⟨hsz, hP, hK, hD0⟩, hU⟩ := hv
  have hx := B.exec
  have hb := B.bytes
  have hr := B.returns
  have hts := atoms_spec (ws := wsX8_waits) B.pre
  have hown : s.vm.findClass RX8 = some m.cls := findClass_of_methodNamed B.named
  have hlocks := B.notSynchronized
  subst hsz
  have hD := hD0
  generalize hAe : va_A [] s.heap.size = A at hU ⊢
  have hA : ∀ q : Nat, s.heap.size ≤ q → A q := fun q h => by rw [← hAe]; exact Or.inr h
  have hS : va_S A s.heap s.heap [] := va_S.rf
  have hl := lv_entry ([.ref h0, .int p0]) (n := 2) (Nat.le_of_ble_eq_true rfl)
  rw [lg_entry_eq]
  generalize (lg_sl ([.ref h0, .int p0]) ++ List.replicate (2 - (lg_sl ([.ref h0, .int p0])).length) Slot.unset).toArray = ls at hl ⊢
  have hl : lv_has ls 2 [(0, .ref h0), (1, .int p0)] := hl
  refine lv_aload_n hx hb dX8_waits_0 rfl (lv_at hl 0 rfl) ?_
  refine lv_iload_n hx hb dX8_waits_1 rfl (lv_at hl 1 rfl) ?_
  have hPc := hP.sub (ws' := [(h0, .inr (8, [f0, f1, .int 0, f3, f4, f5, f6, f7, f8, f9, f10, f11, f12, f13, f14]))]) [0] rfl
  have hDc := hD.sub (ws' := [(h0, .inr (8, [f0, f1, .int 0, f3, f4, f5, f6, f7, f8, f9, f10, f11, f12, f13, f14]))]) [0] (by decide) rfl
  have hFc := xFree hS hA
  refine vx_callv (vx_runV (As := [.int p0]) (rest := []) ⟨hx, hb, hml, hown, hts⟩ (x_needVessel l hfl g s.heap.size h0 f0 f1 f3 f4 f5 f6 f7 f8 f9 f10 f11 f12 f13 f14 0 p0) (cwV 1 hts gX8_waits_X8_needVessel rfl rfl rfl (by decide +kernel) ⟨Nat.le_of_ble_eq_true rfl, Nat.le_of_ble_eq_true rfl⟩) ⟨xBU.blind, va_recv hK hPc (ci := 8) (q0 := 0) rfl rfl, fun U9 hU9 hW9 => ⟨rfl, xB.mk hPc hK hDc hU9 hW9, hU.call hS hFc hU9 hW9⟩⟩ rfl rfl hl.1 rfl (lv_room (Nat.le_of_ble_eq_true rfl)) dX8_waits_2 ⟨Nat.le_of_ble_eq_true rfl, Nat.le_of_ble_eq_true rfl⟩) hS (fun q _ h => hFc q h) hFc (fun q _ h => hFc q h) (fun E ce q9 ux t H1 locs1 ht hvm hpx hB hz1 hk1 hS hce hcv hcl => ?_) (fun u_2 t H1 locs ht hvm hw_3 hB hz1 hk1 hS => ?_)
  · obtain ⟨rfl, hB⟩ := hB
    refine vx_out (fun x hx => (htab x hx).elim) hlocks hce hcv hcl (fun t9 ht9 hal9 => ⟨(), trivial, ⟨rfl, by first | trivial | exact hB | (rcases hB with h | h <;> simp only [h, true_or, or_true]; done) | simp_all | omega⟩, hS.F ht9⟩) hS.2.2 (Nat.le_of_ble_eq_true rfl) (Nat.le_of_ble_eq_true rfl)
  · exact absurd hw_3.2 hw_3.1
theorem dX8_delayIf_0 : decode cX8_delayIf 0 = .ok (.aload_n 0, 1) := by decide +kernel
theorem dX8_delayIf_1 : decode cX8_delayIf 1 = .ok (.iload_n 1, 1) := by decide +kernel
theorem dX8_delayIf_2 : decode cX8_delayIf 2 = .ok (.invokevirtual 121, 3) := by decide +kernel
set_option maxRecDepth 20000 in
theorem ggX8_delayIf_X8_needVessel : GoodIn wsX8_delayIf wsX8_needVessel := goodIn_ca (goodIn_r _ [11, 12, 13, 3, 117, 118, 119, 120, 121, 122, 123, 124, 125, 126, 127, 128, 129, 130, 131] rfl (by decide +kernel)) (goodIn_sub (fun _ h => List.mem_cons_of_mem _ (List.mem_append_left _ (List.mem_append_right _ h))) (by decide +kernel))
set_option maxRecDepth 20000 in
theorem gX8_delayIf_X8_needVessel : GoodIn wsX8_delayIf (wsV RX8 121 RX8 yX8_needVessel wsX8_needVessel) := goodIn_app (goodIn_of _ (by decide +kernel)) ggX8_delayIf_X8_needVessel
set_option maxHeartbeats 4000000 in
set_option maxRecDepth 100000 in
theorem x0_delayIf (l : Launch) (hfl : l.stackTraces = false) (g : xG) (sz : Nat) (h0 : Nat) (f0 : Value) (f1 : Value) (f3 : Value) (f4 : Value) (f5 : Value) (f6 : Value) (f7 : Value) (f8 : Value) (f9 : Value) (f10 : Value) (f11 : Value) (f12 : Value) (f13 : Value) (f14 : Value) (p0 : Int32) (p1 : Int32)  : vx_Met l yX8_delayIf wsX8_delayIf ({ frames := 8, cells := 1, slots := 6, locals := 185 }) (va_Pc [.ref h0, .int p0, .int p1] (fun U => xB g [(h0, .inr (8, [f0, f1, .int 0, f3, f4, f5, f6, f7, f8, f9, f10, f11, f12, f13, f14]))] sz U ∧ xU (va_A [] sz) U)) (va_Qi (fun (r : Int32) (u : Unit) => False) (fun _ _ => True) (va_A [] sz)) (vx_X (fun _ : Unit => True) (fun E _ _ => (E = "java/lang/IndexOutOfBoundsException" ∧ True)) (va_A [] sz)) 1 6 (va_A [] sz) := by
  refine vx_ofW (cc := cX8_delayIf) (maxL := 3) (ret := (some .int)) (by decide) rfl ?_
  intro p e s m args below meth c s₁ B hml htab hv
  obtain ⟨rfl, ⟨hsz, hP, hK, hD0⟩, hU⟩ := hv
  have hx := B.exec
  have hb := B.bytes
  have hr := B.returns
  have hts := atoms_spec (ws := wsX8_delayIf) B.pre
  have hown : s.vm.findClass RX8 = some m.cls := findClass_of_methodNamed B.named
  have hlocks := B.notSynchronized
  subst hsz
  have hD := hD0
  generalize hAe : va_A [] s.heap.size = A at hU ⊢
  have hA : ∀ q : Nat, s.heap.size ≤ q → A q := fun q h => by rw [← hAe]; exact Or.inr h
  have hS : va_S A s.heap s.heap [] := va_S.rf
  have hl := lv_entry ([.ref h0, .int p0, .int p1]) (n := 3) (Nat.le_of_ble_eq_true rfl)
  rw [lg_entry_eq]
  generalize (lg_sl ([.ref h0, .int p0, .int p1]) ++ List.replicate (3 - (lg_sl ([.ref h0, .int p0, .int p1])).length) Slot.unset).toArray = ls at hl ⊢
  have hl : lv_has ls 3 [(0, .ref h0), (1, .int p0), (2, .int p1)] := hl
  refine lv_aload_n hx hb dX8_delayIf_0 rfl (lv_at hl 0 rfl) ?_
  refine lv_iload_n hx hb dX8_delayIf_1 rfl (lv_at hl 1 rfl) ?_
  have hPc := hP.sub (ws' := [(h0, .inr (8, [f0, f1, .int 0, f3, f4, f5, f6, f7, f8, f9, f10, f11, f12, f13, f14]))]) [0] rfl
  have hDc := hD.sub (ws' := [(h0, .inr (8, [f0, f1, .int 0, f3, f4, f5, f6, f7, f8, f9, f10, f11, f12, f13, f14]))]) [0] (by decide) rfl
  have hFc := xFree hS hA
  refine vx_callv (vx_runV (As := [.int p0]) (rest := []) ⟨hx, hb, hml, hown, hts⟩ (x_needVessel l hfl g s.heap.size h0 f0 f1 f3 f4 f5 f6 f7 f8 f9 f10 f11 f12 f13 f14 0 p0) (cwV 1 hts gX8_delayIf_X8_needVessel rfl rfl rfl (by decide +kernel) ⟨Nat.le_of_ble_eq_true rfl, Nat.le_of_ble_eq_true rfl⟩) ⟨xBU.blind, va_recv hK hPc (ci := 8) (q0 := 0) rfl rfl, fun U9 hU9 hW9 => ⟨rfl, xB.mk hPc hK hDc hU9 hW9, hU.call hS hFc hU9 hW9⟩⟩ rfl rfl hl.1 rfl (lv_room (Nat.le_of_ble_eq_true rfl)) dX8_delayIf_2 ⟨Nat.le_of_ble_eq_true rfl, Nat.le_of_ble_eq_true rfl⟩) hS (fun q _ h => hFc q h) hFc (fun q _ h => hFc q h) (fun E ce q9 ux t H1 locs1 ht hvm hpx hB hz1 hk1 hS hce hcv hcl => ?_) (fun u_2 t H1 locs ht hvm hw_3 hB hz1 hk1 hS => ?_)
  · obtain ⟨rfl, hB⟩ := hB
    refine vx_out (fun x hx => (htab x hx).elim) hlocks hce hcv hcl (fun t9 ht9 hal9 => ⟨(), trivial, ⟨rfl, by first | trivial | exact hB | (rcases hB with h | h <;> simp only [h, true_or, or_true]; done) | simp_all | omega⟩, hS.F ht9⟩) hS.2.2 (Nat.le_of_ble_eq_true rfl) (Nat.le_of_ble_eq_true rfl)
  · exact absurd hw_3.2 hw_3.1
theorem dX8_addContainer_0 : decode cX8_addContainer 0 = .ok (.aload_n 0, 1) := by decide +kernel
theorem dX8_addContainer_1 : decode cX8_addContainer 1 = .ok (.iload_n 1, 1) := by decide +kernel
theorem dX8_addContainer_2 : decode cX8_addContainer 2 = .ok (.iload_n 2, 1) := by decide +kernel
theorem dX8_addContainer_3 : decode cX8_addContainer 3 = .ok (.invokevirtual 125, 3) := by decide +kernel
set_option maxRecDepth 20000 in
theorem ggX8_addContainer_X8_needBay : GoodIn wsX8_addContainer wsX8_needBay := goodIn_ca (goodIn_r _ [17, 18, 19, 10, 20, 21, 22, 23, 16, 24, 25, 137, 138, 139, 140, 141, 142, 143, 144, 145, 146, 147, 148, 149, 150, 151, 158, 159, 160, 161, 162, 163, 164, 165, 166, 167, 168] rfl (by decide +kernel)) (goodIn_sub (fun _ h => List.mem_cons_of_mem _ (List.mem_append_left _ (List.mem_append_right _ h))) (by decide +kernel))
set_option maxRecDepth 20000 in
theorem gX8_addContainer_X8_needBay : GoodIn wsX8_addContainer (wsV RX8 125 RX8 yX8_needBay wsX8_needBay) := goodIn_app (goodIn_of _ (by decide +kernel)) ggX8_addContainer_X8_needBay
set_option maxHeartbeats 4000000 in
set_option maxRecDepth 100000 in
theorem x0_addContainer (l : Launch) (hfl : l.stackTraces = false) (g : xG) (sz : Nat) (h0 : Nat) (f0 : Value) (f1 : Value) (f3 : Value) (f4 : Value) (f5 : Value) (f6 : Value) (f7 : Value) (f8 : Value) (f9 : Value) (f10 : Value) (f11 : Value) (f12 : Value) (f13 : Value) (f14 : Value) (p0 : Int32) (p1 : Int32) (p2 : Int32) (p3 : Int32) (p4 : Int32)  : vx_Met l yX8_addContainer wsX8_addContainer ({ frames := 8, cells := 1, slots := 6, locals := 185 }) (va_Pc [.ref h0, .int p0, .int p1, .int p2, .int p3, .int p4] (fun U => xB g [(h0, .inr (8, [f0, f1, .int 0, f3, f4, f5, f6, f7, f8, f9, f10, f11, f12, f13, f14]))] sz U ∧ xU (va_A [] sz) U)) (va_Qi (fun (r : Int32) (u : Unit) => False) (fun _ _ => True) (va_A [] sz)) (vx_X (fun _ : Unit => True) (fun E _ _ => (E = "java/lang/IndexOutOfBoundsException" ∧ True)) (va_A [] sz)) 1 6 (va_A [] sz) := by
  refine vx_ofW (cc := cX8_addContainer) (maxL := 7) (ret := (some .int)) (by decide) rfl ?_
  intro p e s m args below meth c s₁ B hml htab hv
  obtain ⟨rfl, ⟨hsz, hP, hK, hD0⟩, hU⟩ := hv
  have hx := B.exec
  have hb := B.bytes
  have hr := B.returns
  have hts := atoms_spec (ws := wsX8_addContainer) B.pre
  have hown : s.vm.findClass RX8 = some m.cls := findClass_of_methodNamed B.named
  have hlocks := B.notSynchronized
  subst hsz
  have hD := hD0
  generalize hAe : va_A [] s.heap.size = A at hU ⊢
  have hA : ∀ q : Nat, s.heap.size ≤ q → A q := fun q h => by rw [← hAe]; exact Or.inr h
  have hS : va_S A s.heap s.heap [] := va_S.rf
  have hl := lv_entry ([.ref h0, .int p0, .int p1, .int p2, .int p3, .int p4]) (n := 7) (Nat.le_of_ble_eq_true rfl)
  rw [lg_entry_eq]
  generalize (lg_sl ([.ref h0, .int p0, .int p1, .int p2, .int p3, .int p4]) ++ List.replicate (7 - (lg_sl ([.ref h0, .int p0, .int p1, .int p2, .int p3, .int p4])).length) Slot.unset).toArray = ls at hl ⊢
  have hl : lv_has ls 7 [(0, .ref h0), (1, .int p0), (2, .int p1), (3, .int p2), (4, .int p3), (5, .int p4)] := hl
  refine lv_aload_n hx hb dX8_addContainer_0 rfl (lv_at hl 0 rfl) ?_
  refine lv_iload_n hx hb dX8_addContainer_1 rfl (lv_at hl 1 rfl) ?_
  refine lv_iload_n hx hb dX8_addContainer_2 rfl (lv_at hl 2 rfl) ?_
  have hPc := hP.sub (ws' := [(h0, .inr (8, [f0, f1, .int 0, f3, f4, f5, f6, f7, f8, f9, f10, f11, f12, f13, f14]))]) [0] rfl
  have hDc := hD.sub (ws' := [(h0, .inr (8, [f0, f1, .int 0, f3, f4, f5, f6, f7, f8, f9, f10, f11, f12, f13, f14]))]) [0] (by decide) rfl
  have hFc := xFree hS hA
  refine vx_callv (vx_runV (As := [.int p0, .int p1]) (rest := []) ⟨hx, hb, hml, hown, hts⟩ (x0_needBay l hfl g s.heap.size h0 f0 f1 f3 f4 f5 f6 f7 f8 f9 f10 f11 f12 f13 f14 p0 p1) (cwV 2 hts gX8_addContainer_X8_needBay rfl rfl rfl (by decide +kernel) ⟨Nat.le_of_ble_eq_true rfl, Nat.le_of_ble_eq_true rfl⟩) ⟨xBU.blind, va_recv hK hPc (ci := 8) (q0 := 0) rfl rfl, fun U9 hU9 hW9 => ⟨rfl, xB.mk hPc hK hDc hU9 hW9, hU.call hS hFc hU9 hW9⟩⟩ rfl rfl hl.1 rfl (lv_room (Nat.le_of_ble_eq_true rfl)) dX8_addContainer_3 ⟨Nat.le_of_ble_eq_true rfl, Nat.le_of_ble_eq_true rfl⟩) hS (fun q _ h => hFc q h) hFc (fun q _ h => hFc q h) (fun E ce q9 ux t H1 locs1 ht hvm hpx hB hz1 hk1 hS hce hcv hcl => ?_) (fun u_2 t H1 locs ht hvm hw_3 hB hz1 hk1 hS => ?_)
  · obtain ⟨rfl, hB⟩ := hB
    refine vx_out (fun x hx => (htab x hx).elim) hlocks hce hcv hcl (fun t9 ht9 hal9 => ⟨(), trivial, ⟨rfl, by first | trivial | exact hB | (rcases hB with h | h <;> simp only [h, true_or, or_true]; done) | simp_all | omega⟩, hS.F ht9⟩) hS.2.2 (Nat.le_of_ble_eq_true rfl) (Nat.le_of_ble_eq_true rfl)
  · exact hw_3.elim
theorem dX8_work_0 : decode cX8_work 0 = .ok (.aload_n 0, 1) := by decide +kernel
theorem dX8_work_1 : decode cX8_work 1 = .ok (.iload_n 1, 1) := by decide +kernel
theorem dX8_work_2 : decode cX8_work 2 = .ok (.iload_n 2, 1) := by decide +kernel
theorem dX8_work_3 : decode cX8_work 3 = .ok (.invokevirtual 125, 3) := by decide +kernel
set_option maxRecDepth 20000 in
theorem ggX8_work_X8_needBay : GoodIn wsX8_work wsX8_needBay := goodIn_ca (goodIn_r _ [7, 8, 9, 1, 10, 11, 12, 13, 6, 14, 15, 16, 17, 18, 19, 20, 21, 22, 23, 24, 25, 26, 27, 28, 29, 30, 31, 32, 33, 34, 35, 36, 37, 38, 39, 40, 41] rfl (by decide +kernel)) (goodIn_sub (fun _ h => List.mem_cons_of_mem _ (List.mem_append_right _ h)) (by decide +kernel))
set_option maxRecDepth 20000 in
theorem gX8_work_X8_needBay : GoodIn wsX8_work (wsV RX8 125 RX8 yX8_needBay wsX8_needBay) := goodIn_app (goodIn_of _ (by decide +kernel)) ggX8_work_X8_needBay
set_option maxHeartbeats 4000000 in
set_option maxRecDepth 100000 in
theorem x0_work (l : Launch) (hfl : l.stackTraces = false) (g : xG) (sz : Nat) (h0 : Nat) (f0 : Value) (f1 : Value) (f3 : Value) (f4 : Value) (f5 : Value) (f6 : Value) (f7 : Value) (f8 : Value) (f9 : Value) (f10 : Value) (f11 : Value) (f12 : Value) (f13 : Value) (f14 : Value) (p0 : Int32) (p1 : Int32)  : vx_Met l yX8_work wsX8_work ({ frames := 8, cells := 1, slots := 6, locals := 185 }) (va_Pc [.ref h0, .int p0, .int p1] (fun U => xB g [(h0, .inr (8, [f0, f1, .int 0, f3, f4, f5, f6, f7, f8, f9, f10, f11, f12, f13, f14]))] sz U ∧ xU (va_A [] sz) U)) (va_Qi (fun (r : Int32) (u : Unit) => False) (fun _ _ => True) (va_A [] sz)) (vx_X (fun _ : Unit => True) (fun E _ _ => (E = "java/lang/IndexOutOfBoundsException" ∧ True)) (va_A [] sz)) 1 6 (va_A [] sz) := by
  refine vx_ofW (cc := cX8_work) (maxL := 3) (ret := (some .int)) (by decide) rfl ?_
  intro p e s m args below meth c s₁ B hml htab hv
  obtain ⟨rfl, ⟨hsz, hP, hK, hD0⟩, hU⟩ := hv
  have hx := B.exec
  have hb := B.bytes
  have hr := B.returns
  have hts := atoms_spec (ws := wsX8_work) B.pre
  have hown : s.vm.findClass RX8 = some m.cls := findClass_of_methodNamed B.named
  have hlocks := B.notSynchronized
  subst hsz
  have hD := hD0
  generalize hAe : va_A [] s.heap.size = A at hU ⊢
  have hA : ∀ q : Nat, s.heap.size ≤ q → A q := fun q h => by rw [← hAe]; exact Or.inr h
  have hS : va_S A s.heap s.heap [] := va_S.rf
  have hl := lv_entry ([.ref h0, .int p0, .int p1]) (n := 3) (Nat.le_of_ble_eq_true rfl)
  rw [lg_entry_eq]
  generalize (lg_sl ([.ref h0, .int p0, .int p1]) ++ List.replicate (3 - (lg_sl ([.ref h0, .int p0, .int p1])).length) Slot.unset).toArray = ls at hl ⊢
  have hl : lv_has ls 3 [(0, .ref h0), (1, .int p0), (2, .int p1)] := hl
  refine lv_aload_n hx hb dX8_work_0 rfl (lv_at hl 0 rfl) ?_
  refine lv_iload_n hx hb dX8_work_1 rfl (lv_at hl 1 rfl) ?_
  refine lv_iload_n hx hb dX8_work_2 rfl (lv_at hl 2 rfl) ?_
  have hPc := hP.sub (ws' := [(h0, .inr (8, [f0, f1, .int 0, f3, f4, f5, f6, f7, f8, f9, f10, f11, f12, f13, f14]))]) [0] rfl
  have hDc := hD.sub (ws' := [(h0, .inr (8, [f0, f1, .int 0, f3, f4, f5, f6, f7, f8, f9, f10, f11, f12, f13, f14]))]) [0] (by decide) rfl
  have hFc := xFree hS hA
  refine vx_callv (vx_runV (As := [.int p0, .int p1]) (rest := []) ⟨hx, hb, hml, hown, hts⟩ (x0_needBay l hfl g s.heap.size h0 f0 f1 f3 f4 f5 f6 f7 f8 f9 f10 f11 f12 f13 f14 p0 p1) (cwV 2 hts gX8_work_X8_needBay rfl rfl rfl (by decide +kernel) ⟨Nat.le_of_ble_eq_true rfl, Nat.le_of_ble_eq_true rfl⟩) ⟨xBU.blind, va_recv hK hPc (ci := 8) (q0 := 0) rfl rfl, fun U9 hU9 hW9 => ⟨rfl, xB.mk hPc hK hDc hU9 hW9, hU.call hS hFc hU9 hW9⟩⟩ rfl rfl hl.1 rfl (lv_room (Nat.le_of_ble_eq_true rfl)) dX8_work_3 ⟨Nat.le_of_ble_eq_true rfl, Nat.le_of_ble_eq_true rfl⟩) hS (fun q _ h => hFc q h) hFc (fun q _ h => hFc q h) (fun E ce q9 ux t H1 locs1 ht hvm hpx hB hz1 hk1 hS hce hcv hcl => ?_) (fun u_2 t H1 locs ht hvm hw_3 hB hz1 hk1 hS => ?_)
  · obtain ⟨rfl, hB⟩ := hB
    refine vx_out (fun x hx => (htab x hx).elim) hlocks hce hcv hcl (fun t9 ht9 hal9 => ⟨(), trivial, ⟨rfl, by first | trivial | exact hB | (rcases hB with h | h <;> simp only [h, true_or, or_true]; done) | simp_all | omega⟩, hS.F ht9⟩) hS.2.2 (Nat.le_of_ble_eq_true rfl) (Nat.le_of_ble_eq_true rfl)
  · exact hw_3.elim
theorem dX8_beginOf_0 : decode cX8_beginOf 0 = .ok (.aload_n 0, 1) := by decide +kernel
theorem dX8_beginOf_1 : decode cX8_beginOf 1 = .ok (.iload_n 1, 1) := by decide +kernel
theorem dX8_beginOf_2 : decode cX8_beginOf 2 = .ok (.iload_n 2, 1) := by decide +kernel
theorem dX8_beginOf_3 : decode cX8_beginOf 3 = .ok (.invokevirtual 125, 3) := by decide +kernel
set_option maxRecDepth 20000 in
theorem ggX8_beginOf_X8_needBay : GoodIn wsX8_beginOf wsX8_needBay := goodIn_ca (goodIn_r _ [7, 8, 9, 1, 10, 11, 12, 13, 6, 14, 15, 16, 17, 18, 19, 20, 21, 22, 23, 24, 25, 26, 27, 28, 29, 30, 31, 32, 33, 34, 35, 36, 37, 38, 39, 40, 41] rfl (by decide +kernel)) (goodIn_sub (fun _ h => List.mem_cons_of_mem _ (List.mem_append_right _ h)) (by decide +kernel))
set_option maxRecDepth 20000 in
theorem gX8_beginOf_X8_needBay : GoodIn wsX8_beginOf (wsV RX8 125 RX8 yX8_needBay wsX8_needBay) := goodIn_app (goodIn_of _ (by decide +kernel)) ggX8_beginOf_X8_needBay
set_option maxHeartbeats 4000000 in
set_option maxRecDepth 100000 in
theorem x0_beginOf (l : Launch) (hfl : l.stackTraces = false) (g : xG) (sz : Nat) (h0 : Nat) (f0 : Value) (f1 : Value) (f3 : Value) (f4 : Value) (f5 : Value) (f6 : Value) (f7 : Value) (f8 : Value) (f9 : Value) (f10 : Value) (f11 : Value) (f12 : Value) (f13 : Value) (f14 : Value) (p0 : Int32) (p1 : Int32)  : vx_Met l yX8_beginOf wsX8_beginOf ({ frames := 8, cells := 1, slots := 6, locals := 185 }) (va_Pc [.ref h0, .int p0, .int p1] (fun U => xB g [(h0, .inr (8, [f0, f1, .int 0, f3, f4, f5, f6, f7, f8, f9, f10, f11, f12, f13, f14]))] sz U ∧ xU (va_A [] sz) U)) (va_Qi (fun (r : Int32) (u : Unit) => False) (fun _ _ => True) (va_A [] sz)) (vx_X (fun _ : Unit => True) (fun E _ _ => (E = "java/lang/IndexOutOfBoundsException" ∧ True)) (va_A [] sz)) 1 6 (va_A [] sz) := by
  refine vx_ofW (cc := cX8_beginOf) (maxL := 3) (ret := (some .int)) (by decide) rfl ?_
  intro p e s m args below meth c s₁ B hml htab hv
  obtain ⟨rfl, ⟨hsz, hP, hK, hD0⟩, hU⟩ := hv
  have hx := B.exec
  have hb := B.bytes
  have hr := B.returns
  have hts := atoms_spec (ws := wsX8_beginOf) B.pre
  have hown : s.vm.findClass RX8 = some m.cls := findClass_of_methodNamed B.named
  have hlocks := B.notSynchronized
  subst hsz
  have hD := hD0
  generalize hAe : va_A [] s.heap.size = A at hU ⊢
  have hA : ∀ q : Nat, s.heap.size ≤ q → A q := fun q h => by rw [← hAe]; exact Or.inr h
  have hS : va_S A s.heap s.heap [] := va_S.rf
  have hl := lv_entry ([.ref h0, .int p0, .int p1]) (n := 3) (Nat.le_of_ble_eq_true rfl)
  rw [lg_entry_eq]
  generalize (lg_sl ([.ref h0, .int p0, .int p1]) ++ List.replicate (3 - (lg_sl ([.ref h0, .int p0, .int p1])).length) Slot.unset).toArray = ls at hl ⊢
  have hl : lv_has ls 3 [(0, .ref h0), (1, .int p0), (2, .int p1)] := hl
  refine lv_aload_n hx hb dX8_beginOf_0 rfl (lv_at hl 0 rfl) ?_
  refine lv_iload_n hx hb dX8_beginOf_1 rfl (lv_at hl 1 rfl) ?_
  refine lv_iload_n hx hb dX8_beginOf_2 rfl (lv_at hl 2 rfl) ?_
  have hPc := hP.sub (ws' := [(h0, .inr (8, [f0, f1, .int 0, f3, f4, f5, f6, f7, f8, f9, f10, f11, f12, f13, f14]))]) [0] rfl
  have hDc := hD.sub (ws' := [(h0, .inr (8, [f0, f1, .int 0, f3, f4, f5, f6, f7, f8, f9, f10, f11, f12, f13, f14]))]) [0] (by decide) rfl
  have hFc := xFree hS hA
  refine vx_callv (vx_runV (As := [.int p0, .int p1]) (rest := []) ⟨hx, hb, hml, hown, hts⟩ (x0_needBay l hfl g s.heap.size h0 f0 f1 f3 f4 f5 f6 f7 f8 f9 f10 f11 f12 f13 f14 p0 p1) (cwV 2 hts gX8_beginOf_X8_needBay rfl rfl rfl (by decide +kernel) ⟨Nat.le_of_ble_eq_true rfl, Nat.le_of_ble_eq_true rfl⟩) ⟨xBU.blind, va_recv hK hPc (ci := 8) (q0 := 0) rfl rfl, fun U9 hU9 hW9 => ⟨rfl, xB.mk hPc hK hDc hU9 hW9, hU.call hS hFc hU9 hW9⟩⟩ rfl rfl hl.1 rfl (lv_room (Nat.le_of_ble_eq_true rfl)) dX8_beginOf_3 ⟨Nat.le_of_ble_eq_true rfl, Nat.le_of_ble_eq_true rfl⟩) hS (fun q _ h => hFc q h) hFc (fun q _ h => hFc q h) (fun E ce q9 ux t H1 locs1 ht hvm hpx hB hz1 hk1 hS hce hcv hcl => ?_) (fun u_2 t H1 locs ht hvm hw_3 hB hz1 hk1 hS => ?_)
  · obtain ⟨rfl, hB⟩ := hB
    refine vx_out (fun x hx => (htab x hx).elim) hlocks hce hcv hcl (fun t9 ht9 hal9 => ⟨(), trivial, ⟨rfl, by first | trivial | exact hB | (rcases hB with h | h <;> simp only [h, true_or, or_true]; done) | simp_all | omega⟩, hS.F ht9⟩) hS.2.2 (Nat.le_of_ble_eq_true rfl) (Nat.le_of_ble_eq_true rfl)
  · exact hw_3.elim
theorem dX8_endOf_0 : decode cX8_endOf 0 = .ok (.aload_n 0, 1) := by decide +kernel
theorem dX8_endOf_1 : decode cX8_endOf 1 = .ok (.iload_n 1, 1) := by decide +kernel
theorem dX8_endOf_2 : decode cX8_endOf 2 = .ok (.iload_n 2, 1) := by decide +kernel
theorem dX8_endOf_3 : decode cX8_endOf 3 = .ok (.invokevirtual 125, 3) := by decide +kernel
set_option maxRecDepth 20000 in
theorem ggX8_endOf_X8_needBay : GoodIn wsX8_endOf wsX8_needBay := goodIn_ca (goodIn_r _ [6, 7, 8, 1, 9, 10, 11, 12, 5, 13, 14, 30, 31, 32, 33, 34, 35, 36, 37, 38, 39, 40, 41, 42, 43, 44, 45, 46, 47, 48, 49, 50, 51, 52, 53, 54, 55] rfl (by decide +kernel)) (goodIn_sub (fun _ h => List.mem_cons_of_mem _ (List.mem_append_right _ h)) (by decide +kernel))
set_option maxRecDepth 20000 in
theorem gX8_endOf_X8_needBay : GoodIn wsX8_endOf (wsV RX8 125 RX8 yX8_needBay wsX8_needBay) := goodIn_app (goodIn_of _ (by decide +kernel)) ggX8_endOf_X8_needBay
set_option maxHeartbeats 4000000 in
set_option maxRecDepth 100000 in
theorem x0_endOf (l : Launch) (hfl : l.stackTraces = false) (g : xG) (sz : Nat) (h0 : Nat) (f0 : Value) (f1 : Value) (f3 : Value) (f4 : Value) (f5 : Value) (f6 : Value) (f7 : Value) (f8 : Value) (f9 : Value) (f10 : Value) (f11 : Value) (f12 : Value) (f13 : Value) (f14 : Value) (p0 : Int32) (p1 : Int32)  : vx_Met l yX8_endOf wsX8_endOf ({ frames := 8, cells := 1, slots := 6, locals := 185 }) (va_Pc [.ref h0, .int p0, .int p1] (fun U => xB g [(h0, .inr (8, [f0, f1, .int 0, f3, f4, f5, f6, f7, f8, f9, f10, f11, f12, f13, f14]))] sz U ∧ xU (va_A [] sz) U)) (va_Qi (fun (r : Int32) (u : Unit) => False) (fun _ _ => True) (va_A [] sz)) (vx_X (fun _ : Unit => True) (fun E _ _ => (E = "java/lang/IndexOutOfBoundsException" ∧ True)) (va_A [] sz)) 1 6 (va_A [] sz) := by
  refine vx_ofW (cc := cX8_endOf) (maxL := 3) (ret := (some .int)) (by decide) rfl ?_
  intro p e s m args below meth c s₁ B hml htab hv
  obtain ⟨rfl, ⟨hsz, hP, hK, hD0⟩, hU⟩ := hv
  have hx := B.exec
  have hb := B.bytes
  have hr := B.returns
  have hts := atoms_spec (ws := wsX8_endOf) B.pre
  have hown : s.vm.findClass RX8 = some m.cls := findClass_of_methodNamed B.named
  have hlocks := B.notSynchronized
  subst hsz
  have hD := hD0
  generalize hAe : va_A [] s.heap.size = A at hU ⊢
  have hA : ∀ q : Nat, s.heap.size ≤ q → A q := fun q h => by rw [← hAe]; exact Or.inr h
  have hS : va_S A s.heap s.heap [] := va_S.rf
  have hl := lv_entry ([.ref h0, .int p0, .int p1]) (n := 3) (Nat.le_of_ble_eq_true rfl)
  rw [lg_entry_eq]
  generalize (lg_sl ([.ref h0, .int p0, .int p1]) ++ List.replicate (3 - (lg_sl ([.ref h0, .int p0, .int p1])).length) Slot.unset).toArray = ls at hl ⊢
  have hl : lv_has ls 3 [(0, .ref h0), (1, .int p0), (2, .int p1)] := hl
  refine lv_aload_n hx hb dX8_endOf_0 rfl (lv_at hl 0 rfl) ?_
  refine lv_iload_n hx hb dX8_endOf_1 rfl (lv_at hl 1 rfl) ?_
  refine lv_iload_n hx hb dX8_endOf_2 rfl (lv_at hl 2 rfl) ?_
  have hPc := hP.sub (ws' := [(h0, .inr (8, [f0, f1, .int 0, f3, f4, f5, f6, f7, f8, f9, f10, f11, f12, f13, f14]))]) [0] rfl
  have hDc := hD.sub (ws' := [(h0, .inr (8, [f0, f1, .int 0, f3, f4, f5, f6, f7, f8, f9, f10, f11, f12, f13, f14]))]) [0] (by decide) rfl
  have hFc := xFree hS hA
  refine vx_callv (vx_runV (As := [.int p0, .int p1]) (rest := []) ⟨hx, hb, hml, hown, hts⟩ (x0_needBay l hfl g s.heap.size h0 f0 f1 f3 f4 f5 f6 f7 f8 f9 f10 f11 f12 f13 f14 p0 p1) (cwV 2 hts gX8_endOf_X8_needBay rfl rfl rfl (by decide +kernel) ⟨Nat.le_of_ble_eq_true rfl, Nat.le_of_ble_eq_true rfl⟩) ⟨xBU.blind, va_recv hK hPc (ci := 8) (q0 := 0) rfl rfl, fun U9 hU9 hW9 => ⟨rfl, xB.mk hPc hK hDc hU9 hW9, hU.call hS hFc hU9 hW9⟩⟩ rfl rfl hl.1 rfl (lv_room (Nat.le_of_ble_eq_true rfl)) dX8_endOf_3 ⟨Nat.le_of_ble_eq_true rfl, Nat.le_of_ble_eq_true rfl⟩) hS (fun q _ h => hFc q h) hFc (fun q _ h => hFc q h) (fun E ce q9 ux t H1 locs1 ht hvm hpx hB hz1 hk1 hS hce hcv hcl => ?_) (fun u_2 t H1 locs ht hvm hw_3 hB hz1 hk1 hS => ?_)
  · obtain ⟨rfl, hB⟩ := hB
    refine vx_out (fun x hx => (htab x hx).elim) hlocks hce hcv hcl (fun t9 ht9 hal9 => ⟨(), trivial, ⟨rfl, by first | trivial | exact hB | (rcases hB with h | h <;> simp only [h, true_or, or_true]; done) | simp_all | omega⟩, hS.F ht9⟩) hS.2.2 (Nat.le_of_ble_eq_true rfl) (Nat.le_of_ble_eq_true rfl)
  · exact hw_3.elim
theorem dX8_setWish_0 : decode cX8_setWish 0 = .ok (.aload_n 0, 1) := by decide +kernel
theorem dX8_setWish_1 : decode cX8_setWish 1 = .ok (.iload_n 1, 1) := by decide +kernel
theorem dX8_setWish_2 : decode cX8_setWish 2 = .ok (.invokevirtual 153, 3) := by decide +kernel
set_option maxRecDepth 20000 in
theorem ggX8_setWish_X8_needContainer : GoodIn wsX8_setWish wsX8_needContainer := goodIn_ca (goodIn_r _ [7, 8, 9, 1, 10, 38, 39, 40, 41, 42, 43, 44, 45, 46, 47, 48, 49, 50, 51, 52, 53, 54, 55, 56, 57, 58] rfl (by decide +kernel)) (goodIn_sub (fun _ h => List.mem_cons_of_mem _ (List.mem_append_left _ (List.mem_append_right _ h))) (by decide +kernel))
set_option maxRecDepth 20000 in
theorem gX8_setWish_X8_needContainer : GoodIn wsX8_setWish (wsV RX8 153 RX8 yX8_needContainer wsX8_needContainer) := goodIn_app (goodIn_of _ (by decide +kernel)) ggX8_setWish_X8_needContainer
set_option maxHeartbeats 4000000 in
set_option maxRecDepth 100000 in
theorem x0_setWish (l : Launch) (hfl : l.stackTraces = false) (g : xG) (sz : Nat) (h0 : Nat) (cg : Nat) (f0 : Value) (f1 : Value) (f2 : Value) (f3 : Value) (f5 : Value) (f6 : Value) (f7 : Value) (f8 : Value) (f9 : Value) (f10 : Value) (f11 : Value) (f12 : Value) (f13 : Value) (f14 : Value) (c1 : Value) (c2 : Value) (c3 : Value) (c4 : Value) (c5 : Value) (p0 : Int32) (p1 : Int32)  : vx_Met l yX8_setWish wsX8_setWish ({ frames := 8, cells := 1, slots := 6, locals := 185 }) (va_Pc [.ref h0, .int p0, .int p1] (fun U => xB g [(h0, .inr (8, [f0, f1, f2, f3, .ref cg, f5, f6, f7, f8, f9, f10, f11, f12, f13, f14])), (cg, .inr (2, [.int 0, c1, c2, c3, c4, c5]))] sz U ∧ xU (va_A [] sz) U)) (va_Qi (fun (r : Int32) (u : Unit) => False) (fun _ _ => True) (va_A [] sz)) (vx_X (fun _ : Unit => True) (fun E _ _ => (E = "java/lang/IndexOutOfBoundsException" ∧ True)) (va_A [] sz)) 1 6 (va_A [] sz) := by
  refine vx_ofW (cc := cX8_setWish) (maxL := 4) (ret := (some .int)) (by decide) rfl ?_
  intro p e s m args below meth c s₁ B hml htab hv
  obtain ⟨rfl, ⟨hsz, hP, hK, hD0⟩, hU⟩ := hv
  have hx := B.exec
  have hb := B.bytes
  have hr := B.returns
  have hts := atoms_spec (ws := wsX8_setWish) B.pre
  have hown : s.vm.findClass RX8 = some m.cls := findClass_of_methodNamed B.named
  have hlocks := B.notSynchronized
  subst hsz
  have hD := hD0
  generalize hAe : va_A [] s.heap.size = A at hU ⊢
  have hA : ∀ q : Nat, s.heap.size ≤ q → A q := fun q h => by rw [← hAe]; exact Or.inr h
  have hS : va_S A s.heap s.heap [] := va_S.rf
  have hl := lv_entry ([.ref h0, .int p0, .int p1]) (n := 4) (Nat.le_of_ble_eq_true rfl)
  rw [lg_entry_eq]
  generalize (lg_sl ([.ref h0, .int p0, .int p1]) ++ List.replicate (4 - (lg_sl ([.ref h0, .int p0, .int p1])).length) Slot.unset).toArray = ls at hl ⊢
  have hl : lv_has ls 4 [(0, .ref h0), (1, .int p0), (2, .int p1)] := hl
  refine lv_aload_n hx hb dX8_setWish_0 rfl (lv_at hl 0 rfl) ?_
  refine lv_iload_n hx hb dX8_setWish_1 rfl (lv_at hl 1 rfl) ?_
  have hPc := hP.sub (ws' := [(h0, .inr (8, [f0, f1, f2, f3, .ref cg, f5, f6, f7, f8, f9, f10, f11, f12, f13, f14])), (cg, .inr (2, [.int 0, c1, c2, c3, c4, c5]))]) [0, 1] rfl
  have hDc := hD.sub (ws' := [(h0, .inr (8, [f0, f1, f2, f3, .ref cg, f5, f6, f7, f8, f9, f10, f11, f12, f13, f14])), (cg, .inr (2, [.int 0, c1, c2, c3, c4, c5]))]) [0, 1] (by decide) rfl
  have hFc := xFree hS hA
  refine vx_callv (vx_runV (As := [.int p0]) (rest := []) ⟨hx, hb, hml, hown, hts⟩ (x_needContainer l hfl g s.heap.size h0 cg f0 f1 f2 f3 f5 f6 f7 f8 f9 f10 f11 f12 f13 f14 c1 c2 c3 c4 c5 0 p0) (cwV 1 hts gX8_setWish_X8_needContainer rfl rfl rfl (by decide +kernel) ⟨Nat.le_of_ble_eq_true rfl, Nat.le_of_ble_eq_true rfl⟩) ⟨xBU.blind, va_recv hK hPc (ci := 8) (q0 := 0) rfl rfl, fun U9 hU9 hW9 => ⟨rfl, xB.mk hPc hK hDc hU9 hW9, hU.call hS hFc hU9 hW9⟩⟩ rfl rfl hl.1 rfl (lv_room (Nat.le_of_ble_eq_true rfl)) dX8_setWish_2 ⟨Nat.le_of_ble_eq_true rfl, Nat.le_of_ble_eq_true rfl⟩) hS (fun q _ h => hFc q h) hFc (fun q _ h => hFc q h) (fun E ce q9 ux t H1 locs1 ht hvm hpx hB hz1 hk1 hS hce hcv hcl => ?_) (fun u_2 t H1 locs ht hvm hw_3 hB hz1 hk1 hS => ?_)
  · obtain ⟨rfl, hB⟩ := hB
    refine vx_out (fun x hx => (htab x hx).elim) hlocks hce hcv hcl (fun t9 ht9 hal9 => ⟨(), trivial, ⟨rfl, by first | trivial | exact hB | (rcases hB with h | h <;> simp only [h, true_or, or_true]; done) | simp_all | omega⟩, hS.F ht9⟩) hS.2.2 (Nat.le_of_ble_eq_true rfl) (Nat.le_of_ble_eq_true rfl)
  · exact absurd hw_3.2 hw_3.1
theorem dX8_stateOf_0 : decode cX8_stateOf 0 = .ok (.aload_n 0, 1) := by decide +kernel
theorem dX8_stateOf_1 : decode cX8_stateOf 1 = .ok (.iload_n 1, 1) := by decide +kernel
theorem dX8_stateOf_2 : decode cX8_stateOf 2 = .ok (.invokevirtual 153, 3) := by decide +kernel
set_option maxRecDepth 20000 in
theorem ggX8_stateOf_X8_needContainer : GoodIn wsX8_stateOf wsX8_needContainer := goodIn_ca (goodIn_r _ [7, 8, 9, 10, 11, 12, 13, 14, 15, 16, 17, 18, 19, 20, 21, 22, 23, 24, 25, 26, 38, 39, 40, 41, 42, 43] rfl (by decide +kernel)) (goodIn_sub (fun _ h => List.mem_cons_of_mem _ (List.mem_append_right _ h)) (by decide +kernel))
set_option maxRecDepth 20000 in
theorem gX8_stateOf_X8_needContainer : GoodIn wsX8_stateOf (wsV RX8 153 RX8 yX8_needContainer wsX8_needContainer) := goodIn_app (goodIn_of _ (by decide +kernel)) ggX8_stateOf_X8_needContainer
set_option maxHeartbeats 4000000 in
set_option maxRecDepth 100000 in
theorem x0_stateOf (l : Launch) (hfl : l.stackTraces = false) (g : xG) (sz : Nat) (h0 : Nat) (cg : Nat) (f0 : Value) (f1 : Value) (f2 : Value) (f3 : Value) (f5 : Value) (f6 : Value) (f7 : Value) (f8 : Value) (f9 : Value) (f10 : Value) (f11 : Value) (f12 : Value) (f13 : Value) (f14 : Value) (c1 : Value) (c2 : Value) (c3 : Value) (c4 : Value) (c5 : Value) (p0 : Int32)  : vx_Met l yX8_stateOf wsX8_stateOf ({ frames := 8, cells := 1, slots := 6, locals := 185 }) (va_Pc [.ref h0, .int p0] (fun U => xB g [(h0, .inr (8, [f0, f1, f2, f3, .ref cg, f5, f6, f7, f8, f9, f10, f11, f12, f13, f14])), (cg, .inr (2, [.int 0, c1, c2, c3, c4, c5]))] sz U ∧ xU (va_A [] sz) U)) (va_Qi (fun (r : Int32) (u : Unit) => False) (fun _ _ => True) (va_A [] sz)) (vx_X (fun _ : Unit => True) (fun E _ _ => (E = "java/lang/IndexOutOfBoundsException" ∧ True)) (va_A [] sz)) 1 6 (va_A [] sz) := by
  refine vx_ofW (cc := cX8_stateOf) (maxL := 2) (ret := (some .int)) (by decide) rfl ?_
  intro p e s m args below meth c s₁ B hml htab hv
  obtain ⟨rfl, ⟨hsz, hP, hK, hD0⟩, hU⟩ := hv
  have hx := B.exec
  have hb := B.bytes
  have hr := B.returns
  have hts := atoms_spec (ws := wsX8_stateOf) B.pre
  have hown : s.vm.findClass RX8 = some m.cls := findClass_of_methodNamed B.named
  have hlocks := B.notSynchronized
  subst hsz
  have hD := hD0
  generalize hAe : va_A [] s.heap.size = A at hU ⊢
  have hA : ∀ q : Nat, s.heap.size ≤ q → A q := fun q h => by rw [← hAe]; exact Or.inr h
  have hS : va_S A s.heap s.heap [] := va_S.rf
  have hl := lv_entry ([.ref h0, .int p0]) (n := 2) (Nat.le_of_ble_eq_true rfl)
  rw [lg_entry_eq]
  generalize (lg_sl ([.ref h0, .int p0]) ++ List.replicate (2 - (lg_sl ([.ref h0, .int p0])).length) Slot.unset).toArray = ls at hl ⊢
  have hl : lv_has ls 2 [(0, .ref h0), (1, .int p0)] := hl
  refine lv_aload_n hx hb dX8_stateOf_0 rfl (lv_at hl 0 rfl) ?_
  refine lv_iload_n hx hb dX8_stateOf_1 rfl (lv_at hl 1 rfl) ?_
  have hPc := hP.sub (ws' := [(h0, .inr (8, [f0, f1, f2, f3, .ref cg, f5, f6, f7, f8, f9, f10, f11, f12, f13, f14])), (cg, .inr (2, [.int 0, c1, c2, c3, c4, c5]))]) [0, 1] rfl
  have hDc := hD.sub (ws' := [(h0, .inr (8, [f0, f1, f2, f3, .ref cg, f5, f6, f7, f8, f9, f10, f11, f12, f13, f14])), (cg, .inr (2, [.int 0, c1, c2, c3, c4, c5]))]) [0, 1] (by decide) rfl
  have hFc := xFree hS hA
  refine vx_callv (vx_runV (As := [.int p0]) (rest := []) ⟨hx, hb, hml, hown, hts⟩ (x_needContainer l hfl g s.heap.size h0 cg f0 f1 f2 f3 f5 f6 f7 f8 f9 f10 f11 f12 f13 f14 c1 c2 c3 c4 c5 0 p0) (cwV 1 hts gX8_stateOf_X8_needContainer rfl rfl rfl (by decide +kernel) ⟨Nat.le_of_ble_eq_true rfl, Nat.le_of_ble_eq_true rfl⟩) ⟨xBU.blind, va_recv hK hPc (ci := 8) (q0 := 0) rfl rfl, fun U9 hU9 hW9 => ⟨rfl, xB.mk hPc hK hDc hU9 hW9, hU.call hS hFc hU9 hW9⟩⟩ rfl rfl hl.1 rfl (lv_room (Nat.le_of_ble_eq_true rfl)) dX8_stateOf_2 ⟨Nat.le_of_ble_eq_true rfl, Nat.le_of_ble_eq_true rfl⟩) hS (fun q _ h => hFc q h) hFc (fun q _ h => hFc q h) (fun E ce q9 ux t H1 locs1 ht hvm hpx hB hz1 hk1 hS hce hcv hcl => ?_) (fun u_2 t H1 locs ht hvm hw_3 hB hz1 hk1 hS => ?_)
  · obtain ⟨rfl, hB⟩ := hB
    refine vx_out (fun x hx => (htab x hx).elim) hlocks hce hcv hcl (fun t9 ht9 hal9 => ⟨(), trivial, ⟨rfl, by first | trivial | exact hB | (rcases hB with h | h <;> simp only [h, true_or, or_true]; done) | simp_all | omega⟩, hS.F ht9⟩) hS.2.2 (Nat.le_of_ble_eq_true rfl) (Nat.le_of_ble_eq_true rfl)
  · exact absurd hw_3.2 hw_3.1
theorem dX8_stackOf_0 : decode cX8_stackOf 0 = .ok (.aload_n 0, 1) := by decide +kernel
theorem dX8_stackOf_1 : decode cX8_stackOf 1 = .ok (.iload_n 1, 1) := by decide +kernel
theorem dX8_stackOf_2 : decode cX8_stackOf 2 = .ok (.invokevirtual 153, 3) := by decide +kernel
set_option maxRecDepth 20000 in
theorem ggX8_stackOf_X8_needContainer : GoodIn wsX8_stackOf wsX8_needContainer := goodIn_ca (goodIn_r _ [7, 8, 9, 10, 11, 12, 13, 14, 15, 16, 17, 18, 19, 20, 21, 22, 23, 24, 25, 26, 38, 39, 40, 41, 42, 43] rfl (by decide +kernel)) (goodIn_sub (fun _ h => List.mem_cons_of_mem _ (List.mem_append_right _ h)) (by decide +kernel))
set_option maxRecDepth 20000 in
theorem gX8_stackOf_X8_needContainer : GoodIn wsX8_stackOf (wsV RX8 153 RX8 yX8_needContainer wsX8_needContainer) := goodIn_app (goodIn_of _ (by decide +kernel)) ggX8_stackOf_X8_needContainer
set_option maxHeartbeats 4000000 in
set_option maxRecDepth 100000 in
theorem x0_stackOf (l : Launch) (hfl : l.stackTraces = false) (g : xG) (sz : Nat) (h0 : Nat) (cg : Nat) (f0 : Value) (f1 : Value) (f2 : Value) (f3 : Value) (f5 : Value) (f6 : Value) (f7 : Value) (f8 : Value) (f9 : Value) (f10 : Value) (f11 : Value) (f12 : Value) (f13 : Value) (f14 : Value) (c1 : Value) (c2 : Value) (c3 : Value) (c4 : Value) (c5 : Value) (p0 : Int32)  : vx_Met l yX8_stackOf wsX8_stackOf ({ frames := 8, cells := 1, slots := 6, locals := 185 }) (va_Pc [.ref h0, .int p0] (fun U => xB g [(h0, .inr (8, [f0, f1, f2, f3, .ref cg, f5, f6, f7, f8, f9, f10, f11, f12, f13, f14])), (cg, .inr (2, [.int 0, c1, c2, c3, c4, c5]))] sz U ∧ xU (va_A [] sz) U)) (va_Qi (fun (r : Int32) (u : Unit) => False) (fun _ _ => True) (va_A [] sz)) (vx_X (fun _ : Unit => True) (fun E _ _ => (E = "java/lang/IndexOutOfBoundsException" ∧ True)) (va_A [] sz)) 1 6 (va_A [] sz) := by
  refine vx_ofW (cc := cX8_stackOf) (maxL := 2) (ret := (some .int)) (by decide) rfl ?_
  intro p e s m args below meth c s₁ B hml htab hv
  obtain ⟨rfl, ⟨hsz, hP, hK, hD0⟩, hU⟩ := hv
  have hx := B.exec
  have hb := B.bytes
  have hr := B.returns
  have hts := atoms_spec (ws := wsX8_stackOf) B.pre
  have hown : s.vm.findClass RX8 = some m.cls := findClass_of_methodNamed B.named
  have hlocks := B.notSynchronized
  subst hsz
  have hD := hD0
  generalize hAe : va_A [] s.heap.size = A at hU ⊢
  have hA : ∀ q : Nat, s.heap.size ≤ q → A q := fun q h => by rw [← hAe]; exact Or.inr h
  have hS : va_S A s.heap s.heap [] := va_S.rf
  have hl := lv_entry ([.ref h0, .int p0]) (n := 2) (Nat.le_of_ble_eq_true rfl)
  rw [lg_entry_eq]
  generalize (lg_sl ([.ref h0, .int p0]) ++ List.replicate (2 - (lg_sl ([.ref h0, .int p0])).length) Slot.unset).toArray = ls at hl ⊢
  have hl : lv_has ls 2 [(0, .ref h0), (1, .int p0)] := hl
  refine lv_aload_n hx hb dX8_stackOf_0 rfl (lv_at hl 0 rfl) ?_
  refine lv_iload_n hx hb dX8_stackOf_1 rfl (lv_at hl 1 rfl) ?_
  have hPc := hP.sub (ws' := [(h0, .inr (8, [f0, f1, f2, f3, .ref cg, f5, f6, f7, f8, f9, f10, f11, f12, f13, f14])), (cg, .inr (2, [.int 0, c1, c2, c3, c4, c5]))]) [0, 1] rfl
  have hDc := hD.sub (ws' := [(h0, .inr (8, [f0, f1, f2, f3, .ref cg, f5, f6, f7, f8, f9, f10, f11, f12, f13, f14])), (cg, .inr (2, [.int 0, c1, c2, c3, c4, c5]))]) [0, 1] (by decide) rfl
  have hFc := xFree hS hA
  refine vx_callv (vx_runV (As := [.int p0]) (rest := []) ⟨hx, hb, hml, hown, hts⟩ (x_needContainer l hfl g s.heap.size h0 cg f0 f1 f2 f3 f5 f6 f7 f8 f9 f10 f11 f12 f13 f14 c1 c2 c3 c4 c5 0 p0) (cwV 1 hts gX8_stackOf_X8_needContainer rfl rfl rfl (by decide +kernel) ⟨Nat.le_of_ble_eq_true rfl, Nat.le_of_ble_eq_true rfl⟩) ⟨xBU.blind, va_recv hK hPc (ci := 8) (q0 := 0) rfl rfl, fun U9 hU9 hW9 => ⟨rfl, xB.mk hPc hK hDc hU9 hW9, hU.call hS hFc hU9 hW9⟩⟩ rfl rfl hl.1 rfl (lv_room (Nat.le_of_ble_eq_true rfl)) dX8_stackOf_2 ⟨Nat.le_of_ble_eq_true rfl, Nat.le_of_ble_eq_true rfl⟩) hS (fun q _ h => hFc q h) hFc (fun q _ h => hFc q h) (fun E ce q9 ux t H1 locs1 ht hvm hpx hB hz1 hk1 hS hce hcv hcl => ?_) (fun u_2 t H1 locs ht hvm hw_3 hB hz1 hk1 hS => ?_)
  · obtain ⟨rfl, hB⟩ := hB
    refine vx_out (fun x hx => (htab x hx).elim) hlocks hce hcv hcl (fun t9 ht9 hal9 => ⟨(), trivial, ⟨rfl, by first | trivial | exact hB | (rcases hB with h | h <;> simp only [h, true_or, or_true]; done) | simp_all | omega⟩, hS.F ht9⟩) hS.2.2 (Nat.le_of_ble_eq_true rfl) (Nat.le_of_ble_eq_true rfl)
  · exact absurd hw_3.2 hw_3.1
theorem dX8_wouldTake_0 : decode cX8_wouldTake 0 = .ok (.aload_n 0, 1) := by decide +kernel
theorem dX8_wouldTake_1 : decode cX8_wouldTake 1 = .ok (.iload_n 1, 1) := by decide +kernel
theorem dX8_wouldTake_2 : decode cX8_wouldTake 2 = .ok (.invokevirtual 153, 3) := by decide +kernel
set_option maxRecDepth 20000 in
theorem ggX8_wouldTake_X8_needContainer : GoodIn wsX8_wouldTake wsX8_needContainer := goodIn_ca (goodIn_r _ [6, 7, 8, 9, 10, 68, 69, 70, 71, 72, 73, 74, 75, 76, 77, 78, 79, 80, 81, 82, 83, 84, 85, 86, 87, 88] rfl (by decide +kernel)) (goodIn_sub (fun _ h => List.mem_cons_of_mem _ (List.mem_append_right _ h)) (by decide +kernel))
set_option maxRecDepth 20000 in
theorem gX8_wouldTake_X8_needContainer : GoodIn wsX8_wouldTake (wsV RX8 153 RX8 yX8_needContainer wsX8_needContainer) := goodIn_app (goodIn_of _ (by decide +kernel)) ggX8_wouldTake_X8_needContainer
set_option maxHeartbeats 4000000 in
set_option maxRecDepth 100000 in
theorem x0_wouldTake (l : Launch) (hfl : l.stackTraces = false) (g : xG) (sz : Nat) (h0 : Nat) (cg : Nat) (f0 : Value) (f1 : Value) (f2 : Value) (f3 : Value) (f5 : Value) (f6 : Value) (f7 : Value) (f8 : Value) (f9 : Value) (f10 : Value) (f11 : Value) (f12 : Value) (f13 : Value) (f14 : Value) (c1 : Value) (c2 : Value) (c3 : Value) (c4 : Value) (c5 : Value) (p0 : Int32)  : vx_Met l yX8_wouldTake wsX8_wouldTake ({ frames := 8, cells := 1, slots := 6, locals := 185 }) (va_Pc [.ref h0, .int p0] (fun U => xB g [(h0, .inr (8, [f0, f1, f2, f3, .ref cg, f5, f6, f7, f8, f9, f10, f11, f12, f13, f14])), (cg, .inr (2, [.int 0, c1, c2, c3, c4, c5]))] sz U ∧ xU (va_A [] sz) U)) (va_Qi (fun (r : Int32) (u : Unit) => False) (fun _ _ => True) (va_A [] sz)) (vx_X (fun _ : Unit => True) (fun E _ _ => (E = "java/lang/IndexOutOfBoundsException" ∧ True)) (va_A [] sz)) 1 6 (va_A [] sz) := by
  refine vx_ofW (cc := cX8_wouldTake) (maxL := 2) (ret := (some .int)) (by decide) rfl ?_
  intro p e s m args below meth c s₁ B hml htab hv
  obtain ⟨rfl, ⟨hsz, hP, hK, hD0⟩, hU⟩ := hv
  have hx := B.exec
  have hb := B.bytes
  have hr := B.returns
  have hts := atoms_spec (ws := wsX8_wouldTake) B.pre
  have hown : s.vm.findClass RX8 = some m.cls := findClass_of_methodNamed B.named
  have hlocks := B.notSynchronized
  subst hsz
  have hD := hD0
  generalize hAe : va_A [] s.heap.size = A at hU ⊢
  have hA : ∀ q : Nat, s.heap.size ≤ q → A q := fun q h => by rw [← hAe]; exact Or.inr h
  have hS : va_S A s.heap s.heap [] := va_S.rf
  have hl := lv_entry ([.ref h0, .int p0]) (n := 2) (Nat.le_of_ble_eq_true rfl)
  rw [lg_entry_eq]
  generalize (lg_sl ([.ref h0, .int p0]) ++ List.replicate (2 - (lg_sl ([.ref h0, .int p0])).length) Slot.unset).toArray = ls at hl ⊢
  have hl : lv_has ls 2 [(0, .ref h0), (1, .int p0)] := hl
  refine lv_aload_n hx hb dX8_wouldTake_0 rfl (lv_at hl 0 rfl) ?_
  refine lv_iload_n hx hb dX8_wouldTake_1 rfl (lv_at hl 1 rfl) ?_
  have hPc := hP.sub (ws' := [(h0, .inr (8, [f0, f1, f2, f3, .ref cg, f5, f6, f7, f8, f9, f10, f11, f12, f13, f14])), (cg, .inr (2, [.int 0, c1, c2, c3, c4, c5]))]) [0, 1] rfl
  have hDc := hD.sub (ws' := [(h0, .inr (8, [f0, f1, f2, f3, .ref cg, f5, f6, f7, f8, f9, f10, f11, f12, f13, f14])), (cg, .inr (2, [.int 0, c1, c2, c3, c4, c5]))]) [0, 1] (by decide) rfl
  have hFc := xFree hS hA
  refine vx_callv (vx_runV (As := [.int p0]) (rest := []) ⟨hx, hb, hml, hown, hts⟩ (x_needContainer l hfl g s.heap.size h0 cg f0 f1 f2 f3 f5 f6 f7 f8 f9 f10 f11 f12 f13 f14 c1 c2 c3 c4 c5 0 p0) (cwV 1 hts gX8_wouldTake_X8_needContainer rfl rfl rfl (by decide +kernel) ⟨Nat.le_of_ble_eq_true rfl, Nat.le_of_ble_eq_true rfl⟩) ⟨xBU.blind, va_recv hK hPc (ci := 8) (q0 := 0) rfl rfl, fun U9 hU9 hW9 => ⟨rfl, xB.mk hPc hK hDc hU9 hW9, hU.call hS hFc hU9 hW9⟩⟩ rfl rfl hl.1 rfl (lv_room (Nat.le_of_ble_eq_true rfl)) dX8_wouldTake_2 ⟨Nat.le_of_ble_eq_true rfl, Nat.le_of_ble_eq_true rfl⟩) hS (fun q _ h => hFc q h) hFc (fun q _ h => hFc q h) (fun E ce q9 ux t H1 locs1 ht hvm hpx hB hz1 hk1 hS hce hcv hcl => ?_) (fun u_2 t H1 locs ht hvm hw_3 hB hz1 hk1 hS => ?_)
  · obtain ⟨rfl, hB⟩ := hB
    refine vx_out (fun x hx => (htab x hx).elim) hlocks hce hcv hcl (fun t9 ht9 hal9 => ⟨(), trivial, ⟨rfl, by first | trivial | exact hB | (rcases hB with h | h <;> simp only [h, true_or, or_true]; done) | simp_all | omega⟩, hS.F ht9⟩) hS.2.2 (Nat.le_of_ble_eq_true rfl) (Nat.le_of_ble_eq_true rfl)
  · exact absurd hw_3.2 hw_3.1
theorem dX8_heightOf_0 : decode cX8_heightOf 0 = .ok (.aload_n 0, 1) := by decide +kernel
theorem dX8_heightOf_1 : decode cX8_heightOf 1 = .ok (.iload_n 1, 1) := by decide +kernel
theorem dX8_heightOf_2 : decode cX8_heightOf 2 = .ok (.invokevirtual 307, 3) := by decide +kernel
set_option maxRecDepth 20000 in
theorem ggX8_heightOf_X8_needStack : GoodIn wsX8_heightOf wsX8_needStack := goodIn_ca (goodIn_r _ [7, 8, 9, 1, 10, 11, 12, 13, 14, 15, 16, 17, 18, 19, 20, 21, 22, 23, 24, 25, 26, 27, 28, 29, 30, 31, 32, 33, 34, 35, 36] rfl (by decide +kernel)) (goodIn_sub (fun _ h => List.mem_cons_of_mem _ (List.mem_append_right _ h)) (by decide +kernel))
set_option maxRecDepth 20000 in
theorem gX8_heightOf_X8_needStack : GoodIn wsX8_heightOf (wsV RX8 307 RX8 yX8_needStack wsX8_needStack) := goodIn_app (goodIn_of _ (by decide +kernel)) ggX8_heightOf_X8_needStack
set_option maxHeartbeats 4000000 in
set_option maxRecDepth 100000 in
theorem x0_heightOf (l : Launch) (hfl : l.stackTraces = false) (g : xG) (sz : Nat) (h0 : Nat) (yd : Nat) (f0 : Value) (f1 : Value) (f2 : Value) (f3 : Value) (f4 : Value) (f5 : Value) (f6 : Value) (f7 : Value) (f8 : Value) (f9 : Value) (f10 : Value) (f11 : Value) (f12 : Value) (f14 : Value) (y1 : Value) (y2 : Value) (y3 : Value) (y4 : Value) (y5 : Value) (y6 : Value) (y7 : Value) (y8 : Value) (y9 : Value) (y10 : Value) (p0 : Int32)  : vx_Met l yX8_heightOf wsX8_heightOf ({ frames := 8, cells := 1, slots := 6, locals := 185 }) (va_Pc [.ref h0, .int p0] (fun U => xB g [(h0, .inr (8, [f0, f1, f2, f3, f4, f5, f6, f7, f8, f9, f10, f11, f12, .ref yd, f14])), (yd, .inr (7, [.int 0, y1, y2, y3, y4, y5, y6, y7, y8, y9, y10]))] sz U ∧ xU (va_A [] sz) U)) (va_Qi (fun (r : Int32) (u : Unit) => False) (fun _ _ => True) (va_A [] sz)) (vx_X (fun _ : Unit => True) (fun E _ _ => (E = "java/lang/IndexOutOfBoundsException" ∧ True)) (va_A [] sz)) 1 6 (va_A [] sz) := by
  refine vx_ofW (cc := cX8_heightOf) (maxL := 2) (ret := (some .int)) (by decide) rfl ?_
  intro p e s m args below meth c s₁ B hml htab hv
  obtain ⟨rfl, ⟨hsz, hP, hK, hD0⟩, hU⟩ := hv
  have hx := B.exec
  have hb := B.bytes
  have hr := B.returns
  have hts := atoms_spec (ws := wsX8_heightOf) B.pre
  have hown : s.vm.findClass RX8 = some m.cls := findClass_of_methodNamed B.named
  have hlocks := B.notSynchronized
  subst hsz
  have hD := hD0
  generalize hAe : va_A [] s.heap.size = A at hU ⊢
  have hA : ∀ q : Nat, s.heap.size ≤ q → A q := fun q h => by rw [← hAe]; exact Or.inr h
  have hS : va_S A s.heap s.heap [] := va_S.rf
  have hl := lv_entry ([.ref h0, .int p0]) (n := 2) (Nat.le_of_ble_eq_true rfl)
  rw [lg_entry_eq]
  generalize (lg_sl ([.ref h0, .int p0]) ++ List.replicate (2 - (lg_sl ([.ref h0, .int p0])).length) Slot.unset).toArray = ls at hl ⊢
  have hl : lv_has ls 2 [(0, .ref h0), (1, .int p0)] := hl
  refine lv_aload_n hx hb dX8_heightOf_0 rfl (lv_at hl 0 rfl) ?_
  refine lv_iload_n hx hb dX8_heightOf_1 rfl (lv_at hl 1 rfl) ?_
  have hPc := hP.sub (ws' := [(h0, .inr (8, [f0, f1, f2, f3, f4, f5, f6, f7, f8, f9, f10, f11, f12, .ref yd, f14])), (yd, .inr (7, [.int 0, y1, y2, y3, y4, y5, y6, y7, y8, y9, y10]))]) [0, 1] rfl
  have hDc := hD.sub (ws' := [(h0, .inr (8, [f0, f1, f2, f3, f4, f5, f6, f7, f8, f9, f10, f11, f12, .ref yd, f14])), (yd, .inr (7, [.int 0, y1, y2, y3, y4, y5, y6, y7, y8, y9, y10]))]) [0, 1] (by decide) rfl
  have hFc := xFree hS hA
  refine vx_callv (vx_runV (As := [.int p0]) (rest := []) ⟨hx, hb, hml, hown, hts⟩ (x_needStack l hfl g s.heap.size h0 yd f0 f1 f2 f3 f4 f5 f6 f7 f8 f9 f10 f11 f12 f14 y1 y2 y3 y4 y5 y6 y7 y8 y9 y10 0 p0) (cwV 1 hts gX8_heightOf_X8_needStack rfl rfl rfl (by decide +kernel) ⟨Nat.le_of_ble_eq_true rfl, Nat.le_of_ble_eq_true rfl⟩) ⟨xBU.blind, va_recv hK hPc (ci := 8) (q0 := 0) rfl rfl, fun U9 hU9 hW9 => ⟨rfl, xB.mk hPc hK hDc hU9 hW9, hU.call hS hFc hU9 hW9⟩⟩ rfl rfl hl.1 rfl (lv_room (Nat.le_of_ble_eq_true rfl)) dX8_heightOf_2 ⟨Nat.le_of_ble_eq_true rfl, Nat.le_of_ble_eq_true rfl⟩) hS (fun q _ h => hFc q h) hFc (fun q _ h => hFc q h) (fun E ce q9 ux t H1 locs1 ht hvm hpx hB hz1 hk1 hS hce hcv hcl => ?_) (fun u_2 t H1 locs ht hvm hw_3 hB hz1 hk1 hS => ?_)
  · obtain ⟨rfl, hB⟩ := hB
    refine vx_out (fun x hx => (htab x hx).elim) hlocks hce hcv hcl (fun t9 ht9 hal9 => ⟨(), trivial, ⟨rfl, by first | trivial | exact hB | (rcases hB with h | h <;> simp only [h, true_or, or_true]; done) | simp_all | omega⟩, hS.F ht9⟩) hS.2.2 (Nat.le_of_ble_eq_true rfl) (Nat.le_of_ble_eq_true rfl)
  · exact absurd hw_3.2 hw_3.1
theorem dX8_containerAt_0 : decode cX8_containerAt 0 = .ok (.aload_n 0, 1) := by decide +kernel
theorem dX8_containerAt_1 : decode cX8_containerAt 1 = .ok (.iload_n 1, 1) := by decide +kernel
theorem dX8_containerAt_2 : decode cX8_containerAt 2 = .ok (.invokevirtual 307, 3) := by decide +kernel
set_option maxRecDepth 20000 in
theorem ggX8_containerAt_X8_needStack : GoodIn wsX8_containerAt wsX8_needStack := goodIn_ca (goodIn_r _ [10, 1, 2, 3, 11, 12, 13, 14, 15, 16, 17, 18, 19, 20, 21, 22, 23, 24, 25, 26, 27, 28, 29, 30, 31, 32, 33, 34, 35, 36, 37] rfl (by decide +kernel)) (goodIn_sub (fun _ h => List.mem_cons_of_mem _ (List.mem_append_right _ h)) (by decide +kernel))
set_option maxRecDepth 20000 in
theorem gX8_containerAt_X8_needStack : GoodIn wsX8_containerAt (wsV RX8 307 RX8 yX8_needStack wsX8_needStack) := goodIn_app (goodIn_of _ (by decide +kernel)) ggX8_containerAt_X8_needStack
set_option maxHeartbeats 4000000 in
set_option maxRecDepth 100000 in
theorem x0_containerAt (l : Launch) (hfl : l.stackTraces = false) (g : xG) (sz : Nat) (h0 : Nat) (yd : Nat) (f0 : Value) (f1 : Value) (f2 : Value) (f3 : Value) (f4 : Value) (f5 : Value) (f6 : Value) (f7 : Value) (f8 : Value) (f9 : Value) (f10 : Value) (f11 : Value) (f12 : Value) (f14 : Value) (y1 : Value) (y2 : Value) (y3 : Value) (y4 : Value) (y5 : Value) (y6 : Value) (y7 : Value) (y8 : Value) (y9 : Value) (y10 : Value) (p0 : Int32) (p1 : Int32)  : vx_Met l yX8_containerAt wsX8_containerAt ({ frames := 8, cells := 1, slots := 6, locals := 185 }) (va_Pc [.ref h0, .int p0, .int p1] (fun U => xB g [(h0, .inr (8, [f0, f1, f2, f3, f4, f5, f6, f7, f8, f9, f10, f11, f12, .ref yd, f14])), (yd, .inr (7, [.int 0, y1, y2, y3, y4, y5, y6, y7, y8, y9, y10]))] sz U ∧ xU (va_A [] sz) U)) (va_Qi (fun (r : Int32) (u : Unit) => False) (fun _ _ => True) (va_A [] sz)) (vx_X (fun _ : Unit => True) (fun E _ _ => (E = "java/lang/IndexOutOfBoundsException" ∧ True)) (va_A [] sz)) 1 6 (va_A [] sz) := by
  refine vx_ofW (cc := cX8_containerAt) (maxL := 3) (ret := (some .int)) (by decide) rfl ?_
  intro p e s m args below meth c s₁ B hml htab hv
  obtain ⟨rfl, ⟨hsz, hP, hK, hD0⟩, hU⟩ := hv
  have hx := B.exec
  have hb := B.bytes
  have hr := B.returns
  have hts := atoms_spec (ws := wsX8_containerAt) B.pre
  have hown : s.vm.findClass RX8 = some m.cls := findClass_of_methodNamed B.named
  have hlocks := B.notSynchronized
  subst hsz
  have hD := hD0
  generalize hAe : va_A [] s.heap.size = A at hU ⊢
  have hA : ∀ q : Nat, s.heap.size ≤ q → A q := fun q h => by rw [← hAe]; exact Or.inr h
  have hS : va_S A s.heap s.heap [] := va_S.rf
  have hl := lv_entry ([.ref h0, .int p0, .int p1]) (n := 3) (Nat.le_of_ble_eq_true rfl)
  rw [lg_entry_eq]
  generalize (lg_sl ([.ref h0, .int p0, .int p1]) ++ List.replicate (3 - (lg_sl ([.ref h0, .int p0, .int p1])).length) Slot.unset).toArray = ls at hl ⊢
  have hl : lv_has ls 3 [(0, .ref h0), (1, .int p0), (2, .int p1)] := hl
  refine lv_aload_n hx hb dX8_containerAt_0 rfl (lv_at hl 0 rfl) ?_
  refine lv_iload_n hx hb dX8_containerAt_1 rfl (lv_at hl 1 rfl) ?_
  have hPc := hP.sub (ws' := [(h0, .inr (8, [f0, f1, f2, f3, f4, f5, f6, f7, f8, f9, f10, f11, f12, .ref yd, f14])), (yd, .inr (7, [.int 0, y1, y2, y3, y4, y5, y6, y7, y8, y9, y10]))]) [0, 1] rfl
  have hDc := hD.sub (ws' := [(h0, .inr (8, [f0, f1, f2, f3, f4, f5, f6, f7, f8, f9, f10, f11, f12, .ref yd, f14])), (yd, .inr (7, [.int 0, y1, y2, y3, y4, y5, y6, y7, y8, y9, y10]))]) [0, 1] (by decide) rfl
  have hFc := xFree hS hA
  refine vx_callv (vx_runV (As := [.int p0]) (rest := []) ⟨hx, hb, hml, hown, hts⟩ (x_needStack l hfl g s.heap.size h0 yd f0 f1 f2 f3 f4 f5 f6 f7 f8 f9 f10 f11 f12 f14 y1 y2 y3 y4 y5 y6 y7 y8 y9 y10 0 p0) (cwV 1 hts gX8_containerAt_X8_needStack rfl rfl rfl (by decide +kernel) ⟨Nat.le_of_ble_eq_true rfl, Nat.le_of_ble_eq_true rfl⟩) ⟨xBU.blind, va_recv hK hPc (ci := 8) (q0 := 0) rfl rfl, fun U9 hU9 hW9 => ⟨rfl, xB.mk hPc hK hDc hU9 hW9, hU.call hS hFc hU9 hW9⟩⟩ rfl rfl hl.1 rfl (lv_room (Nat.le_of_ble_eq_true rfl)) dX8_containerAt_2 ⟨Nat.le_of_ble_eq_true rfl, Nat.le_of_ble_eq_true rfl⟩) hS (fun q _ h => hFc q h) hFc (fun q _ h => hFc q h) (fun E ce q9 ux t H1 locs1 ht hvm hpx hB hz1 hk1 hS hce hcv hcl => ?_) (fun u_2 t H1 locs ht hvm hw_3 hB hz1 hk1 hS => ?_)
  · obtain ⟨rfl, hB⟩ := hB
    refine vx_out (fun x hx => (htab x hx).elim) hlocks hce hcv hcl (fun t9 ht9 hal9 => ⟨(), trivial, ⟨rfl, by first | trivial | exact hB | (rcases hB with h | h <;> simp only [h, true_or, or_true]; done) | simp_all | omega⟩, hS.F ht9⟩) hS.2.2 (Nat.le_of_ble_eq_true rfl) (Nat.le_of_ble_eq_true rfl)
  · exact absurd hw_3.2 hw_3.1
theorem dX8_timeOf_0 : decode cX8_timeOf 0 = .ok (.aload_n 0, 1) := by decide +kernel
theorem dX8_timeOf_1 : decode cX8_timeOf 1 = .ok (.iload_n 1, 1) := by decide +kernel
theorem dX8_timeOf_2 : decode cX8_timeOf 2 = .ok (.invokevirtual 279, 3) := by decide +kernel
set_option maxRecDepth 20000 in
theorem ggX8_timeOf_X8_needEvent : GoodIn wsX8_timeOf wsX8_needEvent := goodIn_ca (goodIn_r _ [6, 7, 8, 1, 9, 16, 17, 18, 19, 20, 21, 22, 23, 24, 25, 26, 27, 28, 29, 30, 31, 32] rfl (by decide +kernel)) (goodIn_sub (fun _ h => List.mem_cons_of_mem _ (List.mem_append_right _ h)) (by decide +kernel))
set_option maxRecDepth 20000 in
theorem gX8_timeOf_X8_needEvent : GoodIn wsX8_timeOf (wsV RX8 279 RX8 yX8_needEvent wsX8_needEvent) := goodIn_app (goodIn_of _ (by decide +kernel)) ggX8_timeOf_X8_needEvent
set_option maxHeartbeats 4000000 in
set_option maxRecDepth 100000 in
theorem x0_timeOf (l : Launch) (hfl : l.stackTraces = false) (g : xG) (sz : Nat) (h0 : Nat) (ag : Nat) (f0 : Value) (f1 : Value) (f2 : Value) (f3 : Value) (f4 : Value) (f5 : Value) (f6 : Value) (f7 : Value) (f8 : Value) (f9 : Value) (f10 : Value) (f11 : Value) (f13 : Value) (f14 : Value) (a1 : Value) (p0 : Int32)  : vx_Met l yX8_timeOf wsX8_timeOf ({ frames := 8, cells := 1, slots := 6, locals := 185 }) (va_Pc [.ref h0, .int p0] (fun U => xB g [(h0, .inr (8, [f0, f1, f2, f3, f4, f5, f6, f7, f8, f9, f10, f11, .ref ag, f13, f14])), (ag, .inr (0, [.int 0, a1]))] sz U ∧ xU (va_A [] sz) U)) (va_Qi (fun (r : Int32) (u : Unit) => False) (fun _ _ => True) (va_A [] sz)) (vx_X (fun _ : Unit => True) (fun E _ _ => (E = "java/lang/IndexOutOfBoundsException" ∧ True)) (va_A [] sz)) 1 6 (va_A [] sz) := by
  refine vx_ofW (cc := cX8_timeOf) (maxL := 2) (ret := (some .int)) (by decide) rfl ?_
  intro p e s m args below meth c s₁ B hml htab hv
  obtain ⟨rfl, ⟨hsz, hP, hK, hD0⟩, hU⟩ := hv
  have hx := B.exec
  have hb := B.bytes
  have hr := B.returns
  have hts := atoms_spec (ws := wsX8_timeOf) B.pre
  have hown : s.vm.findClass RX8 = some m.cls := findClass_of_methodNamed B.named
  have hlocks := B.notSynchronized
  subst hsz
  have hD := hD0
  generalize hAe : va_A [] s.heap.size = A at hU ⊢
  have hA : ∀ q : Nat, s.heap.size ≤ q → A q := fun q h => by rw [← hAe]; exact Or.inr h
  have hS : va_S A s.heap s.heap [] := va_S.rf
  have hl := lv_entry ([.ref h0, .int p0]) (n := 2) (Nat.le_of_ble_eq_true rfl)
  rw [lg_entry_eq]
  generalize (lg_sl ([.ref h0, .int p0]) ++ List.replicate (2 - (lg_sl ([.ref h0, .int p0])).length) Slot.unset).toArray = ls at hl ⊢
  have hl : lv_has ls 2 [(0, .ref h0), (1, .int p0)] := hl
  refine lv_aload_n hx hb dX8_timeOf_0 rfl (lv_at hl 0 rfl) ?_
  refine lv_iload_n hx hb dX8_timeOf_1 rfl (lv_at hl 1 rfl) ?_
  have hPc := hP.sub (ws' := [(h0, .inr (8, [f0, f1, f2, f3, f4, f5, f6, f7, f8, f9, f10, f11, .ref ag, f13, f14])), (ag, .inr (0, [.int 0, a1]))]) [0, 1] rfl
  have hDc := hD.sub (ws' := [(h0, .inr (8, [f0, f1, f2, f3, f4, f5, f6, f7, f8, f9, f10, f11, .ref ag, f13, f14])), (ag, .inr (0, [.int 0, a1]))]) [0, 1] (by decide) rfl
  have hFc := xFree hS hA
  refine vx_callv (vx_runV (As := [.int p0]) (rest := []) ⟨hx, hb, hml, hown, hts⟩ (x_needEvent l hfl g s.heap.size h0 ag f0 f1 f2 f3 f4 f5 f6 f7 f8 f9 f10 f11 f13 f14 a1 0 p0) (cwV 1 hts gX8_timeOf_X8_needEvent rfl rfl rfl (by decide +kernel) ⟨Nat.le_of_ble_eq_true rfl, Nat.le_of_ble_eq_true rfl⟩) ⟨xBU.blind, va_recv hK hPc (ci := 8) (q0 := 0) rfl rfl, fun U9 hU9 hW9 => ⟨rfl, xB.mk hPc hK hDc hU9 hW9, hU.call hS hFc hU9 hW9⟩⟩ rfl rfl hl.1 rfl (lv_room (Nat.le_of_ble_eq_true rfl)) dX8_timeOf_2 ⟨Nat.le_of_ble_eq_true rfl, Nat.le_of_ble_eq_true rfl⟩) hS (fun q _ h => hFc q h) hFc (fun q _ h => hFc q h) (fun E ce q9 ux t H1 locs1 ht hvm hpx hB hz1 hk1 hS hce hcv hcl => ?_) (fun u_2 t H1 locs ht hvm hw_3 hB hz1 hk1 hS => ?_)
  · obtain ⟨rfl, hB⟩ := hB
    refine vx_out (fun x hx => (htab x hx).elim) hlocks hce hcv hcl (fun t9 ht9 hal9 => ⟨(), trivial, ⟨rfl, by first | trivial | exact hB | (rcases hB with h | h <;> simp only [h, true_or, or_true]; done) | simp_all | omega⟩, hS.F ht9⟩) hS.2.2 (Nat.le_of_ble_eq_true rfl) (Nat.le_of_ble_eq_true rfl)
  · exact absurd hw_3.2 hw_3.1
theorem dX8_kindOf_0 : decode cX8_kindOf 0 = .ok (.aload_n 0, 1) := by decide +kernel
theorem dX8_kindOf_1 : decode cX8_kindOf 1 = .ok (.iload_n 1, 1) := by decide +kernel
theorem dX8_kindOf_2 : decode cX8_kindOf 2 = .ok (.invokevirtual 279, 3) := by decide +kernel
set_option maxRecDepth 20000 in
theorem ggX8_kindOf_X8_needEvent : GoodIn wsX8_kindOf wsX8_needEvent := goodIn_ca (goodIn_r _ [6, 7, 8, 1, 9, 16, 17, 18, 19, 20, 21, 22, 23, 24, 25, 26, 27, 28, 29, 30, 31, 32] rfl (by decide +kernel)) (goodIn_sub (fun _ h => List.mem_cons_of_mem _ (List.mem_append_right _ h)) (by decide +kernel))
set_option maxRecDepth 20000 in
theorem gX8_kindOf_X8_needEvent : GoodIn wsX8_kindOf (wsV RX8 279 RX8 yX8_needEvent wsX8_needEvent) := goodIn_app (goodIn_of _ (by decide +kernel)) ggX8_kindOf_X8_needEvent
set_option maxHeartbeats 4000000 in
set_option maxRecDepth 100000 in
theorem x0_kindOf (l : Launch) (hfl : l.stackTraces = false) (g : xG) (sz : Nat) (h0 : Nat) (ag : Nat) (f0 : Value) (f1 : Value) (f2 : Value) (f3 : Value) (f4 : Value) (f5 : Value) (f6 : Value) (f7 : Value) (f8 : Value) (f9 : Value) (f10 : Value) (f11 : Value) (f13 : Value) (f14 : Value) (a1 : Value) (p0 : Int32)  : vx_Met l yX8_kindOf wsX8_kindOf ({ frames := 8, cells := 1, slots := 6, locals := 185 }) (va_Pc [.ref h0, .int p0] (fun U => xB g [(h0, .inr (8, [f0, f1, f2, f3, f4, f5, f6, f7, f8, f9, f10, f11, .ref ag, f13, f14])), (ag, .inr (0, [.int 0, a1]))] sz U ∧ xU (va_A [] sz) U)) (va_Qi (fun (r : Int32) (u : Unit) => False) (fun _ _ => True) (va_A [] sz)) (vx_X (fun _ : Unit => True) (fun E _ _ => (E = "java/lang/IndexOutOfBoundsException" ∧ True)) (va_A [] sz)) 1 6 (va_A [] sz) := by
  refine vx_ofW (cc := cX8_kindOf) (maxL := 2) (ret := (some .int)) (by decide) rfl ?_
  intro p e s m args below meth c s₁ B hml htab hv
  obtain ⟨rfl, ⟨hsz, hP, hK, hD0⟩, hU⟩ := hv
  have hx := B.exec
  have hb := B.bytes
  have hr := B.returns
  have hts := atoms_spec (ws := wsX8_kindOf) B.pre
  have hown : s.vm.findClass RX8 = some m.cls := findClass_of_methodNamed B.named
  have hlocks := B.notSynchronized
  subst hsz
  have hD := hD0
  generalize hAe : va_A [] s.heap.size = A at hU ⊢
  have hA : ∀ q : Nat, s.heap.size ≤ q → A q := fun q h => by rw [← hAe]; exact Or.inr h
  have hS : va_S A s.heap s.heap [] := va_S.rf
  have hl := lv_entry ([.ref h0, .int p0]) (n := 2) (Nat.le_of_ble_eq_true rfl)
  rw [lg_entry_eq]
  generalize (lg_sl ([.ref h0, .int p0]) ++ List.replicate (2 - (lg_sl ([.ref h0, .int p0])).length) Slot.unset).toArray = ls at hl ⊢
  have hl : lv_has ls 2 [(0, .ref h0), (1, .int p0)] := hl
  refine lv_aload_n hx hb dX8_kindOf_0 rfl (lv_at hl 0 rfl) ?_
  refine lv_iload_n hx hb dX8_kindOf_1 rfl (lv_at hl 1 rfl) ?_
  have hPc := hP.sub (ws' := [(h0, .inr (8, [f0, f1, f2, f3, f4, f5, f6, f7, f8, f9, f10, f11, .ref ag, f13, f14])), (ag, .inr (0, [.int 0, a1]))]) [0, 1] rfl
  have hDc := hD.sub (ws' := [(h0, .inr (8, [f0, f1, f2, f3, f4, f5, f6, f7, f8, f9, f10, f11, .ref ag, f13, f14])), (ag, .inr (0, [.int 0, a1]))]) [0, 1] (by decide) rfl
  have hFc := xFree hS hA
  refine vx_callv (vx_runV (As := [.int p0]) (rest := []) ⟨hx, hb, hml, hown, hts⟩ (x_needEvent l hfl g s.heap.size h0 ag f0 f1 f2 f3 f4 f5 f6 f7 f8 f9 f10 f11 f13 f14 a1 0 p0) (cwV 1 hts gX8_kindOf_X8_needEvent rfl rfl rfl (by decide +kernel) ⟨Nat.le_of_ble_eq_true rfl, Nat.le_of_ble_eq_true rfl⟩) ⟨xBU.blind, va_recv hK hPc (ci := 8) (q0 := 0) rfl rfl, fun U9 hU9 hW9 => ⟨rfl, xB.mk hPc hK hDc hU9 hW9, hU.call hS hFc hU9 hW9⟩⟩ rfl rfl hl.1 rfl (lv_room (Nat.le_of_ble_eq_true rfl)) dX8_kindOf_2 ⟨Nat.le_of_ble_eq_true rfl, Nat.le_of_ble_eq_true rfl⟩) hS (fun q _ h => hFc q h) hFc (fun q _ h => hFc q h) (fun E ce q9 ux t H1 locs1 ht hvm hpx hB hz1 hk1 hS hce hcv hcl => ?_) (fun u_2 t H1 locs ht hvm hw_3 hB hz1 hk1 hS => ?_)
  · obtain ⟨rfl, hB⟩ := hB
    refine vx_out (fun x hx => (htab x hx).elim) hlocks hce hcv hcl (fun t9 ht9 hal9 => ⟨(), trivial, ⟨rfl, by first | trivial | exact hB | (rcases hB with h | h <;> simp only [h, true_or, or_true]; done) | simp_all | omega⟩, hS.F ht9⟩) hS.2.2 (Nat.le_of_ble_eq_true rfl) (Nat.le_of_ble_eq_true rfl)
  · exact absurd hw_3.2 hw_3.1
theorem dX8_containerOf_0 : decode cX8_containerOf 0 = .ok (.aload_n 0, 1) := by decide +kernel
theorem dX8_containerOf_1 : decode cX8_containerOf 1 = .ok (.iload_n 1, 1) := by decide +kernel
theorem dX8_containerOf_2 : decode cX8_containerOf 2 = .ok (.invokevirtual 279, 3) := by decide +kernel
set_option maxRecDepth 20000 in
theorem ggX8_containerOf_X8_needEvent : GoodIn wsX8_containerOf wsX8_needEvent := goodIn_ca (goodIn_r _ [6, 7, 8, 1, 9, 16, 17, 18, 19, 20, 21, 22, 23, 24, 25, 26, 27, 28, 29, 30, 31, 32] rfl (by decide +kernel)) (goodIn_sub (fun _ h => List.mem_cons_of_mem _ (List.mem_append_right _ h)) (by decide +kernel))
set_option maxRecDepth 20000 in
theorem gX8_containerOf_X8_needEvent : GoodIn wsX8_containerOf (wsV RX8 279 RX8 yX8_needEvent wsX8_needEvent) := goodIn_app (goodIn_of _ (by decide +kernel)) ggX8_containerOf_X8_needEvent
set_option maxHeartbeats 4000000 in
set_option maxRecDepth 100000 in
theorem x0_containerOf (l : Launch) (hfl : l.stackTraces = false) (g : xG) (sz : Nat) (h0 : Nat) (ag : Nat) (f0 : Value) (f1 : Value) (f2 : Value) (f3 : Value) (f4 : Value) (f5 : Value) (f6 : Value) (f7 : Value) (f8 : Value) (f9 : Value) (f10 : Value) (f11 : Value) (f13 : Value) (f14 : Value) (a1 : Value) (p0 : Int32)  : vx_Met l yX8_containerOf wsX8_containerOf ({ frames := 8, cells := 1, slots := 6, locals := 185 }) (va_Pc [.ref h0, .int p0] (fun U => xB g [(h0, .inr (8, [f0, f1, f2, f3, f4, f5, f6, f7, f8, f9, f10, f11, .ref ag, f13, f14])), (ag, .inr (0, [.int 0, a1]))] sz U ∧ xU (va_A [] sz) U)) (va_Qi (fun (r : Int32) (u : Unit) => False) (fun _ _ => True) (va_A [] sz)) (vx_X (fun _ : Unit => True) (fun E _ _ => (E = "java/lang/IndexOutOfBoundsException" ∧ True)) (va_A [] sz)) 1 6 (va_A [] sz) := by
  refine vx_ofW (cc := cX8_containerOf) (maxL := 2) (ret := (some .int)) (by decide) rfl ?_
  intro p e s m args below meth c s₁ B hml htab hv
  obtain ⟨rfl, ⟨hsz, hP, hK, hD0⟩, hU⟩ := hv
  have hx := B.exec
  have hb := B.bytes
  have hr := B.returns
  have hts := atoms_spec (ws := wsX8_containerOf) B.pre
  have hown : s.vm.findClass RX8 = some m.cls := findClass_of_methodNamed B.named
  have hlocks := B.notSynchronized
  subst hsz
  have hD := hD0
  generalize hAe : va_A [] s.heap.size = A at hU ⊢
  have hA : ∀ q : Nat, s.heap.size ≤ q → A q := fun q h => by rw [← hAe]; exact Or.inr h
  have hS : va_S A s.heap s.heap [] := va_S.rf
  have hl := lv_entry ([.ref h0, .int p0]) (n := 2) (Nat.le_of_ble_eq_true rfl)
  rw [lg_entry_eq]
  generalize (lg_sl ([.ref h0, .int p0]) ++ List.replicate (2 - (lg_sl ([.ref h0, .int p0])).length) Slot.unset).toArray = ls at hl ⊢
  have hl : lv_has ls 2 [(0, .ref h0), (1, .int p0)] := hl
  refine lv_aload_n hx hb dX8_containerOf_0 rfl (lv_at hl 0 rfl) ?_
  refine lv_iload_n hx hb dX8_containerOf_1 rfl (lv_at hl 1 rfl) ?_
  have hPc := hP.sub (ws' := [(h0, .inr (8, [f0, f1, f2, f3, f4, f5, f6, f7, f8, f9, f10, f11, .ref ag, f13, f14])), (ag, .inr (0, [.int 0, a1]))]) [0, 1] rfl
  have hDc := hD.sub (ws' := [(h0, .inr (8, [f0, f1, f2, f3, f4, f5, f6, f7, f8, f9, f10, f11, .ref ag, f13, f14])), (ag, .inr (0, [.int 0, a1]))]) [0, 1] (by decide) rfl
  have hFc := xFree hS hA
  refine vx_callv (vx_runV (As := [.int p0]) (rest := []) ⟨hx, hb, hml, hown, hts⟩ (x_needEvent l hfl g s.heap.size h0 ag f0 f1 f2 f3 f4 f5 f6 f7 f8 f9 f10 f11 f13 f14 a1 0 p0) (cwV 1 hts gX8_containerOf_X8_needEvent rfl rfl rfl (by decide +kernel) ⟨Nat.le_of_ble_eq_true rfl, Nat.le_of_ble_eq_true rfl⟩) ⟨xBU.blind, va_recv hK hPc (ci := 8) (q0 := 0) rfl rfl, fun U9 hU9 hW9 => ⟨rfl, xB.mk hPc hK hDc hU9 hW9, hU.call hS hFc hU9 hW9⟩⟩ rfl rfl hl.1 rfl (lv_room (Nat.le_of_ble_eq_true rfl)) dX8_containerOf_2 ⟨Nat.le_of_ble_eq_true rfl, Nat.le_of_ble_eq_true rfl⟩) hS (fun q _ h => hFc q h) hFc (fun q _ h => hFc q h) (fun E ce q9 ux t H1 locs1 ht hvm hpx hB hz1 hk1 hS hce hcv hcl => ?_) (fun u_2 t H1 locs ht hvm hw_3 hB hz1 hk1 hS => ?_)
  · obtain ⟨rfl, hB⟩ := hB
    refine vx_out (fun x hx => (htab x hx).elim) hlocks hce hcv hcl (fun t9 ht9 hal9 => ⟨(), trivial, ⟨rfl, by first | trivial | exact hB | (rcases hB with h | h <;> simp only [h, true_or, or_true]; done) | simp_all | omega⟩, hS.F ht9⟩) hS.2.2 (Nat.le_of_ble_eq_true rfl) (Nat.le_of_ble_eq_true rfl)
  · exact absurd hw_3.2 hw_3.1
theorem dX8_plan_0 : decode cX8_plan 0 = .ok (.aload_n 0, 1) := by decide +kernel
theorem dX8_plan_1 : decode cX8_plan 1 = .ok (.invokevirtual 200, 3) := by decide +kernel
set_option maxRecDepth 20000 in
theorem ggX8_plan_X8_needSomeVessel : GoodIn wsX8_plan wsX8_needSomeVessel := goodIn_ca (goodIn_r _ [13, 14, 15, 3, 137, 138, 139, 140, 141, 142, 143, 144, 145, 146, 147, 148, 149, 150, 151] rfl (by decide +kernel)) (goodIn_sub (fun _ h => List.mem_cons_of_mem _ (List.mem_append_right _ h)) (by decide +kernel))
set_option maxRecDepth 20000 in
theorem gX8_plan_X8_needSomeVessel : GoodIn wsX8_plan (wsV RX8 200 RX8 yX8_needSomeVessel wsX8_needSomeVessel) := goodIn_app (goodIn_of _ (by decide +kernel)) ggX8_plan_X8_needSomeVessel
set_option maxHeartbeats 4000000 in
set_option maxRecDepth 100000 in
theorem x0_plan (l : Launch) (hfl : l.stackTraces = false) (g : xG) (sz : Nat) (h0 : Nat) (f0 : Value) (f1 : Value) (f3 : Value) (f4 : Value) (f5 : Value) (f6 : Value) (f7 : Value) (f8 : Value) (f9 : Value) (f10 : Value) (f11 : Value) (f12 : Value) (f13 : Value) (f14 : Value)  : vx_Met l yX8_plan wsX8_plan ({ frames := 8, cells := 1, slots := 6, locals := 185 }) (va_Pc [.ref h0] (fun U => xB g [(h0, .inr (8, [f0, f1, .int 0, f3, f4, f5, f6, f7, f8, f9, f10, f11, f12, f13, f14]))] sz U ∧ xU (va_A [] sz) U)) (va_Qi (fun (r : Int32) (u : Unit) => False) (fun _ _ => True) (va_A [] sz)) (vx_X (fun _ : Unit => True) (fun E _ _ => (E = "java/lang/IllegalStateException" ∧ True)) (va_A [] sz)) 1 6 (va_A [] sz) := by
  refine vx_ofW (cc := cX8_plan) (maxL := 2) (ret := (some .int)) (by decide) rfl ?_
  intro p e s m args below meth c s₁ B hml htab hv
  obtain ⟨rfl, ⟨hsz, hP, hK, hD0⟩, hU⟩ := hv
  have hx := B.exec
  have hb := B.bytes
  have hr := B.returns
  have hts := atoms_spec (ws := wsX8_plan) B.pre
  have hown : s.vm.findClass RX8 = some m.cls := findClass_of_methodNamed B.named
  have hlocks := B.notSynchronized
  subst hsz
  have hD := hD0
  generalize hAe : va_A [] s.heap.size = A at hU ⊢
  have hA : ∀ q : Nat, s.heap.size ≤ q → A q := fun q h => by rw [← hAe]; exact Or.inr h
  have hS : va_S A s.heap s.heap [] := va_S.rf
  have hl := lv_entry ([.ref h0]) (n := 2) (Nat.le_of_ble_eq_true rfl)
  rw [lg_entry_eq]
  generalize (lg_sl ([.ref h0]) ++ List.replicate (2 - (lg_sl ([.ref h0])).length) Slot.unset).toArray = ls at hl ⊢
  have hl : lv_has ls 2 [(0, .ref h0)] := hl
  refine lv_aload_n hx hb dX8_plan_0 rfl (lv_at hl 0 rfl) ?_
  have hPc := hP.sub (ws' := [(h0, .inr (8, [f0, f1, .int 0, f3, f4, f5, f6, f7, f8, f9, f10, f11, f12, f13, f14]))]) [0] rfl
  have hDc := hD.sub (ws' := [(h0, .inr (8, [f0, f1, .int 0, f3, f4, f5, f6, f7, f8, f9, f10, f11, f12, f13, f14]))]) [0] (by decide) rfl
  have hFc := xFree hS hA
  refine vx_callv (vx_runV (As := []) (rest := []) ⟨hx, hb, hml, hown, hts⟩ (x_needSomeVessel l hfl g s.heap.size h0 f0 f1 f3 f4 f5 f6 f7 f8 f9 f10 f11 f12 f13 f14 0) (cwV 0 hts gX8_plan_X8_needSomeVessel rfl rfl rfl (by decide +kernel) ⟨Nat.le_of_ble_eq_true rfl, Nat.le_of_ble_eq_true rfl⟩) ⟨xBU.blind, va_recv hK hPc (ci := 8) (q0 := 0) rfl rfl, fun U9 hU9 hW9 => ⟨rfl, xB.mk hPc hK hDc hU9 hW9, hU.call hS hFc hU9 hW9⟩⟩ rfl rfl hl.1 rfl (lv_room (Nat.le_of_ble_eq_true rfl)) dX8_plan_1 ⟨Nat.le_of_ble_eq_true rfl, Nat.le_of_ble_eq_true rfl⟩) hS (fun q _ h => hFc q h) hFc (fun q _ h => hFc q h) (fun E ce q9 ux t H1 locs1 ht hvm hpx hB hz1 hk1 hS hce hcv hcl => ?_) (fun u_2 t H1 locs ht hvm hw_3 hB hz1 hk1 hS => ?_)
  · obtain ⟨rfl, hB⟩ := hB
    refine vx_out (fun x hx => (htab x hx).elim) hlocks hce hcv hcl (fun t9 ht9 hal9 => ⟨(), trivial, ⟨rfl, by first | trivial | exact hB | (rcases hB with h | h <;> simp only [h, true_or, or_true]; done) | simp_all | omega⟩, hS.F ht9⟩) hS.2.2 (Nat.le_of_ble_eq_true rfl) (Nat.le_of_ble_eq_true rfl)
  · exact absurd hw_3 (by decide)
theorem dX8_delayByNumbers_0 : decode cX8_delayByNumbers 0 = .ok (.aload_n 0, 1) := by decide +kernel
theorem dX8_delayByNumbers_1 : decode cX8_delayByNumbers 1 = .ok (.invokevirtual 200, 3) := by decide +kernel
set_option maxRecDepth 20000 in
theorem ggX8_delayByNumbers_X8_needSomeVessel : GoodIn wsX8_delayByNumbers wsX8_needSomeVessel := goodIn_ca (goodIn_r _ [10, 11, 12, 3, 81, 82, 83, 84, 85, 86, 87, 88, 89, 90, 91, 92, 93, 94, 95] rfl (by decide +kernel)) (goodIn_sub (fun _ h => List.mem_cons_of_mem _ (List.mem_append_right _ h)) (by decide +kernel))
set_option maxRecDepth 20000 in
theorem gX8_delayByNumbers_X8_needSomeVessel : GoodIn wsX8_delayByNumbers (wsV RX8 200 RX8 yX8_needSomeVessel wsX8_needSomeVessel) := goodIn_app (goodIn_of _ (by decide +kernel)) ggX8_delayByNumbers_X8_needSomeVessel
set_option maxHeartbeats 4000000 in
set_option maxRecDepth 100000 in
theorem x0_delayByNumbers (l : Launch) (hfl : l.stackTraces = false) (g : xG) (sz : Nat) (h0 : Nat) (f0 : Value) (f1 : Value) (f3 : Value) (f4 : Value) (f5 : Value) (f6 : Value) (f7 : Value) (f8 : Value) (f9 : Value) (f10 : Value) (f11 : Value) (f12 : Value) (f13 : Value) (f14 : Value)  : vx_Met l yX8_delayByNumbers wsX8_delayByNumbers ({ frames := 8, cells := 1, slots := 6, locals := 185 }) (va_Pc [.ref h0] (fun U => xB g [(h0, .inr (8, [f0, f1, .int 0, f3, f4, f5, f6, f7, f8, f9, f10, f11, f12, f13, f14]))] sz U ∧ xU (va_A [] sz) U)) (va_Qi (fun (r : Int32) (u : Unit) => False) (fun _ _ => True) (va_A [] sz)) (vx_X (fun _ : Unit => True) (fun E _ _ => (E = "java/lang/IllegalStateException" ∧ True)) (va_A [] sz)) 1 6 (va_A [] sz) := by
  refine vx_ofW (cc := cX8_delayByNumbers) (maxL := 1) (ret := (some .int)) (by decide) rfl ?_
  intro p e s m args below meth c s₁ B hml htab hv
  obtain ⟨rfl, ⟨hsz, hP, hK, hD0⟩, hU⟩ := hv
  have hx := B.exec
  have hb := B.bytes
  have hr := B.returns
  have hts := atoms_spec (ws := wsX8_delayByNumbers) B.pre
  have hown : s.vm.findClass RX8 = some m.cls := findClass_of_methodNamed B.named
  have hlocks := B.notSynchronized
  subst hsz
  have hD := hD0
  generalize hAe : va_A [] s.heap.size = A at hU ⊢
  have hA : ∀ q : Nat, s.heap.size ≤ q → A q := fun q h => by rw [← hAe]; exact Or.inr h
  have hS : va_S A s.heap s.heap [] := va_S.rf
  have hl := lv_entry ([.ref h0]) (n := 1) (Nat.le_of_ble_eq_true rfl)
  rw [lg_entry_eq]
  generalize (lg_sl ([.ref h0]) ++ List.replicate (1 - (lg_sl ([.ref h0])).length) Slot.unset).toArray = ls at hl ⊢
  have hl : lv_has ls 1 [(0, .ref h0)] := hl
  refine lv_aload_n hx hb dX8_delayByNumbers_0 rfl (lv_at hl 0 rfl) ?_
  have hPc := hP.sub (ws' := [(h0, .inr (8, [f0, f1, .int 0, f3, f4, f5, f6, f7, f8, f9, f10, f11, f12, f13, f14]))]) [0] rfl
  have hDc := hD.sub (ws' := [(h0, .inr (8, [f0, f1, .int 0, f3, f4, f5, f6, f7, f8, f9, f10, f11, f12, f13, f14]))]) [0] (by decide) rfl
  have hFc := xFree hS hA
  refine vx_callv (vx_runV (As := []) (rest := []) ⟨hx, hb, hml, hown, hts⟩ (x_needSomeVessel l hfl g s.heap.size h0 f0 f1 f3 f4 f5 f6 f7 f8 f9 f10 f11 f12 f13 f14 0) (cwV 0 hts gX8_delayByNumbers_X8_needSomeVessel rfl rfl rfl (by decide +kernel) ⟨Nat.le_of_ble_eq_true rfl, Nat.le_of_ble_eq_true rfl⟩) ⟨xBU.blind, va_recv hK hPc (ci := 8) (q0 := 0) rfl rfl, fun U9 hU9 hW9 => ⟨rfl, xB.mk hPc hK hDc hU9 hW9, hU.call hS hFc hU9 hW9⟩⟩ rfl rfl hl.1 rfl (lv_room (Nat.le_of_ble_eq_true rfl)) dX8_delayByNumbers_1 ⟨Nat.le_of_ble_eq_true rfl, Nat.le_of_ble_eq_true rfl⟩) hS (fun q _ h => hFc q h) hFc (fun q _ h => hFc q h) (fun E ce q9 ux t H1 locs1 ht hvm hpx hB hz1 hk1 hS hce hcv hcl => ?_) (fun u_2 t H1 locs ht hvm hw_3 hB hz1 hk1 hS => ?_)
  · obtain ⟨rfl, hB⟩ := hB
    refine vx_out (fun x hx => (htab x hx).elim) hlocks hce hcv hcl (fun t9 ht9 hal9 => ⟨(), trivial, ⟨rfl, by first | trivial | exact hB | (rcases hB with h | h <;> simp only [h, true_or, or_true]; done) | simp_all | omega⟩, hS.F ht9⟩) hS.2.2 (Nat.le_of_ble_eq_true rfl) (Nat.le_of_ble_eq_true rfl)
  · exact absurd hw_3 (by decide)
theorem dX8_orderAt_0 : decode cX8_orderAt 0 = .ok (.aload_n 0, 1) := by decide +kernel
theorem dX8_orderAt_1 : decode cX8_orderAt 1 = .ok (.invokevirtual 222, 3) := by decide +kernel
set_option maxRecDepth 20000 in
theorem ggX8_orderAt_X8_needPlan : GoodIn wsX8_orderAt wsX8_needPlan := goodIn_ca (goodIn_r _ [10, 11, 12, 4, 13, 14, 15, 16, 17, 18, 19, 20, 21, 22, 23, 24, 25, 26, 27, 28, 29, 30, 31, 32] rfl (by decide +kernel)) (goodIn_sub (fun _ h => List.mem_cons_of_mem _ (List.mem_append_right _ h)) (by decide +kernel))
set_option maxRecDepth 20000 in
theorem gX8_orderAt_X8_needPlan : GoodIn wsX8_orderAt (wsV RX8 222 RX8 yX8_needPlan wsX8_needPlan) := goodIn_app (goodIn_of _ (by decide +kernel)) ggX8_orderAt_X8_needPlan
set_option maxHeartbeats 4000000 in
set_option maxRecDepth 100000 in
theorem x0_orderAt (l : Launch) (hfl : l.stackTraces = false) (g : xG) (sz : Nat) (h0 : Nat) (pl : Nat) (f0 : Value) (f1 : Value) (f2 : Value) (f3 : Value) (f4 : Value) (f5 : Value) (f6 : Value) (f7 : Value) (f9 : Value) (f10 : Value) (f11 : Value) (f12 : Value) (f13 : Value) (f14 : Value) (q1 : Value) (q2 : Value) (q3 : Value) (p0 : Int32)  : vx_Met l yX8_orderAt wsX8_orderAt ({ frames := 8, cells := 1, slots := 6, locals := 185 }) (va_Pc [.ref h0, .int p0] (fun U => xB g [(h0, .inr (8, [f0, f1, f2, f3, f4, f5, f6, f7, .ref pl, f9, f10, f11, f12, f13, f14])), (pl, .inr (4, [.int 0, q1, q2, q3]))] sz U ∧ xU (va_A [] sz) U)) (va_Qi (fun (r : Int32) (u : Unit) => False) (fun _ _ => True) (va_A [] sz)) (vx_X (fun _ : Unit => True) (fun E _ _ => (E = "java/lang/IllegalStateException" ∧ True)) (va_A [] sz)) 1 6 (va_A [] sz) := by
  refine vx_ofW (cc := cX8_orderAt) (maxL := 2) (ret := (some .int)) (by decide) rfl ?_
  intro p e s m args below meth c s₁ B hml htab hv
  obtain ⟨rfl, ⟨hsz, hP, hK, hD0⟩, hU⟩ := hv
  have hx := B.exec
  have hb := B.bytes
  have hr := B.returns
  have hts := atoms_spec (ws := wsX8_orderAt) B.pre
  have hown : s.vm.findClass RX8 = some m.cls := findClass_of_methodNamed B.named
  have hlocks := B.notSynchronized
  subst hsz
  have hD := hD0
  generalize hAe : va_A [] s.heap.size = A at hU ⊢
  have hA : ∀ q : Nat, s.heap.size ≤ q → A q := fun q h => by rw [← hAe]; exact Or.inr h
  have hS : va_S A s.heap s.heap [] := va_S.rf
  have hl := lv_entry ([.ref h0, .int p0]) (n := 2) (Nat.le_of_ble_eq_true rfl)
  rw [lg_entry_eq]
  generalize (lg_sl ([.ref h0, .int p0]) ++ List.replicate (2 - (lg_sl ([.ref h0, .int p0])).length) Slot.unset).toArray = ls at hl ⊢
  have hl : lv_has ls 2 [(0, .ref h0), (1, .int p0)] := hl
  refine lv_aload_n hx hb dX8_orderAt_0 rfl (lv_at hl 0 rfl) ?_
  have hPc := hP.sub (ws' := [(h0, .inr (8, [f0, f1, f2, f3, f4, f5, f6, f7, .ref pl, f9, f10, f11, f12, f13, f14])), (pl, .inr (4, [.int 0, q1, q2, q3]))]) [0, 1] rfl
  have hDc := hD.sub (ws' := [(h0, .inr (8, [f0, f1, f2, f3, f4, f5, f6, f7, .ref pl, f9, f10, f11, f12, f13, f14])), (pl, .inr (4, [.int 0, q1, q2, q3]))]) [0, 1] (by decide) rfl
  have hFc := xFree hS hA
  refine vx_callv (vx_runV (As := []) (rest := []) ⟨hx, hb, hml, hown, hts⟩ (x_needPlan l hfl g s.heap.size h0 pl f0 f1 f2 f3 f4 f5 f6 f7 f9 f10 f11 f12 f13 f14 q1 q2 q3 0) (cwV 0 hts gX8_orderAt_X8_needPlan rfl rfl rfl (by decide +kernel) ⟨Nat.le_of_ble_eq_true rfl, Nat.le_of_ble_eq_true rfl⟩) ⟨xBU.blind, va_recv hK hPc (ci := 8) (q0 := 0) rfl rfl, fun U9 hU9 hW9 => ⟨rfl, xB.mk hPc hK hDc hU9 hW9, hU.call hS hFc hU9 hW9⟩⟩ rfl rfl hl.1 rfl (lv_room (Nat.le_of_ble_eq_true rfl)) dX8_orderAt_1 ⟨Nat.le_of_ble_eq_true rfl, Nat.le_of_ble_eq_true rfl⟩) hS (fun q _ h => hFc q h) hFc (fun q _ h => hFc q h) (fun E ce q9 ux t H1 locs1 ht hvm hpx hB hz1 hk1 hS hce hcv hcl => ?_) (fun u_2 t H1 locs ht hvm hw_3 hB hz1 hk1 hS => ?_)
  · obtain ⟨rfl, hB⟩ := hB
    refine vx_out (fun x hx => (htab x hx).elim) hlocks hce hcv hcl (fun t9 ht9 hal9 => ⟨(), trivial, ⟨rfl, by first | trivial | exact hB | (rcases hB with h | h <;> simp only [h, true_or, or_true]; done) | simp_all | omega⟩, hS.F ht9⟩) hS.2.2 (Nat.le_of_ble_eq_true rfl) (Nat.le_of_ble_eq_true rfl)
  · exact absurd rfl hw_3
theorem dX8_startOf_0 : decode cX8_startOf 0 = .ok (.aload_n 0, 1) := by decide +kernel
theorem dX8_startOf_1 : decode cX8_startOf 1 = .ok (.invokevirtual 222, 3) := by decide +kernel
set_option maxRecDepth 20000 in
theorem ggX8_startOf_X8_needPlan : GoodIn wsX8_startOf wsX8_needPlan := goodIn_ca (goodIn_r _ [7, 8, 9, 1, 10, 18, 19, 20, 21, 22, 23, 24, 25, 26, 27, 28, 29, 30, 31, 32, 33, 34, 35, 36] rfl (by decide +kernel)) (goodIn_sub (fun _ h => List.mem_cons_of_mem _ (List.mem_append_left _ (List.mem_append_right _ h))) (by decide +kernel))
set_option maxRecDepth 20000 in
theorem gX8_startOf_X8_needPlan : GoodIn wsX8_startOf (wsV RX8 222 RX8 yX8_needPlan wsX8_needPlan) := goodIn_app (goodIn_of _ (by decide +kernel)) ggX8_startOf_X8_needPlan
set_option maxHeartbeats 4000000 in
set_option maxRecDepth 100000 in
theorem x0_startOf (l : Launch) (hfl : l.stackTraces = false) (g : xG) (sz : Nat) (h0 : Nat) (pl : Nat) (f0 : Value) (f1 : Value) (f2 : Value) (f3 : Value) (f4 : Value) (f5 : Value) (f6 : Value) (f7 : Value) (f9 : Value) (f10 : Value) (f11 : Value) (f12 : Value) (f13 : Value) (f14 : Value) (q1 : Value) (q2 : Value) (q3 : Value) (p0 : Int32)  : vx_Met l yX8_startOf wsX8_startOf ({ frames := 8, cells := 1, slots := 6, locals := 185 }) (va_Pc [.ref h0, .int p0] (fun U => xB g [(h0, .inr (8, [f0, f1, f2, f3, f4, f5, f6, f7, .ref pl, f9, f10, f11, f12, f13, f14])), (pl, .inr (4, [.int 0, q1, q2, q3]))] sz U ∧ xU (va_A [] sz) U)) (va_Qi (fun (r : Int32) (u : Unit) => False) (fun _ _ => True) (va_A [] sz)) (vx_X (fun _ : Unit => True) (fun E _ _ => (E = "java/lang/IllegalStateException" ∧ True)) (va_A [] sz)) 1 6 (va_A [] sz) := by
  refine vx_ofW (cc := cX8_startOf) (maxL := 2) (ret := (some .int)) (by decide) rfl ?_
  intro p e s m args below meth c s₁ B hml htab hv
  obtain ⟨rfl, ⟨hsz, hP, hK, hD0⟩, hU⟩ := hv
  have hx := B.exec
  have hb := B.bytes
  have hr := B.returns
  have hts := atoms_spec (ws := wsX8_startOf) B.pre
  have hown : s.vm.findClass RX8 = some m.cls := findClass_of_methodNamed B.named
  have hlocks := B.notSynchronized
  subst hsz
  have hD := hD0
  generalize hAe : va_A [] s.heap.size = A at hU ⊢
  have hA : ∀ q : Nat, s.heap.size ≤ q → A q := fun q h => by rw [← hAe]; exact Or.inr h
  have hS : va_S A s.heap s.heap [] := va_S.rf
  have hl := lv_entry ([.ref h0, .int p0]) (n := 2) (Nat.le_of_ble_eq_true rfl)
  rw [lg_entry_eq]
  generalize (lg_sl ([.ref h0, .int p0]) ++ List.replicate (2 - (lg_sl ([.ref h0, .int p0])).length) Slot.unset).toArray = ls at hl ⊢
  have hl : lv_has ls 2 [(0, .ref h0), (1, .int p0)] := hl
  refine lv_aload_n hx hb dX8_startOf_0 rfl (lv_at hl 0 rfl) ?_
  have hPc := hP.sub (ws' := [(h0, .inr (8, [f0, f1, f2, f3, f4, f5, f6, f7, .ref pl, f9, f10, f11, f12, f13, f14])), (pl, .inr (4, [.int 0, q1, q2, q3]))]) [0, 1] rfl
  have hDc := hD.sub (ws' := [(h0, .inr (8, [f0, f1, f2, f3, f4, f5, f6, f7, .ref pl, f9, f10, f11, f12, f13, f14])), (pl, .inr (4, [.int 0, q1, q2, q3]))]) [0, 1] (by decide) rfl
  have hFc := xFree hS hA
  refine vx_callv (vx_runV (As := []) (rest := []) ⟨hx, hb, hml, hown, hts⟩ (x_needPlan l hfl g s.heap.size h0 pl f0 f1 f2 f3 f4 f5 f6 f7 f9 f10 f11 f12 f13 f14 q1 q2 q3 0) (cwV 0 hts gX8_startOf_X8_needPlan rfl rfl rfl (by decide +kernel) ⟨Nat.le_of_ble_eq_true rfl, Nat.le_of_ble_eq_true rfl⟩) ⟨xBU.blind, va_recv hK hPc (ci := 8) (q0 := 0) rfl rfl, fun U9 hU9 hW9 => ⟨rfl, xB.mk hPc hK hDc hU9 hW9, hU.call hS hFc hU9 hW9⟩⟩ rfl rfl hl.1 rfl (lv_room (Nat.le_of_ble_eq_true rfl)) dX8_startOf_1 ⟨Nat.le_of_ble_eq_true rfl, Nat.le_of_ble_eq_true rfl⟩) hS (fun q _ h => hFc q h) hFc (fun q _ h => hFc q h) (fun E ce q9 ux t H1 locs1 ht hvm hpx hB hz1 hk1 hS hce hcv hcl => ?_) (fun u_2 t H1 locs ht hvm hw_3 hB hz1 hk1 hS => ?_)
  · obtain ⟨rfl, hB⟩ := hB
    refine vx_out (fun x hx => (htab x hx).elim) hlocks hce hcv hcl (fun t9 ht9 hal9 => ⟨(), trivial, ⟨rfl, by first | trivial | exact hB | (rcases hB with h | h <;> simp only [h, true_or, or_true]; done) | simp_all | omega⟩, hS.F ht9⟩) hS.2.2 (Nat.le_of_ble_eq_true rfl) (Nat.le_of_ble_eq_true rfl)
  · exact absurd rfl hw_3
theorem dX8_placeOf_0 : decode cX8_placeOf 0 = .ok (.aload_n 0, 1) := by decide +kernel
theorem dX8_placeOf_1 : decode cX8_placeOf 1 = .ok (.invokevirtual 222, 3) := by decide +kernel
set_option maxRecDepth 20000 in
theorem ggX8_placeOf_X8_needPlan : GoodIn wsX8_placeOf wsX8_needPlan := goodIn_ca (goodIn_r _ [7, 8, 9, 1, 10, 18, 19, 20, 21, 22, 23, 24, 25, 26, 27, 28, 29, 30, 31, 32, 33, 34, 35, 36] rfl (by decide +kernel)) (goodIn_sub (fun _ h => List.mem_cons_of_mem _ (List.mem_append_left _ (List.mem_append_right _ h))) (by decide +kernel))
set_option maxRecDepth 20000 in
theorem gX8_placeOf_X8_needPlan : GoodIn wsX8_placeOf (wsV RX8 222 RX8 yX8_needPlan wsX8_needPlan) := goodIn_app (goodIn_of _ (by decide +kernel)) ggX8_placeOf_X8_needPlan
set_option maxHeartbeats 4000000 in
set_option maxRecDepth 100000 in
theorem x0_placeOf (l : Launch) (hfl : l.stackTraces = false) (g : xG) (sz : Nat) (h0 : Nat) (pl : Nat) (f0 : Value) (f1 : Value) (f2 : Value) (f3 : Value) (f4 : Value) (f5 : Value) (f6 : Value) (f7 : Value) (f9 : Value) (f10 : Value) (f11 : Value) (f12 : Value) (f13 : Value) (f14 : Value) (q1 : Value) (q2 : Value) (q3 : Value) (p0 : Int32)  : vx_Met l yX8_placeOf wsX8_placeOf ({ frames := 8, cells := 1, slots := 6, locals := 185 }) (va_Pc [.ref h0, .int p0] (fun U => xB g [(h0, .inr (8, [f0, f1, f2, f3, f4, f5, f6, f7, .ref pl, f9, f10, f11, f12, f13, f14])), (pl, .inr (4, [.int 0, q1, q2, q3]))] sz U ∧ xU (va_A [] sz) U)) (va_Qi (fun (r : Int32) (u : Unit) => False) (fun _ _ => True) (va_A [] sz)) (vx_X (fun _ : Unit => True) (fun E _ _ => (E = "java/lang/IllegalStateException" ∧ True)) (va_A [] sz)) 1 6 (va_A [] sz) := by
  refine vx_ofW (cc := cX8_placeOf) (maxL := 2) (ret := (some .int)) (by decide) rfl ?_
  intro p e s m args below meth c s₁ B hml htab hv
  obtain ⟨rfl, ⟨hsz, hP, hK, hD0⟩, hU⟩ := hv
  have hx := B.exec
  have hb := B.bytes
  have hr := B.returns
  have hts := atoms_spec (ws := wsX8_placeOf) B.pre
  have hown : s.vm.findClass RX8 = some m.cls := findClass_of_methodNamed B.named
  have hlocks := B.notSynchronized
  subst hsz
  have hD := hD0
  generalize hAe : va_A [] s.heap.size = A at hU ⊢
  have hA : ∀ q : Nat, s.heap.size ≤ q → A q := fun q h => by rw [← hAe]; exact Or.inr h
  have hS : va_S A s.heap s.heap [] := va_S.rf
  have hl := lv_entry ([.ref h0, .int p0]) (n := 2) (Nat.le_of_ble_eq_true rfl)
  rw [lg_entry_eq]
  generalize (lg_sl ([.ref h0, .int p0]) ++ List.replicate (2 - (lg_sl ([.ref h0, .int p0])).length) Slot.unset).toArray = ls at hl ⊢
  have hl : lv_has ls 2 [(0, .ref h0), (1, .int p0)] := hl
  refine lv_aload_n hx hb dX8_placeOf_0 rfl (lv_at hl 0 rfl) ?_
  have hPc := hP.sub (ws' := [(h0, .inr (8, [f0, f1, f2, f3, f4, f5, f6, f7, .ref pl, f9, f10, f11, f12, f13, f14])), (pl, .inr (4, [.int 0, q1, q2, q3]))]) [0, 1] rfl
  have hDc := hD.sub (ws' := [(h0, .inr (8, [f0, f1, f2, f3, f4, f5, f6, f7, .ref pl, f9, f10, f11, f12, f13, f14])), (pl, .inr (4, [.int 0, q1, q2, q3]))]) [0, 1] (by decide) rfl
  have hFc := xFree hS hA
  refine vx_callv (vx_runV (As := []) (rest := []) ⟨hx, hb, hml, hown, hts⟩ (x_needPlan l hfl g s.heap.size h0 pl f0 f1 f2 f3 f4 f5 f6 f7 f9 f10 f11 f12 f13 f14 q1 q2 q3 0) (cwV 0 hts gX8_placeOf_X8_needPlan rfl rfl rfl (by decide +kernel) ⟨Nat.le_of_ble_eq_true rfl, Nat.le_of_ble_eq_true rfl⟩) ⟨xBU.blind, va_recv hK hPc (ci := 8) (q0 := 0) rfl rfl, fun U9 hU9 hW9 => ⟨rfl, xB.mk hPc hK hDc hU9 hW9, hU.call hS hFc hU9 hW9⟩⟩ rfl rfl hl.1 rfl (lv_room (Nat.le_of_ble_eq_true rfl)) dX8_placeOf_1 ⟨Nat.le_of_ble_eq_true rfl, Nat.le_of_ble_eq_true rfl⟩) hS (fun q _ h => hFc q h) hFc (fun q _ h => hFc q h) (fun E ce q9 ux t H1 locs1 ht hvm hpx hB hz1 hk1 hS hce hcv hcl => ?_) (fun u_2 t H1 locs ht hvm hw_3 hB hz1 hk1 hS => ?_)
  · obtain ⟨rfl, hB⟩ := hB
    refine vx_out (fun x hx => (htab x hx).elim) hlocks hce hcv hcl (fun t9 ht9 hal9 => ⟨(), trivial, ⟨rfl, by first | trivial | exact hB | (rcases hB with h | h <;> simp only [h, true_or, or_true]; done) | simp_all | omega⟩, hS.F ht9⟩) hS.2.2 (Nat.le_of_ble_eq_true rfl) (Nat.le_of_ble_eq_true rfl)
  · exact absurd rfl hw_3
theorem dX8_vesselAt_0 : decode cX8_vesselAt 0 = .ok (.aload_n 0, 1) := by decide +kernel
theorem dX8_vesselAt_1 : decode cX8_vesselAt 1 = .ok (.invokevirtual 222, 3) := by decide +kernel
set_option maxRecDepth 20000 in
theorem ggX8_vesselAt_X8_needPlan : GoodIn wsX8_vesselAt wsX8_needPlan := goodIn_ca (goodIn_r _ [13, 14, 15, 5, 16, 23, 24, 25, 26, 27, 28, 29, 30, 31, 32, 33, 34, 35, 36, 37, 38, 39, 40, 41] rfl (by decide +kernel)) (goodIn_sub (fun _ h => List.mem_cons_of_mem _ (List.mem_append_right _ h)) (by decide +kernel))
set_option maxRecDepth 20000 in
theorem gX8_vesselAt_X8_needPlan : GoodIn wsX8_vesselAt (wsV RX8 222 RX8 yX8_needPlan wsX8_needPlan) := goodIn_app (goodIn_of _ (by decide +kernel)) ggX8_vesselAt_X8_needPlan
set_option maxHeartbeats 4000000 in
set_option maxRecDepth 100000 in
theorem x0_vesselAt (l : Launch) (hfl : l.stackTraces = false) (g : xG) (sz : Nat) (h0 : Nat) (pl : Nat) (f0 : Value) (f1 : Value) (f2 : Value) (f3 : Value) (f4 : Value) (f5 : Value) (f6 : Value) (f7 : Value) (f9 : Value) (f10 : Value) (f11 : Value) (f12 : Value) (f13 : Value) (f14 : Value) (q1 : Value) (q2 : Value) (q3 : Value) (p0 : Int32) (p1 : Int32)  : vx_Met l yX8_vesselAt wsX8_vesselAt ({ frames := 8, cells := 1, slots := 6, locals := 185 }) (va_Pc [.ref h0, .int p0, .int p1] (fun U => xB g [(h0, .inr (8, [f0, f1, f2, f3, f4, f5, f6, f7, .ref pl, f9, f10, f11, f12, f13, f14])), (pl, .inr (4, [.int 0, q1, q2, q3]))] sz U ∧ xU (va_A [] sz) U)) (va_Qi (fun (r : Int32) (u : Unit) => False) (fun _ _ => True) (va_A [] sz)) (vx_X (fun _ : Unit => True) (fun E _ _ => (E = "java/lang/IllegalStateException" ∧ True)) (va_A [] sz)) 1 6 (va_A [] sz) := by
  refine vx_ofW (cc := cX8_vesselAt) (maxL := 5) (ret := (some .int)) (by decide) rfl ?_
  intro p e s m args below meth c s₁ B hml htab hv
  obtain ⟨rfl, ⟨hsz, hP, hK, hD0⟩, hU⟩ := hv
  have hx := B.exec
  have hb := B.bytes
  have hr := B.returns
  have hts := atoms_spec (ws := wsX8_vesselAt) B.pre
  have hown : s.vm.findClass RX8 = some m.cls := findClass_of_methodNamed B.named
  have hlocks := B.notSynchronized
  subst hsz
  have hD := hD0
  generalize hAe : va_A [] s.heap.size = A at hU ⊢
  have hA : ∀ q : Nat, s.heap.size ≤ q → A q := fun q h => by rw [← hAe]; exact Or.inr h
  have hS : va_S A s.heap s.heap [] := va_S.rf
  have hl := lv_entry ([.ref h0, .int p0, .int p1]) (n := 5) (Nat.le_of_ble_eq_true rfl)
  rw [lg_entry_eq]
  generalize (lg_sl ([.ref h0, .int p0, .int p1]) ++ List.replicate (5 - (lg_sl ([.ref h0, .int p0, .int p1])).length) Slot.unset).toArray = ls at hl ⊢
  have hl : lv_has ls 5 [(0, .ref h0), (1, .int p0), (2, .int p1)] := hl
  refine lv_aload_n hx hb dX8_vesselAt_0 rfl (lv_at hl 0 rfl) ?_
  have hPc := hP.sub (ws' := [(h0, .inr (8, [f0, f1, f2, f3, f4, f5, f6, f7, .ref pl, f9, f10, f11, f12, f13, f14])), (pl, .inr (4, [.int 0, q1, q2, q3]))]) [0, 1] rfl
  have hDc := hD.sub (ws' := [(h0, .inr (8, [f0, f1, f2, f3, f4, f5, f6, f7, .ref pl, f9, f10, f11, f12, f13, f14])), (pl, .inr (4, [.int 0, q1, q2, q3]))]) [0, 1] (by decide) rfl
  have hFc := xFree hS hA
  refine vx_callv (vx_runV (As := []) (rest := []) ⟨hx, hb, hml, hown, hts⟩ (x_needPlan l hfl g s.heap.size h0 pl f0 f1 f2 f3 f4 f5 f6 f7 f9 f10 f11 f12 f13 f14 q1 q2 q3 0) (cwV 0 hts gX8_vesselAt_X8_needPlan rfl rfl rfl (by decide +kernel) ⟨Nat.le_of_ble_eq_true rfl, Nat.le_of_ble_eq_true rfl⟩) ⟨xBU.blind, va_recv hK hPc (ci := 8) (q0 := 0) rfl rfl, fun U9 hU9 hW9 => ⟨rfl, xB.mk hPc hK hDc hU9 hW9, hU.call hS hFc hU9 hW9⟩⟩ rfl rfl hl.1 rfl (lv_room (Nat.le_of_ble_eq_true rfl)) dX8_vesselAt_1 ⟨Nat.le_of_ble_eq_true rfl, Nat.le_of_ble_eq_true rfl⟩) hS (fun q _ h => hFc q h) hFc (fun q _ h => hFc q h) (fun E ce q9 ux t H1 locs1 ht hvm hpx hB hz1 hk1 hS hce hcv hcl => ?_) (fun u_2 t H1 locs ht hvm hw_3 hB hz1 hk1 hS => ?_)
  · obtain ⟨rfl, hB⟩ := hB
    refine vx_out (fun x hx => (htab x hx).elim) hlocks hce hcv hcl (fun t9 ht9 hal9 => ⟨(), trivial, ⟨rfl, by first | trivial | exact hB | (rcases hB with h | h <;> simp only [h, true_or, or_true]; done) | simp_all | omega⟩, hS.F ht9⟩) hS.2.2 (Nat.le_of_ble_eq_true rfl) (Nat.le_of_ble_eq_true rfl)
  · exact absurd rfl hw_3
theorem dX8_cranesAt_0 : decode cX8_cranesAt 0 = .ok (.aload_n 0, 1) := by decide +kernel
theorem dX8_cranesAt_1 : decode cX8_cranesAt 1 = .ok (.invokevirtual 222, 3) := by decide +kernel
set_option maxRecDepth 20000 in
theorem ggX8_cranesAt_X8_needPlan : GoodIn wsX8_cranesAt wsX8_needPlan := goodIn_ca (goodIn_r _ [8, 9, 10, 11, 12, 19, 20, 21, 22, 23, 24, 25, 26, 27, 28, 29, 30, 31, 32, 33, 45, 46, 47, 48] rfl (by decide +kernel)) (goodIn_sub (fun _ h => List.mem_cons_of_mem _ (List.mem_append_right _ h)) (by decide +kernel))
set_option maxRecDepth 20000 in
theorem gX8_cranesAt_X8_needPlan : GoodIn wsX8_cranesAt (wsV RX8 222 RX8 yX8_needPlan wsX8_needPlan) := goodIn_app (goodIn_of _ (by decide +kernel)) ggX8_cranesAt_X8_needPlan
set_option maxHeartbeats 4000000 in
set_option maxRecDepth 100000 in
theorem x0_cranesAt (l : Launch) (hfl : l.stackTraces = false) (g : xG) (sz : Nat) (h0 : Nat) (pl : Nat) (f0 : Value) (f1 : Value) (f2 : Value) (f3 : Value) (f4 : Value) (f5 : Value) (f6 : Value) (f7 : Value) (f9 : Value) (f10 : Value) (f11 : Value) (f12 : Value) (f13 : Value) (f14 : Value) (q1 : Value) (q2 : Value) (q3 : Value) (p0 : Int32)  : vx_Met l yX8_cranesAt wsX8_cranesAt ({ frames := 8, cells := 1, slots := 6, locals := 185 }) (va_Pc [.ref h0, .int p0] (fun U => xB g [(h0, .inr (8, [f0, f1, f2, f3, f4, f5, f6, f7, .ref pl, f9, f10, f11, f12, f13, f14])), (pl, .inr (4, [.int 0, q1, q2, q3]))] sz U ∧ xU (va_A [] sz) U)) (va_Qi (fun (r : Int32) (u : Unit) => False) (fun _ _ => True) (va_A [] sz)) (vx_X (fun _ : Unit => True) (fun E _ _ => (E = "java/lang/IllegalStateException" ∧ True)) (va_A [] sz)) 1 6 (va_A [] sz) := by
  refine vx_ofW (cc := cX8_cranesAt) (maxL := 4) (ret := (some .int)) (by decide) rfl ?_
  intro p e s m args below meth c s₁ B hml htab hv
  obtain ⟨rfl, ⟨hsz, hP, hK, hD0⟩, hU⟩ := hv
  have hx := B.exec
  have hb := B.bytes
  have hr := B.returns
  have hts := atoms_spec (ws := wsX8_cranesAt) B.pre
  have hown : s.vm.findClass RX8 = some m.cls := findClass_of_methodNamed B.named
  have hlocks := B.notSynchronized
  subst hsz
  have hD := hD0
  generalize hAe : va_A [] s.heap.size = A at hU ⊢
  have hA : ∀ q : Nat, s.heap.size ≤ q → A q := fun q h => by rw [← hAe]; exact Or.inr h
  have hS : va_S A s.heap s.heap [] := va_S.rf
  have hl := lv_entry ([.ref h0, .int p0]) (n := 4) (Nat.le_of_ble_eq_true rfl)
  rw [lg_entry_eq]
  generalize (lg_sl ([.ref h0, .int p0]) ++ List.replicate (4 - (lg_sl ([.ref h0, .int p0])).length) Slot.unset).toArray = ls at hl ⊢
  have hl : lv_has ls 4 [(0, .ref h0), (1, .int p0)] := hl
  refine lv_aload_n hx hb dX8_cranesAt_0 rfl (lv_at hl 0 rfl) ?_
  have hPc := hP.sub (ws' := [(h0, .inr (8, [f0, f1, f2, f3, f4, f5, f6, f7, .ref pl, f9, f10, f11, f12, f13, f14])), (pl, .inr (4, [.int 0, q1, q2, q3]))]) [0, 1] rfl
  have hDc := hD.sub (ws' := [(h0, .inr (8, [f0, f1, f2, f3, f4, f5, f6, f7, .ref pl, f9, f10, f11, f12, f13, f14])), (pl, .inr (4, [.int 0, q1, q2, q3]))]) [0, 1] (by decide) rfl
  have hFc := xFree hS hA
  refine vx_callv (vx_runV (As := []) (rest := []) ⟨hx, hb, hml, hown, hts⟩ (x_needPlan l hfl g s.heap.size h0 pl f0 f1 f2 f3 f4 f5 f6 f7 f9 f10 f11 f12 f13 f14 q1 q2 q3 0) (cwV 0 hts gX8_cranesAt_X8_needPlan rfl rfl rfl (by decide +kernel) ⟨Nat.le_of_ble_eq_true rfl, Nat.le_of_ble_eq_true rfl⟩) ⟨xBU.blind, va_recv hK hPc (ci := 8) (q0 := 0) rfl rfl, fun U9 hU9 hW9 => ⟨rfl, xB.mk hPc hK hDc hU9 hW9, hU.call hS hFc hU9 hW9⟩⟩ rfl rfl hl.1 rfl (lv_room (Nat.le_of_ble_eq_true rfl)) dX8_cranesAt_1 ⟨Nat.le_of_ble_eq_true rfl, Nat.le_of_ble_eq_true rfl⟩) hS (fun q _ h => hFc q h) hFc (fun q _ h => hFc q h) (fun E ce q9 ux t H1 locs1 ht hvm hpx hB hz1 hk1 hS hce hcv hcl => ?_) (fun u_2 t H1 locs ht hvm hw_3 hB hz1 hk1 hS => ?_)
  · obtain ⟨rfl, hB⟩ := hB
    refine vx_out (fun x hx => (htab x hx).elim) hlocks hce hcv hcl (fun t9 ht9 hal9 => ⟨(), trivial, ⟨rfl, by first | trivial | exact hB | (rcases hB with h | h <;> simp only [h, true_or, or_true]; done) | simp_all | omega⟩, hS.F ht9⟩) hS.2.2 (Nat.le_of_ble_eq_true rfl) (Nat.le_of_ble_eq_true rfl)
  · exact absurd rfl hw_3
theorem dX8_movedAt_0 : decode cX8_movedAt 0 = .ok (.aload_n 0, 1) := by decide +kernel
theorem dX8_movedAt_1 : decode cX8_movedAt 1 = .ok (.invokevirtual 222, 3) := by decide +kernel
set_option maxRecDepth 20000 in
theorem ggX8_movedAt_X8_needPlan : GoodIn wsX8_movedAt wsX8_needPlan := goodIn_ca (goodIn_r _ [5, 6, 7, 8, 9, 40, 41, 42, 43, 44, 45, 46, 47, 48, 49, 50, 51, 52, 53, 54, 55, 56, 57, 58] rfl (by decide +kernel)) (goodIn_sub (fun _ h => List.mem_cons_of_mem _ (List.mem_append_left _ (List.mem_append_right _ h))) (by decide +kernel))
set_option maxRecDepth 20000 in
theorem gX8_movedAt_X8_needPlan : GoodIn wsX8_movedAt (wsV RX8 222 RX8 yX8_needPlan wsX8_needPlan) := goodIn_app (goodIn_of _ (by decide +kernel)) ggX8_movedAt_X8_needPlan
set_option maxHeartbeats 4000000 in
set_option maxRecDepth 100000 in
theorem x0_movedAt (l : Launch) (hfl : l.stackTraces = false) (g : xG) (sz : Nat) (h0 : Nat) (pl : Nat) (f0 : Value) (f1 : Value) (f2 : Value) (f3 : Value) (f4 : Value) (f5 : Value) (f6 : Value) (f7 : Value) (f9 : Value) (f10 : Value) (f11 : Value) (f12 : Value) (f13 : Value) (f14 : Value) (q1 : Value) (q2 : Value) (q3 : Value) (p0 : Int32)  : vx_Met l yX8_movedAt wsX8_movedAt ({ frames := 8, cells := 1, slots := 6, locals := 185 }) (va_Pc [.ref h0, .int p0] (fun U => xB g [(h0, .inr (8, [f0, f1, f2, f3, f4, f5, f6, f7, .ref pl, f9, f10, f11, f12, f13, f14])), (pl, .inr (4, [.int 0, q1, q2, q3]))] sz U ∧ xU (va_A [] sz) U)) (va_Qi (fun (r : Int32) (u : Unit) => False) (fun _ _ => True) (va_A [] sz)) (vx_X (fun _ : Unit => True) (fun E _ _ => (E = "java/lang/IllegalStateException" ∧ True)) (va_A [] sz)) 1 6 (va_A [] sz) := by
  refine vx_ofW (cc := cX8_movedAt) (maxL := 2) (ret := (some .int)) (by decide) rfl ?_
  intro p e s m args below meth c s₁ B hml htab hv
  obtain ⟨rfl, ⟨hsz, hP, hK, hD0⟩, hU⟩ := hv
  have hx := B.exec
  have hb := B.bytes
  have hr := B.returns
  have hts := atoms_spec (ws := wsX8_movedAt) B.pre
  have hown : s.vm.findClass RX8 = some m.cls := findClass_of_methodNamed B.named
  have hlocks := B.notSynchronized
  subst hsz
  have hD := hD0
  generalize hAe : va_A [] s.heap.size = A at hU ⊢
  have hA : ∀ q : Nat, s.heap.size ≤ q → A q := fun q h => by rw [← hAe]; exact Or.inr h
  have hS : va_S A s.heap s.heap [] := va_S.rf
  have hl := lv_entry ([.ref h0, .int p0]) (n := 2) (Nat.le_of_ble_eq_true rfl)
  rw [lg_entry_eq]
  generalize (lg_sl ([.ref h0, .int p0]) ++ List.replicate (2 - (lg_sl ([.ref h0, .int p0])).length) Slot.unset).toArray = ls at hl ⊢
  have hl : lv_has ls 2 [(0, .ref h0), (1, .int p0)] := hl
  refine lv_aload_n hx hb dX8_movedAt_0 rfl (lv_at hl 0 rfl) ?_
  have hPc := hP.sub (ws' := [(h0, .inr (8, [f0, f1, f2, f3, f4, f5, f6, f7, .ref pl, f9, f10, f11, f12, f13, f14])), (pl, .inr (4, [.int 0, q1, q2, q3]))]) [0, 1] rfl
  have hDc := hD.sub (ws' := [(h0, .inr (8, [f0, f1, f2, f3, f4, f5, f6, f7, .ref pl, f9, f10, f11, f12, f13, f14])), (pl, .inr (4, [.int 0, q1, q2, q3]))]) [0, 1] (by decide) rfl
  have hFc := xFree hS hA
  refine vx_callv (vx_runV (As := []) (rest := []) ⟨hx, hb, hml, hown, hts⟩ (x_needPlan l hfl g s.heap.size h0 pl f0 f1 f2 f3 f4 f5 f6 f7 f9 f10 f11 f12 f13 f14 q1 q2 q3 0) (cwV 0 hts gX8_movedAt_X8_needPlan rfl rfl rfl (by decide +kernel) ⟨Nat.le_of_ble_eq_true rfl, Nat.le_of_ble_eq_true rfl⟩) ⟨xBU.blind, va_recv hK hPc (ci := 8) (q0 := 0) rfl rfl, fun U9 hU9 hW9 => ⟨rfl, xB.mk hPc hK hDc hU9 hW9, hU.call hS hFc hU9 hW9⟩⟩ rfl rfl hl.1 rfl (lv_room (Nat.le_of_ble_eq_true rfl)) dX8_movedAt_1 ⟨Nat.le_of_ble_eq_true rfl, Nat.le_of_ble_eq_true rfl⟩) hS (fun q _ h => hFc q h) hFc (fun q _ h => hFc q h) (fun E ce q9 ux t H1 locs1 ht hvm hpx hB hz1 hk1 hS hce hcv hcl => ?_) (fun u_2 t H1 locs ht hvm hw_3 hB hz1 hk1 hS => ?_)
  · obtain ⟨rfl, hB⟩ := hB
    refine vx_out (fun x hx => (htab x hx).elim) hlocks hce hcv hcl (fun t9 ht9 hal9 => ⟨(), trivial, ⟨rfl, by first | trivial | exact hB | (rcases hB with h | h <;> simp only [h, true_or, or_true]; done) | simp_all | omega⟩, hS.F ht9⟩) hS.2.2 (Nat.le_of_ble_eq_true rfl) (Nat.le_of_ble_eq_true rfl)
  · exact absurd rfl hw_3
theorem dX8_giveSlots_0 : decode cX8_giveSlots 0 = .ok (.aload_n 0, 1) := by decide +kernel
theorem dX8_giveSlots_1 : decode cX8_giveSlots 1 = .ok (.invokevirtual 222, 3) := by decide +kernel
set_option maxRecDepth 20000 in
theorem ggX8_giveSlots_X8_needPlan : GoodIn wsX8_giveSlots wsX8_needPlan := goodIn_ca (goodIn_r _ [16, 17, 18, 19, 20, 139, 140, 141, 142, 143, 144, 145, 146, 147, 148, 149, 150, 151, 152, 153, 168, 169, 170, 171] rfl (by decide +kernel)) (goodIn_sub (fun _ h => List.mem_cons_of_mem _ (List.mem_append_right _ h)) (by decide +kernel))
set_option maxRecDepth 20000 in
theorem gX8_giveSlots_X8_needPlan : GoodIn wsX8_giveSlots (wsV RX8 222 RX8 yX8_needPlan wsX8_needPlan) := goodIn_app (goodIn_of _ (by decide +kernel)) ggX8_giveSlots_X8_needPlan
set_option maxHeartbeats 4000000 in
set_option maxRecDepth 100000 in
theorem x0_giveSlots (l : Launch) (hfl : l.stackTraces = false) (g : xG) (sz : Nat) (h0 : Nat) (pl : Nat) (f0 : Value) (f1 : Value) (f2 : Value) (f3 : Value) (f4 : Value) (f5 : Value) (f6 : Value) (f7 : Value) (f9 : Value) (f10 : Value) (f11 : Value) (f12 : Value) (f13 : Value) (f14 : Value) (q1 : Value) (q2 : Value) (q3 : Value)  : vx_Met l yX8_giveSlots wsX8_giveSlots ({ frames := 8, cells := 1, slots := 6, locals := 185 }) (va_Pc [.ref h0] (fun U => xB g [(h0, .inr (8, [f0, f1, f2, f3, f4, f5, f6, f7, .ref pl, f9, f10, f11, f12, f13, f14])), (pl, .inr (4, [.int 0, q1, q2, q3]))] sz U ∧ xU (va_A [] sz) U)) (va_Qi (fun (r : Int32) (u : Unit) => False) (fun _ _ => True) (va_A [] sz)) (vx_X (fun _ : Unit => True) (fun E _ _ => (E = "java/lang/IllegalStateException" ∧ True)) (va_A [] sz)) 1 6 (va_A [] sz) := by
  refine vx_ofW (cc := cX8_giveSlots) (maxL := 2) (ret := (some .int)) (by decide) rfl ?_
  intro p e s m args below meth c s₁ B hml htab hv
  obtain ⟨rfl, ⟨hsz, hP, hK, hD0⟩, hU⟩ := hv
  have hx := B.exec
  have hb := B.bytes
  have hr := B.returns
  have hts := atoms_spec (ws := wsX8_giveSlots) B.pre
  have hown : s.vm.findClass RX8 = some m.cls := findClass_of_methodNamed B.named
  have hlocks := B.notSynchronized
  subst hsz
  have hD := hD0
  generalize hAe : va_A [] s.heap.size = A at hU ⊢
  have hA : ∀ q : Nat, s.heap.size ≤ q → A q := fun q h => by rw [← hAe]; exact Or.inr h
  have hS : va_S A s.heap s.heap [] := va_S.rf
  have hl := lv_entry ([.ref h0]) (n := 2) (Nat.le_of_ble_eq_true rfl)
  rw [lg_entry_eq]
  generalize (lg_sl ([.ref h0]) ++ List.replicate (2 - (lg_sl ([.ref h0])).length) Slot.unset).toArray = ls at hl ⊢
  have hl : lv_has ls 2 [(0, .ref h0)] := hl
  refine lv_aload_n hx hb dX8_giveSlots_0 rfl (lv_at hl 0 rfl) ?_
  have hPc := hP.sub (ws' := [(h0, .inr (8, [f0, f1, f2, f3, f4, f5, f6, f7, .ref pl, f9, f10, f11, f12, f13, f14])), (pl, .inr (4, [.int 0, q1, q2, q3]))]) [0, 1] rfl
  have hDc := hD.sub (ws' := [(h0, .inr (8, [f0, f1, f2, f3, f4, f5, f6, f7, .ref pl, f9, f10, f11, f12, f13, f14])), (pl, .inr (4, [.int 0, q1, q2, q3]))]) [0, 1] (by decide) rfl
  have hFc := xFree hS hA
  refine vx_callv (vx_runV (As := []) (rest := []) ⟨hx, hb, hml, hown, hts⟩ (x_needPlan l hfl g s.heap.size h0 pl f0 f1 f2 f3 f4 f5 f6 f7 f9 f10 f11 f12 f13 f14 q1 q2 q3 0) (cwV 0 hts gX8_giveSlots_X8_needPlan rfl rfl rfl (by decide +kernel) ⟨Nat.le_of_ble_eq_true rfl, Nat.le_of_ble_eq_true rfl⟩) ⟨xBU.blind, va_recv hK hPc (ci := 8) (q0 := 0) rfl rfl, fun U9 hU9 hW9 => ⟨rfl, xB.mk hPc hK hDc hU9 hW9, hU.call hS hFc hU9 hW9⟩⟩ rfl rfl hl.1 rfl (lv_room (Nat.le_of_ble_eq_true rfl)) dX8_giveSlots_1 ⟨Nat.le_of_ble_eq_true rfl, Nat.le_of_ble_eq_true rfl⟩) hS (fun q _ h => hFc q h) hFc (fun q _ h => hFc q h) (fun E ce q9 ux t H1 locs1 ht hvm hpx hB hz1 hk1 hS hce hcv hcl => ?_) (fun u_2 t H1 locs ht hvm hw_3 hB hz1 hk1 hS => ?_)
  · obtain ⟨rfl, hB⟩ := hB
    refine vx_out (fun x hx => (htab x hx).elim) hlocks hce hcv hcl (fun t9 ht9 hal9 => ⟨(), trivial, ⟨rfl, by first | trivial | exact hB | (rcases hB with h | h <;> simp only [h, true_or, or_true]; done) | simp_all | omega⟩, hS.F ht9⟩) hS.2.2 (Nat.le_of_ble_eq_true rfl) (Nat.le_of_ble_eq_true rfl)
  · exact absurd rfl hw_3
theorem dX8_costIf_0 : decode cX8_costIf 0 = .ok (.aload_n 0, 1) := by decide +kernel
theorem dX8_costIf_1 : decode cX8_costIf 1 = .ok (.invokevirtual 222, 3) := by decide +kernel
set_option maxRecDepth 20000 in
theorem ggX8_costIf_X8_needPlan : GoodIn wsX8_costIf wsX8_needPlan := goodIn_ca (goodIn_r _ [7, 8, 9, 10, 11, 106, 107, 108, 109, 110, 111, 112, 113, 114, 115, 116, 117, 118, 119, 120, 129, 130, 131, 132] rfl (by decide +kernel)) (goodIn_sub (fun _ h => List.mem_cons_of_mem _ (List.mem_append_left _ (List.mem_append_left _ (List.mem_append_right _ h)))) (by decide +kernel))
set_option maxRecDepth 20000 in
theorem gX8_costIf_X8_needPlan : GoodIn wsX8_costIf (wsV RX8 222 RX8 yX8_needPlan wsX8_needPlan) := goodIn_app (goodIn_of _ (by decide +kernel)) ggX8_costIf_X8_needPlan
set_option maxHeartbeats 4000000 in
set_option maxRecDepth 100000 in
theorem x0_costIf (l : Launch) (hfl : l.stackTraces = false) (g : xG) (sz : Nat) (h0 : Nat) (pl : Nat) (f0 : Value) (f1 : Value) (f2 : Value) (f3 : Value) (f4 : Value) (f5 : Value) (f6 : Value) (f7 : Value) (f9 : Value) (f10 : Value) (f11 : Value) (f12 : Value) (f13 : Value) (f14 : Value) (q1 : Value) (q2 : Value) (q3 : Value) (p0 : Int32) (p1 : Int32)  : vx_Met l yX8_costIf wsX8_costIf ({ frames := 8, cells := 1, slots := 6, locals := 185 }) (va_Pc [.ref h0, .int p0, .int p1] (fun U => xB g [(h0, .inr (8, [f0, f1, f2, f3, f4, f5, f6, f7, .ref pl, f9, f10, f11, f12, f13, f14])), (pl, .inr (4, [.int 0, q1, q2, q3]))] sz U ∧ xU (va_A [] sz) U)) (va_Qi (fun (r : Int32) (u : Unit) => False) (fun _ _ => True) (va_A [] sz)) (vx_X (fun _ : Unit => True) (fun E _ _ => (E = "java/lang/IllegalStateException" ∧ True)) (va_A [] sz)) 1 6 (va_A [] sz) := by
  refine vx_ofW (cc := cX8_costIf) (maxL := 3) (ret := (some .int)) (by decide) rfl ?_
  intro p e s m args below meth c s₁ B hml htab hv
  obtain ⟨rfl, ⟨hsz, hP, hK, hD0⟩, hU⟩ := hv
  have hx := B.exec
  have hb := B.bytes
  have hr := B.returns
  have hts := atoms_spec (ws := wsX8_costIf) B.pre
  have hown : s.vm.findClass RX8 = some m.cls := findClass_of_methodNamed B.named
  have hlocks := B.notSynchronized
  subst hsz
  have hD := hD0
  generalize hAe : va_A [] s.heap.size = A at hU ⊢
  have hA : ∀ q : Nat, s.heap.size ≤ q → A q := fun q h => by rw [← hAe]; exact Or.inr h
  have hS : va_S A s.heap s.heap [] := va_S.rf
  have hl := lv_entry ([.ref h0, .int p0, .int p1]) (n := 3) (Nat.le_of_ble_eq_true rfl)
  rw [lg_entry_eq]
  generalize (lg_sl ([.ref h0, .int p0, .int p1]) ++ List.replicate (3 - (lg_sl ([.ref h0, .int p0, .int p1])).length) Slot.unset).toArray = ls at hl ⊢
  have hl : lv_has ls 3 [(0, .ref h0), (1, .int p0), (2, .int p1)] := hl
  refine lv_aload_n hx hb dX8_costIf_0 rfl (lv_at hl 0 rfl) ?_
  have hPc := hP.sub (ws' := [(h0, .inr (8, [f0, f1, f2, f3, f4, f5, f6, f7, .ref pl, f9, f10, f11, f12, f13, f14])), (pl, .inr (4, [.int 0, q1, q2, q3]))]) [0, 1] rfl
  have hDc := hD.sub (ws' := [(h0, .inr (8, [f0, f1, f2, f3, f4, f5, f6, f7, .ref pl, f9, f10, f11, f12, f13, f14])), (pl, .inr (4, [.int 0, q1, q2, q3]))]) [0, 1] (by decide) rfl
  have hFc := xFree hS hA
  refine vx_callv (vx_runV (As := []) (rest := []) ⟨hx, hb, hml, hown, hts⟩ (x_needPlan l hfl g s.heap.size h0 pl f0 f1 f2 f3 f4 f5 f6 f7 f9 f10 f11 f12 f13 f14 q1 q2 q3 0) (cwV 0 hts gX8_costIf_X8_needPlan rfl rfl rfl (by decide +kernel) ⟨Nat.le_of_ble_eq_true rfl, Nat.le_of_ble_eq_true rfl⟩) ⟨xBU.blind, va_recv hK hPc (ci := 8) (q0 := 0) rfl rfl, fun U9 hU9 hW9 => ⟨rfl, xB.mk hPc hK hDc hU9 hW9, hU.call hS hFc hU9 hW9⟩⟩ rfl rfl hl.1 rfl (lv_room (Nat.le_of_ble_eq_true rfl)) dX8_costIf_1 ⟨Nat.le_of_ble_eq_true rfl, Nat.le_of_ble_eq_true rfl⟩) hS (fun q _ h => hFc q h) hFc (fun q _ h => hFc q h) (fun E ce q9 ux t H1 locs1 ht hvm hpx hB hz1 hk1 hS hce hcv hcl => ?_) (fun u_2 t H1 locs ht hvm hw_3 hB hz1 hk1 hS => ?_)
  · obtain ⟨rfl, hB⟩ := hB
    refine vx_out (fun x hx => (htab x hx).elim) hlocks hce hcv hcl (fun t9 ht9 hal9 => ⟨(), trivial, ⟨rfl, by first | trivial | exact hB | (rcases hB with h | h <;> simp only [h, true_or, or_true]; done) | simp_all | omega⟩, hS.F ht9⟩) hS.2.2 (Nat.le_of_ble_eq_true rfl) (Nat.le_of_ble_eq_true rfl)
  · exact absurd rfl hw_3
theorem dX8_slotOf_0 : decode cX8_slotOf 0 = .ok (.aload_n 0, 1) := by decide +kernel
theorem dX8_slotOf_1 : decode cX8_slotOf 1 = .ok (.invokevirtual 274, 3) := by decide +kernel
set_option maxRecDepth 20000 in
theorem ggX8_slotOf_X8_needSlots : GoodIn wsX8_slotOf wsX8_needSlots := goodIn_ca (goodIn_r _ [6, 7, 8, 9, 18, 19, 20, 21, 22, 23, 24, 25, 26, 27, 28, 29, 30, 31, 32] rfl (by decide +kernel)) (goodIn_sub (fun _ h => List.mem_cons_of_mem _ (List.mem_append_left _ (List.mem_append_right _ h))) (by decide +kernel))
set_option maxRecDepth 20000 in
theorem gX8_slotOf_X8_needSlots : GoodIn wsX8_slotOf (wsV RX8 274 RX8 yX8_needSlots wsX8_needSlots) := goodIn_app (goodIn_of _ (by decide +kernel)) ggX8_slotOf_X8_needSlots
set_option maxHeartbeats 4000000 in
set_option maxRecDepth 100000 in
theorem x0_slotOf (l : Launch) (hfl : l.stackTraces = false) (g : xG) (sz : Nat) (h0 : Nat) (f0 : Value) (f1 : Value) (f2 : Value) (f3 : Value) (f4 : Value) (f5 : Value) (f6 : Value) (f7 : Value) (f8 : Value) (f9 : Value) (f11 : Value) (f12 : Value) (f13 : Value) (f14 : Value) (p0 : Int32)  : vx_Met l yX8_slotOf wsX8_slotOf ({ frames := 8, cells := 1, slots := 6, locals := 185 }) (va_Pc [.ref h0, .int p0] (fun U => xB g [(h0, .inr (8, [f0, f1, f2, f3, f4, f5, f6, f7, f8, f9, .int 0, f11, f12, f13, f14]))] sz U ∧ xU (va_A [] sz) U)) (va_Qi (fun (r : Int32) (u : Unit) => False) (fun _ _ => True) (va_A [] sz)) (vx_X (fun _ : Unit => True) (fun E _ _ => (E = "java/lang/IllegalStateException" ∧ True)) (va_A [] sz)) 1 6 (va_A [] sz) := by
  refine vx_ofW (cc := cX8_slotOf) (maxL := 2) (ret := (some .int)) (by decide) rfl ?_
  intro p e s m args below meth c s₁ B hml htab hv
  obtain ⟨rfl, ⟨hsz, hP, hK, hD0⟩, hU⟩ := hv
  have hx := B.exec
  have hb := B.bytes
  have hr := B.returns
  have hts := atoms_spec (ws := wsX8_slotOf) B.pre
  have hown : s.vm.findClass RX8 = some m.cls := findClass_of_methodNamed B.named
  have hlocks := B.notSynchronized
  subst hsz
  have hD := hD0
  generalize hAe : va_A [] s.heap.size = A at hU ⊢
  have hA : ∀ q : Nat, s.heap.size ≤ q → A q := fun q h => by rw [← hAe]; exact Or.inr h
  have hS : va_S A s.heap s.heap [] := va_S.rf
  have hl := lv_entry ([.ref h0, .int p0]) (n := 2) (Nat.le_of_ble_eq_true rfl)
  rw [lg_entry_eq]
  generalize (lg_sl ([.ref h0, .int p0]) ++ List.replicate (2 - (lg_sl ([.ref h0, .int p0])).length) Slot.unset).toArray = ls at hl ⊢
  have hl : lv_has ls 2 [(0, .ref h0), (1, .int p0)] := hl
  refine lv_aload_n hx hb dX8_slotOf_0 rfl (lv_at hl 0 rfl) ?_
  have hPc := hP.sub (ws' := [(h0, .inr (8, [f0, f1, f2, f3, f4, f5, f6, f7, f8, f9, .int 0, f11, f12, f13, f14]))]) [0] rfl
  have hDc := hD.sub (ws' := [(h0, .inr (8, [f0, f1, f2, f3, f4, f5, f6, f7, f8, f9, .int 0, f11, f12, f13, f14]))]) [0] (by decide) rfl
  have hFc := xFree hS hA
  refine vx_callv (vx_runV (As := []) (rest := []) ⟨hx, hb, hml, hown, hts⟩ (x_needSlots l hfl g s.heap.size h0 f0 f1 f2 f3 f4 f5 f6 f7 f8 f9 f11 f12 f13 f14 0) (cwV 0 hts gX8_slotOf_X8_needSlots rfl rfl rfl (by decide +kernel) ⟨Nat.le_of_ble_eq_true rfl, Nat.le_of_ble_eq_true rfl⟩) ⟨xBU.blind, va_recv hK hPc (ci := 8) (q0 := 0) rfl rfl, fun U9 hU9 hW9 => ⟨rfl, xB.mk hPc hK hDc hU9 hW9, hU.call hS hFc hU9 hW9⟩⟩ rfl rfl hl.1 rfl (lv_room (Nat.le_of_ble_eq_true rfl)) dX8_slotOf_1 ⟨Nat.le_of_ble_eq_true rfl, Nat.le_of_ble_eq_true rfl⟩) hS (fun q _ h => hFc q h) hFc (fun q _ h => hFc q h) (fun E ce q9 ux t H1 locs1 ht hvm hpx hB hz1 hk1 hS hce hcv hcl => ?_) (fun u_2 t H1 locs ht hvm hw_3 hB hz1 hk1 hS => ?_)
  · obtain ⟨rfl, hB⟩ := hB
    refine vx_out (fun x hx => (htab x hx).elim) hlocks hce hcv hcl (fun t9 ht9 hal9 => ⟨(), trivial, ⟨rfl, by first | trivial | exact hB | (rcases hB with h | h <;> simp only [h, true_or, or_true]; done) | simp_all | omega⟩, hS.F ht9⟩) hS.2.2 (Nat.le_of_ble_eq_true rfl) (Nat.le_of_ble_eq_true rfl)
  · exact absurd rfl hw_3
theorem dX8_inSlot_0 : decode cX8_inSlot 0 = .ok (.aload_n 0, 1) := by decide +kernel
theorem dX8_inSlot_1 : decode cX8_inSlot 1 = .ok (.invokevirtual 274, 3) := by decide +kernel
set_option maxRecDepth 20000 in
theorem ggX8_inSlot_X8_needSlots : GoodIn wsX8_inSlot wsX8_needSlots := goodIn_ca (goodIn_r _ [8, 9, 10, 11, 17, 18, 19, 20, 21, 22, 23, 24, 25, 26, 27, 28, 29, 30, 31] rfl (by decide +kernel)) (goodIn_sub (fun _ h => List.mem_cons_of_mem _ (List.mem_append_left _ (List.mem_append_right _ h))) (by decide +kernel))
set_option maxRecDepth 20000 in
theorem gX8_inSlot_X8_needSlots : GoodIn wsX8_inSlot (wsV RX8 274 RX8 yX8_needSlots wsX8_needSlots) := goodIn_app (goodIn_of _ (by decide +kernel)) ggX8_inSlot_X8_needSlots
set_option maxHeartbeats 4000000 in
set_option maxRecDepth 100000 in
theorem x0_inSlot (l : Launch) (hfl : l.stackTraces = false) (g : xG) (sz : Nat) (h0 : Nat) (f0 : Value) (f1 : Value) (f2 : Value) (f3 : Value) (f4 : Value) (f5 : Value) (f6 : Value) (f7 : Value) (f8 : Value) (f9 : Value) (f11 : Value) (f12 : Value) (f13 : Value) (f14 : Value) (p0 : Int32)  : vx_Met l yX8_inSlot wsX8_inSlot ({ frames := 8, cells := 1, slots := 6, locals := 185 }) (va_Pc [.ref h0, .int p0] (fun U => xB g [(h0, .inr (8, [f0, f1, f2, f3, f4, f5, f6, f7, f8, f9, .int 0, f11, f12, f13, f14]))] sz U ∧ xU (va_A [] sz) U)) (va_Qi (fun (r : Int32) (u : Unit) => False) (fun _ _ => True) (va_A [] sz)) (vx_X (fun _ : Unit => True) (fun E _ _ => (E = "java/lang/IllegalStateException" ∧ True)) (va_A [] sz)) 1 6 (va_A [] sz) := by
  refine vx_ofW (cc := cX8_inSlot) (maxL := 4) (ret := (some .int)) (by decide) rfl ?_
  intro p e s m args below meth c s₁ B hml htab hv
  obtain ⟨rfl, ⟨hsz, hP, hK, hD0⟩, hU⟩ := hv
  have hx := B.exec
  have hb := B.bytes
  have hr := B.returns
  have hts := atoms_spec (ws := wsX8_inSlot) B.pre
  have hown : s.vm.findClass RX8 = some m.cls := findClass_of_methodNamed B.named
  have hlocks := B.notSynchronized
  subst hsz
  have hD := hD0
  generalize hAe : va_A [] s.heap.size = A at hU ⊢
  have hA : ∀ q : Nat, s.heap.size ≤ q → A q := fun q h => by rw [← hAe]; exact Or.inr h
  have hS : va_S A s.heap s.heap [] := va_S.rf
  have hl := lv_entry ([.ref h0, .int p0]) (n := 4) (Nat.le_of_ble_eq_true rfl)
  rw [lg_entry_eq]
  generalize (lg_sl ([.ref h0, .int p0]) ++ List.replicate (4 - (lg_sl ([.ref h0, .int p0])).length) Slot.unset).toArray = ls at hl ⊢
  have hl : lv_has ls 4 [(0, .ref h0), (1, .int p0)] := hl
  refine lv_aload_n hx hb dX8_inSlot_0 rfl (lv_at hl 0 rfl) ?_
  have hPc := hP.sub (ws' := [(h0, .inr (8, [f0, f1, f2, f3, f4, f5, f6, f7, f8, f9, .int 0, f11, f12, f13, f14]))]) [0] rfl
  have hDc := hD.sub (ws' := [(h0, .inr (8, [f0, f1, f2, f3, f4, f5, f6, f7, f8, f9, .int 0, f11, f12, f13, f14]))]) [0] (by decide) rfl
  have hFc := xFree hS hA
  refine vx_callv (vx_runV (As := []) (rest := []) ⟨hx, hb, hml, hown, hts⟩ (x_needSlots l hfl g s.heap.size h0 f0 f1 f2 f3 f4 f5 f6 f7 f8 f9 f11 f12 f13 f14 0) (cwV 0 hts gX8_inSlot_X8_needSlots rfl rfl rfl (by decide +kernel) ⟨Nat.le_of_ble_eq_true rfl, Nat.le_of_ble_eq_true rfl⟩) ⟨xBU.blind, va_recv hK hPc (ci := 8) (q0 := 0) rfl rfl, fun U9 hU9 hW9 => ⟨rfl, xB.mk hPc hK hDc hU9 hW9, hU.call hS hFc hU9 hW9⟩⟩ rfl rfl hl.1 rfl (lv_room (Nat.le_of_ble_eq_true rfl)) dX8_inSlot_1 ⟨Nat.le_of_ble_eq_true rfl, Nat.le_of_ble_eq_true rfl⟩) hS (fun q _ h => hFc q h) hFc (fun q _ h => hFc q h) (fun E ce q9 ux t H1 locs1 ht hvm hpx hB hz1 hk1 hS hce hcv hcl => ?_) (fun u_2 t H1 locs ht hvm hw_3 hB hz1 hk1 hS => ?_)
  · obtain ⟨rfl, hB⟩ := hB
    refine vx_out (fun x hx => (htab x hx).elim) hlocks hce hcv hcl (fun t9 ht9 hal9 => ⟨(), trivial, ⟨rfl, by first | trivial | exact hB | (rcases hB with h | h <;> simp only [h, true_or, or_true]; done) | simp_all | omega⟩, hS.F ht9⟩) hS.2.2 (Nat.le_of_ble_eq_true rfl) (Nat.le_of_ble_eq_true rfl)
  · exact absurd rfl hw_3
theorem dX8_work__0 : decode cX8_work_ 0 = .ok (.iload_n 1, 1) := by decide +kernel
theorem dX8_work__1 : decode cX8_work_ 1 = .ok (.invokestatic 291, 3) := by decide +kernel
set_option maxRecDepth 20000 in
theorem ggX8_work__X8_needNotNegative : GoodIn wsX8_work_ wsX8_needNotNegative := goodIn_ca (goodIn_r _ [7, 8, 9] rfl (by decide +kernel)) (goodIn_sub (fun _ h => List.mem_cons_of_mem _ (List.mem_append_left _ (List.mem_append_right _ h))) (by decide +kernel))
set_option maxRecDepth 20000 in
theorem gX8_work__X8_needNotNegative : GoodIn wsX8_work_ (va_wsS RX8 291 yX8_needNotNegative wsX8_needNotNegative) := goodIn_app (goodIn_of _ (by decide +kernel)) ggX8_work__X8_needNotNegative
theorem dX8_work__4 : decode cX8_work_ 4 = .ok (.aload_n 0, 1) := by decide +kernel
theorem dX8_work__5 : decode cX8_work_ 5 = .ok (.invokevirtual 274, 3) := by decide +kernel
set_option maxRecDepth 20000 in
theorem ggX8_work__X8_needSlots : GoodIn wsX8_work_ wsX8_needSlots := goodIn_ca (goodIn_r _ [13, 14, 15, 16, 95, 96, 97, 98, 99, 100, 101, 102, 103, 104, 105, 106, 107, 108, 109] rfl (by decide +kernel)) (goodIn_sub (fun _ h => List.mem_cons_of_mem _ (List.mem_append_right _ h)) (by decide +kernel))
set_option maxRecDepth 20000 in
theorem gX8_work__X8_needSlots : GoodIn wsX8_work_ (wsV RX8 274 RX8 yX8_needSlots wsX8_needSlots) := goodIn_app (goodIn_of _ (by decide +kernel)) ggX8_work__X8_needSlots
set_option maxHeartbeats 4000000 in
set_option maxRecDepth 100000 in
theorem x0_work_ (l : Launch) (hfl : l.stackTraces = false) (g : xG) (sz : Nat) (h0 : Nat) (f0 : Value) (f1 : Value) (f2 : Value) (f3 : Value) (f4 : Value) (f5 : Value) (f6 : Value) (f7 : Value) (f8 : Value) (f9 : Value) (f11 : Value) (f12 : Value) (f13 : Value) (f14 : Value) (p0 : Int32)  : vx_Met l yX8_work_ wsX8_work_ ({ frames := 8, cells := 2, slots := 12, locals := 185 }) (va_Pc [.ref h0, .int p0] (fun U => xB g [(h0, .inr (8, [f0, f1, f2, f3, f4, f5, f6, f7, f8, f9, .int 0, f11, f12, f13, f14]))] sz U ∧ xU (va_A [] sz) U)) (va_Qi (fun (r : Int32) (u : Unit) => False) (fun _ _ => True) (va_A [] sz)) (vx_X (fun _ : Unit => True) (fun E _ _ => (E = "java/lang/IllegalArgumentException" ∧ p0 < 0) ∨ (E = "java/lang/IllegalStateException" ∧ ¬ p0 < 0)) (va_A [] sz)) 2 12 (va_A [] sz) := by
  refine vx_ofW (cc := cX8_work_) (maxL := 2) (ret := (some .int)) (by decide) rfl ?_
  intro p e s m args below meth c s₁ B hml htab hv
  obtain ⟨rfl, ⟨hsz, hP, hK, hD0⟩, hU⟩ := hv
  have hx := B.exec
  have hb := B.bytes
  have hr := B.returns
  have hts := atoms_spec (ws := wsX8_work_) B.pre
  have hown : s.vm.findClass RX8 = some m.cls := findClass_of_methodNamed B.named
  have hlocks := B.notSynchronized
  subst hsz
  have hD := hD0
  generalize hAe : va_A [] s.heap.size = A at hU ⊢
  have hA : ∀ q : Nat, s.heap.size ≤ q → A q := fun q h => by rw [← hAe]; exact Or.inr h
  have hS : va_S A s.heap s.heap [] := va_S.rf
  have hl := lv_entry ([.ref h0, .int p0]) (n := 2) (Nat.le_of_ble_eq_true rfl)
  rw [lg_entry_eq]
  generalize (lg_sl ([.ref h0, .int p0]) ++ List.replicate (2 - (lg_sl ([.ref h0, .int p0])).length) Slot.unset).toArray = ls at hl ⊢
  have hl : lv_has ls 2 [(0, .ref h0), (1, .int p0)] := hl
  refine lv_iload_n hx hb dX8_work__0 rfl (lv_at hl 1 rfl) ?_
  have hPc := hP.sub (ws' := []) [] rfl
  have hDc := hD.sub (ws' := []) [] (by decide) rfl
  have hFc := xFree hS hA
  refine vx_callv (vx_runS (As := [.int p0]) (rest := []) ⟨hx, hb, hml, hown, hts⟩ (x_needNotNegative l hfl g s.heap.size p0) (va_cwS 1 hts gX8_work__X8_needNotNegative rfl rfl rfl (by decide +kernel) ⟨Nat.le_of_ble_eq_true rfl, Nat.le_of_ble_eq_true rfl⟩) ⟨xBU.blind, fun U9 hU9 hW9 => ⟨rfl, xB.mk hPc hK hDc hU9 hW9, hU.call hS hFc hU9 hW9⟩⟩ rfl rfl hl.1 rfl (lv_room (Nat.le_of_ble_eq_true rfl)) dX8_work__1 ⟨Nat.le_of_ble_eq_true rfl, Nat.le_of_ble_eq_true rfl⟩) hS (fun q _ h => hFc q h) hFc (fun q _ h => hFc q h) (fun E ce q9 ux t H1 locs1 ht hvm hpx hB hz1 hk1 hS hce hcv hcl => ?_) (fun u_2 t H1 locs ht hvm hw_3 hB hz1 hk1 hS => ?_)
  · obtain ⟨rfl, hB⟩ := hB
    refine vx_out (fun x hx => (htab x hx).elim) hlocks hce hcv hcl (fun t9 ht9 hal9 => ⟨(), trivial, Or.inl (⟨rfl, by first | trivial | exact hB | (rcases hB with h | h <;> simp only [h, true_or, or_true]; done) | simp_all | omega⟩), hS.F ht9⟩) hS.2.2 (Nat.le_of_ble_eq_true rfl) (Nat.le_of_ble_eq_true rfl)
  · have hP := xSame hP hk1
    generalize H1 = H at hP hS ⊢
    have hP : va_P (xD g) vwCl [(h0, .inr (8, [f0, f1, f2, f3, f4, f5, f6, f7, f8, f9, .int 0, f11, f12, f13, f14]))] H := hP
    refine W.widen (k := 1) (n := 6) (by omega) (by omega) ?_
    try dsimp only at hw_3
    refine lv_aload_n hx hb dX8_work__4 rfl (lv_at hl 0 rfl) ?_
    have hPc := hP.sub (ws' := [(h0, .inr (8, [f0, f1, f2, f3, f4, f5, f6, f7, f8, f9, .int 0, f11, f12, f13, f14]))]) [0] rfl
    have hDc := hD.sub (ws' := [(h0, .inr (8, [f0, f1, f2, f3, f4, f5, f6, f7, f8, f9, .int 0, f11, f12, f13, f14]))]) [0] (by decide) rfl
    have hFc := xFree hS hA
    refine vx_callv (vx_runV (As := []) (rest := []) ⟨hx, hb, hml, hown, hts⟩ (x_needSlots l hfl g H.size h0 f0 f1 f2 f3 f4 f5 f6 f7 f8 f9 f11 f12 f13 f14 0) (cwV 0 hts gX8_work__X8_needSlots rfl rfl rfl (by decide +kernel) ⟨Nat.le_of_ble_eq_true rfl, Nat.le_of_ble_eq_true rfl⟩) ⟨xBU.blind, va_recv hK hPc (ci := 8) (q0 := 0) rfl rfl, fun U9 hU9 hW9 => ⟨rfl, xB.mk hPc hK hDc hU9 hW9, hU.call hS hFc hU9 hW9⟩⟩ rfl rfl hl.1 rfl (lv_room (Nat.le_of_ble_eq_true rfl)) dX8_work__5 ⟨Nat.le_of_ble_eq_true rfl, Nat.le_of_ble_eq_true rfl⟩) hS (fun q _ h => hFc q h) hFc (fun q _ h => hFc q h) (fun E ce q9 ux t H1 locs1 ht hvm hpx hB hz1 hk1 hS hce hcv hcl => ?_) (fun u_5 t H1 locs ht hvm hw_6 hB hz1 hk1 hS => ?_)
    · obtain ⟨rfl, hB⟩ := hB
      refine vx_out (fun x hx => (htab x hx).elim) hlocks hce hcv hcl (fun t9 ht9 hal9 => ⟨(), trivial, Or.inr (⟨rfl, by first | trivial | exact hB | (rcases hB with h | h <;> simp only [h, true_or, or_true]; done) | simp_all | omega⟩), hS.F ht9⟩) hS.2.2 (Nat.le_of_ble_eq_true rfl) (Nat.le_of_ble_eq_true rfl)
    · exact absurd rfl hw_6
theorem dX8_inTheEnd_0 : decode cX8_inTheEnd 0 = .ok (.iload_n 1, 1) := by decide +kernel
theorem dX8_inTheEnd_1 : decode cX8_inTheEnd 1 = .ok (.iconst 0, 1) := by decide +kernel
theorem dX8_inTheEnd_2 : decode cX8_inTheEnd 2 = .ok (.iconst 3, 1) := by decide +kernel
theorem dX8_inTheEnd_3 : decode cX8_inTheEnd 3 = .ok (.invokestatic 88, 3) := by decide +kernel
set_option maxRecDepth 20000 in
theorem ggX8_inTheEnd_X8_needWithin : GoodIn wsX8_inTheEnd wsX8_needWithin := goodIn_ca (goodIn_r _ [9, 10, 11] rfl (by decide +kernel)) (goodIn_sub (fun _ h => List.mem_cons_of_mem _ (List.mem_append_left _ (List.mem_append_right _ h))) (by decide +kernel))
set_option maxRecDepth 20000 in
theorem gX8_inTheEnd_X8_needWithin : GoodIn wsX8_inTheEnd (va_wsS RX8 88 yX8_needWithin wsX8_needWithin) := goodIn_app (goodIn_of _ (by decide +kernel)) ggX8_inTheEnd_X8_needWithin
theorem dX8_inTheEnd_6 : decode cX8_inTheEnd 6 = .ok (.aload_n 0, 1) := by decide +kernel
theorem dX8_inTheEnd_7 : decode cX8_inTheEnd 7 = .ok (.invokevirtual 274, 3) := by decide +kernel
set_option maxRecDepth 20000 in
theorem ggX8_inTheEnd_X8_needSlots : GoodIn wsX8_inTheEnd wsX8_needSlots := goodIn_ca (goodIn_r _ [15, 16, 17, 18, 109, 110, 111, 112, 113, 114, 115, 116, 117, 118, 119, 120, 121, 122, 123] rfl (by decide +kernel)) (goodIn_sub (fun _ h => List.mem_cons_of_mem _ (List.mem_append_right _ h)) (by decide +kernel))
set_option maxRecDepth 20000 in
theorem gX8_inTheEnd_X8_needSlots : GoodIn wsX8_inTheEnd (wsV RX8 274 RX8 yX8_needSlots wsX8_needSlots) := goodIn_app (goodIn_of _ (by decide +kernel)) ggX8_inTheEnd_X8_needSlots
set_option maxHeartbeats 4000000 in
set_option maxRecDepth 100000 in
theorem x0_inTheEnd (l : Launch) (hfl : l.stackTraces = false) (g : xG) (sz : Nat) (h0 : Nat) (f0 : Value) (f1 : Value) (f2 : Value) (f3 : Value) (f4 : Value) (f5 : Value) (f6 : Value) (f7 : Value) (f8 : Value) (f9 : Value) (f11 : Value) (f12 : Value) (f13 : Value) (f14 : Value) (p0 : Int32)  : vx_Met l yX8_inTheEnd wsX8_inTheEnd ({ frames := 8, cells := 2, slots := 12, locals := 185 }) (va_Pc [.ref h0, .int p0] (fun U => xB g [(h0, .inr (8, [f0, f1, f2, f3, f4, f5, f6, f7, f8, f9, .int 0, f11, f12, f13, f14]))] sz U ∧ xU (va_A [] sz) U)) (va_Qi (fun (r : Int32) (u : Unit) => False) (fun _ _ => True) (va_A [] sz)) (vx_X (fun _ : Unit => True) (fun E _ _ => (E = "java/lang/IllegalArgumentException" ∧ (p0 < 0 ∨ 3 < p0)) ∨ (E = "java/lang/IllegalStateException" ∧ (¬ p0 < 0 ∧ ¬ 3 < p0))) (va_A [] sz)) 2 12 (va_A [] sz) := by
  refine vx_ofW (cc := cX8_inTheEnd) (maxL := 2) (ret := (some .int)) (by decide) rfl ?_
  intro p e s m args below meth c s₁ B hml htab hv
  obtain ⟨rfl, ⟨hsz, hP, hK, hD0⟩, hU⟩ := hv
  have hx := B.exec
  have hb := B.bytes
  have hr := B.returns
  have hts := atoms_spec (ws := wsX8_inTheEnd) B.pre
  have hown : s.vm.findClass RX8 = some m.cls := findClass_of_methodNamed B.named
  have hlocks := B.notSynchronized
  subst hsz
  have hD := hD0
  generalize hAe : va_A [] s.heap.size = A at hU ⊢
  have hA : ∀ q : Nat, s.heap.size ≤ q → A q := fun q h => by rw [← hAe]; exact Or.inr h
  have hS : va_S A s.heap s.heap [] := va_S.rf
  have hl := lv_entry ([.ref h0, .int p0]) (n := 2) (Nat.le_of_ble_eq_true rfl)
  rw [lg_entry_eq]
  generalize (lg_sl ([.ref h0, .int p0]) ++ List.replicate (2 - (lg_sl ([.ref h0, .int p0])).length) Slot.unset).toArray = ls at hl ⊢
  have hl : lv_has ls 2 [(0, .ref h0), (1, .int p0)] := hl
  refine lv_iload_n hx hb dX8_inTheEnd_0 rfl (lv_at hl 1 rfl) ?_
  refine lv_iconst (v := 0) hx hb dX8_inTheEnd_1 (by decide) ?_
  refine lv_iconst (v := 3) hx hb dX8_inTheEnd_2 (by decide) ?_
  have hPc := hP.sub (ws' := []) [] rfl
  have hDc := hD.sub (ws' := []) [] (by decide) rfl
  have hFc := xFree hS hA
  refine vx_callv (vx_runS (As := [.int p0, .int 0, .int 3]) (rest := []) ⟨hx, hb, hml, hown, hts⟩ (x_needWithin l hfl g s.heap.size p0 0 3) (va_cwS 3 hts gX8_inTheEnd_X8_needWithin rfl rfl rfl (by decide +kernel) ⟨Nat.le_of_ble_eq_true rfl, Nat.le_of_ble_eq_true rfl⟩) ⟨xBU.blind, fun U9 hU9 hW9 => ⟨rfl, xB.mk hPc hK hDc hU9 hW9, hU.call hS hFc hU9 hW9⟩⟩ rfl rfl hl.1 rfl (lv_room (Nat.le_of_ble_eq_true rfl)) dX8_inTheEnd_3 ⟨Nat.le_of_ble_eq_true rfl, Nat.le_of_ble_eq_true rfl⟩) hS (fun q _ h => hFc q h) hFc (fun q _ h => hFc q h) (fun E ce q9 ux t H1 locs1 ht hvm hpx hB hz1 hk1 hS hce hcv hcl => ?_) (fun u_2 t H1 locs ht hvm hw_3 hB hz1 hk1 hS => ?_)
  · obtain ⟨rfl, hB⟩ := hB
    refine vx_out (fun x hx => (htab x hx).elim) hlocks hce hcv hcl (fun t9 ht9 hal9 => ⟨(), trivial, Or.inl (⟨rfl, by first | trivial | exact hB | (rcases hB with h | h <;> simp only [h, true_or, or_true]; done) | simp_all | omega⟩), hS.F ht9⟩) hS.2.2 (Nat.le_of_ble_eq_true rfl) (Nat.le_of_ble_eq_true rfl)
  · have hP := xSame hP hk1
    generalize H1 = H at hP hS ⊢
    have hP : va_P (xD g) vwCl [(h0, .inr (8, [f0, f1, f2, f3, f4, f5, f6, f7, f8, f9, .int 0, f11, f12, f13, f14]))] H := hP
    refine W.widen (k := 1) (n := 6) (by omega) (by omega) ?_
    try dsimp only at hw_3
    refine lv_aload_n hx hb dX8_inTheEnd_6 rfl (lv_at hl 0 rfl) ?_
    have hPc := hP.sub (ws' := [(h0, .inr (8, [f0, f1, f2, f3, f4, f5, f6, f7, f8, f9, .int 0, f11, f12, f13, f14]))]) [0] rfl
    have hDc := hD.sub (ws' := [(h0, .inr (8, [f0, f1, f2, f3, f4, f5, f6, f7, f8, f9, .int 0, f11, f12, f13, f14]))]) [0] (by decide) rfl
    have hFc := xFree hS hA
    refine vx_callv (vx_runV (As := []) (rest := []) ⟨hx, hb, hml, hown, hts⟩ (x_needSlots l hfl g H.size h0 f0 f1 f2 f3 f4 f5 f6 f7 f8 f9 f11 f12 f13 f14 0) (cwV 0 hts gX8_inTheEnd_X8_needSlots rfl rfl rfl (by decide +kernel) ⟨Nat.le_of_ble_eq_true rfl, Nat.le_of_ble_eq_true rfl⟩) ⟨xBU.blind, va_recv hK hPc (ci := 8) (q0 := 0) rfl rfl, fun U9 hU9 hW9 => ⟨rfl, xB.mk hPc hK hDc hU9 hW9, hU.call hS hFc hU9 hW9⟩⟩ rfl rfl hl.1 rfl (lv_room (Nat.le_of_ble_eq_true rfl)) dX8_inTheEnd_7 ⟨Nat.le_of_ble_eq_true rfl, Nat.le_of_ble_eq_true rfl⟩) hS (fun q _ h => hFc q h) hFc (fun q _ h => hFc q h) (fun E ce q9 ux t H1 locs1 ht hvm hpx hB hz1 hk1 hS hce hcv hcl => ?_) (fun u_5 t H1 locs ht hvm hw_6 hB hz1 hk1 hS => ?_)
    · obtain ⟨rfl, hB⟩ := hB
      refine vx_out (fun x hx => (htab x hx).elim) hlocks hce hcv hcl (fun t9 ht9 hal9 => ⟨(), trivial, Or.inr (⟨rfl, by first | trivial | exact hB | (rcases hB with h | h <;> simp only [h, true_or, or_true]; done) | simp_all | omega⟩), hS.F ht9⟩) hS.2.2 (Nat.le_of_ble_eq_true rfl) (Nat.le_of_ble_eq_true rfl)
    · exact absurd rfl hw_6
