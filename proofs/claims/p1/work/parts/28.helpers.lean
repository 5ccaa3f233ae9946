theorem dL_setVessel_0 : decode cL_setVessel 0 = .ok (.aload 4, 2) := by decide +kernel
theorem dL_setVessel_2 : decode cL_setVessel 2 = .ok (.iconst 0, 1) := by decide +kernel
theorem dL_setVessel_3 : decode cL_setVessel 3 = .ok (.aload_n 0, 1) := by decide +kernel
theorem dL_setVessel_4 : decode cL_setVessel 4 = .ok (.iload_n 1, 1) := by decide +kernel
theorem dL_setVessel_5 : decode cL_setVessel 5 = .ok (.iload_n 2, 1) := by decide +kernel
theorem dL_setVessel_6 : decode cL_setVessel 6 = .ok (.iload_n 3, 1) := by decide +kernel
theorem dL_setVessel_7 : decode cL_setVessel 7 = .ok (.invokevirtual 24, 3) := by decide +kernel
set_option maxRecDepth 20000 in
theorem ggL_setVessel_X8_setVessel : GoodIn wsL_setVessel wsX8_setVessel := goodIn_ca (goodIn_ca (goodIn_r _ [7, 8, 9, 10, 11, 12, 13, 14, 6, 15, 16, 17, 18, 19, 20, 21, 22, 23, 24, 25, 26, 27, 28, 29, 30, 31, 32, 33, 34, 35, 36, 37, 38, 39, 40, 41, 42, 43, 44, 45, 46, 47, 48, 49, 50, 51, 52, 53, 54, 55, 56, 57, 58, 59, 60, 61, 62, 63, 64, 65, 66, 67, 68, 69, 70, 71, 72, 73, 74, 75, 76, 77, 78, 79, 80, 81, 82, 83, 84, 85, 86, 87, 88, 89, 90, 91, 92, 93, 94, 95, 96, 97, 98, 99, 100, 101, 102, 103, 104, 105, 106, 107, 108, 109, 110, 111, 112, 113, 114, 115, 116, 117, 118, 119, 120, 121, 122, 123, 124, 125, 126, 127, 128, 129, 130, 131, 132, 133, 134, 135, 136, 137, 138, 139, 140, 141, 142, 143, 144, 145, 146, 147, 148, 149, 150, 151, 152, 153, 154, 155, 156, 157, 158, 159, 160, 161, 162, 163, 164, 165, 166, 167, 168, 169, 170, 171, 172, 173, 174, 175, 176] rfl (by decide +kernel)) (goodIn_sub (fun _ h => List.mem_cons_of_mem _ (List.mem_append_left _ (List.mem_append_right _ h))) (by decide +kernel))) (goodIn_sub (fun _ h => List.mem_cons_of_mem _ (List.mem_append_right _ h)) (by decide +kernel))
set_option maxRecDepth 20000 in
theorem gL_setVessel_X8_setVessel : GoodIn wsL_setVessel (wsV RL 24 RX8 yX8_setVessel wsX8_setVessel) := goodIn_app (goodIn_of _ (by decide +kernel)) ggL_setVessel_X8_setVessel
theorem dL_setVessel_15 : decode cL_setVessel 15 = .ok (.astore 5, 2) := by decide +kernel
theorem dL_setVessel_17 : decode cL_setVessel 17 = .ok (.iconst 1, 1) := by decide +kernel
theorem dL_setVessel_18 : decode cL_setVessel 18 = .ok (.ireturn, 1) := by decide +kernel
set_option maxHeartbeats 4000000 in
set_option maxRecDepth 100000 in
theorem l_setVessel (l : Launch) (hfl : l.stackTraces = false) (g : xG) (sz : Nat) (h0 : Nat) (f0 : Value) (f1 : Value) (f3 : Value) (f4 : Value) (f5 : Value) (f6 : Value) (f7 : Value) (f8 : Value) (f9 : Value) (f10 : Value) (f11 : Value) (f12 : Value) (f13 : Value) (f14 : Value) (p0 : Int32) (p1 : Int32) (p2 : Int32) (out : Nat) (of : Nat → Int64)  : vx_Met l yL_setVessel wsL_setVessel ({ frames := 9, cells := 1, slots := 6, locals := 210 }) (va_Pc [.ref h0, .int p0, .int p1, .int p2, .ref out] (fun U => xB g [(h0, .inr (8, [f0, f1, .int 0, f3, f4, f5, f6, f7, f8, f9, f10, f11, f12, f13, f14])), (out, .inl (xJ g, 1, .inr (.inl of)))] sz U ∧ xU (va_A [(h0, .inr (8, [f0, f1, .int 0, f3, f4, f5, f6, f7, f8, f9, f10, f11, f12, f13, f14])), (out, .inl (xJ g, 1, .inr (.inl of)))] sz) U)) (va_Qi (fun (r : Int32) (u : Int64) => r = 1) (fun (u : Int64) (t : State) => ∃ (of1 : Nat → Int64), of1 0 = u ∧ xE g [(out, .inl (xJ g, 1, .inr (.inl of1)))] (va_A [(h0, .inr (8, [f0, f1, .int 0, f3, f4, f5, f6, f7, f8, f9, f10, f11, f12, f13, f14])), (out, .inl (xJ g, 1, .inr (.inl of)))] sz) t) (va_A [(h0, .inr (8, [f0, f1, .int 0, f3, f4, f5, f6, f7, f8, f9, f10, f11, f12, f13, f14])), (out, .inl (xJ g, 1, .inr (.inl of)))] sz)) (vx_X (fun _ : Unit => True) (fun E _ _ => False) (va_A [(h0, .inr (8, [f0, f1, .int 0, f3, f4, f5, f6, f7, f8, f9, f10, f11, f12, f13, f14])), (out, .inl (xJ g, 1, .inr (.inl of)))] sz)) 1 6 (va_A [(h0, .inr (8, [f0, f1, .int 0, f3, f4, f5, f6, f7, f8, f9, f10, f11, f12, f13, f14])), (out, .inl (xJ g, 1, .inr (.inl of)))] sz) := by
  refine vx_ofWH (hh := [(0, 12, 15, 28), (0, 12, 19, 13)]) (cc := cL_setVessel) (maxL := 6) (ret := (some .int)) (by decide) rfl ?_
  intro p e s m args below meth c s₁ B hml hv
  obtain ⟨rfl, ⟨hsz, hP, hK, hD0⟩, hU⟩ := hv
  have hx := B.exec
  have hb := B.bytes
  have hr := B.returns
  have hts := atoms_spec (ws := wsL_setVessel) B.pre
  have hown : s.vm.findClass RL = some m.cls := findClass_of_methodNamed B.named
  have hlocks := B.notSynchronized
  have htbl := vx_table (x := yL_setVessel) B (hts (.codeWith yL_setVessel cL_setVessel 6 (some .int) [(0, 12, 15, 28), (0, 12, 19, 13)]) List.mem_cons_self)
  subst hsz
  have hD := hD0.self (sz := s.heap.size)
  generalize hAe : va_A [(h0, .inr (8, [f0, f1, .int 0, f3, f4, f5, f6, f7, f8, f9, f10, f11, f12, f13, f14])), (out, .inl (xJ g, 1, .inr (.inl of)))] s.heap.size = A at hD hU ⊢
  have hA : ∀ q : Nat, s.heap.size ≤ q → A q := fun q h => by rw [← hAe]; exact Or.inr h
  have hS : va_S A s.heap s.heap [] := va_S.rf
  have hl := lv_entry ([.ref h0, .int p0, .int p1, .int p2, .ref out]) (n := 6) (Nat.le_of_ble_eq_true rfl)
  rw [lg_entry_eq]
  generalize (lg_sl ([.ref h0, .int p0, .int p1, .int p2, .ref out]) ++ List.replicate (6 - (lg_sl ([.ref h0, .int p0, .int p1, .int p2, .ref out])).length) Slot.unset).toArray = ls at hl ⊢
  have hl : lv_has ls 6 [(0, .ref h0), (1, .int p0), (2, .int p1), (3, .int p2), (4, .ref out)] := hl
  refine lv_aload hx hb dL_setVessel_0 (lv_at hl 4 rfl) ?_
  refine lv_iconst (v := 0) hx hb dL_setVessel_2 (by decide) ?_
  refine lv_aload_n hx hb dL_setVessel_3 rfl (lv_at hl 0 rfl) ?_
  refine lv_iload_n hx hb dL_setVessel_4 rfl (lv_at hl 1 rfl) ?_
  refine lv_iload_n hx hb dL_setVessel_5 rfl (lv_at hl 2 rfl) ?_
  refine lv_iload_n hx hb dL_setVessel_6 rfl (lv_at hl 3 rfl) ?_
  have hPc := hP.sub (ws' := [(h0, .inr (8, [f0, f1, .int 0, f3, f4, f5, f6, f7, f8, f9, f10, f11, f12, f13, f14]))]) [0] rfl
  have hDc := hD.sub (ws' := [(h0, .inr (8, [f0, f1, .int 0, f3, f4, f5, f6, f7, f8, f9, f10, f11, f12, f13, f14]))]) [0] (by decide) rfl
  have hFc := xFree hS hA
  refine vx_calli (vx_runV (As := [.int p0, .int p1, .int p2]) (rest := [.int 0, .ref out]) ⟨hx, hb, hml, hown, hts⟩ (x0_setVessel l hfl g s.heap.size h0 f0 f1 f3 f4 f5 f6 f7 f8 f9 f10 f11 f12 f13 f14 p0 p1 p2) (cwV 3 hts gL_setVessel_X8_setVessel rfl rfl rfl (by decide +kernel) ⟨Nat.le_of_ble_eq_true rfl, Nat.le_of_ble_eq_true rfl⟩) ⟨xBU.blind, va_recv hK hPc (ci := 8) (q0 := 0) rfl rfl, fun U9 hU9 hW9 => ⟨rfl, xB.mk hPc hK hDc hU9 hW9, hU.call hS hFc hU9 hW9⟩⟩ rfl rfl hl.1 rfl (lv_room (Nat.le_of_ble_eq_true rfl)) dL_setVessel_7 ⟨Nat.le_of_ble_eq_true rfl, Nat.le_of_ble_eq_true rfl⟩) hS (fun q _ h => hFc q h) hFc (fun q _ h => hFc q h) (fun E ce q9 ux t H1 locs1 ht hvm hpx hB hz1 hk1 hS hce hcv hcl => ?_) (fun r_1 u_2 t H1 locs ht hvm hw_3 hB hz1 hk1 hS => ?_)
  · obtain ⟨rfl, hB⟩ := hB
    have hP := xSame hP hk1
    refine vx_catch (name := "java/lang/IndexOutOfBoundsException") hown [] ({ startPc := 0, endPc := 12, handlerPc := 15, catchType := 28 } : ExceptionTableEntry) [({ startPc := 0, endPc := 12, handlerPc := 19, catchType := 13 } : ExceptionTableEntry)] htbl (fun z hz => absurd hz List.not_mem_nil) rfl (by decide) (hts (.classLink RL 28 "java/lang/IndexOutOfBoundsException") (by decide +kernel)) (va_Nw.use rfl (hU.2.2.2.2.1 "java/lang/IndexOutOfBoundsException" (by decide))) hce hcv hcl ?_
    generalize H1 = H at hP hS ⊢
    generalize locs1 = locs at hS ⊢
    have hP : va_P (xD g) vwCl [(h0, .inr (8, [f0, f1, .int 0, f3, f4, f5, f6, f7, f8, f9, f10, f11, f12, f13, f14])), (out, .inl (xJ g, 1, .inr (.inl of)))] H := hP
    have hD : va_D A [(h0, .inr (8, [f0, f1, .int 0, f3, f4, f5, f6, f7, f8, f9, f10, f11, f12, f13, f14])), (out, .inl (xJ g, 1, .inr (.inl of)))] := hD
    refine W.widen (k := 1) (n := 6) (by omega) (by omega) ?_
    refine lv_astore (lv' := [(5, .ref q9), (0, .ref h0), (1, .int p0), (2, .int p1), (3, .int p2), (4, .ref out)]) hx hb dL_setVessel_15 hl (by decide) rfl (fun ls hl => ?_)
    refine lv_iconst (v := 1) hx hb dL_setVessel_17 (by decide) ?_
    refine vx_ret ?_
    have hP9 := hP.sub (ws' := [(out, .inl (xJ g, 1, .inr (.inl of)))]) [1] rfl
    have hD9 := hD.sub (ws' := [(out, .inl (xJ g, 1, .inr (.inl of)))]) [1] (by decide) rfl
    exact W.iret (v := 1) hx hb hr (fun t ht hW => ⟨⟨1, (of 0), rfl, rfl, ⟨of, (by rfl), by rw [ht]; exact hP9, va_K.moved hW.alike hK, hD9⟩⟩, hS.F ht⟩) hS.2.2 dL_setVessel_18
  · exact False.elim hw_3
theorem dL_ranges_0 : decode cL_ranges 0 = .ok (.aload_n 2, 1) := by decide +kernel
theorem dL_ranges_1 : decode cL_ranges 1 = .ok (.iconst 0, 1) := by decide +kernel
theorem dL_ranges_2 : decode cL_ranges 2 = .ok (.aload_n 0, 1) := by decide +kernel
theorem dL_ranges_3 : decode cL_ranges 3 = .ok (.iload_n 1, 1) := by decide +kernel
theorem dL_ranges_4 : decode cL_ranges 4 = .ok (.invokevirtual 47, 3) := by decide +kernel
set_option maxRecDepth 20000 in
theorem ggL_ranges_X8_ranges : GoodIn wsL_ranges wsX8_ranges := goodIn_ca (goodIn_r _ [6, 7, 8, 9, 10, 11, 5, 12, 13, 14, 15, 16, 17, 18, 19, 20, 21, 22, 23, 24, 25, 26, 27, 28, 29, 30, 31, 32, 33, 34, 35, 36, 37, 38, 39, 40, 41] rfl (by decide +kernel)) (goodIn_sub (fun _ h => List.mem_cons_of_mem _ (List.mem_append_right _ h)) (by decide +kernel))
set_option maxRecDepth 20000 in
theorem gL_ranges_X8_ranges : GoodIn wsL_ranges (wsV RL 47 RX8 yX8_ranges wsX8_ranges) := goodIn_app (goodIn_of _ (by decide +kernel)) ggL_ranges_X8_ranges
theorem dL_ranges_12 : decode cL_ranges 12 = .ok (.astore_n 3, 1) := by decide +kernel
theorem dL_ranges_13 : decode cL_ranges 13 = .ok (.iconst 1, 1) := by decide +kernel
theorem dL_ranges_14 : decode cL_ranges 14 = .ok (.ireturn, 1) := by decide +kernel
set_option maxHeartbeats 4000000 in
set_option maxRecDepth 100000 in
theorem l_ranges (l : Launch) (hfl : l.stackTraces = false) (g : xG) (sz : Nat) (h0 : Nat) (f0 : Value) (f1 : Value) (f3 : Value) (f4 : Value) (f5 : Value) (f6 : Value) (f7 : Value) (f8 : Value) (f9 : Value) (f10 : Value) (f11 : Value) (f12 : Value) (f13 : Value) (f14 : Value) (p0 : Int32) (out : Nat) (of : Nat → Int64)  : vx_Met l yL_ranges wsL_ranges ({ frames := 9, cells := 1, slots := 6, locals := 206 }) (va_Pc [.ref h0, .int p0, .ref out] (fun U => xB g [(h0, .inr (8, [f0, f1, .int 0, f3, f4, f5, f6, f7, f8, f9, f10, f11, f12, f13, f14])), (out, .inl (xJ g, 1, .inr (.inl of)))] sz U ∧ xU (va_A [(h0, .inr (8, [f0, f1, .int 0, f3, f4, f5, f6, f7, f8, f9, f10, f11, f12, f13, f14])), (out, .inl (xJ g, 1, .inr (.inl of)))] sz) U)) (va_Qi (fun (r : Int32) (u : Int64) => r = 1) (fun (u : Int64) (t : State) => ∃ (of1 : Nat → Int64), of1 0 = u ∧ xE g [(out, .inl (xJ g, 1, .inr (.inl of1)))] (va_A [(h0, .inr (8, [f0, f1, .int 0, f3, f4, f5, f6, f7, f8, f9, f10, f11, f12, f13, f14])), (out, .inl (xJ g, 1, .inr (.inl of)))] sz) t) (va_A [(h0, .inr (8, [f0, f1, .int 0, f3, f4, f5, f6, f7, f8, f9, f10, f11, f12, f13, f14])), (out, .inl (xJ g, 1, .inr (.inl of)))] sz)) (vx_X (fun _ : Unit => True) (fun E _ _ => False) (va_A [(h0, .inr (8, [f0, f1, .int 0, f3, f4, f5, f6, f7, f8, f9, f10, f11, f12, f13, f14])), (out, .inl (xJ g, 1, .inr (.inl of)))] sz)) 1 6 (va_A [(h0, .inr (8, [f0, f1, .int 0, f3, f4, f5, f6, f7, f8, f9, f10, f11, f12, f13, f14])), (out, .inl (xJ g, 1, .inr (.inl of)))] sz) := by
  refine vx_ofWH (hh := [(0, 9, 12, 28)]) (cc := cL_ranges) (maxL := 4) (ret := (some .int)) (by decide) rfl ?_
  intro p e s m args below meth c s₁ B hml hv
  obtain ⟨rfl, ⟨hsz, hP, hK, hD0⟩, hU⟩ := hv
  have hx := B.exec
  have hb := B.bytes
  have hr := B.returns
  have hts := atoms_spec (ws := wsL_ranges) B.pre
  have hown : s.vm.findClass RL = some m.cls := findClass_of_methodNamed B.named
  have hlocks := B.notSynchronized
  have htbl := vx_table (x := yL_ranges) B (hts (.codeWith yL_ranges cL_ranges 4 (some .int) [(0, 9, 12, 28)]) List.mem_cons_self)
  subst hsz
  have hD := hD0.self (sz := s.heap.size)
  generalize hAe : va_A [(h0, .inr (8, [f0, f1, .int 0, f3, f4, f5, f6, f7, f8, f9, f10, f11, f12, f13, f14])), (out, .inl (xJ g, 1, .inr (.inl of)))] s.heap.size = A at hD hU ⊢
  have hA : ∀ q : Nat, s.heap.size ≤ q → A q := fun q h => by rw [← hAe]; exact Or.inr h
  have hS : va_S A s.heap s.heap [] := va_S.rf
  have hl := lv_entry ([.ref h0, .int p0, .ref out]) (n := 4) (Nat.le_of_ble_eq_true rfl)
  rw [lg_entry_eq]
  generalize (lg_sl ([.ref h0, .int p0, .ref out]) ++ List.replicate (4 - (lg_sl ([.ref h0, .int p0, .ref out])).length) Slot.unset).toArray = ls at hl ⊢
  have hl : lv_has ls 4 [(0, .ref h0), (1, .int p0), (2, .ref out)] := hl
  refine lv_aload_n hx hb dL_ranges_0 rfl (lv_at hl 2 rfl) ?_
  refine lv_iconst (v := 0) hx hb dL_ranges_1 (by decide) ?_
  refine lv_aload_n hx hb dL_ranges_2 rfl (lv_at hl 0 rfl) ?_
  refine lv_iload_n hx hb dL_ranges_3 rfl (lv_at hl 1 rfl) ?_
  have hPc := hP.sub (ws' := [(h0, .inr (8, [f0, f1, .int 0, f3, f4, f5, f6, f7, f8, f9, f10, f11, f12, f13, f14]))]) [0] rfl
  have hDc := hD.sub (ws' := [(h0, .inr (8, [f0, f1, .int 0, f3, f4, f5, f6, f7, f8, f9, f10, f11, f12, f13, f14]))]) [0] (by decide) rfl
  have hFc := xFree hS hA
  refine vx_calli (vx_runV (As := [.int p0]) (rest := [.int 0, .ref out]) ⟨hx, hb, hml, hown, hts⟩ (x0_ranges l hfl g s.heap.size h0 f0 f1 f3 f4 f5 f6 f7 f8 f9 f10 f11 f12 f13 f14 p0) (cwV 1 hts gL_ranges_X8_ranges rfl rfl rfl (by decide +kernel) ⟨Nat.le_of_ble_eq_true rfl, Nat.le_of_ble_eq_true rfl⟩) ⟨xBU.blind, va_recv hK hPc (ci := 8) (q0 := 0) rfl rfl, fun U9 hU9 hW9 => ⟨rfl, xB.mk hPc hK hDc hU9 hW9, hU.call hS hFc hU9 hW9⟩⟩ rfl rfl hl.1 rfl (lv_room (Nat.le_of_ble_eq_true rfl)) dL_ranges_4 ⟨Nat.le_of_ble_eq_true rfl, Nat.le_of_ble_eq_true rfl⟩) hS (fun q _ h => hFc q h) hFc (fun q _ h => hFc q h) (fun E ce q9 ux t H1 locs1 ht hvm hpx hB hz1 hk1 hS hce hcv hcl => ?_) (fun r_1 u_2 t H1 locs ht hvm hw_3 hB hz1 hk1 hS => ?_)
  · obtain ⟨rfl, hB⟩ := hB
    have hP := xSame hP hk1
    refine vx_catch (name := "java/lang/IndexOutOfBoundsException") hown [] ({ startPc := 0, endPc := 9, handlerPc := 12, catchType := 28 } : ExceptionTableEntry) [] htbl (fun z hz => absurd hz List.not_mem_nil) rfl (by decide) (hts (.classLink RL 28 "java/lang/IndexOutOfBoundsException") (by decide +kernel)) (va_Nw.use rfl (hU.2.2.2.2.1 "java/lang/IndexOutOfBoundsException" (by decide))) hce hcv hcl ?_
    generalize H1 = H at hP hS ⊢
    generalize locs1 = locs at hS ⊢
    have hP : va_P (xD g) vwCl [(h0, .inr (8, [f0, f1, .int 0, f3, f4, f5, f6, f7, f8, f9, f10, f11, f12, f13, f14])), (out, .inl (xJ g, 1, .inr (.inl of)))] H := hP
    have hD : va_D A [(h0, .inr (8, [f0, f1, .int 0, f3, f4, f5, f6, f7, f8, f9, f10, f11, f12, f13, f14])), (out, .inl (xJ g, 1, .inr (.inl of)))] := hD
    refine W.widen (k := 1) (n := 6) (by omega) (by omega) ?_
    refine lv_astore_n (lv' := [(3, .ref q9), (0, .ref h0), (1, .int p0), (2, .ref out)]) hx hb dL_ranges_12 rfl hl (by decide) rfl (fun ls hl => ?_)
    refine lv_iconst (v := 1) hx hb dL_ranges_13 (by decide) ?_
    refine vx_ret ?_
    have hP9 := hP.sub (ws' := [(out, .inl (xJ g, 1, .inr (.inl of)))]) [1] rfl
    have hD9 := hD.sub (ws' := [(out, .inl (xJ g, 1, .inr (.inl of)))]) [1] (by decide) rfl
    exact W.iret (v := 1) hx hb hr (fun t ht hW => ⟨⟨1, (of 0), rfl, rfl, ⟨of, (by rfl), by rw [ht]; exact hP9, va_K.moved hW.alike hK, hD9⟩⟩, hS.F ht⟩) hS.2.2 dL_ranges_14
  · exact False.elim hw_3
theorem dL_firstBay_0 : decode cL_firstBay 0 = .ok (.aload_n 3, 1) := by decide +kernel
theorem dL_firstBay_1 : decode cL_firstBay 1 = .ok (.iconst 0, 1) := by decide +kernel
theorem dL_firstBay_2 : decode cL_firstBay 2 = .ok (.aload_n 0, 1) := by decide +kernel
theorem dL_firstBay_3 : decode cL_firstBay 3 = .ok (.iload_n 1, 1) := by decide +kernel
theorem dL_firstBay_4 : decode cL_firstBay 4 = .ok (.iload_n 2, 1) := by decide +kernel
theorem dL_firstBay_5 : decode cL_firstBay 5 = .ok (.invokevirtual 50, 3) := by decide +kernel
set_option maxRecDepth 20000 in
theorem ggL_firstBay_X8_firstBay : GoodIn wsL_firstBay wsX8_firstBay := goodIn_ca (goodIn_r _ [6, 7, 8, 9, 10, 11, 12, 13, 14, 5, 15, 16, 17, 18, 19, 20, 21, 22, 23, 24, 25, 26, 27, 28, 29, 30, 31, 32, 33, 34, 35, 36, 37, 38, 39, 40, 41, 42] rfl (by decide +kernel)) (goodIn_sub (fun _ h => List.mem_cons_of_mem _ (List.mem_append_right _ h)) (by decide +kernel))
set_option maxRecDepth 20000 in
theorem gL_firstBay_X8_firstBay : GoodIn wsL_firstBay (wsV RL 50 RX8 yX8_firstBay wsX8_firstBay) := goodIn_app (goodIn_of _ (by decide +kernel)) ggL_firstBay_X8_firstBay
theorem dL_firstBay_13 : decode cL_firstBay 13 = .ok (.astore 4, 2) := by decide +kernel
theorem dL_firstBay_15 : decode cL_firstBay 15 = .ok (.iconst 1, 1) := by decide +kernel
theorem dL_firstBay_16 : decode cL_firstBay 16 = .ok (.ireturn, 1) := by decide +kernel
set_option maxHeartbeats 4000000 in
set_option maxRecDepth 100000 in
theorem l_firstBay (l : Launch) (hfl : l.stackTraces = false) (g : xG) (sz : Nat) (h0 : Nat) (f0 : Value) (f1 : Value) (f3 : Value) (f4 : Value) (f5 : Value) (f6 : Value) (f7 : Value) (f8 : Value) (f9 : Value) (f10 : Value) (f11 : Value) (f12 : Value) (f13 : Value) (f14 : Value) (p0 : Int32) (p1 : Int32) (out : Nat) (of : Nat → Int64)  : vx_Met l yL_firstBay wsL_firstBay ({ frames := 9, cells := 1, slots := 6, locals := 207 }) (va_Pc [.ref h0, .int p0, .int p1, .ref out] (fun U => xB g [(h0, .inr (8, [f0, f1, .int 0, f3, f4, f5, f6, f7, f8, f9, f10, f11, f12, f13, f14])), (out, .inl (xJ g, 1, .inr (.inl of)))] sz U ∧ xU (va_A [(h0, .inr (8, [f0, f1, .int 0, f3, f4, f5, f6, f7, f8, f9, f10, f11, f12, f13, f14])), (out, .inl (xJ g, 1, .inr (.inl of)))] sz) U)) (va_Qi (fun (r : Int32) (u : Int64) => r = 1) (fun (u : Int64) (t : State) => ∃ (of1 : Nat → Int64), of1 0 = u ∧ xE g [(out, .inl (xJ g, 1, .inr (.inl of1)))] (va_A [(h0, .inr (8, [f0, f1, .int 0, f3, f4, f5, f6, f7, f8, f9, f10, f11, f12, f13, f14])), (out, .inl (xJ g, 1, .inr (.inl of)))] sz) t) (va_A [(h0, .inr (8, [f0, f1, .int 0, f3, f4, f5, f6, f7, f8, f9, f10, f11, f12, f13, f14])), (out, .inl (xJ g, 1, .inr (.inl of)))] sz)) (vx_X (fun _ : Unit => True) (fun E _ _ => False) (va_A [(h0, .inr (8, [f0, f1, .int 0, f3, f4, f5, f6, f7, f8, f9, f10, f11, f12, f13, f14])), (out, .inl (xJ g, 1, .inr (.inl of)))] sz)) 1 6 (va_A [(h0, .inr (8, [f0, f1, .int 0, f3, f4, f5, f6, f7, f8, f9, f10, f11, f12, f13, f14])), (out, .inl (xJ g, 1, .inr (.inl of)))] sz) := by
  refine vx_ofWH (hh := [(0, 10, 13, 28)]) (cc := cL_firstBay) (maxL := 5) (ret := (some .int)) (by decide) rfl ?_
  intro p e s m args below meth c s₁ B hml hv
  obtain ⟨rfl, ⟨hsz, hP, hK, hD0⟩, hU⟩ := hv
  have hx := B.exec
  have hb := B.bytes
  have hr := B.returns
  have hts := atoms_spec (ws := wsL_firstBay) B.pre
  have hown : s.vm.findClass RL = some m.cls := findClass_of_methodNamed B.named
  have hlocks := B.notSynchronized
  have htbl := vx_table (x := yL_firstBay) B (hts (.codeWith yL_firstBay cL_firstBay 5 (some .int) [(0, 10, 13, 28)]) List.mem_cons_self)
  subst hsz
  have hD := hD0.self (sz := s.heap.size)
  generalize hAe : va_A [(h0, .inr (8, [f0, f1, .int 0, f3, f4, f5, f6, f7, f8, f9, f10, f11, f12, f13, f14])), (out, .inl (xJ g, 1, .inr (.inl of)))] s.heap.size = A at hD hU ⊢
  have hA : ∀ q : Nat, s.heap.size ≤ q → A q := fun q h => by rw [← hAe]; exact Or.inr h
  have hS : va_S A s.heap s.heap [] := va_S.rf
  have hl := lv_entry ([.ref h0, .int p0, .int p1, .ref out]) (n := 5) (Nat.le_of_ble_eq_true rfl)
  rw [lg_entry_eq]
  generalize (lg_sl ([.ref h0, .int p0, .int p1, .ref out]) ++ List.replicate (5 - (lg_sl ([.ref h0, .int p0, .int p1, .ref out])).length) Slot.unset).toArray = ls at hl ⊢
  have hl : lv_has ls 5 [(0, .ref h0), (1, .int p0), (2, .int p1), (3, .ref out)] := hl
  refine lv_aload_n hx hb dL_firstBay_0 rfl (lv_at hl 3 rfl) ?_
  refine lv_iconst (v := 0) hx hb dL_firstBay_1 (by decide) ?_
  refine lv_aload_n hx hb dL_firstBay_2 rfl (lv_at hl 0 rfl) ?_
  refine lv_iload_n hx hb dL_firstBay_3 rfl (lv_at hl 1 rfl) ?_
  refine lv_iload_n hx hb dL_firstBay_4 rfl (lv_at hl 2 rfl) ?_
  have hPc := hP.sub (ws' := [(h0, .inr (8, [f0, f1, .int 0, f3, f4, f5, f6, f7, f8, f9, f10, f11, f12, f13, f14]))]) [0] rfl
  have hDc := hD.sub (ws' := [(h0, .inr (8, [f0, f1, .int 0, f3, f4, f5, f6, f7, f8, f9, f10, f11, f12, f13, f14]))]) [0] (by decide) rfl
  have hFc := xFree hS hA
  refine vx_calli (vx_runV (As := [.int p0, .int p1]) (rest := [.int 0, .ref out]) ⟨hx, hb, hml, hown, hts⟩ (x0_firstBay l hfl g s.heap.size h0 f0 f1 f3 f4 f5 f6 f7 f8 f9 f10 f11 f12 f13 f14 p0 p1) (cwV 2 hts gL_firstBay_X8_firstBay rfl rfl rfl (by decide +kernel) ⟨Nat.le_of_ble_eq_true rfl, Nat.le_of_ble_eq_true rfl⟩) ⟨xBU.blind, va_recv hK hPc (ci := 8) (q0 := 0) rfl rfl, fun U9 hU9 hW9 => ⟨rfl, xB.mk hPc hK hDc hU9 hW9, hU.call hS hFc hU9 hW9⟩⟩ rfl rfl hl.1 rfl (lv_room (Nat.le_of_ble_eq_true rfl)) dL_firstBay_5 ⟨Nat.le_of_ble_eq_true rfl, Nat.le_of_ble_eq_true rfl⟩) hS (fun q _ h => hFc q h) hFc (fun q _ h => hFc q h) (fun E ce q9 ux t H1 locs1 ht hvm hpx hB hz1 hk1 hS hce hcv hcl => ?_) (fun r_1 u_2 t H1 locs ht hvm hw_3 hB hz1 hk1 hS => ?_)
  · obtain ⟨rfl, hB⟩ := hB
    have hP := xSame hP hk1
    refine vx_catch (name := "java/lang/IndexOutOfBoundsException") hown [] ({ startPc := 0, endPc := 10, handlerPc := 13, catchType := 28 } : ExceptionTableEntry) [] htbl (fun z hz => absurd hz List.not_mem_nil) rfl (by decide) (hts (.classLink RL 28 "java/lang/IndexOutOfBoundsException") (by decide +kernel)) (va_Nw.use rfl (hU.2.2.2.2.1 "java/lang/IndexOutOfBoundsException" (by decide))) hce hcv hcl ?_
    generalize H1 = H at hP hS ⊢
    generalize locs1 = locs at hS ⊢
    have hP : va_P (xD g) vwCl [(h0, .inr (8, [f0, f1, .int 0, f3, f4, f5, f6, f7, f8, f9, f10, f11, f12, f13, f14])), (out, .inl (xJ g, 1, .inr (.inl of)))] H := hP
    have hD : va_D A [(h0, .inr (8, [f0, f1, .int 0, f3, f4, f5, f6, f7, f8, f9, f10, f11, f12, f13, f14])), (out, .inl (xJ g, 1, .inr (.inl of)))] := hD
    refine W.widen (k := 1) (n := 6) (by omega) (by omega) ?_
    refine lv_astore (lv' := [(4, .ref q9), (0, .ref h0), (1, .int p0), (2, .int p1), (3, .ref out)]) hx hb dL_firstBay_13 hl (by decide) rfl (fun ls hl => ?_)
    refine lv_iconst (v := 1) hx hb dL_firstBay_15 (by decide) ?_
    refine vx_ret ?_
    have hP9 := hP.sub (ws' := [(out, .inl (xJ g, 1, .inr (.inl of)))]) [1] rfl
    have hD9 := hD.sub (ws' := [(out, .inl (xJ g, 1, .inr (.inl of)))]) [1] (by decide) rfl
    exact W.iret (v := 1) hx hb hr (fun t ht hW => ⟨⟨1, (of 0), rfl, rfl, ⟨of, (by rfl), by rw [ht]; exact hP9, va_K.moved hW.alike hK, hD9⟩⟩, hS.F ht⟩) hS.2.2 dL_firstBay_16
  · exact False.elim hw_3
theorem dL_load_0 : decode cL_load 0 = .ok (.aload_n 2, 1) := by decide +kernel
theorem dL_load_1 : decode cL_load 1 = .ok (.iconst 0, 1) := by decide +kernel
theorem dL_load_2 : decode cL_load 2 = .ok (.aload_n 0, 1) := by decide +kernel
theorem dL_load_3 : decode cL_load 3 = .ok (.iload_n 1, 1) := by decide +kernel
theorem dL_load_4 : decode cL_load 4 = .ok (.invokevirtual 53, 3) := by decide +kernel
set_option maxRecDepth 20000 in
theorem ggL_load_X8_load : GoodIn wsL_load wsX8_load := goodIn_ca (goodIn_r _ [6, 7, 8, 9, 10, 11, 5, 12, 13, 14, 15, 16, 17, 18, 19, 20, 21, 22, 23, 24, 25, 26, 27, 28, 29, 30, 31, 32, 33, 34, 35, 36, 37, 38, 39, 40, 41] rfl (by decide +kernel)) (goodIn_sub (fun _ h => List.mem_cons_of_mem _ (List.mem_append_right _ h)) (by decide +kernel))
set_option maxRecDepth 20000 in
theorem gL_load_X8_load : GoodIn wsL_load (wsV RL 53 RX8 yX8_load wsX8_load) := goodIn_app (goodIn_of _ (by decide +kernel)) ggL_load_X8_load
theorem dL_load_12 : decode cL_load 12 = .ok (.astore_n 3, 1) := by decide +kernel
theorem dL_load_13 : decode cL_load 13 = .ok (.iconst 1, 1) := by decide +kernel
theorem dL_load_14 : decode cL_load 14 = .ok (.ireturn, 1) := by decide +kernel
set_option maxHeartbeats 4000000 in
set_option maxRecDepth 100000 in
theorem l_load (l : Launch) (hfl : l.stackTraces = false) (g : xG) (sz : Nat) (h0 : Nat) (f0 : Value) (f1 : Value) (f3 : Value) (f4 : Value) (f5 : Value) (f6 : Value) (f7 : Value) (f8 : Value) (f9 : Value) (f10 : Value) (f11 : Value) (f12 : Value) (f13 : Value) (f14 : Value) (p0 : Int32) (out : Nat) (of : Nat → Int64)  : vx_Met l yL_load wsL_load ({ frames := 9, cells := 1, slots := 6, locals := 206 }) (va_Pc [.ref h0, .int p0, .ref out] (fun U => xB g [(h0, .inr (8, [f0, f1, .int 0, f3, f4, f5, f6, f7, f8, f9, f10, f11, f12, f13, f14])), (out, .inl (xJ g, 1, .inr (.inl of)))] sz U ∧ xU (va_A [(h0, .inr (8, [f0, f1, .int 0, f3, f4, f5, f6, f7, f8, f9, f10, f11, f12, f13, f14])), (out, .inl (xJ g, 1, .inr (.inl of)))] sz) U)) (va_Qi (fun (r : Int32) (u : Int64) => r = 1) (fun (u : Int64) (t : State) => ∃ (of1 : Nat → Int64), of1 0 = u ∧ xE g [(out, .inl (xJ g, 1, .inr (.inl of1)))] (va_A [(h0, .inr (8, [f0, f1, .int 0, f3, f4, f5, f6, f7, f8, f9, f10, f11, f12, f13, f14])), (out, .inl (xJ g, 1, .inr (.inl of)))] sz) t) (va_A [(h0, .inr (8, [f0, f1, .int 0, f3, f4, f5, f6, f7, f8, f9, f10, f11, f12, f13, f14])), (out, .inl (xJ g, 1, .inr (.inl of)))] sz)) (vx_X (fun _ : Unit => True) (fun E _ _ => False) (va_A [(h0, .inr (8, [f0, f1, .int 0, f3, f4, f5, f6, f7, f8, f9, f10, f11, f12, f13, f14])), (out, .inl (xJ g, 1, .inr (.inl of)))] sz)) 1 6 (va_A [(h0, .inr (8, [f0, f1, .int 0, f3, f4, f5, f6, f7, f8, f9, f10, f11, f12, f13, f14])), (out, .inl (xJ g, 1, .inr (.inl of)))] sz) := by
  refine vx_ofWH (hh := [(0, 9, 12, 28)]) (cc := cL_load) (maxL := 4) (ret := (some .int)) (by decide) rfl ?_
  intro p e s m args below meth c s₁ B hml hv
  obtain ⟨rfl, ⟨hsz, hP, hK, hD0⟩, hU⟩ := hv
  have hx := B.exec
  have hb := B.bytes
  have hr := B.returns
  have hts := atoms_spec (ws := wsL_load) B.pre
  have hown : s.vm.findClass RL = some m.cls := findClass_of_methodNamed B.named
  have hlocks := B.notSynchronized
  have htbl := vx_table (x := yL_load) B (hts (.codeWith yL_load cL_load 4 (some .int) [(0, 9, 12, 28)]) List.mem_cons_self)
  subst hsz
  have hD := hD0.self (sz := s.heap.size)
  generalize hAe : va_A [(h0, .inr (8, [f0, f1, .int 0, f3, f4, f5, f6, f7, f8, f9, f10, f11, f12, f13, f14])), (out, .inl (xJ g, 1, .inr (.inl of)))] s.heap.size = A at hD hU ⊢
  have hA : ∀ q : Nat, s.heap.size ≤ q → A q := fun q h => by rw [← hAe]; exact Or.inr h
  have hS : va_S A s.heap s.heap [] := va_S.rf
  have hl := lv_entry ([.ref h0, .int p0, .ref out]) (n := 4) (Nat.le_of_ble_eq_true rfl)
  rw [lg_entry_eq]
  generalize (lg_sl ([.ref h0, .int p0, .ref out]) ++ List.replicate (4 - (lg_sl ([.ref h0, .int p0, .ref out])).length) Slot.unset).toArray = ls at hl ⊢
  have hl : lv_has ls 4 [(0, .ref h0), (1, .int p0), (2, .ref out)] := hl
  refine lv_aload_n hx hb dL_load_0 rfl (lv_at hl 2 rfl) ?_
  refine lv_iconst (v := 0) hx hb dL_load_1 (by decide) ?_
  refine lv_aload_n hx hb dL_load_2 rfl (lv_at hl 0 rfl) ?_
  refine lv_iload_n hx hb dL_load_3 rfl (lv_at hl 1 rfl) ?_
  have hPc := hP.sub (ws' := [(h0, .inr (8, [f0, f1, .int 0, f3, f4, f5, f6, f7, f8, f9, f10, f11, f12, f13, f14]))]) [0] rfl
  have hDc := hD.sub (ws' := [(h0, .inr (8, [f0, f1, .int 0, f3, f4, f5, f6, f7, f8, f9, f10, f11, f12, f13, f14]))]) [0] (by decide) rfl
  have hFc := xFree hS hA
  refine vx_calli (vx_runV (As := [.int p0]) (rest := [.int 0, .ref out]) ⟨hx, hb, hml, hown, hts⟩ (x0_load l hfl g s.heap.size h0 f0 f1 f3 f4 f5 f6 f7 f8 f9 f10 f11 f12 f13 f14 p0) (cwV 1 hts gL_load_X8_load rfl rfl rfl (by decide +kernel) ⟨Nat.le_of_ble_eq_true rfl, Nat.le_of_ble_eq_true rfl⟩) ⟨xBU.blind, va_recv hK hPc (ci := 8) (q0 := 0) rfl rfl, fun U9 hU9 hW9 => ⟨rfl, xB.mk hPc hK hDc hU9 hW9, hU.call hS hFc hU9 hW9⟩⟩ rfl rfl hl.1 rfl (lv_room (Nat.le_of_ble_eq_true rfl)) dL_load_4 ⟨Nat.le_of_ble_eq_true rfl, Nat.le_of_ble_eq_true rfl⟩) hS (fun q _ h => hFc q h) hFc (fun q _ h => hFc q h) (fun E ce q9 ux t H1 locs1 ht hvm hpx hB hz1 hk1 hS hce hcv hcl => ?_) (fun r_1 u_2 t H1 locs ht hvm hw_3 hB hz1 hk1 hS => ?_)
  · obtain ⟨rfl, hB⟩ := hB
    have hP := xSame hP hk1
    refine vx_catch (name := "java/lang/IndexOutOfBoundsException") hown [] ({ startPc := 0, endPc := 9, handlerPc := 12, catchType := 28 } : ExceptionTableEntry) [] htbl (fun z hz => absurd hz List.not_mem_nil) rfl (by decide) (hts (.classLink RL 28 "java/lang/IndexOutOfBoundsException") (by decide +kernel)) (va_Nw.use rfl (hU.2.2.2.2.1 "java/lang/IndexOutOfBoundsException" (by decide))) hce hcv hcl ?_
    generalize H1 = H at hP hS ⊢
    generalize locs1 = locs at hS ⊢
    have hP : va_P (xD g) vwCl [(h0, .inr (8, [f0, f1, .int 0, f3, f4, f5, f6, f7, f8, f9, f10, f11, f12, f13, f14])), (out, .inl (xJ g, 1, .inr (.inl of)))] H := hP
    have hD : va_D A [(h0, .inr (8, [f0, f1, .int 0, f3, f4, f5, f6, f7, f8, f9, f10, f11, f12, f13, f14])), (out, .inl (xJ g, 1, .inr (.inl of)))] := hD
    refine W.widen (k := 1) (n := 6) (by omega) (by omega) ?_
    refine lv_astore_n (lv' := [(3, .ref q9), (0, .ref h0), (1, .int p0), (2, .ref out)]) hx hb dL_load_12 rfl hl (by decide) rfl (fun ls hl => ?_)
    refine lv_iconst (v := 1) hx hb dL_load_13 (by decide) ?_
    refine vx_ret ?_
    have hP9 := hP.sub (ws' := [(out, .inl (xJ g, 1, .inr (.inl of)))]) [1] rfl
    have hD9 := hD.sub (ws' := [(out, .inl (xJ g, 1, .inr (.inl of)))]) [1] (by decide) rfl
    exact W.iret (v := 1) hx hb hr (fun t ht hW => ⟨⟨1, (of 0), rfl, rfl, ⟨of, (by rfl), by rw [ht]; exact hP9, va_K.moved hW.alike hK, hD9⟩⟩, hS.F ht⟩) hS.2.2 dL_load_14
  · exact False.elim hw_3
theorem dL_handling_0 : decode cL_handling 0 = .ok (.aload_n 2, 1) := by decide +kernel
theorem dL_handling_1 : decode cL_handling 1 = .ok (.iconst 0, 1) := by decide +kernel
theorem dL_handling_2 : decode cL_handling 2 = .ok (.aload_n 0, 1) := by decide +kernel
theorem dL_handling_3 : decode cL_handling 3 = .ok (.iload_n 1, 1) := by decide +kernel
theorem dL_handling_4 : decode cL_handling 4 = .ok (.invokevirtual 62, 3) := by decide +kernel
set_option maxRecDepth 20000 in
theorem ggL_handling_X8_handling : GoodIn wsL_handling wsX8_handling := goodIn_ca (goodIn_r _ [6, 7, 8, 9, 10, 11, 5, 12, 13, 14, 15, 16, 17, 18, 19, 20, 21, 22, 23, 24, 25, 26, 27, 28, 29, 30, 31, 32, 33, 34, 35, 36, 37, 38, 39, 40, 41] rfl (by decide +kernel)) (goodIn_sub (fun _ h => List.mem_cons_of_mem _ (List.mem_append_right _ h)) (by decide +kernel))
set_option maxRecDepth 20000 in
theorem gL_handling_X8_handling : GoodIn wsL_handling (wsV RL 62 RX8 yX8_handling wsX8_handling) := goodIn_app (goodIn_of _ (by decide +kernel)) ggL_handling_X8_handling
theorem dL_handling_12 : decode cL_handling 12 = .ok (.astore_n 3, 1) := by decide +kernel
theorem dL_handling_13 : decode cL_handling 13 = .ok (.iconst 1, 1) := by decide +kernel
theorem dL_handling_14 : decode cL_handling 14 = .ok (.ireturn, 1) := by decide +kernel
set_option maxHeartbeats 4000000 in
set_option maxRecDepth 100000 in
theorem l_handling (l : Launch) (hfl : l.stackTraces = false) (g : xG) (sz : Nat) (h0 : Nat) (f0 : Value) (f1 : Value) (f3 : Value) (f4 : Value) (f5 : Value) (f6 : Value) (f7 : Value) (f8 : Value) (f9 : Value) (f10 : Value) (f11 : Value) (f12 : Value) (f13 : Value) (f14 : Value) (p0 : Int32) (out : Nat) (of : Nat → Int64)  : vx_Met l yL_handling wsL_handling ({ frames := 9, cells := 1, slots := 6, locals := 206 }) (va_Pc [.ref h0, .int p0, .ref out] (fun U => xB g [(h0, .inr (8, [f0, f1, .int 0, f3, f4, f5, f6, f7, f8, f9, f10, f11, f12, f13, f14])), (out, .inl (xJ g, 1, .inr (.inl of)))] sz U ∧ xU (va_A [(h0, .inr (8, [f0, f1, .int 0, f3, f4, f5, f6, f7, f8, f9, f10, f11, f12, f13, f14])), (out, .inl (xJ g, 1, .inr (.inl of)))] sz) U)) (va_Qi (fun (r : Int32) (u : Int64) => r = 1) (fun (u : Int64) (t : State) => ∃ (of1 : Nat → Int64), of1 0 = u ∧ xE g [(out, .inl (xJ g, 1, .inr (.inl of1)))] (va_A [(h0, .inr (8, [f0, f1, .int 0, f3, f4, f5, f6, f7, f8, f9, f10, f11, f12, f13, f14])), (out, .inl (xJ g, 1, .inr (.inl of)))] sz) t) (va_A [(h0, .inr (8, [f0, f1, .int 0, f3, f4, f5, f6, f7, f8, f9, f10, f11, f12, f13, f14])), (out, .inl (xJ g, 1, .inr (.inl of)))] sz)) (vx_X (fun _ : Unit => True) (fun E _ _ => False) (va_A [(h0, .inr (8, [f0, f1, .int 0, f3, f4, f5, f6, f7, f8, f9, f10, f11, f12, f13, f14])), (out, .inl (xJ g, 1, .inr (.inl of)))] sz)) 1 6 (va_A [(h0, .inr (8, [f0, f1, .int 0, f3, f4, f5, f6, f7, f8, f9, f10, f11, f12, f13, f14])), (out, .inl (xJ g, 1, .inr (.inl of)))] sz) := by
  refine vx_ofWH (hh := [(0, 9, 12, 28)]) (cc := cL_handling) (maxL := 4) (ret := (some .int)) (by decide) rfl ?_
  intro p e s m args below meth c s₁ B hml hv
  obtain ⟨rfl, ⟨hsz, hP, hK, hD0⟩, hU⟩ := hv
  have hx := B.exec
  have hb := B.bytes
  have hr := B.returns
  have hts := atoms_spec (ws := wsL_handling) B.pre
  have hown : s.vm.findClass RL = some m.cls := findClass_of_methodNamed B.named
  have hlocks := B.notSynchronized
  have htbl := vx_table (x := yL_handling) B (hts (.codeWith yL_handling cL_handling 4 (some .int) [(0, 9, 12, 28)]) List.mem_cons_self)
  subst hsz
  have hD := hD0.self (sz := s.heap.size)
  generalize hAe : va_A [(h0, .inr (8, [f0, f1, .int 0, f3, f4, f5, f6, f7, f8, f9, f10, f11, f12, f13, f14])), (out, .inl (xJ g, 1, .inr (.inl of)))] s.heap.size = A at hD hU ⊢
  have hA : ∀ q : Nat, s.heap.size ≤ q → A q := fun q h => by rw [← hAe]; exact Or.inr h
  have hS : va_S A s.heap s.heap [] := va_S.rf
  have hl := lv_entry ([.ref h0, .int p0, .ref out]) (n := 4) (Nat.le_of_ble_eq_true rfl)
  rw [lg_entry_eq]
  generalize (lg_sl ([.ref h0, .int p0, .ref out]) ++ List.replicate (4 - (lg_sl ([.ref h0, .int p0, .ref out])).length) Slot.unset).toArray = ls at hl ⊢
  have hl : lv_has ls 4 [(0, .ref h0), (1, .int p0), (2, .ref out)] := hl
  refine lv_aload_n hx hb dL_handling_0 rfl (lv_at hl 2 rfl) ?_
  refine lv_iconst (v := 0) hx hb dL_handling_1 (by decide) ?_
  refine lv_aload_n hx hb dL_handling_2 rfl (lv_at hl 0 rfl) ?_
  refine lv_iload_n hx hb dL_handling_3 rfl (lv_at hl 1 rfl) ?_
  have hPc := hP.sub (ws' := [(h0, .inr (8, [f0, f1, .int 0, f3, f4, f5, f6, f7, f8, f9, f10, f11, f12, f13, f14]))]) [0] rfl
  have hDc := hD.sub (ws' := [(h0, .inr (8, [f0, f1, .int 0, f3, f4, f5, f6, f7, f8, f9, f10, f11, f12, f13, f14]))]) [0] (by decide) rfl
  have hFc := xFree hS hA
  refine vx_calli (vx_runV (As := [.int p0]) (rest := [.int 0, .ref out]) ⟨hx, hb, hml, hown, hts⟩ (x0_handling l hfl g s.heap.size h0 f0 f1 f3 f4 f5 f6 f7 f8 f9 f10 f11 f12 f13 f14 p0) (cwV 1 hts gL_handling_X8_handling rfl rfl rfl (by decide +kernel) ⟨Nat.le_of_ble_eq_true rfl, Nat.le_of_ble_eq_true rfl⟩) ⟨xBU.blind, va_recv hK hPc (ci := 8) (q0 := 0) rfl rfl, fun U9 hU9 hW9 => ⟨rfl, xB.mk hPc hK hDc hU9 hW9, hU.call hS hFc hU9 hW9⟩⟩ rfl rfl hl.1 rfl (lv_room (Nat.le_of_ble_eq_true rfl)) dL_handling_4 ⟨Nat.le_of_ble_eq_true rfl, Nat.le_of_ble_eq_true rfl⟩) hS (fun q _ h => hFc q h) hFc (fun q _ h => hFc q h) (fun E ce q9 ux t H1 locs1 ht hvm hpx hB hz1 hk1 hS hce hcv hcl => ?_) (fun r_1 u_2 t H1 locs ht hvm hw_3 hB hz1 hk1 hS => ?_)
  · obtain ⟨rfl, hB⟩ := hB
    have hP := xSame hP hk1
    refine vx_catch (name := "java/lang/IndexOutOfBoundsException") hown [] ({ startPc := 0, endPc := 9, handlerPc := 12, catchType := 28 } : ExceptionTableEntry) [] htbl (fun z hz => absurd hz List.not_mem_nil) rfl (by decide) (hts (.classLink RL 28 "java/lang/IndexOutOfBoundsException") (by decide +kernel)) (va_Nw.use rfl (hU.2.2.2.2.1 "java/lang/IndexOutOfBoundsException" (by decide))) hce hcv hcl ?_
    generalize H1 = H at hP hS ⊢
    generalize locs1 = locs at hS ⊢
    have hP : va_P (xD g) vwCl [(h0, .inr (8, [f0, f1, .int 0, f3, f4, f5, f6, f7, f8, f9, f10, f11, f12, f13, f14])), (out, .inl (xJ g, 1, .inr (.inl of)))] H := hP
    have hD : va_D A [(h0, .inr (8, [f0, f1, .int 0, f3, f4, f5, f6, f7, f8, f9, f10, f11, f12, f13, f14])), (out, .inl (xJ g, 1, .inr (.inl of)))] := hD
    refine W.widen (k := 1) (n := 6) (by omega) (by omega) ?_
    refine lv_astore_n (lv' := [(3, .ref q9), (0, .ref h0), (1, .int p0), (2, .ref out)]) hx hb dL_handling_12 rfl hl (by decide) rfl (fun ls hl => ?_)
    refine lv_iconst (v := 1) hx hb dL_handling_13 (by decide) ?_
    refine vx_ret ?_
    have hP9 := hP.sub (ws' := [(out, .inl (xJ g, 1, .inr (.inl of)))]) [1] rfl
    have hD9 := hD.sub (ws' := [(out, .inl (xJ g, 1, .inr (.inl of)))]) [1] (by decide) rfl
    exact W.iret (v := 1) hx hb hr (fun t ht hW => ⟨⟨1, (of 0), rfl, rfl, ⟨of, (by rfl), by rw [ht]; exact hP9, va_K.moved hW.alike hK, hD9⟩⟩, hS.F ht⟩) hS.2.2 dL_handling_14
  · exact False.elim hw_3
theorem dL_waits_0 : decode cL_waits 0 = .ok (.aload_n 2, 1) := by decide +kernel
theorem dL_waits_1 : decode cL_waits 1 = .ok (.iconst 0, 1) := by decide +kernel
theorem dL_waits_2 : decode cL_waits 2 = .ok (.aload_n 0, 1) := by decide +kernel
theorem dL_waits_3 : decode cL_waits 3 = .ok (.iload_n 1, 1) := by decide +kernel
theorem dL_waits_4 : decode cL_waits 4 = .ok (.invokevirtual 65, 3) := by decide +kernel
set_option maxRecDepth 20000 in
theorem ggL_waits_X8_waits : GoodIn wsL_waits wsX8_waits := goodIn_ca (goodIn_r _ [6, 7, 8, 9, 10, 11, 5, 12, 13, 14, 15, 16, 17, 18, 19, 20, 21, 22, 23, 24, 25, 26, 27, 28, 29, 30, 31, 32, 33, 34, 35, 36, 37, 38, 39, 40, 41] rfl (by decide +kernel)) (goodIn_sub (fun _ h => List.mem_cons_of_mem _ (List.mem_append_right _ h)) (by decide +kernel))
set_option maxRecDepth 20000 in
theorem gL_waits_X8_waits : GoodIn wsL_waits (wsV RL 65 RX8 yX8_waits wsX8_waits) := goodIn_app (goodIn_of _ (by decide +kernel)) ggL_waits_X8_waits
theorem dL_waits_12 : decode cL_waits 12 = .ok (.astore_n 3, 1) := by decide +kernel
theorem dL_waits_13 : decode cL_waits 13 = .ok (.iconst 1, 1) := by decide +kernel
theorem dL_waits_14 : decode cL_waits 14 = .ok (.ireturn, 1) := by decide +kernel
set_option maxHeartbeats 4000000 in
set_option maxRecDepth 100000 in
theorem l_waits (l : Launch) (hfl : l.stackTraces = false) (g : xG) (sz : Nat) (h0 : Nat) (f0 : Value) (f1 : Value) (f3 : Value) (f4 : Value) (f5 : Value) (f6 : Value) (f7 : Value) (f8 : Value) (f9 : Value) (f10 : Value) (f11 : Value) (f12 : Value) (f13 : Value) (f14 : Value) (p0 : Int32) (out : Nat) (of : Nat → Int64)  : vx_Met l yL_waits wsL_waits ({ frames := 9, cells := 1, slots := 6, locals := 206 }) (va_Pc [.ref h0, .int p0, .ref out] (fun U => xB g [(h0, .inr (8, [f0, f1, .int 0, f3, f4, f5, f6, f7, f8, f9, f10, f11, f12, f13, f14])), (out, .inl (xJ g, 1, .inr (.inl of)))] sz U ∧ xU (va_A [(h0, .inr (8, [f0, f1, .int 0, f3, f4, f5, f6, f7, f8, f9, f10, f11, f12, f13, f14])), (out, .inl (xJ g, 1, .inr (.inl of)))] sz) U)) (va_Qi (fun (r : Int32) (u : Int64) => r = 1) (fun (u : Int64) (t : State) => ∃ (of1 : Nat → Int64), of1 0 = u ∧ xE g [(out, .inl (xJ g, 1, .inr (.inl of1)))] (va_A [(h0, .inr (8, [f0, f1, .int 0, f3, f4, f5, f6, f7, f8, f9, f10, f11, f12, f13, f14])), (out, .inl (xJ g, 1, .inr (.inl of)))] sz) t) (va_A [(h0, .inr (8, [f0, f1, .int 0, f3, f4, f5, f6, f7, f8, f9, f10, f11, f12, f13, f14])), (out, .inl (xJ g, 1, .inr (.inl of)))] sz)) (vx_X (fun _ : Unit => True) (fun E _ _ => False) (va_A [(h0, .inr (8, [f0, f1, .int 0, f3, f4, f5, f6, f7, f8, f9, f10, f11, f12, f13, f14])), (out, .inl (xJ g, 1, .inr (.inl of)))] sz)) 1 6 (va_A [(h0, .inr (8, [f0, f1, .int 0, f3, f4, f5, f6, f7, f8, f9, f10, f11, f12, f13, f14])), (out, .inl (xJ g, 1, .inr (.inl of)))] sz) := by
  refine vx_ofWH (hh := [(0, 9, 12, 28)]) (cc := cL_waits) (maxL := 4) (ret := (some .int)) (by decide) rfl ?_
  intro p e s m args below meth c s₁ B hml hv
  obtain ⟨rfl, ⟨hsz, hP, hK, hD0⟩, hU⟩ := hv
  have hx := B.exec
  have hb := B.bytes
  have hr := B.returns
  have hts := atoms_spec (ws := wsL_waits) B.pre
  have hown : s.vm.findClass RL = some m.cls := findClass_of_methodNamed B.named
  have hlocks := B.notSynchronized
  have htbl := vx_table (x := yL_waits) B (hts (.codeWith yL_waits cL_waits 4 (some .int) [(0, 9, 12, 28)]) List.mem_cons_self)
  subst hsz
  have hD := hD0.self (sz := s.heap.size)
  generalize hAe : va_A [(h0, .inr (8, [f0, f1, .int 0, f3, f4, f5, f6, f7, f8, f9, f10, f11, f12, f13, f14])), (out, .inl (xJ g, 1, .inr (.inl of)))] s.heap.size = A at hD hU ⊢
  have hA : ∀ q : Nat, s.heap.size ≤ q → A q := fun q h => by rw [← hAe]; exact Or.inr h
  have hS : va_S A s.heap s.heap [] := va_S.rf
  have hl := lv_entry ([.ref h0, .int p0, .ref out]) (n := 4) (Nat.le_of_ble_eq_true rfl)
  rw [lg_entry_eq]
  generalize (lg_sl ([.ref h0, .int p0, .ref out]) ++ List.replicate (4 - (lg_sl ([.ref h0, .int p0, .ref out])).length) Slot.unset).toArray = ls at hl ⊢
  have hl : lv_has ls 4 [(0, .ref h0), (1, .int p0), (2, .ref out)] := hl
  refine lv_aload_n hx hb dL_waits_0 rfl (lv_at hl 2 rfl) ?_
  refine lv_iconst (v := 0) hx hb dL_waits_1 (by decide) ?_
  refine lv_aload_n hx hb dL_waits_2 rfl (lv_at hl 0 rfl) ?_
  refine lv_iload_n hx hb dL_waits_3 rfl (lv_at hl 1 rfl) ?_
  have hPc := hP.sub (ws' := [(h0, .inr (8, [f0, f1, .int 0, f3, f4, f5, f6, f7, f8, f9, f10, f11, f12, f13, f14]))]) [0] rfl
  have hDc := hD.sub (ws' := [(h0, .inr (8, [f0, f1, .int 0, f3, f4, f5, f6, f7, f8, f9, f10, f11, f12, f13, f14]))]) [0] (by decide) rfl
  have hFc := xFree hS hA
  refine vx_calli (vx_runV (As := [.int p0]) (rest := [.int 0, .ref out]) ⟨hx, hb, hml, hown, hts⟩ (x0_waits l hfl g s.heap.size h0 f0 f1 f3 f4 f5 f6 f7 f8 f9 f10 f11 f12 f13 f14 p0) (cwV 1 hts gL_waits_X8_waits rfl rfl rfl (by decide +kernel) ⟨Nat.le_of_ble_eq_true rfl, Nat.le_of_ble_eq_true rfl⟩) ⟨xBU.blind, va_recv hK hPc (ci := 8) (q0 := 0) rfl rfl, fun U9 hU9 hW9 => ⟨rfl, xB.mk hPc hK hDc hU9 hW9, hU.call hS hFc hU9 hW9⟩⟩ rfl rfl hl.1 rfl (lv_room (Nat.le_of_ble_eq_true rfl)) dL_waits_4 ⟨Nat.le_of_ble_eq_true rfl, Nat.le_of_ble_eq_true rfl⟩) hS (fun q _ h => hFc q h) hFc (fun q _ h => hFc q h) (fun E ce q9 ux t H1 locs1 ht hvm hpx hB hz1 hk1 hS hce hcv hcl => ?_) (fun r_1 u_2 t H1 locs ht hvm hw_3 hB hz1 hk1 hS => ?_)
  · obtain ⟨rfl, hB⟩ := hB
    have hP := xSame hP hk1
    refine vx_catch (name := "java/lang/IndexOutOfBoundsException") hown [] ({ startPc := 0, endPc := 9, handlerPc := 12, catchType := 28 } : ExceptionTableEntry) [] htbl (fun z hz => absurd hz List.not_mem_nil) rfl (by decide) (hts (.classLink RL 28 "java/lang/IndexOutOfBoundsException") (by decide +kernel)) (va_Nw.use rfl (hU.2.2.2.2.1 "java/lang/IndexOutOfBoundsException" (by decide))) hce hcv hcl ?_
    generalize H1 = H at hP hS ⊢
    generalize locs1 = locs at hS ⊢
    have hP : va_P (xD g) vwCl [(h0, .inr (8, [f0, f1, .int 0, f3, f4, f5, f6, f7, f8, f9, f10, f11, f12, f13, f14])), (out, .inl (xJ g, 1, .inr (.inl of)))] H := hP
    have hD : va_D A [(h0, .inr (8, [f0, f1, .int 0, f3, f4, f5, f6, f7, f8, f9, f10, f11, f12, f13, f14])), (out, .inl (xJ g, 1, .inr (.inl of)))] := hD
    refine W.widen (k := 1) (n := 6) (by omega) (by omega) ?_
    refine lv_astore_n (lv' := [(3, .ref q9), (0, .ref h0), (1, .int p0), (2, .ref out)]) hx hb dL_waits_12 rfl hl (by decide) rfl (fun ls hl => ?_)
    refine lv_iconst (v := 1) hx hb dL_waits_13 (by decide) ?_
    refine vx_ret ?_
    have hP9 := hP.sub (ws' := [(out, .inl (xJ g, 1, .inr (.inl of)))]) [1] rfl
    have hD9 := hD.sub (ws' := [(out, .inl (xJ g, 1, .inr (.inl of)))]) [1] (by decide) rfl
    exact W.iret (v := 1) hx hb hr (fun t ht hW => ⟨⟨1, (of 0), rfl, rfl, ⟨of, (by rfl), by rw [ht]; exact hP9, va_K.moved hW.alike hK, hD9⟩⟩, hS.F ht⟩) hS.2.2 dL_waits_14
  · exact False.elim hw_3
theorem dL_delayIf_0 : decode cL_delayIf 0 = .ok (.aload_n 3, 1) := by decide +kernel
theorem dL_delayIf_1 : decode cL_delayIf 1 = .ok (.iconst 0, 1) := by decide +kernel
theorem dL_delayIf_2 : decode cL_delayIf 2 = .ok (.aload_n 0, 1) := by decide +kernel
theorem dL_delayIf_3 : decode cL_delayIf 3 = .ok (.iload_n 1, 1) := by decide +kernel
theorem dL_delayIf_4 : decode cL_delayIf 4 = .ok (.iload_n 2, 1) := by decide +kernel
theorem dL_delayIf_5 : decode cL_delayIf 5 = .ok (.invokevirtual 90, 3) := by decide +kernel
set_option maxRecDepth 20000 in
theorem ggL_delayIf_X8_delayIf : GoodIn wsL_delayIf wsX8_delayIf := goodIn_ca (goodIn_ca (goodIn_r _ [7, 8, 9, 10, 11, 12, 13, 14, 15, 16, 6, 17, 18, 19, 20, 21, 22, 23, 24, 25, 26, 27, 28, 29, 30, 31, 32, 33, 34, 35, 36, 37, 38, 39, 40, 41, 42, 43, 44, 45, 46, 47, 48, 49, 50, 51, 52, 53, 54, 55, 56, 57, 58, 59, 60, 61, 62, 63, 64, 65, 66, 67, 68, 69, 70, 71, 72, 73, 74, 75, 76, 77, 78, 79, 80, 81, 82, 83, 84, 85, 86, 87, 88, 89, 90, 91, 92, 93, 94, 95, 96, 97, 98, 99, 100, 101, 102, 103, 104, 105, 106, 107, 108, 109, 110, 111, 112, 113, 114, 115, 116, 117, 118, 119, 120, 121, 122, 123, 124, 125, 126, 127, 128, 129, 130, 131, 132, 133, 134, 135, 136, 137, 138, 139, 140, 141, 142, 143, 144, 145, 146, 147, 148, 149, 150, 151, 152, 153, 154, 155, 156, 157, 158, 159, 160, 161, 162, 163, 164, 165, 166] rfl (by decide +kernel)) (goodIn_sub (fun _ h => List.mem_cons_of_mem _ (List.mem_append_left _ (List.mem_append_right _ h))) (by decide +kernel))) (goodIn_sub (fun _ h => List.mem_cons_of_mem _ (List.mem_append_right _ h)) (by decide +kernel))
set_option maxRecDepth 20000 in
theorem gL_delayIf_X8_delayIf : GoodIn wsL_delayIf (wsV RL 90 RX8 yX8_delayIf wsX8_delayIf) := goodIn_app (goodIn_of _ (by decide +kernel)) ggL_delayIf_X8_delayIf
theorem dL_delayIf_13 : decode cL_delayIf 13 = .ok (.astore 4, 2) := by decide +kernel
theorem dL_delayIf_15 : decode cL_delayIf 15 = .ok (.iconst 1, 1) := by decide +kernel
theorem dL_delayIf_16 : decode cL_delayIf 16 = .ok (.ireturn, 1) := by decide +kernel
set_option maxHeartbeats 4000000 in
set_option maxRecDepth 100000 in
theorem l_delayIf (l : Launch) (hfl : l.stackTraces = false) (g : xG) (sz : Nat) (h0 : Nat) (f0 : Value) (f1 : Value) (f3 : Value) (f4 : Value) (f5 : Value) (f6 : Value) (f7 : Value) (f8 : Value) (f9 : Value) (f10 : Value) (f11 : Value) (f12 : Value) (f13 : Value) (f14 : Value) (p0 : Int32) (p1 : Int32) (out : Nat) (of : Nat → Int64)  : vx_Met l yL_delayIf wsL_delayIf ({ frames := 9, cells := 1, slots := 6, locals := 207 }) (va_Pc [.ref h0, .int p0, .int p1, .ref out] (fun U => xB g [(h0, .inr (8, [f0, f1, .int 0, f3, f4, f5, f6, f7, f8, f9, f10, f11, f12, f13, f14])), (out, .inl (xJ g, 1, .inr (.inl of)))] sz U ∧ xU (va_A [(h0, .inr (8, [f0, f1, .int 0, f3, f4, f5, f6, f7, f8, f9, f10, f11, f12, f13, f14])), (out, .inl (xJ g, 1, .inr (.inl of)))] sz) U)) (va_Qi (fun (r : Int32) (u : Int64) => r = 1) (fun (u : Int64) (t : State) => ∃ (of1 : Nat → Int64), of1 0 = u ∧ xE g [(out, .inl (xJ g, 1, .inr (.inl of1)))] (va_A [(h0, .inr (8, [f0, f1, .int 0, f3, f4, f5, f6, f7, f8, f9, f10, f11, f12, f13, f14])), (out, .inl (xJ g, 1, .inr (.inl of)))] sz) t) (va_A [(h0, .inr (8, [f0, f1, .int 0, f3, f4, f5, f6, f7, f8, f9, f10, f11, f12, f13, f14])), (out, .inl (xJ g, 1, .inr (.inl of)))] sz)) (vx_X (fun _ : Unit => True) (fun E _ _ => False) (va_A [(h0, .inr (8, [f0, f1, .int 0, f3, f4, f5, f6, f7, f8, f9, f10, f11, f12, f13, f14])), (out, .inl (xJ g, 1, .inr (.inl of)))] sz)) 1 6 (va_A [(h0, .inr (8, [f0, f1, .int 0, f3, f4, f5, f6, f7, f8, f9, f10, f11, f12, f13, f14])), (out, .inl (xJ g, 1, .inr (.inl of)))] sz) := by
  refine vx_ofWH (hh := [(0, 10, 13, 28), (0, 10, 17, 13)]) (cc := cL_delayIf) (maxL := 5) (ret := (some .int)) (by decide) rfl ?_
  intro p e s m args below meth c s₁ B hml hv
  obtain ⟨rfl, ⟨hsz, hP, hK, hD0⟩, hU⟩ := hv
  have hx := B.exec
  have hb := B.bytes
  have hr := B.returns
  have hts := atoms_spec (ws := wsL_delayIf) B.pre
  have hown : s.vm.findClass RL = some m.cls := findClass_of_methodNamed B.named
  have hlocks := B.notSynchronized
  have htbl := vx_table (x := yL_delayIf) B (hts (.codeWith yL_delayIf cL_delayIf 5 (some .int) [(0, 10, 13, 28), (0, 10, 17, 13)]) List.mem_cons_self)
  subst hsz
  have hD := hD0.self (sz := s.heap.size)
  generalize hAe : va_A [(h0, .inr (8, [f0, f1, .int 0, f3, f4, f5, f6, f7, f8, f9, f10, f11, f12, f13, f14])), (out, .inl (xJ g, 1, .inr (.inl of)))] s.heap.size = A at hD hU ⊢
  have hA : ∀ q : Nat, s.heap.size ≤ q → A q := fun q h => by rw [← hAe]; exact Or.inr h
  have hS : va_S A s.heap s.heap [] := va_S.rf
  have hl := lv_entry ([.ref h0, .int p0, .int p1, .ref out]) (n := 5) (Nat.le_of_ble_eq_true rfl)
  rw [lg_entry_eq]
  generalize (lg_sl ([.ref h0, .int p0, .int p1, .ref out]) ++ List.replicate (5 - (lg_sl ([.ref h0, .int p0, .int p1, .ref out])).length) Slot.unset).toArray = ls at hl ⊢
  have hl : lv_has ls 5 [(0, .ref h0), (1, .int p0), (2, .int p1), (3, .ref out)] := hl
  refine lv_aload_n hx hb dL_delayIf_0 rfl (lv_at hl 3 rfl) ?_
  refine lv_iconst (v := 0) hx hb dL_delayIf_1 (by decide) ?_
  refine lv_aload_n hx hb dL_delayIf_2 rfl (lv_at hl 0 rfl) ?_
  refine lv_iload_n hx hb dL_delayIf_3 rfl (lv_at hl 1 rfl) ?_
  refine lv_iload_n hx hb dL_delayIf_4 rfl (lv_at hl 2 rfl) ?_
  have hPc := hP.sub (ws' := [(h0, .inr (8, [f0, f1, .int 0, f3, f4, f5, f6, f7, f8, f9, f10, f11, f12, f13, f14]))]) [0] rfl
  have hDc := hD.sub (ws' := [(h0, .inr (8, [f0, f1, .int 0, f3, f4, f5, f6, f7, f8, f9, f10, f11, f12, f13, f14]))]) [0] (by decide) rfl
  have hFc := xFree hS hA
  refine vx_calli (vx_runV (As := [.int p0, .int p1]) (rest := [.int 0, .ref out]) ⟨hx, hb, hml, hown, hts⟩ (x0_delayIf l hfl g s.heap.size h0 f0 f1 f3 f4 f5 f6 f7 f8 f9 f10 f11 f12 f13 f14 p0 p1) (cwV 2 hts gL_delayIf_X8_delayIf rfl rfl rfl (by decide +kernel) ⟨Nat.le_of_ble_eq_true rfl, Nat.le_of_ble_eq_true rfl⟩) ⟨xBU.blind, va_recv hK hPc (ci := 8) (q0 := 0) rfl rfl, fun U9 hU9 hW9 => ⟨rfl, xB.mk hPc hK hDc hU9 hW9, hU.call hS hFc hU9 hW9⟩⟩ rfl rfl hl.1 rfl (lv_room (Nat.le_of_ble_eq_true rfl)) dL_delayIf_5 ⟨Nat.le_of_ble_eq_true rfl, Nat.le_of_ble_eq_true rfl⟩) hS (fun q _ h => hFc q h) hFc (fun q _ h => hFc q h) (fun E ce q9 ux t H1 locs1 ht hvm hpx hB hz1 hk1 hS hce hcv hcl => ?_) (fun r_1 u_2 t H1 locs ht hvm hw_3 hB hz1 hk1 hS => ?_)
  · obtain ⟨rfl, hB⟩ := hB
    have hP := xSame hP hk1
    refine vx_catch (name := "java/lang/IndexOutOfBoundsException") hown [] ({ startPc := 0, endPc := 10, handlerPc := 13, catchType := 28 } : ExceptionTableEntry) [({ startPc := 0, endPc := 10, handlerPc := 17, catchType := 13 } : ExceptionTableEntry)] htbl (fun z hz => absurd hz List.not_mem_nil) rfl (by decide) (hts (.classLink RL 28 "java/lang/IndexOutOfBoundsException") (by decide +kernel)) (va_Nw.use rfl (hU.2.2.2.2.1 "java/lang/IndexOutOfBoundsException" (by decide))) hce hcv hcl ?_
    generalize H1 = H at hP hS ⊢
    generalize locs1 = locs at hS ⊢
    have hP : va_P (xD g) vwCl [(h0, .inr (8, [f0, f1, .int 0, f3, f4, f5, f6, f7, f8, f9, f10, f11, f12, f13, f14])), (out, .inl (xJ g, 1, .inr (.inl of)))] H := hP
    have hD : va_D A [(h0, .inr (8, [f0, f1, .int 0, f3, f4, f5, f6, f7, f8, f9, f10, f11, f12, f13, f14])), (out, .inl (xJ g, 1, .inr (.inl of)))] := hD
    refine W.widen (k := 1) (n := 6) (by omega) (by omega) ?_
    refine lv_astore (lv' := [(4, .ref q9), (0, .ref h0), (1, .int p0), (2, .int p1), (3, .ref out)]) hx hb dL_delayIf_13 hl (by decide) rfl (fun ls hl => ?_)
    refine lv_iconst (v := 1) hx hb dL_delayIf_15 (by decide) ?_
    refine vx_ret ?_
    have hP9 := hP.sub (ws' := [(out, .inl (xJ g, 1, .inr (.inl of)))]) [1] rfl
    have hD9 := hD.sub (ws' := [(out, .inl (xJ g, 1, .inr (.inl of)))]) [1] (by decide) rfl
    exact W.iret (v := 1) hx hb hr (fun t ht hW => ⟨⟨1, (of 0), rfl, rfl, ⟨of, (by rfl), by rw [ht]; exact hP9, va_K.moved hW.alike hK, hD9⟩⟩, hS.F ht⟩) hS.2.2 dL_delayIf_16
  · exact False.elim hw_3
theorem dL_addContainer_0 : decode cL_addContainer 0 = .ok (.aload 6, 2) := by decide +kernel
theorem dL_addContainer_2 : decode cL_addContainer 2 = .ok (.iconst 0, 1) := by decide +kernel
theorem dL_addContainer_3 : decode cL_addContainer 3 = .ok (.aload_n 0, 1) := by decide +kernel
theorem dL_addContainer_4 : decode cL_addContainer 4 = .ok (.iload_n 1, 1) := by decide +kernel
theorem dL_addContainer_5 : decode cL_addContainer 5 = .ok (.iload_n 2, 1) := by decide +kernel
theorem dL_addContainer_6 : decode cL_addContainer 6 = .ok (.iload_n 3, 1) := by decide +kernel
theorem dL_addContainer_7 : decode cL_addContainer 7 = .ok (.iload 4, 2) := by decide +kernel
theorem dL_addContainer_9 : decode cL_addContainer 9 = .ok (.iload 5, 2) := by decide +kernel
theorem dL_addContainer_11 : decode cL_addContainer 11 = .ok (.invokevirtual 30, 3) := by decide +kernel
set_option maxRecDepth 20000 in
theorem ggL_addContainer_X8_addContainer : GoodIn wsL_addContainer wsX8_addContainer := goodIn_ca (goodIn_ca (goodIn_ca (goodIn_r _ [8, 9, 10, 11, 12, 13, 14, 15, 16, 17, 18, 19, 20, 21, 22, 23, 7, 24, 25, 26, 27, 28, 29, 30, 31, 32, 33, 34, 35, 36, 37, 38, 39, 40, 41, 42, 43, 44, 45, 46, 47, 48, 49, 50, 51, 52, 53, 54, 55, 56, 57, 58, 59, 60, 61, 62, 63, 64, 65, 66, 67, 68, 69, 70, 71, 72, 73, 74, 75, 76, 77, 78, 79, 80, 81, 82, 83, 84, 85, 86, 87, 88, 89, 90, 91, 92, 93, 94, 95, 96, 97, 98, 99, 100, 101, 102, 103, 104, 105, 106, 107, 108, 109, 110, 111, 112, 113, 114, 115, 116, 117, 118, 119, 120, 121, 122, 123, 124, 125, 126, 127, 128, 129, 130, 131, 132, 133, 134, 135, 136, 137, 138, 139, 140, 141, 142, 143, 144, 145, 146, 147, 148, 149, 150, 151, 152, 153, 154, 155, 156, 157, 158, 159, 160, 161, 162, 163, 164, 165, 166, 167, 168, 169, 170, 171, 172, 173, 174, 175, 176, 177, 178, 179, 180, 181, 182, 183, 184, 185, 186, 187, 188, 189, 190, 191, 192, 193, 194, 195, 196] rfl (by decide +kernel)) (goodIn_sub (fun _ h => List.mem_cons_of_mem _ (List.mem_append_left _ (List.mem_append_left _ (List.mem_append_right _ h)))) (by decide +kernel))) (goodIn_sub (fun _ h => List.mem_cons_of_mem _ (List.mem_append_left _ (List.mem_append_right _ h))) (by decide +kernel))) (goodIn_sub (fun _ h => List.mem_cons_of_mem _ (List.mem_append_right _ h)) (by decide +kernel))
set_option maxRecDepth 20000 in
theorem gL_addContainer_X8_addContainer : GoodIn wsL_addContainer (wsV RL 30 RX8 yX8_addContainer wsX8_addContainer) := goodIn_app (goodIn_of _ (by decide +kernel)) ggL_addContainer_X8_addContainer
theorem dL_addContainer_19 : decode cL_addContainer 19 = .ok (.astore 7, 2) := by decide +kernel
theorem dL_addContainer_21 : decode cL_addContainer 21 = .ok (.iconst 1, 1) := by decide +kernel
theorem dL_addContainer_22 : decode cL_addContainer 22 = .ok (.ireturn, 1) := by decide +kernel
set_option maxHeartbeats 4000000 in
set_option maxRecDepth 100000 in
theorem l_addContainer (l : Launch) (hfl : l.stackTraces = false) (g : xG) (sz : Nat) (h0 : Nat) (f0 : Value) (f1 : Value) (f3 : Value) (f4 : Value) (f5 : Value) (f6 : Value) (f7 : Value) (f8 : Value) (f9 : Value) (f10 : Value) (f11 : Value) (f12 : Value) (f13 : Value) (f14 : Value) (p0 : Int32) (p1 : Int32) (p2 : Int32) (p3 : Int32) (p4 : Int32) (out : Nat) (of : Nat → Int64)  : vx_Met l yL_addContainer wsL_addContainer ({ frames := 9, cells := 1, slots := 6, locals := 211 }) (va_Pc [.ref h0, .int p0, .int p1, .int p2, .int p3, .int p4, .ref out] (fun U => xB g [(h0, .inr (8, [f0, f1, .int 0, f3, f4, f5, f6, f7, f8, f9, f10, f11, f12, f13, f14])), (out, .inl (xJ g, 1, .inr (.inl of)))] sz U ∧ xU (va_A [(h0, .inr (8, [f0, f1, .int 0, f3, f4, f5, f6, f7, f8, f9, f10, f11, f12, f13, f14])), (out, .inl (xJ g, 1, .inr (.inl of)))] sz) U)) (va_Qi (fun (r : Int32) (u : Int64) => r = 1) (fun (u : Int64) (t : State) => ∃ (of1 : Nat → Int64), of1 0 = u ∧ xE g [(out, .inl (xJ g, 1, .inr (.inl of1)))] (va_A [(h0, .inr (8, [f0, f1, .int 0, f3, f4, f5, f6, f7, f8, f9, f10, f11, f12, f13, f14])), (out, .inl (xJ g, 1, .inr (.inl of)))] sz) t) (va_A [(h0, .inr (8, [f0, f1, .int 0, f3, f4, f5, f6, f7, f8, f9, f10, f11, f12, f13, f14])), (out, .inl (xJ g, 1, .inr (.inl of)))] sz)) (vx_X (fun _ : Unit => True) (fun E _ _ => False) (va_A [(h0, .inr (8, [f0, f1, .int 0, f3, f4, f5, f6, f7, f8, f9, f10, f11, f12, f13, f14])), (out, .inl (xJ g, 1, .inr (.inl of)))] sz)) 1 6 (va_A [(h0, .inr (8, [f0, f1, .int 0, f3, f4, f5, f6, f7, f8, f9, f10, f11, f12, f13, f14])), (out, .inl (xJ g, 1, .inr (.inl of)))] sz) := by
  refine vx_ofWH (hh := [(0, 16, 19, 28), (0, 16, 23, 13), (0, 16, 27, 22)]) (cc := cL_addContainer) (maxL := 8) (ret := (some .int)) (by decide) rfl ?_
  intro p e s m args below meth c s₁ B hml hv
  obtain ⟨rfl, ⟨hsz, hP, hK, hD0⟩, hU⟩ := hv
  have hx := B.exec
  have hb := B.bytes
  have hr := B.returns
  have hts := atoms_spec (ws := wsL_addContainer) B.pre
  have hown : s.vm.findClass RL = some m.cls := findClass_of_methodNamed B.named
  have hlocks := B.notSynchronized
  have htbl := vx_table (x := yL_addContainer) B (hts (.codeWith yL_addContainer cL_addContainer 8 (some .int) [(0, 16, 19, 28), (0, 16, 23, 13), (0, 16, 27, 22)]) List.mem_cons_self)
  subst hsz
  have hD := hD0.self (sz := s.heap.size)
  generalize hAe : va_A [(h0, .inr (8, [f0, f1, .int 0, f3, f4, f5, f6, f7, f8, f9, f10, f11, f12, f13, f14])), (out, .inl (xJ g, 1, .inr (.inl of)))] s.heap.size = A at hD hU ⊢
  have hA : ∀ q : Nat, s.heap.size ≤ q → A q := fun q h => by rw [← hAe]; exact Or.inr h
  have hS : va_S A s.heap s.heap [] := va_S.rf
  have hl := lv_entry ([.ref h0, .int p0, .int p1, .int p2, .int p3, .int p4, .ref out]) (n := 8) (Nat.le_of_ble_eq_true rfl)
  rw [lg_entry_eq]
  generalize (lg_sl ([.ref h0, .int p0, .int p1, .int p2, .int p3, .int p4, .ref out]) ++ List.replicate (8 - (lg_sl ([.ref h0, .int p0, .int p1, .int p2, .int p3, .int p4, .ref out])).length) Slot.unset).toArray = ls at hl ⊢
  have hl : lv_has ls 8 [(0, .ref h0), (1, .int p0), (2, .int p1), (3, .int p2), (4, .int p3), (5, .int p4), (6, .ref out)] := hl
  refine lv_aload hx hb dL_addContainer_0 (lv_at hl 6 rfl) ?_
  refine lv_iconst (v := 0) hx hb dL_addContainer_2 (by decide) ?_
  refine lv_aload_n hx hb dL_addContainer_3 rfl (lv_at hl 0 rfl) ?_
  refine lv_iload_n hx hb dL_addContainer_4 rfl (lv_at hl 1 rfl) ?_
  refine lv_iload_n hx hb dL_addContainer_5 rfl (lv_at hl 2 rfl) ?_
  refine lv_iload_n hx hb dL_addContainer_6 rfl (lv_at hl 3 rfl) ?_
  refine lv_iload hx hb dL_addContainer_7 (lv_at hl 4 rfl) ?_
  refine lv_iload hx hb dL_addContainer_9 (lv_at hl 5 rfl) ?_
  have hPc := hP.sub (ws' := [(h0, .inr (8, [f0, f1, .int 0, f3, f4, f5, f6, f7, f8, f9, f10, f11, f12, f13, f14]))]) [0] rfl
  have hDc := hD.sub (ws' := [(h0, .inr (8, [f0, f1, .int 0, f3, f4, f5, f6, f7, f8, f9, f10, f11, f12, f13, f14]))]) [0] (by decide) rfl
  have hFc := xFree hS hA
  refine vx_calli (vx_runV (As := [.int p0, .int p1, .int p2, .int p3, .int p4]) (rest := [.int 0, .ref out]) ⟨hx, hb, hml, hown, hts⟩ (x0_addContainer l hfl g s.heap.size h0 f0 f1 f3 f4 f5 f6 f7 f8 f9 f10 f11 f12 f13 f14 p0 p1 p2 p3 p4) (cwV 5 hts gL_addContainer_X8_addContainer rfl rfl rfl (by decide +kernel) ⟨Nat.le_of_ble_eq_true rfl, Nat.le_of_ble_eq_true rfl⟩) ⟨xBU.blind, va_recv hK hPc (ci := 8) (q0 := 0) rfl rfl, fun U9 hU9 hW9 => ⟨rfl, xB.mk hPc hK hDc hU9 hW9, hU.call hS hFc hU9 hW9⟩⟩ rfl rfl hl.1 rfl (lv_room (Nat.le_of_ble_eq_true rfl)) dL_addContainer_11 ⟨Nat.le_of_ble_eq_true rfl, Nat.le_of_ble_eq_true rfl⟩) hS (fun q _ h => hFc q h) hFc (fun q _ h => hFc q h) (fun E ce q9 ux t H1 locs1 ht hvm hpx hB hz1 hk1 hS hce hcv hcl => ?_) (fun r_1 u_2 t H1 locs ht hvm hw_3 hB hz1 hk1 hS => ?_)
  · obtain ⟨rfl, hB⟩ := hB
    have hP := xSame hP hk1
    refine vx_catch (name := "java/lang/IndexOutOfBoundsException") hown [] ({ startPc := 0, endPc := 16, handlerPc := 19, catchType := 28 } : ExceptionTableEntry) [({ startPc := 0, endPc := 16, handlerPc := 23, catchType := 13 } : ExceptionTableEntry), ({ startPc := 0, endPc := 16, handlerPc := 27, catchType := 22 } : ExceptionTableEntry)] htbl (fun z hz => absurd hz List.not_mem_nil) rfl (by decide) (hts (.classLink RL 28 "java/lang/IndexOutOfBoundsException") (by decide +kernel)) (va_Nw.use rfl (hU.2.2.2.2.1 "java/lang/IndexOutOfBoundsException" (by decide))) hce hcv hcl ?_
    generalize H1 = H at hP hS ⊢
    generalize locs1 = locs at hS ⊢
    have hP : va_P (xD g) vwCl [(h0, .inr (8, [f0, f1, .int 0, f3, f4, f5, f6, f7, f8, f9, f10, f11, f12, f13, f14])), (out, .inl (xJ g, 1, .inr (.inl of)))] H := hP
    have hD : va_D A [(h0, .inr (8, [f0, f1, .int 0, f3, f4, f5, f6, f7, f8, f9, f10, f11, f12, f13, f14])), (out, .inl (xJ g, 1, .inr (.inl of)))] := hD
    refine W.widen (k := 1) (n := 6) (by omega) (by omega) ?_
    refine lv_astore (lv' := [(7, .ref q9), (0, .ref h0), (1, .int p0), (2, .int p1), (3, .int p2), (4, .int p3), (5, .int p4), (6, .ref out)]) hx hb dL_addContainer_19 hl (by decide) rfl (fun ls hl => ?_)
    refine lv_iconst (v := 1) hx hb dL_addContainer_21 (by decide) ?_
    refine vx_ret ?_
    have hP9 := hP.sub (ws' := [(out, .inl (xJ g, 1, .inr (.inl of)))]) [1] rfl
    have hD9 := hD.sub (ws' := [(out, .inl (xJ g, 1, .inr (.inl of)))]) [1] (by decide) rfl
    exact W.iret (v := 1) hx hb hr (fun t ht hW => ⟨⟨1, (of 0), rfl, rfl, ⟨of, (by rfl), by rw [ht]; exact hP9, va_K.moved hW.alike hK, hD9⟩⟩, hS.F ht⟩) hS.2.2 dL_addContainer_22
  · exact False.elim hw_3
theorem dL_work_0 : decode cL_work 0 = .ok (.aload_n 3, 1) := by decide +kernel
theorem dL_work_1 : decode cL_work 1 = .ok (.iconst 0, 1) := by decide +kernel
theorem dL_work_2 : decode cL_work 2 = .ok (.aload_n 0, 1) := by decide +kernel
theorem dL_work_3 : decode cL_work 3 = .ok (.iload_n 1, 1) := by decide +kernel
theorem dL_work_4 : decode cL_work 4 = .ok (.iload_n 2, 1) := by decide +kernel
theorem dL_work_5 : decode cL_work 5 = .ok (.invokevirtual 44, 3) := by decide +kernel
set_option maxRecDepth 20000 in
theorem ggL_work_X8_work : GoodIn wsL_work wsX8_work := goodIn_ca (goodIn_r _ [6, 7, 8, 9, 10, 11, 5, 12, 13, 14, 15, 16, 17, 18, 19, 20, 21, 22, 23, 24, 25, 26, 27, 28, 29, 30, 31, 32, 33, 34, 35, 36, 37, 38, 39, 40, 41, 42, 43, 44, 45, 46] rfl (by decide +kernel)) (goodIn_sub (fun _ h => List.mem_cons_of_mem _ (List.mem_append_right _ h)) (by decide +kernel))
set_option maxRecDepth 20000 in
theorem gL_work_X8_work : GoodIn wsL_work (wsV RL 44 RX8 yX8_work wsX8_work) := goodIn_app (goodIn_of _ (by decide +kernel)) ggL_work_X8_work
theorem dL_work_13 : decode cL_work 13 = .ok (.astore 4, 2) := by decide +kernel
theorem dL_work_15 : decode cL_work 15 = .ok (.iconst 1, 1) := by decide +kernel
theorem dL_work_16 : decode cL_work 16 = .ok (.ireturn, 1) := by decide +kernel
set_option maxHeartbeats 4000000 in
set_option maxRecDepth 100000 in
theorem l_work (l : Launch) (hfl : l.stackTraces = false) (g : xG) (sz : Nat) (h0 : Nat) (f0 : Value) (f1 : Value) (f3 : Value) (f4 : Value) (f5 : Value) (f6 : Value) (f7 : Value) (f8 : Value) (f9 : Value) (f10 : Value) (f11 : Value) (f12 : Value) (f13 : Value) (f14 : Value) (p0 : Int32) (p1 : Int32) (out : Nat) (of : Nat → Int64)  : vx_Met l yL_work wsL_work ({ frames := 9, cells := 1, slots := 6, locals := 207 }) (va_Pc [.ref h0, .int p0, .int p1, .ref out] (fun U => xB g [(h0, .inr (8, [f0, f1, .int 0, f3, f4, f5, f6, f7, f8, f9, f10, f11, f12, f13, f14])), (out, .inl (xJ g, 1, .inr (.inl of)))] sz U ∧ xU (va_A [(h0, .inr (8, [f0, f1, .int 0, f3, f4, f5, f6, f7, f8, f9, f10, f11, f12, f13, f14])), (out, .inl (xJ g, 1, .inr (.inl of)))] sz) U)) (va_Qi (fun (r : Int32) (u : Int64) => r = 1) (fun (u : Int64) (t : State) => ∃ (of1 : Nat → Int64), of1 0 = u ∧ xE g [(out, .inl (xJ g, 1, .inr (.inl of1)))] (va_A [(h0, .inr (8, [f0, f1, .int 0, f3, f4, f5, f6, f7, f8, f9, f10, f11, f12, f13, f14])), (out, .inl (xJ g, 1, .inr (.inl of)))] sz) t) (va_A [(h0, .inr (8, [f0, f1, .int 0, f3, f4, f5, f6, f7, f8, f9, f10, f11, f12, f13, f14])), (out, .inl (xJ g, 1, .inr (.inl of)))] sz)) (vx_X (fun _ : Unit => True) (fun E _ _ => False) (va_A [(h0, .inr (8, [f0, f1, .int 0, f3, f4, f5, f6, f7, f8, f9, f10, f11, f12, f13, f14])), (out, .inl (xJ g, 1, .inr (.inl of)))] sz)) 1 6 (va_A [(h0, .inr (8, [f0, f1, .int 0, f3, f4, f5, f6, f7, f8, f9, f10, f11, f12, f13, f14])), (out, .inl (xJ g, 1, .inr (.inl of)))] sz) := by
  refine vx_ofWH (hh := [(0, 10, 13, 28)]) (cc := cL_work) (maxL := 5) (ret := (some .int)) (by decide) rfl ?_
  intro p e s m args below meth c s₁ B hml hv
  obtain ⟨rfl, ⟨hsz, hP, hK, hD0⟩, hU⟩ := hv
  have hx := B.exec
  have hb := B.bytes
  have hr := B.returns
  have hts := atoms_spec (ws := wsL_work) B.pre
  have hown : s.vm.findClass RL = some m.cls := findClass_of_methodNamed B.named
  have hlocks := B.notSynchronized
  have htbl := vx_table (x := yL_work) B (hts (.codeWith yL_work cL_work 5 (some .int) [(0, 10, 13, 28)]) List.mem_cons_self)
  subst hsz
  have hD := hD0.self (sz := s.heap.size)
  generalize hAe : va_A [(h0, .inr (8, [f0, f1, .int 0, f3, f4, f5, f6, f7, f8, f9, f10, f11, f12, f13, f14])), (out, .inl (xJ g, 1, .inr (.inl of)))] s.heap.size = A at hD hU ⊢
  have hA : ∀ q : Nat, s.heap.size ≤ q → A q := fun q h => by rw [← hAe]; exact Or.inr h
  have hS : va_S A s.heap s.heap [] := va_S.rf
  have hl := lv_entry ([.ref h0, .int p0, .int p1, .ref out]) (n := 5) (Nat.le_of_ble_eq_true rfl)
  rw [lg_entry_eq]
  generalize (lg_sl ([.ref h0, .int p0, .int p1, .ref out]) ++ List.replicate (5 - (lg_sl ([.ref h0, .int p0, .int p1, .ref out])).length) Slot.unset).toArray = ls at hl ⊢
  have hl : lv_has ls 5 [(0, .ref h0), (1, .int p0), (2, .int p1), (3, .ref out)] := hl
  refine lv_aload_n hx hb dL_work_0 rfl (lv_at hl 3 rfl) ?_
  refine lv_iconst (v := 0) hx hb dL_work_1 (by decide) ?_
  refine lv_aload_n hx hb dL_work_2 rfl (lv_at hl 0 rfl) ?_
  refine lv_iload_n hx hb dL_work_3 rfl (lv_at hl 1 rfl) ?_
  refine lv_iload_n hx hb dL_work_4 rfl (lv_at hl 2 rfl) ?_
  have hPc := hP.sub (ws' := [(h0, .inr (8, [f0, f1, .int 0, f3, f4, f5, f6, f7, f8, f9, f10, f11, f12, f13, f14]))]) [0] rfl
  have hDc := hD.sub (ws' := [(h0, .inr (8, [f0, f1, .int 0, f3, f4, f5, f6, f7, f8, f9, f10, f11, f12, f13, f14]))]) [0] (by decide) rfl
  have hFc := xFree hS hA
  refine vx_calli (vx_runV (As := [.int p0, .int p1]) (rest := [.int 0, .ref out]) ⟨hx, hb, hml, hown, hts⟩ (x0_work l hfl g s.heap.size h0 f0 f1 f3 f4 f5 f6 f7 f8 f9 f10 f11 f12 f13 f14 p0 p1) (cwV 2 hts gL_work_X8_work rfl rfl rfl (by decide +kernel) ⟨Nat.le_of_ble_eq_true rfl, Nat.le_of_ble_eq_true rfl⟩) ⟨xBU.blind, va_recv hK hPc (ci := 8) (q0 := 0) rfl rfl, fun U9 hU9 hW9 => ⟨rfl, xB.mk hPc hK hDc hU9 hW9, hU.call hS hFc hU9 hW9⟩⟩ rfl rfl hl.1 rfl (lv_room (Nat.le_of_ble_eq_true rfl)) dL_work_5 ⟨Nat.le_of_ble_eq_true rfl, Nat.le_of_ble_eq_true rfl⟩) hS (fun q _ h => hFc q h) hFc (fun q _ h => hFc q h) (fun E ce q9 ux t H1 locs1 ht hvm hpx hB hz1 hk1 hS hce hcv hcl => ?_) (fun r_1 u_2 t H1 locs ht hvm hw_3 hB hz1 hk1 hS => ?_)
  · obtain ⟨rfl, hB⟩ := hB
    have hP := xSame hP hk1
    refine vx_catch (name := "java/lang/IndexOutOfBoundsException") hown [] ({ startPc := 0, endPc := 10, handlerPc := 13, catchType := 28 } : ExceptionTableEntry) [] htbl (fun z hz => absurd hz List.not_mem_nil) rfl (by decide) (hts (.classLink RL 28 "java/lang/IndexOutOfBoundsException") (by decide +kernel)) (va_Nw.use rfl (hU.2.2.2.2.1 "java/lang/IndexOutOfBoundsException" (by decide))) hce hcv hcl ?_
    generalize H1 = H at hP hS ⊢
    generalize locs1 = locs at hS ⊢
    have hP : va_P (xD g) vwCl [(h0, .inr (8, [f0, f1, .int 0, f3, f4, f5, f6, f7, f8, f9, f10, f11, f12, f13, f14])), (out, .inl (xJ g, 1, .inr (.inl of)))] H := hP
    have hD : va_D A [(h0, .inr (8, [f0, f1, .int 0, f3, f4, f5, f6, f7, f8, f9, f10, f11, f12, f13, f14])), (out, .inl (xJ g, 1, .inr (.inl of)))] := hD
    refine W.widen (k := 1) (n := 6) (by omega) (by omega) ?_
    refine lv_astore (lv' := [(4, .ref q9), (0, .ref h0), (1, .int p0), (2, .int p1), (3, .ref out)]) hx hb dL_work_13 hl (by decide) rfl (fun ls hl => ?_)
    refine lv_iconst (v := 1) hx hb dL_work_15 (by decide) ?_
    refine vx_ret ?_
    have hP9 := hP.sub (ws' := [(out, .inl (xJ g, 1, .inr (.inl of)))]) [1] rfl
    have hD9 := hD.sub (ws' := [(out, .inl (xJ g, 1, .inr (.inl of)))]) [1] (by decide) rfl
    exact W.iret (v := 1) hx hb hr (fun t ht hW => ⟨⟨1, (of 0), rfl, rfl, ⟨of, (by rfl), by rw [ht]; exact hP9, va_K.moved hW.alike hK, hD9⟩⟩, hS.F ht⟩) hS.2.2 dL_work_16
  · exact False.elim hw_3
theorem dL_beginOf_0 : decode cL_beginOf 0 = .ok (.aload_n 3, 1) := by decide +kernel
theorem dL_beginOf_1 : decode cL_beginOf 1 = .ok (.iconst 0, 1) := by decide +kernel
theorem dL_beginOf_2 : decode cL_beginOf 2 = .ok (.aload_n 0, 1) := by decide +kernel
theorem dL_beginOf_3 : decode cL_beginOf 3 = .ok (.iload_n 1, 1) := by decide +kernel
theorem dL_beginOf_4 : decode cL_beginOf 4 = .ok (.iload_n 2, 1) := by decide +kernel
theorem dL_beginOf_5 : decode cL_beginOf 5 = .ok (.invokevirtual 56, 3) := by decide +kernel
set_option maxRecDepth 20000 in
theorem ggL_beginOf_X8_beginOf : GoodIn wsL_beginOf wsX8_beginOf := goodIn_ca (goodIn_r _ [6, 7, 8, 9, 10, 11, 5, 12, 13, 14, 15, 16, 17, 18, 19, 20, 21, 22, 23, 24, 25, 26, 27, 28, 29, 30, 31, 32, 33, 34, 35, 36, 37, 38, 39, 40, 41, 42, 43, 44, 45, 46] rfl (by decide +kernel)) (goodIn_sub (fun _ h => List.mem_cons_of_mem _ (List.mem_append_right _ h)) (by decide +kernel))
set_option maxRecDepth 20000 in
theorem gL_beginOf_X8_beginOf : GoodIn wsL_beginOf (wsV RL 56 RX8 yX8_beginOf wsX8_beginOf) := goodIn_app (goodIn_of _ (by decide +kernel)) ggL_beginOf_X8_beginOf
theorem dL_beginOf_13 : decode cL_beginOf 13 = .ok (.astore 4, 2) := by decide +kernel
theorem dL_beginOf_15 : decode cL_beginOf 15 = .ok (.iconst 1, 1) := by decide +kernel
theorem dL_beginOf_16 : decode cL_beginOf 16 = .ok (.ireturn, 1) := by decide +kernel
set_option maxHeartbeats 4000000 in
set_option maxRecDepth 100000 in
theorem l_beginOf (l : Launch) (hfl : l.stackTraces = false) (g : xG) (sz : Nat) (h0 : Nat) (f0 : Value) (f1 : Value) (f3 : Value) (f4 : Value) (f5 : Value) (f6 : Value) (f7 : Value) (f8 : Value) (f9 : Value) (f10 : Value) (f11 : Value) (f12 : Value) (f13 : Value) (f14 : Value) (p0 : Int32) (p1 : Int32) (out : Nat) (of : Nat → Int64)  : vx_Met l yL_beginOf wsL_beginOf ({ frames := 9, cells := 1, slots := 6, locals := 207 }) (va_Pc [.ref h0, .int p0, .int p1, .ref out] (fun U => xB g [(h0, .inr (8, [f0, f1, .int 0, f3, f4, f5, f6, f7, f8, f9, f10, f11, f12, f13, f14])), (out, .inl (xJ g, 1, .inr (.inl of)))] sz U ∧ xU (va_A [(h0, .inr (8, [f0, f1, .int 0, f3, f4, f5, f6, f7, f8, f9, f10, f11, f12, f13, f14])), (out, .inl (xJ g, 1, .inr (.inl of)))] sz) U)) (va_Qi (fun (r : Int32) (u : Int64) => r = 1) (fun (u : Int64) (t : State) => ∃ (of1 : Nat → Int64), of1 0 = u ∧ xE g [(out, .inl (xJ g, 1, .inr (.inl of1)))] (va_A [(h0, .inr (8, [f0, f1, .int 0, f3, f4, f5, f6, f7, f8, f9, f10, f11, f12, f13, f14])), (out, .inl (xJ g, 1, .inr (.inl of)))] sz) t) (va_A [(h0, .inr (8, [f0, f1, .int 0, f3, f4, f5, f6, f7, f8, f9, f10, f11, f12, f13, f14])), (out, .inl (xJ g, 1, .inr (.inl of)))] sz)) (vx_X (fun _ : Unit => True) (fun E _ _ => False) (va_A [(h0, .inr (8, [f0, f1, .int 0, f3, f4, f5, f6, f7, f8, f9, f10, f11, f12, f13, f14])), (out, .inl (xJ g, 1, .inr (.inl of)))] sz)) 1 6 (va_A [(h0, .inr (8, [f0, f1, .int 0, f3, f4, f5, f6, f7, f8, f9, f10, f11, f12, f13, f14])), (out, .inl (xJ g, 1, .inr (.inl of)))] sz) := by
  refine vx_ofWH (hh := [(0, 10, 13, 28)]) (cc := cL_beginOf) (maxL := 5) (ret := (some .int)) (by decide) rfl ?_
  intro p e s m args below meth c s₁ B hml hv
  obtain ⟨rfl, ⟨hsz, hP, hK, hD0⟩, hU⟩ := hv
  have hx := B.exec
  have hb := B.bytes
  have hr := B.returns
  have hts := atoms_spec (ws := wsL_beginOf) B.pre
  have hown : s.vm.findClass RL = some m.cls := findClass_of_methodNamed B.named
  have hlocks := B.notSynchronized
  have htbl := vx_table (x := yL_beginOf) B (hts (.codeWith yL_beginOf cL_beginOf 5 (some .int) [(0, 10, 13, 28)]) List.mem_cons_self)
  subst hsz
  have hD := hD0.self (sz := s.heap.size)
  generalize hAe : va_A [(h0, .inr (8, [f0, f1, .int 0, f3, f4, f5, f6, f7, f8, f9, f10, f11, f12, f13, f14])), (out, .inl (xJ g, 1, .inr (.inl of)))] s.heap.size = A at hD hU ⊢
  have hA : ∀ q : Nat, s.heap.size ≤ q → A q := fun q h => by rw [← hAe]; exact Or.inr h
  have hS : va_S A s.heap s.heap [] := va_S.rf
  have hl := lv_entry ([.ref h0, .int p0, .int p1, .ref out]) (n := 5) (Nat.le_of_ble_eq_true rfl)
  rw [lg_entry_eq]
  generalize (lg_sl ([.ref h0, .int p0, .int p1, .ref out]) ++ List.replicate (5 - (lg_sl ([.ref h0, .int p0, .int p1, .ref out])).length) Slot.unset).toArray = ls at hl ⊢
  have hl : lv_has ls 5 [(0, .ref h0), (1, .int p0), (2, .int p1), (3, .ref out)] := hl
  refine lv_aload_n hx hb dL_beginOf_0 rfl (lv_at hl 3 rfl) ?_
  refine lv_iconst (v := 0) hx hb dL_beginOf_1 (by decide) ?_
  refine lv_aload_n hx hb dL_beginOf_2 rfl (lv_at hl 0 rfl) ?_
  refine lv_iload_n hx hb dL_beginOf_3 rfl (lv_at hl 1 rfl) ?_
  refine lv_iload_n hx hb dL_beginOf_4 rfl (lv_at hl 2 rfl) ?_
  have hPc := hP.sub (ws' := [(h0, .inr (8, [f0, f1, .int 0, f3, f4, f5, f6, f7, f8, f9, f10, f11, f12, f13, f14]))]) [0] rfl
  have hDc := hD.sub (ws' := [(h0, .inr (8, [f0, f1, .int 0, f3, f4, f5, f6, f7, f8, f9, f10, f11, f12, f13, f14]))]) [0] (by decide) rfl
  have hFc := xFree hS hA
  refine vx_calli (vx_runV (As := [.int p0, .int p1]) (rest := [.int 0, .ref out]) ⟨hx, hb, hml, hown, hts⟩ (x0_beginOf l hfl g s.heap.size h0 f0 f1 f3 f4 f5 f6 f7 f8 f9 f10 f11 f12 f13 f14 p0 p1) (cwV 2 hts gL_beginOf_X8_beginOf rfl rfl rfl (by decide +kernel) ⟨Nat.le_of_ble_eq_true rfl, Nat.le_of_ble_eq_true rfl⟩) ⟨xBU.blind, va_recv hK hPc (ci := 8) (q0 := 0) rfl rfl, fun U9 hU9 hW9 => ⟨rfl, xB.mk hPc hK hDc hU9 hW9, hU.call hS hFc hU9 hW9⟩⟩ rfl rfl hl.1 rfl (lv_room (Nat.le_of_ble_eq_true rfl)) dL_beginOf_5 ⟨Nat.le_of_ble_eq_true rfl, Nat.le_of_ble_eq_true rfl⟩) hS (fun q _ h => hFc q h) hFc (fun q _ h => hFc q h) (fun E ce q9 ux t H1 locs1 ht hvm hpx hB hz1 hk1 hS hce hcv hcl => ?_) (fun r_1 u_2 t H1 locs ht hvm hw_3 hB hz1 hk1 hS => ?_)
  · obtain ⟨rfl, hB⟩ := hB
    have hP := xSame hP hk1
    refine vx_catch (name := "java/lang/IndexOutOfBoundsException") hown [] ({ startPc := 0, endPc := 10, handlerPc := 13, catchType := 28 } : ExceptionTableEntry) [] htbl (fun z hz => absurd hz List.not_mem_nil) rfl (by decide) (hts (.classLink RL 28 "java/lang/IndexOutOfBoundsException") (by decide +kernel)) (va_Nw.use rfl (hU.2.2.2.2.1 "java/lang/IndexOutOfBoundsException" (by decide))) hce hcv hcl ?_
    generalize H1 = H at hP hS ⊢
    generalize locs1 = locs at hS ⊢
    have hP : va_P (xD g) vwCl [(h0, .inr (8, [f0, f1, .int 0, f3, f4, f5, f6, f7, f8, f9, f10, f11, f12, f13, f14])), (out, .inl (xJ g, 1, .inr (.inl of)))] H := hP
    have hD : va_D A [(h0, .inr (8, [f0, f1, .int 0, f3, f4, f5, f6, f7, f8, f9, f10, f11, f12, f13, f14])), (out, .inl (xJ g, 1, .inr (.inl of)))] := hD
    refine W.widen (k := 1) (n := 6) (by omega) (by omega) ?_
    refine lv_astore (lv' := [(4, .ref q9), (0, .ref h0), (1, .int p0), (2, .int p1), (3, .ref out)]) hx hb dL_beginOf_13 hl (by decide) rfl (fun ls hl => ?_)
    refine lv_iconst (v := 1) hx hb dL_beginOf_15 (by decide) ?_
    refine vx_ret ?_
    have hP9 := hP.sub (ws' := [(out, .inl (xJ g, 1, .inr (.inl of)))]) [1] rfl
    have hD9 := hD.sub (ws' := [(out, .inl (xJ g, 1, .inr (.inl of)))]) [1] (by decide) rfl
    exact W.iret (v := 1) hx hb hr (fun t ht hW => ⟨⟨1, (of 0), rfl, rfl, ⟨of, (by rfl), by rw [ht]; exact hP9, va_K.moved hW.alike hK, hD9⟩⟩, hS.F ht⟩) hS.2.2 dL_beginOf_16
  · exact False.elim hw_3
theorem dL_endOf_0 : decode cL_endOf 0 = .ok (.aload_n 3, 1) := by decide +kernel
theorem dL_endOf_1 : decode cL_endOf 1 = .ok (.iconst 0, 1) := by decide +kernel
theorem dL_endOf_2 : decode cL_endOf 2 = .ok (.aload_n 0, 1) := by decide +kernel
theorem dL_endOf_3 : decode cL_endOf 3 = .ok (.iload_n 1, 1) := by decide +kernel
theorem dL_endOf_4 : decode cL_endOf 4 = .ok (.iload_n 2, 1) := by decide +kernel
theorem dL_endOf_5 : decode cL_endOf 5 = .ok (.invokevirtual 59, 3) := by decide +kernel
set_option maxRecDepth 20000 in
theorem ggL_endOf_X8_endOf : GoodIn wsL_endOf wsX8_endOf := goodIn_ca (goodIn_r _ [6, 7, 8, 9, 10, 5, 11, 12, 13, 14, 15, 16, 17, 18, 19, 20, 21, 22, 23, 24, 25, 26, 27, 28, 29, 30, 31, 32, 33, 34, 35, 36, 37, 38, 39, 40, 41, 42, 43, 44, 45, 46, 47, 48, 49, 50, 51, 52, 53, 54, 55, 56, 57, 58, 59, 60] rfl (by decide +kernel)) (goodIn_sub (fun _ h => List.mem_cons_of_mem _ (List.mem_append_right _ h)) (by decide +kernel))
set_option maxRecDepth 20000 in
theorem gL_endOf_X8_endOf : GoodIn wsL_endOf (wsV RL 59 RX8 yX8_endOf wsX8_endOf) := goodIn_app (goodIn_of _ (by decide +kernel)) ggL_endOf_X8_endOf
theorem dL_endOf_13 : decode cL_endOf 13 = .ok (.astore 4, 2) := by decide +kernel
theorem dL_endOf_15 : decode cL_endOf 15 = .ok (.iconst 1, 1) := by decide +kernel
theorem dL_endOf_16 : decode cL_endOf 16 = .ok (.ireturn, 1) := by decide +kernel
set_option maxHeartbeats 4000000 in
set_option maxRecDepth 100000 in
theorem l_endOf (l : Launch) (hfl : l.stackTraces = false) (g : xG) (sz : Nat) (h0 : Nat) (f0 : Value) (f1 : Value) (f3 : Value) (f4 : Value) (f5 : Value) (f6 : Value) (f7 : Value) (f8 : Value) (f9 : Value) (f10 : Value) (f11 : Value) (f12 : Value) (f13 : Value) (f14 : Value) (p0 : Int32) (p1 : Int32) (out : Nat) (of : Nat → Int64)  : vx_Met l yL_endOf wsL_endOf ({ frames := 9, cells := 1, slots := 6, locals := 207 }) (va_Pc [.ref h0, .int p0, .int p1, .ref out] (fun U => xB g [(h0, .inr (8, [f0, f1, .int 0, f3, f4, f5, f6, f7, f8, f9, f10, f11, f12, f13, f14])), (out, .inl (xJ g, 1, .inr (.inl of)))] sz U ∧ xU (va_A [(h0, .inr (8, [f0, f1, .int 0, f3, f4, f5, f6, f7, f8, f9, f10, f11, f12, f13, f14])), (out, .inl (xJ g, 1, .inr (.inl of)))] sz) U)) (va_Qi (fun (r : Int32) (u : Int64) => r = 1) (fun (u : Int64) (t : State) => ∃ (of1 : Nat → Int64), of1 0 = u ∧ xE g [(out, .inl (xJ g, 1, .inr (.inl of1)))] (va_A [(h0, .inr (8, [f0, f1, .int 0, f3, f4, f5, f6, f7, f8, f9, f10, f11, f12, f13, f14])), (out, .inl (xJ g, 1, .inr (.inl of)))] sz) t) (va_A [(h0, .inr (8, [f0, f1, .int 0, f3, f4, f5, f6, f7, f8, f9, f10, f11, f12, f13, f14])), (out, .inl (xJ g, 1, .inr (.inl of)))] sz)) (vx_X (fun _ : Unit => True) (fun E _ _ => False) (va_A [(h0, .inr (8, [f0, f1, .int 0, f3, f4, f5, f6, f7, f8, f9, f10, f11, f12, f13, f14])), (out, .inl (xJ g, 1, .inr (.inl of)))] sz)) 1 6 (va_A [(h0, .inr (8, [f0, f1, .int 0, f3, f4, f5, f6, f7, f8, f9, f10, f11, f12, f13, f14])), (out, .inl (xJ g, 1, .inr (.inl of)))] sz) := by
  refine vx_ofWH (hh := [(0, 10, 13, 28)]) (cc := cL_endOf) (maxL := 5) (ret := (some .int)) (by decide) rfl ?_
  intro p e s m args below meth c s₁ B hml hv
  obtain ⟨rfl, ⟨hsz, hP, hK, hD0⟩, hU⟩ := hv
  have hx := B.exec
  have hb := B.bytes
  have hr := B.returns
  have hts := atoms_spec (ws := wsL_endOf) B.pre
  have hown : s.vm.findClass RL = some m.cls := findClass_of_methodNamed B.named
  have hlocks := B.notSynchronized
  have htbl := vx_table (x := yL_endOf) B (hts (.codeWith yL_endOf cL_endOf 5 (some .int) [(0, 10, 13, 28)]) List.mem_cons_self)
  subst hsz
  have hD := hD0.self (sz := s.heap.size)
  generalize hAe : va_A [(h0, .inr (8, [f0, f1, .int 0, f3, f4, f5, f6, f7, f8, f9, f10, f11, f12, f13, f14])), (out, .inl (xJ g, 1, .inr (.inl of)))] s.heap.size = A at hD hU ⊢
  have hA : ∀ q : Nat, s.heap.size ≤ q → A q := fun q h => by rw [← hAe]; exact Or.inr h
  have hS : va_S A s.heap s.heap [] := va_S.rf
  have hl := lv_entry ([.ref h0, .int p0, .int p1, .ref out]) (n := 5) (Nat.le_of_ble_eq_true rfl)
  rw [lg_entry_eq]
  generalize (lg_sl ([.ref h0, .int p0, .int p1, .ref out]) ++ List.replicate (5 - (lg_sl ([.ref h0, .int p0, .int p1, .ref out])).length) Slot.unset).toArray = ls at hl ⊢
  have hl : lv_has ls 5 [(0, .ref h0), (1, .int p0), (2, .int p1), (3, .ref out)] := hl
  refine lv_aload_n hx hb dL_endOf_0 rfl (lv_at hl 3 rfl) ?_
  refine lv_iconst (v := 0) hx hb dL_endOf_1 (by decide) ?_
  refine lv_aload_n hx hb dL_endOf_2 rfl (lv_at hl 0 rfl) ?_
  refine lv_iload_n hx hb dL_endOf_3 rfl (lv_at hl 1 rfl) ?_
  refine lv_iload_n hx hb dL_endOf_4 rfl (lv_at hl 2 rfl) ?_
  have hPc := hP.sub (ws' := [(h0, .inr (8, [f0, f1, .int 0, f3, f4, f5, f6, f7, f8, f9, f10, f11, f12, f13, f14]))]) [0] rfl
  have hDc := hD.sub (ws' := [(h0, .inr (8, [f0, f1, .int 0, f3, f4, f5, f6, f7, f8, f9, f10, f11, f12, f13, f14]))]) [0] (by decide) rfl
  have hFc := xFree hS hA
  refine vx_calli (vx_runV (As := [.int p0, .int p1]) (rest := [.int 0, .ref out]) ⟨hx, hb, hml, hown, hts⟩ (x0_endOf l hfl g s.heap.size h0 f0 f1 f3 f4 f5 f6 f7 f8 f9 f10 f11 f12 f13 f14 p0 p1) (cwV 2 hts gL_endOf_X8_endOf rfl rfl rfl (by decide +kernel) ⟨Nat.le_of_ble_eq_true rfl, Nat.le_of_ble_eq_true rfl⟩) ⟨xBU.blind, va_recv hK hPc (ci := 8) (q0 := 0) rfl rfl, fun U9 hU9 hW9 => ⟨rfl, xB.mk hPc hK hDc hU9 hW9, hU.call hS hFc hU9 hW9⟩⟩ rfl rfl hl.1 rfl (lv_room (Nat.le_of_ble_eq_true rfl)) dL_endOf_5 ⟨Nat.le_of_ble_eq_true rfl, Nat.le_of_ble_eq_true rfl⟩) hS (fun q _ h => hFc q h) hFc (fun q _ h => hFc q h) (fun E ce q9 ux t H1 locs1 ht hvm hpx hB hz1 hk1 hS hce hcv hcl => ?_) (fun r_1 u_2 t H1 locs ht hvm hw_3 hB hz1 hk1 hS => ?_)
  · obtain ⟨rfl, hB⟩ := hB
    have hP := xSame hP hk1
    refine vx_catch (name := "java/lang/IndexOutOfBoundsException") hown [] ({ startPc := 0, endPc := 10, handlerPc := 13, catchType := 28 } : ExceptionTableEntry) [] htbl (fun z hz => absurd hz List.not_mem_nil) rfl (by decide) (hts (.classLink RL 28 "java/lang/IndexOutOfBoundsException") (by decide +kernel)) (va_Nw.use rfl (hU.2.2.2.2.1 "java/lang/IndexOutOfBoundsException" (by decide))) hce hcv hcl ?_
    generalize H1 = H at hP hS ⊢
    generalize locs1 = locs at hS ⊢
    have hP : va_P (xD g) vwCl [(h0, .inr (8, [f0, f1, .int 0, f3, f4, f5, f6, f7, f8, f9, f10, f11, f12, f13, f14])), (out, .inl (xJ g, 1, .inr (.inl of)))] H := hP
    have hD : va_D A [(h0, .inr (8, [f0, f1, .int 0, f3, f4, f5, f6, f7, f8, f9, f10, f11, f12, f13, f14])), (out, .inl (xJ g, 1, .inr (.inl of)))] := hD
    refine W.widen (k := 1) (n := 6) (by omega) (by omega) ?_
    refine lv_astore (lv' := [(4, .ref q9), (0, .ref h0), (1, .int p0), (2, .int p1), (3, .ref out)]) hx hb dL_endOf_13 hl (by decide) rfl (fun ls hl => ?_)
    refine lv_iconst (v := 1) hx hb dL_endOf_15 (by decide) ?_
    refine vx_ret ?_
    have hP9 := hP.sub (ws' := [(out, .inl (xJ g, 1, .inr (.inl of)))]) [1] rfl
    have hD9 := hD.sub (ws' := [(out, .inl (xJ g, 1, .inr (.inl of)))]) [1] (by decide) rfl
    exact W.iret (v := 1) hx hb hr (fun t ht hW => ⟨⟨1, (of 0), rfl, rfl, ⟨of, (by rfl), by rw [ht]; exact hP9, va_K.moved hW.alike hK, hD9⟩⟩, hS.F ht⟩) hS.2.2 dL_endOf_16
  · exact False.elim hw_3
theorem dL_setWish_0 : decode cL_setWish 0 = .ok (.aload_n 3, 1) := by decide +kernel
theorem dL_setWish_1 : decode cL_setWish 1 = .ok (.iconst 0, 1) := by decide +kernel
theorem dL_setWish_2 : decode cL_setWish 2 = .ok (.aload_n 0, 1) := by decide +kernel
theorem dL_setWish_3 : decode cL_setWish 3 = .ok (.iload_n 1, 1) := by decide +kernel
theorem dL_setWish_4 : decode cL_setWish 4 = .ok (.iload_n 2, 1) := by decide +kernel
theorem dL_setWish_5 : decode cL_setWish 5 = .ok (.invokevirtual 34, 3) := by decide +kernel
set_option maxRecDepth 20000 in
theorem ggL_setWish_X8_setWish : GoodIn wsL_setWish wsX8_setWish := goodIn_ca (goodIn_ca (goodIn_r _ [7, 8, 9, 10, 11, 12, 6, 13, 14, 15, 16, 17, 18, 19, 20, 21, 22, 23, 24, 25, 26, 27, 28, 29, 30, 31, 32, 33, 34, 35, 36, 37, 38, 39, 40, 41, 42, 43, 44, 45, 46, 47, 48, 49, 50, 51, 52, 53, 54, 55, 56, 57, 58, 59, 60, 61, 62, 63, 64, 65, 66, 67, 68, 69, 70, 71, 72, 73, 74, 75, 76, 77] rfl (by decide +kernel)) (goodIn_sub (fun _ h => List.mem_cons_of_mem _ (List.mem_append_left _ (List.mem_append_right _ h))) (by decide +kernel))) (goodIn_sub (fun _ h => List.mem_cons_of_mem _ (List.mem_append_right _ h)) (by decide +kernel))
set_option maxRecDepth 20000 in
theorem gL_setWish_X8_setWish : GoodIn wsL_setWish (wsV RL 34 RX8 yX8_setWish wsX8_setWish) := goodIn_app (goodIn_of _ (by decide +kernel)) ggL_setWish_X8_setWish
theorem dL_setWish_13 : decode cL_setWish 13 = .ok (.astore 4, 2) := by decide +kernel
theorem dL_setWish_15 : decode cL_setWish 15 = .ok (.iconst 1, 1) := by decide +kernel
theorem dL_setWish_16 : decode cL_setWish 16 = .ok (.ireturn, 1) := by decide +kernel
set_option maxHeartbeats 4000000 in
set_option maxRecDepth 100000 in
theorem l_setWish (l : Launch) (hfl : l.stackTraces = false) (g : xG) (sz : Nat) (h0 : Nat) (cg : Nat) (f0 : Value) (f1 : Value) (f2 : Value) (f3 : Value) (f5 : Value) (f6 : Value) (f7 : Value) (f8 : Value) (f9 : Value) (f10 : Value) (f11 : Value) (f12 : Value) (f13 : Value) (f14 : Value) (c1 : Value) (c2 : Value) (c3 : Value) (c4 : Value) (c5 : Value) (p0 : Int32) (p1 : Int32) (out : Nat) (of : Nat → Int64)  : vx_Met l yL_setWish wsL_setWish ({ frames := 9, cells := 1, slots := 6, locals := 208 }) (va_Pc [.ref h0, .int p0, .int p1, .ref out] (fun U => xB g [(h0, .inr (8, [f0, f1, f2, f3, .ref cg, f5, f6, f7, f8, f9, f10, f11, f12, f13, f14])), (cg, .inr (2, [.int 0, c1, c2, c3, c4, c5])), (out, .inl (xJ g, 1, .inr (.inl of)))] sz U ∧ xU (va_A [(h0, .inr (8, [f0, f1, f2, f3, .ref cg, f5, f6, f7, f8, f9, f10, f11, f12, f13, f14])), (cg, .inr (2, [.int 0, c1, c2, c3, c4, c5])), (out, .inl (xJ g, 1, .inr (.inl of)))] sz) U)) (va_Qi (fun (r : Int32) (u : Int64) => r = 1) (fun (u : Int64) (t : State) => ∃ (of1 : Nat → Int64), of1 0 = u ∧ xE g [(out, .inl (xJ g, 1, .inr (.inl of1)))] (va_A [(h0, .inr (8, [f0, f1, f2, f3, .ref cg, f5, f6, f7, f8, f9, f10, f11, f12, f13, f14])), (cg, .inr (2, [.int 0, c1, c2, c3, c4, c5])), (out, .inl (xJ g, 1, .inr (.inl of)))] sz) t) (va_A [(h0, .inr (8, [f0, f1, f2, f3, .ref cg, f5, f6, f7, f8, f9, f10, f11, f12, f13, f14])), (cg, .inr (2, [.int 0, c1, c2, c3, c4, c5])), (out, .inl (xJ g, 1, .inr (.inl of)))] sz)) (vx_X (fun _ : Unit => True) (fun E _ _ => False) (va_A [(h0, .inr (8, [f0, f1, f2, f3, .ref cg, f5, f6, f7, f8, f9, f10, f11, f12, f13, f14])), (cg, .inr (2, [.int 0, c1, c2, c3, c4, c5])), (out, .inl (xJ g, 1, .inr (.inl of)))] sz)) 1 6 (va_A [(h0, .inr (8, [f0, f1, f2, f3, .ref cg, f5, f6, f7, f8, f9, f10, f11, f12, f13, f14])), (cg, .inr (2, [.int 0, c1, c2, c3, c4, c5])), (out, .inl (xJ g, 1, .inr (.inl of)))] sz) := by
  refine vx_ofWH (hh := [(0, 10, 13, 28), (0, 10, 17, 13)]) (cc := cL_setWish) (maxL := 5) (ret := (some .int)) (by decide) rfl ?_
  intro p e s m args below meth c s₁ B hml hv
  obtain ⟨rfl, ⟨hsz, hP, hK, hD0⟩, hU⟩ := hv
  have hx := B.exec
  have hb := B.bytes
  have hr := B.returns
  have hts := atoms_spec (ws := wsL_setWish) B.pre
  have hown : s.vm.findClass RL = some m.cls := findClass_of_methodNamed B.named
  have hlocks := B.notSynchronized
  have htbl := vx_table (x := yL_setWish) B (hts (.codeWith yL_setWish cL_setWish 5 (some .int) [(0, 10, 13, 28), (0, 10, 17, 13)]) List.mem_cons_self)
  subst hsz
  have hD := hD0.self (sz := s.heap.size)
  generalize hAe : va_A [(h0, .inr (8, [f0, f1, f2, f3, .ref cg, f5, f6, f7, f8, f9, f10, f11, f12, f13, f14])), (cg, .inr (2, [.int 0, c1, c2, c3, c4, c5])), (out, .inl (xJ g, 1, .inr (.inl of)))] s.heap.size = A at hD hU ⊢
  have hA : ∀ q : Nat, s.heap.size ≤ q → A q := fun q h => by rw [← hAe]; exact Or.inr h
  have hS : va_S A s.heap s.heap [] := va_S.rf
  have hl := lv_entry ([.ref h0, .int p0, .int p1, .ref out]) (n := 5) (Nat.le_of_ble_eq_true rfl)
  rw [lg_entry_eq]
  generalize (lg_sl ([.ref h0, .int p0, .int p1, .ref out]) ++ List.replicate (5 - (lg_sl ([.ref h0, .int p0, .int p1, .ref out])).length) Slot.unset).toArray = ls at hl ⊢
  have hl : lv_has ls 5 [(0, .ref h0), (1, .int p0), (2, .int p1), (3, .ref out)] := hl
  refine lv_aload_n hx hb dL_setWish_0 rfl (lv_at hl 3 rfl) ?_
  refine lv_iconst (v := 0) hx hb dL_setWish_1 (by decide) ?_
  refine lv_aload_n hx hb dL_setWish_2 rfl (lv_at hl 0 rfl) ?_
  refine lv_iload_n hx hb dL_setWish_3 rfl (lv_at hl 1 rfl) ?_
  refine lv_iload_n hx hb dL_setWish_4 rfl (lv_at hl 2 rfl) ?_
  have hPc := hP.sub (ws' := [(h0, .inr (8, [f0, f1, f2, f3, .ref cg, f5, f6, f7, f8, f9, f10, f11, f12, f13, f14])), (cg, .inr (2, [.int 0, c1, c2, c3, c4, c5]))]) [0, 1] rfl
  have hDc := hD.sub (ws' := [(h0, .inr (8, [f0, f1, f2, f3, .ref cg, f5, f6, f7, f8, f9, f10, f11, f12, f13, f14])), (cg, .inr (2, [.int 0, c1, c2, c3, c4, c5]))]) [0, 1] (by decide) rfl
  have hFc := xFree hS hA
  refine vx_calli (vx_runV (As := [.int p0, .int p1]) (rest := [.int 0, .ref out]) ⟨hx, hb, hml, hown, hts⟩ (x0_setWish l hfl g s.heap.size h0 cg f0 f1 f2 f3 f5 f6 f7 f8 f9 f10 f11 f12 f13 f14 c1 c2 c3 c4 c5 p0 p1) (cwV 2 hts gL_setWish_X8_setWish rfl rfl rfl (by decide +kernel) ⟨Nat.le_of_ble_eq_true rfl, Nat.le_of_ble_eq_true rfl⟩) ⟨xBU.blind, va_recv hK hPc (ci := 8) (q0 := 0) rfl rfl, fun U9 hU9 hW9 => ⟨rfl, xB.mk hPc hK hDc hU9 hW9, hU.call hS hFc hU9 hW9⟩⟩ rfl rfl hl.1 rfl (lv_room (Nat.le_of_ble_eq_true rfl)) dL_setWish_5 ⟨Nat.le_of_ble_eq_true rfl, Nat.le_of_ble_eq_true rfl⟩) hS (fun q _ h => hFc q h) hFc (fun q _ h => hFc q h) (fun E ce q9 ux t H1 locs1 ht hvm hpx hB hz1 hk1 hS hce hcv hcl => ?_) (fun r_1 u_2 t H1 locs ht hvm hw_3 hB hz1 hk1 hS => ?_)
  · obtain ⟨rfl, hB⟩ := hB
    have hP := xSame hP hk1
    refine vx_catch (name := "java/lang/IndexOutOfBoundsException") hown [] ({ startPc := 0, endPc := 10, handlerPc := 13, catchType := 28 } : ExceptionTableEntry) [({ startPc := 0, endPc := 10, handlerPc := 17, catchType := 13 } : ExceptionTableEntry)] htbl (fun z hz => absurd hz List.not_mem_nil) rfl (by decide) (hts (.classLink RL 28 "java/lang/IndexOutOfBoundsException") (by decide +kernel)) (va_Nw.use rfl (hU.2.2.2.2.1 "java/lang/IndexOutOfBoundsException" (by decide))) hce hcv hcl ?_
    generalize H1 = H at hP hS ⊢
    generalize locs1 = locs at hS ⊢
    have hP : va_P (xD g) vwCl [(h0, .inr (8, [f0, f1, f2, f3, .ref cg, f5, f6, f7, f8, f9, f10, f11, f12, f13, f14])), (cg, .inr (2, [.int 0, c1, c2, c3, c4, c5])), (out, .inl (xJ g, 1, .inr (.inl of)))] H := hP
    have hD : va_D A [(h0, .inr (8, [f0, f1, f2, f3, .ref cg, f5, f6, f7, f8, f9, f10, f11, f12, f13, f14])), (cg, .inr (2, [.int 0, c1, c2, c3, c4, c5])), (out, .inl (xJ g, 1, .inr (.inl of)))] := hD
    refine W.widen (k := 1) (n := 6) (by omega) (by omega) ?_
    refine lv_astore (lv' := [(4, .ref q9), (0, .ref h0), (1, .int p0), (2, .int p1), (3, .ref out)]) hx hb dL_setWish_13 hl (by decide) rfl (fun ls hl => ?_)
    refine lv_iconst (v := 1) hx hb dL_setWish_15 (by decide) ?_
    refine vx_ret ?_
    have hP9 := hP.sub (ws' := [(out, .inl (xJ g, 1, .inr (.inl of)))]) [2] rfl
    have hD9 := hD.sub (ws' := [(out, .inl (xJ g, 1, .inr (.inl of)))]) [2] (by decide) rfl
    exact W.iret (v := 1) hx hb hr (fun t ht hW => ⟨⟨1, (of 0), rfl, rfl, ⟨of, (by rfl), by rw [ht]; exact hP9, va_K.moved hW.alike hK, hD9⟩⟩, hS.F ht⟩) hS.2.2 dL_setWish_16
  · exact False.elim hw_3
theorem dL_stateOf_0 : decode cL_stateOf 0 = .ok (.aload_n 2, 1) := by decide +kernel
theorem dL_stateOf_1 : decode cL_stateOf 1 = .ok (.iconst 0, 1) := by decide +kernel
theorem dL_stateOf_2 : decode cL_stateOf 2 = .ok (.aload_n 0, 1) := by decide +kernel
theorem dL_stateOf_3 : decode cL_stateOf 3 = .ok (.iload_n 1, 1) := by decide +kernel
theorem dL_stateOf_4 : decode cL_stateOf 4 = .ok (.invokevirtual 119, 3) := by decide +kernel
set_option maxRecDepth 20000 in
theorem ggL_stateOf_X8_stateOf : GoodIn wsL_stateOf wsX8_stateOf := goodIn_ca (goodIn_r _ [6, 7, 8, 9, 10, 11, 5, 12, 13, 14, 15, 16, 17, 18, 19, 20, 21, 22, 23, 24, 25, 26, 27, 28, 29, 30, 31, 32, 33, 34, 35, 36, 37, 38, 39, 40, 41, 42, 43, 44, 45, 46, 47, 48] rfl (by decide +kernel)) (goodIn_sub (fun _ h => List.mem_cons_of_mem _ (List.mem_append_right _ h)) (by decide +kernel))
set_option maxRecDepth 20000 in
theorem gL_stateOf_X8_stateOf : GoodIn wsL_stateOf (wsV RL 119 RX8 yX8_stateOf wsX8_stateOf) := goodIn_app (goodIn_of _ (by decide +kernel)) ggL_stateOf_X8_stateOf
theorem dL_stateOf_12 : decode cL_stateOf 12 = .ok (.astore_n 3, 1) := by decide +kernel
theorem dL_stateOf_13 : decode cL_stateOf 13 = .ok (.iconst 1, 1) := by decide +kernel
theorem dL_stateOf_14 : decode cL_stateOf 14 = .ok (.ireturn, 1) := by decide +kernel
set_option maxHeartbeats 4000000 in
set_option maxRecDepth 100000 in
theorem l_stateOf (l : Launch) (hfl : l.stackTraces = false) (g : xG) (sz : Nat) (h0 : Nat) (cg : Nat) (f0 : Value) (f1 : Value) (f2 : Value) (f3 : Value) (f5 : Value) (f6 : Value) (f7 : Value) (f8 : Value) (f9 : Value) (f10 : Value) (f11 : Value) (f12 : Value) (f13 : Value) (f14 : Value) (c1 : Value) (c2 : Value) (c3 : Value) (c4 : Value) (c5 : Value) (p0 : Int32) (out : Nat) (of : Nat → Int64)  : vx_Met l yL_stateOf wsL_stateOf ({ frames := 9, cells := 1, slots := 6, locals := 206 }) (va_Pc [.ref h0, .int p0, .ref out] (fun U => xB g [(h0, .inr (8, [f0, f1, f2, f3, .ref cg, f5, f6, f7, f8, f9, f10, f11, f12, f13, f14])), (cg, .inr (2, [.int 0, c1, c2, c3, c4, c5])), (out, .inl (xJ g, 1, .inr (.inl of)))] sz U ∧ xU (va_A [(h0, .inr (8, [f0, f1, f2, f3, .ref cg, f5, f6, f7, f8, f9, f10, f11, f12, f13, f14])), (cg, .inr (2, [.int 0, c1, c2, c3, c4, c5])), (out, .inl (xJ g, 1, .inr (.inl of)))] sz) U)) (va_Qi (fun (r : Int32) (u : Int64) => r = 1) (fun (u : Int64) (t : State) => ∃ (of1 : Nat → Int64), of1 0 = u ∧ xE g [(out, .inl (xJ g, 1, .inr (.inl of1)))] (va_A [(h0, .inr (8, [f0, f1, f2, f3, .ref cg, f5, f6, f7, f8, f9, f10, f11, f12, f13, f14])), (cg, .inr (2, [.int 0, c1, c2, c3, c4, c5])), (out, .inl (xJ g, 1, .inr (.inl of)))] sz) t) (va_A [(h0, .inr (8, [f0, f1, f2, f3, .ref cg, f5, f6, f7, f8, f9, f10, f11, f12, f13, f14])), (cg, .inr (2, [.int 0, c1, c2, c3, c4, c5])), (out, .inl (xJ g, 1, .inr (.inl of)))] sz)) (vx_X (fun _ : Unit => True) (fun E _ _ => False) (va_A [(h0, .inr (8, [f0, f1, f2, f3, .ref cg, f5, f6, f7, f8, f9, f10, f11, f12, f13, f14])), (cg, .inr (2, [.int 0, c1, c2, c3, c4, c5])), (out, .inl (xJ g, 1, .inr (.inl of)))] sz)) 1 6 (va_A [(h0, .inr (8, [f0, f1, f2, f3, .ref cg, f5, f6, f7, f8, f9, f10, f11, f12, f13, f14])), (cg, .inr (2, [.int 0, c1, c2, c3, c4, c5])), (out, .inl (xJ g, 1, .inr (.inl of)))] sz) := by
  refine vx_ofWH (hh := [(0, 9, 12, 28)]) (cc := cL_stateOf) (maxL := 4) (ret := (some .int)) (by decide) rfl ?_
  intro p e s m args below meth c s₁ B hml hv
  obtain ⟨rfl, ⟨hsz, hP, hK, hD0⟩, hU⟩ := hv
  have hx := B.exec
  have hb := B.bytes
  have hr := B.returns
  have hts := atoms_spec (ws := wsL_stateOf) B.pre
  have hown : s.vm.findClass RL = some m.cls := findClass_of_methodNamed B.named
  have hlocks := B.notSynchronized
  have htbl := vx_table (x := yL_stateOf) B (hts (.codeWith yL_stateOf cL_stateOf 4 (some .int) [(0, 9, 12, 28)]) List.mem_cons_self)
  subst hsz
  have hD := hD0.self (sz := s.heap.size)
  generalize hAe : va_A [(h0, .inr (8, [f0, f1, f2, f3, .ref cg, f5, f6, f7, f8, f9, f10, f11, f12, f13, f14])), (cg, .inr (2, [.int 0, c1, c2, c3, c4, c5])), (out, .inl (xJ g, 1, .inr (.inl of)))] s.heap.size = A at hD hU ⊢
  have hA : ∀ q : Nat, s.heap.size ≤ q → A q := fun q h => by rw [← hAe]; exact Or.inr h
  have hS : va_S A s.heap s.heap [] := va_S.rf
  have hl := lv_entry ([.ref h0, .int p0, .ref out]) (n := 4) (Nat.le_of_ble_eq_true rfl)
  rw [lg_entry_eq]
  generalize (lg_sl ([.ref h0, .int p0, .ref out]) ++ List.replicate (4 - (lg_sl ([.ref h0, .int p0, .ref out])).length) Slot.unset).toArray = ls at hl ⊢
  have hl : lv_has ls 4 [(0, .ref h0), (1, .int p0), (2, .ref out)] := hl
  refine lv_aload_n hx hb dL_stateOf_0 rfl (lv_at hl 2 rfl) ?_
  refine lv_iconst (v := 0) hx hb dL_stateOf_1 (by decide) ?_
  refine lv_aload_n hx hb dL_stateOf_2 rfl (lv_at hl 0 rfl) ?_
  refine lv_iload_n hx hb dL_stateOf_3 rfl (lv_at hl 1 rfl) ?_
  have hPc := hP.sub (ws' := [(h0, .inr (8, [f0, f1, f2, f3, .ref cg, f5, f6, f7, f8, f9, f10, f11, f12, f13, f14])), (cg, .inr (2, [.int 0, c1, c2, c3, c4, c5]))]) [0, 1] rfl
  have hDc := hD.sub (ws' := [(h0, .inr (8, [f0, f1, f2, f3, .ref cg, f5, f6, f7, f8, f9, f10, f11, f12, f13, f14])), (cg, .inr (2, [.int 0, c1, c2, c3, c4, c5]))]) [0, 1] (by decide) rfl
  have hFc := xFree hS hA
  refine vx_calli (vx_runV (As := [.int p0]) (rest := [.int 0, .ref out]) ⟨hx, hb, hml, hown, hts⟩ (x0_stateOf l hfl g s.heap.size h0 cg f0 f1 f2 f3 f5 f6 f7 f8 f9 f10 f11 f12 f13 f14 c1 c2 c3 c4 c5 p0) (cwV 1 hts gL_stateOf_X8_stateOf rfl rfl rfl (by decide +kernel) ⟨Nat.le_of_ble_eq_true rfl, Nat.le_of_ble_eq_true rfl⟩) ⟨xBU.blind, va_recv hK hPc (ci := 8) (q0 := 0) rfl rfl, fun U9 hU9 hW9 => ⟨rfl, xB.mk hPc hK hDc hU9 hW9, hU.call hS hFc hU9 hW9⟩⟩ rfl rfl hl.1 rfl (lv_room (Nat.le_of_ble_eq_true rfl)) dL_stateOf_4 ⟨Nat.le_of_ble_eq_true rfl, Nat.le_of_ble_eq_true rfl⟩) hS (fun q _ h => hFc q h) hFc (fun q _ h => hFc q h) (fun E ce q9 ux t H1 locs1 ht hvm hpx hB hz1 hk1 hS hce hcv hcl => ?_) (fun r_1 u_2 t H1 locs ht hvm hw_3 hB hz1 hk1 hS => ?_)
  · obtain ⟨rfl, hB⟩ := hB
    have hP := xSame hP hk1
    refine vx_catch (name := "java/lang/IndexOutOfBoundsException") hown [] ({ startPc := 0, endPc := 9, handlerPc := 12, catchType := 28 } : ExceptionTableEntry) [] htbl (fun z hz => absurd hz List.not_mem_nil) rfl (by decide) (hts (.classLink RL 28 "java/lang/IndexOutOfBoundsException") (by decide +kernel)) (va_Nw.use rfl (hU.2.2.2.2.1 "java/lang/IndexOutOfBoundsException" (by decide))) hce hcv hcl ?_
    generalize H1 = H at hP hS ⊢
    generalize locs1 = locs at hS ⊢
    have hP : va_P (xD g) vwCl [(h0, .inr (8, [f0, f1, f2, f3, .ref cg, f5, f6, f7, f8, f9, f10, f11, f12, f13, f14])), (cg, .inr (2, [.int 0, c1, c2, c3, c4, c5])), (out, .inl (xJ g, 1, .inr (.inl of)))] H := hP
    have hD : va_D A [(h0, .inr (8, [f0, f1, f2, f3, .ref cg, f5, f6, f7, f8, f9, f10, f11, f12, f13, f14])), (cg, .inr (2, [.int 0, c1, c2, c3, c4, c5])), (out, .inl (xJ g, 1, .inr (.inl of)))] := hD
    refine W.widen (k := 1) (n := 6) (by omega) (by omega) ?_
    refine lv_astore_n (lv' := [(3, .ref q9), (0, .ref h0), (1, .int p0), (2, .ref out)]) hx hb dL_stateOf_12 rfl hl (by decide) rfl (fun ls hl => ?_)
    refine lv_iconst (v := 1) hx hb dL_stateOf_13 (by decide) ?_
    refine vx_ret ?_
    have hP9 := hP.sub (ws' := [(out, .inl (xJ g, 1, .inr (.inl of)))]) [2] rfl
    have hD9 := hD.sub (ws' := [(out, .inl (xJ g, 1, .inr (.inl of)))]) [2] (by decide) rfl
    exact W.iret (v := 1) hx hb hr (fun t ht hW => ⟨⟨1, (of 0), rfl, rfl, ⟨of, (by rfl), by rw [ht]; exact hP9, va_K.moved hW.alike hK, hD9⟩⟩, hS.F ht⟩) hS.2.2 dL_stateOf_14
  · exact False.elim hw_3
theorem dL_stackOf_0 : decode cL_stackOf 0 = .ok (.aload_n 2, 1) := by decide +kernel
theorem dL_stackOf_1 : decode cL_stackOf 1 = .ok (.iconst 0, 1) := by decide +kernel
theorem dL_stackOf_2 : decode cL_stackOf 2 = .ok (.aload_n 0, 1) := by decide +kernel
theorem dL_stackOf_3 : decode cL_stackOf 3 = .ok (.iload_n 1, 1) := by decide +kernel
theorem dL_stackOf_4 : decode cL_stackOf 4 = .ok (.invokevirtual 122, 3) := by decide +kernel
set_option maxRecDepth 20000 in
theorem ggL_stackOf_X8_stackOf : GoodIn wsL_stackOf wsX8_stackOf := goodIn_ca (goodIn_r _ [6, 7, 8, 9, 10, 11, 5, 12, 13, 14, 15, 16, 17, 18, 19, 20, 21, 22, 23, 24, 25, 26, 27, 28, 29, 30, 31, 32, 33, 34, 35, 36, 37, 38, 39, 40, 41, 42, 43, 44, 45, 46, 47, 48] rfl (by decide +kernel)) (goodIn_sub (fun _ h => List.mem_cons_of_mem _ (List.mem_append_right _ h)) (by decide +kernel))
set_option maxRecDepth 20000 in
theorem gL_stackOf_X8_stackOf : GoodIn wsL_stackOf (wsV RL 122 RX8 yX8_stackOf wsX8_stackOf) := goodIn_app (goodIn_of _ (by decide +kernel)) ggL_stackOf_X8_stackOf
theorem dL_stackOf_12 : decode cL_stackOf 12 = .ok (.astore_n 3, 1) := by decide +kernel
theorem dL_stackOf_13 : decode cL_stackOf 13 = .ok (.iconst 1, 1) := by decide +kernel
theorem dL_stackOf_14 : decode cL_stackOf 14 = .ok (.ireturn, 1) := by decide +kernel
set_option maxHeartbeats 4000000 in
set_option maxRecDepth 100000 in
theorem l_stackOf (l : Launch) (hfl : l.stackTraces = false) (g : xG) (sz : Nat) (h0 : Nat) (cg : Nat) (f0 : Value) (f1 : Value) (f2 : Value) (f3 : Value) (f5 : Value) (f6 : Value) (f7 : Value) (f8 : Value) (f9 : Value) (f10 : Value) (f11 : Value) (f12 : Value) (f13 : Value) (f14 : Value) (c1 : Value) (c2 : Value) (c3 : Value) (c4 : Value) (c5 : Value) (p0 : Int32) (out : Nat) (of : Nat → Int64)  : vx_Met l yL_stackOf wsL_stackOf ({ frames := 9, cells := 1, slots := 6, locals := 206 }) (va_Pc [.ref h0, .int p0, .ref out] (fun U => xB g [(h0, .inr (8, [f0, f1, f2, f3, .ref cg, f5, f6, f7, f8, f9, f10, f11, f12, f13, f14])), (cg, .inr (2, [.int 0, c1, c2, c3, c4, c5])), (out, .inl (xJ g, 1, .inr (.inl of)))] sz U ∧ xU (va_A [(h0, .inr (8, [f0, f1, f2, f3, .ref cg, f5, f6, f7, f8, f9, f10, f11, f12, f13, f14])), (cg, .inr (2, [.int 0, c1, c2, c3, c4, c5])), (out, .inl (xJ g, 1, .inr (.inl of)))] sz) U)) (va_Qi (fun (r : Int32) (u : Int64) => r = 1) (fun (u : Int64) (t : State) => ∃ (of1 : Nat → Int64), of1 0 = u ∧ xE g [(out, .inl (xJ g, 1, .inr (.inl of1)))] (va_A [(h0, .inr (8, [f0, f1, f2, f3, .ref cg, f5, f6, f7, f8, f9, f10, f11, f12, f13, f14])), (cg, .inr (2, [.int 0, c1, c2, c3, c4, c5])), (out, .inl (xJ g, 1, .inr (.inl of)))] sz) t) (va_A [(h0, .inr (8, [f0, f1, f2, f3, .ref cg, f5, f6, f7, f8, f9, f10, f11, f12, f13, f14])), (cg, .inr (2, [.int 0, c1, c2, c3, c4, c5])), (out, .inl (xJ g, 1, .inr (.inl of)))] sz)) (vx_X (fun _ : Unit => True) (fun E _ _ => False) (va_A [(h0, .inr (8, [f0, f1, f2, f3, .ref cg, f5, f6, f7, f8, f9, f10, f11, f12, f13, f14])), (cg, .inr (2, [.int 0, c1, c2, c3, c4, c5])), (out, .inl (xJ g, 1, .inr (.inl of)))] sz)) 1 6 (va_A [(h0, .inr (8, [f0, f1, f2, f3, .ref cg, f5, f6, f7, f8, f9, f10, f11, f12, f13, f14])), (cg, .inr (2, [.int 0, c1, c2, c3, c4, c5])), (out, .inl (xJ g, 1, .inr (.inl of)))] sz) := by
  refine vx_ofWH (hh := [(0, 9, 12, 28)]) (cc := cL_stackOf) (maxL := 4) (ret := (some .int)) (by decide) rfl ?_
  intro p e s m args below meth c s₁ B hml hv
  obtain ⟨rfl, ⟨hsz, hP, hK, hD0⟩, hU⟩ := hv
  have hx := B.exec
  have hb := B.bytes
  have hr := B.returns
  have hts := atoms_spec (ws := wsL_stackOf) B.pre
  have hown : s.vm.findClass RL = some m.cls := findClass_of_methodNamed B.named
  have hlocks := B.notSynchronized
  have htbl := vx_table (x := yL_stackOf) B (hts (.codeWith yL_stackOf cL_stackOf 4 (some .int) [(0, 9, 12, 28)]) List.mem_cons_self)
  subst hsz
  have hD := hD0.self (sz := s.heap.size)
  generalize hAe : va_A [(h0, .inr (8, [f0, f1, f2, f3, .ref cg, f5, f6, f7, f8, f9, f10, f11, f12, f13, f14])), (cg, .inr (2, [.int 0, c1, c2, c3, c4, c5])), (out, .inl (xJ g, 1, .inr (.inl of)))] s.heap.size = A at hD hU ⊢
  have hA : ∀ q : Nat, s.heap.size ≤ q → A q := fun q h => by rw [← hAe]; exact Or.inr h
  have hS : va_S A s.heap s.heap [] := va_S.rf
  have hl := lv_entry ([.ref h0, .int p0, .ref out]) (n := 4) (Nat.le_of_ble_eq_true rfl)
  rw [lg_entry_eq]
  generalize (lg_sl ([.ref h0, .int p0, .ref out]) ++ List.replicate (4 - (lg_sl ([.ref h0, .int p0, .ref out])).length) Slot.unset).toArray = ls at hl ⊢
  have hl : lv_has ls 4 [(0, .ref h0), (1, .int p0), (2, .ref out)] := hl
  refine lv_aload_n hx hb dL_stackOf_0 rfl (lv_at hl 2 rfl) ?_
  refine lv_iconst (v := 0) hx hb dL_stackOf_1 (by decide) ?_
  refine lv_aload_n hx hb dL_stackOf_2 rfl (lv_at hl 0 rfl) ?_
  refine lv_iload_n hx hb dL_stackOf_3 rfl (lv_at hl 1 rfl) ?_
  have hPc := hP.sub (ws' := [(h0, .inr (8, [f0, f1, f2, f3, .ref cg, f5, f6, f7, f8, f9, f10, f11, f12, f13, f14])), (cg, .inr (2, [.int 0, c1, c2, c3, c4, c5]))]) [0, 1] rfl
  have hDc := hD.sub (ws' := [(h0, .inr (8, [f0, f1, f2, f3, .ref cg, f5, f6, f7, f8, f9, f10, f11, f12, f13, f14])), (cg, .inr (2, [.int 0, c1, c2, c3, c4, c5]))]) [0, 1] (by decide) rfl
  have hFc := xFree hS hA
  refine vx_calli (vx_runV (As := [.int p0]) (rest := [.int 0, .ref out]) ⟨hx, hb, hml, hown, hts⟩ (x0_stackOf l hfl g s.heap.size h0 cg f0 f1 f2 f3 f5 f6 f7 f8 f9 f10 f11 f12 f13 f14 c1 c2 c3 c4 c5 p0) (cwV 1 hts gL_stackOf_X8_stackOf rfl rfl rfl (by decide +kernel) ⟨Nat.le_of_ble_eq_true rfl, Nat.le_of_ble_eq_true rfl⟩) ⟨xBU.blind, va_recv hK hPc (ci := 8) (q0 := 0) rfl rfl, fun U9 hU9 hW9 => ⟨rfl, xB.mk hPc hK hDc hU9 hW9, hU.call hS hFc hU9 hW9⟩⟩ rfl rfl hl.1 rfl (lv_room (Nat.le_of_ble_eq_true rfl)) dL_stackOf_4 ⟨Nat.le_of_ble_eq_true rfl, Nat.le_of_ble_eq_true rfl⟩) hS (fun q _ h => hFc q h) hFc (fun q _ h => hFc q h) (fun E ce q9 ux t H1 locs1 ht hvm hpx hB hz1 hk1 hS hce hcv hcl => ?_) (fun r_1 u_2 t H1 locs ht hvm hw_3 hB hz1 hk1 hS => ?_)
  · obtain ⟨rfl, hB⟩ := hB
    have hP := xSame hP hk1
    refine vx_catch (name := "java/lang/IndexOutOfBoundsException") hown [] ({ startPc := 0, endPc := 9, handlerPc := 12, catchType := 28 } : ExceptionTableEntry) [] htbl (fun z hz => absurd hz List.not_mem_nil) rfl (by decide) (hts (.classLink RL 28 "java/lang/IndexOutOfBoundsException") (by decide +kernel)) (va_Nw.use rfl (hU.2.2.2.2.1 "java/lang/IndexOutOfBoundsException" (by decide))) hce hcv hcl ?_
    generalize H1 = H at hP hS ⊢
    generalize locs1 = locs at hS ⊢
    have hP : va_P (xD g) vwCl [(h0, .inr (8, [f0, f1, f2, f3, .ref cg, f5, f6, f7, f8, f9, f10, f11, f12, f13, f14])), (cg, .inr (2, [.int 0, c1, c2, c3, c4, c5])), (out, .inl (xJ g, 1, .inr (.inl of)))] H := hP
    have hD : va_D A [(h0, .inr (8, [f0, f1, f2, f3, .ref cg, f5, f6, f7, f8, f9, f10, f11, f12, f13, f14])), (cg, .inr (2, [.int 0, c1, c2, c3, c4, c5])), (out, .inl (xJ g, 1, .inr (.inl of)))] := hD
    refine W.widen (k := 1) (n := 6) (by omega) (by omega) ?_
    refine lv_astore_n (lv' := [(3, .ref q9), (0, .ref h0), (1, .int p0), (2, .ref out)]) hx hb dL_stackOf_12 rfl hl (by decide) rfl (fun ls hl => ?_)
    refine lv_iconst (v := 1) hx hb dL_stackOf_13 (by decide) ?_
    refine vx_ret ?_
    have hP9 := hP.sub (ws' := [(out, .inl (xJ g, 1, .inr (.inl of)))]) [2] rfl
    have hD9 := hD.sub (ws' := [(out, .inl (xJ g, 1, .inr (.inl of)))]) [2] (by decide) rfl
    exact W.iret (v := 1) hx hb hr (fun t ht hW => ⟨⟨1, (of 0), rfl, rfl, ⟨of, (by rfl), by rw [ht]; exact hP9, va_K.moved hW.alike hK, hD9⟩⟩, hS.F ht⟩) hS.2.2 dL_stackOf_14
  · exact False.elim hw_3
theorem dL_wouldTake_0 : decode cL_wouldTake 0 = .ok (.aload_n 2, 1) := by decide +kernel
theorem dL_wouldTake_1 : decode cL_wouldTake 1 = .ok (.iconst 0, 1) := by decide +kernel
theorem dL_wouldTake_2 : decode cL_wouldTake 2 = .ok (.aload_n 0, 1) := by decide +kernel
theorem dL_wouldTake_3 : decode cL_wouldTake 3 = .ok (.iload_n 1, 1) := by decide +kernel
theorem dL_wouldTake_4 : decode cL_wouldTake 4 = .ok (.invokevirtual 131, 3) := by decide +kernel
set_option maxRecDepth 20000 in
theorem ggL_wouldTake_X8_wouldTake : GoodIn wsL_wouldTake wsX8_wouldTake := goodIn_ca (goodIn_r _ [6, 7, 8, 9, 10, 5, 11, 12, 13, 14, 15, 16, 17, 18, 19, 20, 21, 22, 23, 24, 25, 26, 27, 28, 29, 30, 31, 32, 33, 34, 35, 36, 37, 38, 39, 40, 41, 42, 43, 44, 45, 46, 47, 48, 49, 50, 51, 52, 53, 54, 55, 56, 57, 58, 59, 60, 61, 62, 63, 64, 65, 66, 67, 68, 69, 70, 71, 72, 73, 74, 75, 76, 77, 78, 79, 80, 81, 82, 83, 84, 85, 86, 87, 88, 89, 90, 91, 92, 93, 94, 95, 96, 97, 98, 99, 100, 101, 102, 103, 104] rfl (by decide +kernel)) (goodIn_sub (fun _ h => List.mem_cons_of_mem _ (List.mem_append_right _ h)) (by decide +kernel))
set_option maxRecDepth 20000 in
theorem gL_wouldTake_X8_wouldTake : GoodIn wsL_wouldTake (wsV RL 131 RX8 yX8_wouldTake wsX8_wouldTake) := goodIn_app (goodIn_of _ (by decide +kernel)) ggL_wouldTake_X8_wouldTake
theorem dL_wouldTake_12 : decode cL_wouldTake 12 = .ok (.astore_n 3, 1) := by decide +kernel
theorem dL_wouldTake_13 : decode cL_wouldTake 13 = .ok (.iconst 1, 1) := by decide +kernel
theorem dL_wouldTake_14 : decode cL_wouldTake 14 = .ok (.ireturn, 1) := by decide +kernel
set_option maxHeartbeats 4000000 in
set_option maxRecDepth 100000 in
theorem l_wouldTake (l : Launch) (hfl : l.stackTraces = false) (g : xG) (sz : Nat) (h0 : Nat) (cg : Nat) (f0 : Value) (f1 : Value) (f2 : Value) (f3 : Value) (f5 : Value) (f6 : Value) (f7 : Value) (f8 : Value) (f9 : Value) (f10 : Value) (f11 : Value) (f12 : Value) (f13 : Value) (f14 : Value) (c1 : Value) (c2 : Value) (c3 : Value) (c4 : Value) (c5 : Value) (p0 : Int32) (out : Nat) (of : Nat → Int64)  : vx_Met l yL_wouldTake wsL_wouldTake ({ frames := 9, cells := 1, slots := 6, locals := 206 }) (va_Pc [.ref h0, .int p0, .ref out] (fun U => xB g [(h0, .inr (8, [f0, f1, f2, f3, .ref cg, f5, f6, f7, f8, f9, f10, f11, f12, f13, f14])), (cg, .inr (2, [.int 0, c1, c2, c3, c4, c5])), (out, .inl (xJ g, 1, .inr (.inl of)))] sz U ∧ xU (va_A [(h0, .inr (8, [f0, f1, f2, f3, .ref cg, f5, f6, f7, f8, f9, f10, f11, f12, f13, f14])), (cg, .inr (2, [.int 0, c1, c2, c3, c4, c5])), (out, .inl (xJ g, 1, .inr (.inl of)))] sz) U)) (va_Qi (fun (r : Int32) (u : Int64) => r = 1) (fun (u : Int64) (t : State) => ∃ (of1 : Nat → Int64), of1 0 = u ∧ xE g [(out, .inl (xJ g, 1, .inr (.inl of1)))] (va_A [(h0, .inr (8, [f0, f1, f2, f3, .ref cg, f5, f6, f7, f8, f9, f10, f11, f12, f13, f14])), (cg, .inr (2, [.int 0, c1, c2, c3, c4, c5])), (out, .inl (xJ g, 1, .inr (.inl of)))] sz) t) (va_A [(h0, .inr (8, [f0, f1, f2, f3, .ref cg, f5, f6, f7, f8, f9, f10, f11, f12, f13, f14])), (cg, .inr (2, [.int 0, c1, c2, c3, c4, c5])), (out, .inl (xJ g, 1, .inr (.inl of)))] sz)) (vx_X (fun _ : Unit => True) (fun E _ _ => False) (va_A [(h0, .inr (8, [f0, f1, f2, f3, .ref cg, f5, f6, f7, f8, f9, f10, f11, f12, f13, f14])), (cg, .inr (2, [.int 0, c1, c2, c3, c4, c5])), (out, .inl (xJ g, 1, .inr (.inl of)))] sz)) 1 6 (va_A [(h0, .inr (8, [f0, f1, f2, f3, .ref cg, f5, f6, f7, f8, f9, f10, f11, f12, f13, f14])), (cg, .inr (2, [.int 0, c1, c2, c3, c4, c5])), (out, .inl (xJ g, 1, .inr (.inl of)))] sz) := by
  refine vx_ofWH (hh := [(0, 9, 12, 28)]) (cc := cL_wouldTake) (maxL := 4) (ret := (some .int)) (by decide) rfl ?_
  intro p e s m args below meth c s₁ B hml hv
  obtain ⟨rfl, ⟨hsz, hP, hK, hD0⟩, hU⟩ := hv
  have hx := B.exec
  have hb := B.bytes
  have hr := B.returns
  have hts := atoms_spec (ws := wsL_wouldTake) B.pre
  have hown : s.vm.findClass RL = some m.cls := findClass_of_methodNamed B.named
  have hlocks := B.notSynchronized
  have htbl := vx_table (x := yL_wouldTake) B (hts (.codeWith yL_wouldTake cL_wouldTake 4 (some .int) [(0, 9, 12, 28)]) List.mem_cons_self)
  subst hsz
  have hD := hD0.self (sz := s.heap.size)
  generalize hAe : va_A [(h0, .inr (8, [f0, f1, f2, f3, .ref cg, f5, f6, f7, f8, f9, f10, f11, f12, f13, f14])), (cg, .inr (2, [.int 0, c1, c2, c3, c4, c5])), (out, .inl (xJ g, 1, .inr (.inl of)))] s.heap.size = A at hD hU ⊢
  have hA : ∀ q : Nat, s.heap.size ≤ q → A q := fun q h => by rw [← hAe]; exact Or.inr h
  have hS : va_S A s.heap s.heap [] := va_S.rf
  have hl := lv_entry ([.ref h0, .int p0, .ref out]) (n := 4) (Nat.le_of_ble_eq_true rfl)
  rw [lg_entry_eq]
  generalize (lg_sl ([.ref h0, .int p0, .ref out]) ++ List.replicate (4 - (lg_sl ([.ref h0, .int p0, .ref out])).length) Slot.unset).toArray = ls at hl ⊢
  have hl : lv_has ls 4 [(0, .ref h0), (1, .int p0), (2, .ref out)] := hl
  refine lv_aload_n hx hb dL_wouldTake_0 rfl (lv_at hl 2 rfl) ?_
  refine lv_iconst (v := 0) hx hb dL_wouldTake_1 (by decide) ?_
  refine lv_aload_n hx hb dL_wouldTake_2 rfl (lv_at hl 0 rfl) ?_
  refine lv_iload_n hx hb dL_wouldTake_3 rfl (lv_at hl 1 rfl) ?_
  have hPc := hP.sub (ws' := [(h0, .inr (8, [f0, f1, f2, f3, .ref cg, f5, f6, f7, f8, f9, f10, f11, f12, f13, f14])), (cg, .inr (2, [.int 0, c1, c2, c3, c4, c5]))]) [0, 1] rfl
  have hDc := hD.sub (ws' := [(h0, .inr (8, [f0, f1, f2, f3, .ref cg, f5, f6, f7, f8, f9, f10, f11, f12, f13, f14])), (cg, .inr (2, [.int 0, c1, c2, c3, c4, c5]))]) [0, 1] (by decide) rfl
  have hFc := xFree hS hA
  refine vx_calli (vx_runV (As := [.int p0]) (rest := [.int 0, .ref out]) ⟨hx, hb, hml, hown, hts⟩ (x0_wouldTake l hfl g s.heap.size h0 cg f0 f1 f2 f3 f5 f6 f7 f8 f9 f10 f11 f12 f13 f14 c1 c2 c3 c4 c5 p0) (cwV 1 hts gL_wouldTake_X8_wouldTake rfl rfl rfl (by decide +kernel) ⟨Nat.le_of_ble_eq_true rfl, Nat.le_of_ble_eq_true rfl⟩) ⟨xBU.blind, va_recv hK hPc (ci := 8) (q0 := 0) rfl rfl, fun U9 hU9 hW9 => ⟨rfl, xB.mk hPc hK hDc hU9 hW9, hU.call hS hFc hU9 hW9⟩⟩ rfl rfl hl.1 rfl (lv_room (Nat.le_of_ble_eq_true rfl)) dL_wouldTake_4 ⟨Nat.le_of_ble_eq_true rfl, Nat.le_of_ble_eq_true rfl⟩) hS (fun q _ h => hFc q h) hFc (fun q _ h => hFc q h) (fun E ce q9 ux t H1 locs1 ht hvm hpx hB hz1 hk1 hS hce hcv hcl => ?_) (fun r_1 u_2 t H1 locs ht hvm hw_3 hB hz1 hk1 hS => ?_)
  · obtain ⟨rfl, hB⟩ := hB
    have hP := xSame hP hk1
    refine vx_catch (name := "java/lang/IndexOutOfBoundsException") hown [] ({ startPc := 0, endPc := 9, handlerPc := 12, catchType := 28 } : ExceptionTableEntry) [] htbl (fun z hz => absurd hz List.not_mem_nil) rfl (by decide) (hts (.classLink RL 28 "java/lang/IndexOutOfBoundsException") (by decide +kernel)) (va_Nw.use rfl (hU.2.2.2.2.1 "java/lang/IndexOutOfBoundsException" (by decide))) hce hcv hcl ?_
    generalize H1 = H at hP hS ⊢
    generalize locs1 = locs at hS ⊢
    have hP : va_P (xD g) vwCl [(h0, .inr (8, [f0, f1, f2, f3, .ref cg, f5, f6, f7, f8, f9, f10, f11, f12, f13, f14])), (cg, .inr (2, [.int 0, c1, c2, c3, c4, c5])), (out, .inl (xJ g, 1, .inr (.inl of)))] H := hP
    have hD : va_D A [(h0, .inr (8, [f0, f1, f2, f3, .ref cg, f5, f6, f7, f8, f9, f10, f11, f12, f13, f14])), (cg, .inr (2, [.int 0, c1, c2, c3, c4, c5])), (out, .inl (xJ g, 1, .inr (.inl of)))] := hD
    refine W.widen (k := 1) (n := 6) (by omega) (by omega) ?_
    refine lv_astore_n (lv' := [(3, .ref q9), (0, .ref h0), (1, .int p0), (2, .ref out)]) hx hb dL_wouldTake_12 rfl hl (by decide) rfl (fun ls hl => ?_)
    refine lv_iconst (v := 1) hx hb dL_wouldTake_13 (by decide) ?_
    refine vx_ret ?_
    have hP9 := hP.sub (ws' := [(out, .inl (xJ g, 1, .inr (.inl of)))]) [2] rfl
    have hD9 := hD.sub (ws' := [(out, .inl (xJ g, 1, .inr (.inl of)))]) [2] (by decide) rfl
    exact W.iret (v := 1) hx hb hr (fun t ht hW => ⟨⟨1, (of 0), rfl, rfl, ⟨of, (by rfl), by rw [ht]; exact hP9, va_K.moved hW.alike hK, hD9⟩⟩, hS.F ht⟩) hS.2.2 dL_wouldTake_14
  · exact False.elim hw_3
theorem dL_heightOf_0 : decode cL_heightOf 0 = .ok (.aload_n 2, 1) := by decide +kernel
theorem dL_heightOf_1 : decode cL_heightOf 1 = .ok (.iconst 0, 1) := by decide +kernel
theorem dL_heightOf_2 : decode cL_heightOf 2 = .ok (.aload_n 0, 1) := by decide +kernel
theorem dL_heightOf_3 : decode cL_heightOf 3 = .ok (.iload_n 1, 1) := by decide +kernel
theorem dL_heightOf_4 : decode cL_heightOf 4 = .ok (.invokevirtual 125, 3) := by decide +kernel
set_option maxRecDepth 20000 in
theorem ggL_heightOf_X8_heightOf : GoodIn wsL_heightOf wsX8_heightOf := goodIn_ca (goodIn_r _ [6, 7, 8, 9, 10, 11, 5, 12, 13, 14, 15, 16, 17, 18, 19, 20, 21, 22, 23, 24, 25, 26, 27, 28, 29, 30, 31, 32, 33, 34, 35, 36, 37, 38, 39, 40, 41] rfl (by decide +kernel)) (goodIn_sub (fun _ h => List.mem_cons_of_mem _ (List.mem_append_right _ h)) (by decide +kernel))
set_option maxRecDepth 20000 in
theorem gL_heightOf_X8_heightOf : GoodIn wsL_heightOf (wsV RL 125 RX8 yX8_heightOf wsX8_heightOf) := goodIn_app (goodIn_of _ (by decide +kernel)) ggL_heightOf_X8_heightOf
theorem dL_heightOf_12 : decode cL_heightOf 12 = .ok (.astore_n 3, 1) := by decide +kernel
theorem dL_heightOf_13 : decode cL_heightOf 13 = .ok (.iconst 1, 1) := by decide +kernel
theorem dL_heightOf_14 : decode cL_heightOf 14 = .ok (.ireturn, 1) := by decide +kernel
set_option maxHeartbeats 4000000 in
set_option maxRecDepth 100000 in
theorem l_heightOf (l : Launch) (hfl : l.stackTraces = false) (g : xG) (sz : Nat) (h0 : Nat) (yd : Nat) (f0 : Value) (f1 : Value) (f2 : Value) (f3 : Value) (f4 : Value) (f5 : Value) (f6 : Value) (f7 : Value) (f8 : Value) (f9 : Value) (f10 : Value) (f11 : Value) (f12 : Value) (f14 : Value) (y1 : Value) (y2 : Value) (y3 : Value) (y4 : Value) (y5 : Value) (y6 : Value) (y7 : Value) (y8 : Value) (y9 : Value) (y10 : Value) (p0 : Int32) (out : Nat) (of : Nat → Int64)  : vx_Met l yL_heightOf wsL_heightOf ({ frames := 9, cells := 1, slots := 6, locals := 206 }) (va_Pc [.ref h0, .int p0, .ref out] (fun U => xB g [(h0, .inr (8, [f0, f1, f2, f3, f4, f5, f6, f7, f8, f9, f10, f11, f12, .ref yd, f14])), (yd, .inr (7, [.int 0, y1, y2, y3, y4, y5, y6, y7, y8, y9, y10])), (out, .inl (xJ g, 1, .inr (.inl of)))] sz U ∧ xU (va_A [(h0, .inr (8, [f0, f1, f2, f3, f4, f5, f6, f7, f8, f9, f10, f11, f12, .ref yd, f14])), (yd, .inr (7, [.int 0, y1, y2, y3, y4, y5, y6, y7, y8, y9, y10])), (out, .inl (xJ g, 1, .inr (.inl of)))] sz) U)) (va_Qi (fun (r : Int32) (u : Int64) => r = 1) (fun (u : Int64) (t : State) => ∃ (of1 : Nat → Int64), of1 0 = u ∧ xE g [(out, .inl (xJ g, 1, .inr (.inl of1)))] (va_A [(h0, .inr (8, [f0, f1, f2, f3, f4, f5, f6, f7, f8, f9, f10, f11, f12, .ref yd, f14])), (yd, .inr (7, [.int 0, y1, y2, y3, y4, y5, y6, y7, y8, y9, y10])), (out, .inl (xJ g, 1, .inr (.inl of)))] sz) t) (va_A [(h0, .inr (8, [f0, f1, f2, f3, f4, f5, f6, f7, f8, f9, f10, f11, f12, .ref yd, f14])), (yd, .inr (7, [.int 0, y1, y2, y3, y4, y5, y6, y7, y8, y9, y10])), (out, .inl (xJ g, 1, .inr (.inl of)))] sz)) (vx_X (fun _ : Unit => True) (fun E _ _ => False) (va_A [(h0, .inr (8, [f0, f1, f2, f3, f4, f5, f6, f7, f8, f9, f10, f11, f12, .ref yd, f14])), (yd, .inr (7, [.int 0, y1, y2, y3, y4, y5, y6, y7, y8, y9, y10])), (out, .inl (xJ g, 1, .inr (.inl of)))] sz)) 1 6 (va_A [(h0, .inr (8, [f0, f1, f2, f3, f4, f5, f6, f7, f8, f9, f10, f11, f12, .ref yd, f14])), (yd, .inr (7, [.int 0, y1, y2, y3, y4, y5, y6, y7, y8, y9, y10])), (out, .inl (xJ g, 1, .inr (.inl of)))] sz) := by
  refine vx_ofWH (hh := [(0, 9, 12, 28)]) (cc := cL_heightOf) (maxL := 4) (ret := (some .int)) (by decide) rfl ?_
  intro p e s m args below meth c s₁ B hml hv
  obtain ⟨rfl, ⟨hsz, hP, hK, hD0⟩, hU⟩ := hv
  have hx := B.exec
  have hb := B.bytes
  have hr := B.returns
  have hts := atoms_spec (ws := wsL_heightOf) B.pre
  have hown : s.vm.findClass RL = some m.cls := findClass_of_methodNamed B.named
  have hlocks := B.notSynchronized
  have htbl := vx_table (x := yL_heightOf) B (hts (.codeWith yL_heightOf cL_heightOf 4 (some .int) [(0, 9, 12, 28)]) List.mem_cons_self)
  subst hsz
  have hD := hD0.self (sz := s.heap.size)
  generalize hAe : va_A [(h0, .inr (8, [f0, f1, f2, f3, f4, f5, f6, f7, f8, f9, f10, f11, f12, .ref yd, f14])), (yd, .inr (7, [.int 0, y1, y2, y3, y4, y5, y6, y7, y8, y9, y10])), (out, .inl (xJ g, 1, .inr (.inl of)))] s.heap.size = A at hD hU ⊢
  have hA : ∀ q : Nat, s.heap.size ≤ q → A q := fun q h => by rw [← hAe]; exact Or.inr h
  have hS : va_S A s.heap s.heap [] := va_S.rf
  have hl := lv_entry ([.ref h0, .int p0, .ref out]) (n := 4) (Nat.le_of_ble_eq_true rfl)
  rw [lg_entry_eq]
  generalize (lg_sl ([.ref h0, .int p0, .ref out]) ++ List.replicate (4 - (lg_sl ([.ref h0, .int p0, .ref out])).length) Slot.unset).toArray = ls at hl ⊢
  have hl : lv_has ls 4 [(0, .ref h0), (1, .int p0), (2, .ref out)] := hl
  refine lv_aload_n hx hb dL_heightOf_0 rfl (lv_at hl 2 rfl) ?_
  refine lv_iconst (v := 0) hx hb dL_heightOf_1 (by decide) ?_
  refine lv_aload_n hx hb dL_heightOf_2 rfl (lv_at hl 0 rfl) ?_
  refine lv_iload_n hx hb dL_heightOf_3 rfl (lv_at hl 1 rfl) ?_
  have hPc := hP.sub (ws' := [(h0, .inr (8, [f0, f1, f2, f3, f4, f5, f6, f7, f8, f9, f10, f11, f12, .ref yd, f14])), (yd, .inr (7, [.int 0, y1, y2, y3, y4, y5, y6, y7, y8, y9, y10]))]) [0, 1] rfl
  have hDc := hD.sub (ws' := [(h0, .inr (8, [f0, f1, f2, f3, f4, f5, f6, f7, f8, f9, f10, f11, f12, .ref yd, f14])), (yd, .inr (7, [.int 0, y1, y2, y3, y4, y5, y6, y7, y8, y9, y10]))]) [0, 1] (by decide) rfl
  have hFc := xFree hS hA
  refine vx_calli (vx_runV (As := [.int p0]) (rest := [.int 0, .ref out]) ⟨hx, hb, hml, hown, hts⟩ (x0_heightOf l hfl g s.heap.size h0 yd f0 f1 f2 f3 f4 f5 f6 f7 f8 f9 f10 f11 f12 f14 y1 y2 y3 y4 y5 y6 y7 y8 y9 y10 p0) (cwV 1 hts gL_heightOf_X8_heightOf rfl rfl rfl (by decide +kernel) ⟨Nat.le_of_ble_eq_true rfl, Nat.le_of_ble_eq_true rfl⟩) ⟨xBU.blind, va_recv hK hPc (ci := 8) (q0 := 0) rfl rfl, fun U9 hU9 hW9 => ⟨rfl, xB.mk hPc hK hDc hU9 hW9, hU.call hS hFc hU9 hW9⟩⟩ rfl rfl hl.1 rfl (lv_room (Nat.le_of_ble_eq_true rfl)) dL_heightOf_4 ⟨Nat.le_of_ble_eq_true rfl, Nat.le_of_ble_eq_true rfl⟩) hS (fun q _ h => hFc q h) hFc (fun q _ h => hFc q h) (fun E ce q9 ux t H1 locs1 ht hvm hpx hB hz1 hk1 hS hce hcv hcl => ?_) (fun r_1 u_2 t H1 locs ht hvm hw_3 hB hz1 hk1 hS => ?_)
  · obtain ⟨rfl, hB⟩ := hB
    have hP := xSame hP hk1
    refine vx_catch (name := "java/lang/IndexOutOfBoundsException") hown [] ({ startPc := 0, endPc := 9, handlerPc := 12, catchType := 28 } : ExceptionTableEntry) [] htbl (fun z hz => absurd hz List.not_mem_nil) rfl (by decide) (hts (.classLink RL 28 "java/lang/IndexOutOfBoundsException") (by decide +kernel)) (va_Nw.use rfl (hU.2.2.2.2.1 "java/lang/IndexOutOfBoundsException" (by decide))) hce hcv hcl ?_
    generalize H1 = H at hP hS ⊢
    generalize locs1 = locs at hS ⊢
    have hP : va_P (xD g) vwCl [(h0, .inr (8, [f0, f1, f2, f3, f4, f5, f6, f7, f8, f9, f10, f11, f12, .ref yd, f14])), (yd, .inr (7, [.int 0, y1, y2, y3, y4, y5, y6, y7, y8, y9, y10])), (out, .inl (xJ g, 1, .inr (.inl of)))] H := hP
    have hD : va_D A [(h0, .inr (8, [f0, f1, f2, f3, f4, f5, f6, f7, f8, f9, f10, f11, f12, .ref yd, f14])), (yd, .inr (7, [.int 0, y1, y2, y3, y4, y5, y6, y7, y8, y9, y10])), (out, .inl (xJ g, 1, .inr (.inl of)))] := hD
    refine W.widen (k := 1) (n := 6) (by omega) (by omega) ?_
    refine lv_astore_n (lv' := [(3, .ref q9), (0, .ref h0), (1, .int p0), (2, .ref out)]) hx hb dL_heightOf_12 rfl hl (by decide) rfl (fun ls hl => ?_)
    refine lv_iconst (v := 1) hx hb dL_heightOf_13 (by decide) ?_
    refine vx_ret ?_
    have hP9 := hP.sub (ws' := [(out, .inl (xJ g, 1, .inr (.inl of)))]) [2] rfl
    have hD9 := hD.sub (ws' := [(out, .inl (xJ g, 1, .inr (.inl of)))]) [2] (by decide) rfl
    exact W.iret (v := 1) hx hb hr (fun t ht hW => ⟨⟨1, (of 0), rfl, rfl, ⟨of, (by rfl), by rw [ht]; exact hP9, va_K.moved hW.alike hK, hD9⟩⟩, hS.F ht⟩) hS.2.2 dL_heightOf_14
  · exact False.elim hw_3
theorem dL_containerAt_0 : decode cL_containerAt 0 = .ok (.aload_n 3, 1) := by decide +kernel
theorem dL_containerAt_1 : decode cL_containerAt 1 = .ok (.iconst 0, 1) := by decide +kernel
theorem dL_containerAt_2 : decode cL_containerAt 2 = .ok (.aload_n 0, 1) := by decide +kernel
theorem dL_containerAt_3 : decode cL_containerAt 3 = .ok (.iload_n 1, 1) := by decide +kernel
theorem dL_containerAt_4 : decode cL_containerAt 4 = .ok (.iload_n 2, 1) := by decide +kernel
theorem dL_containerAt_5 : decode cL_containerAt 5 = .ok (.invokevirtual 128, 3) := by decide +kernel
set_option maxRecDepth 20000 in
theorem ggL_containerAt_X8_containerAt : GoodIn wsL_containerAt wsX8_containerAt := goodIn_ca (goodIn_r _ [6, 7, 8, 9, 10, 11, 12, 13, 14, 5, 15, 16, 17, 18, 19, 20, 21, 22, 23, 24, 25, 26, 27, 28, 29, 30, 31, 32, 33, 34, 35, 36, 37, 38, 39, 40, 41, 42] rfl (by decide +kernel)) (goodIn_sub (fun _ h => List.mem_cons_of_mem _ (List.mem_append_right _ h)) (by decide +kernel))
set_option maxRecDepth 20000 in
theorem gL_containerAt_X8_containerAt : GoodIn wsL_containerAt (wsV RL 128 RX8 yX8_containerAt wsX8_containerAt) := goodIn_app (goodIn_of _ (by decide +kernel)) ggL_containerAt_X8_containerAt
theorem dL_containerAt_13 : decode cL_containerAt 13 = .ok (.astore 4, 2) := by decide +kernel
theorem dL_containerAt_15 : decode cL_containerAt 15 = .ok (.iconst 1, 1) := by decide +kernel
theorem dL_containerAt_16 : decode cL_containerAt 16 = .ok (.ireturn, 1) := by decide +kernel
set_option maxHeartbeats 4000000 in
set_option maxRecDepth 100000 in
theorem l_containerAt (l : Launch) (hfl : l.stackTraces = false) (g : xG) (sz : Nat) (h0 : Nat) (yd : Nat) (f0 : Value) (f1 : Value) (f2 : Value) (f3 : Value) (f4 : Value) (f5 : Value) (f6 : Value) (f7 : Value) (f8 : Value) (f9 : Value) (f10 : Value) (f11 : Value) (f12 : Value) (f14 : Value) (y1 : Value) (y2 : Value) (y3 : Value) (y4 : Value) (y5 : Value) (y6 : Value) (y7 : Value) (y8 : Value) (y9 : Value) (y10 : Value) (p0 : Int32) (p1 : Int32) (out : Nat) (of : Nat → Int64)  : vx_Met l yL_containerAt wsL_containerAt ({ frames := 9, cells := 1, slots := 6, locals := 207 }) (va_Pc [.ref h0, .int p0, .int p1, .ref out] (fun U => xB g [(h0, .inr (8, [f0, f1, f2, f3, f4, f5, f6, f7, f8, f9, f10, f11, f12, .ref yd, f14])), (yd, .inr (7, [.int 0, y1, y2, y3, y4, y5, y6, y7, y8, y9, y10])), (out, .inl (xJ g, 1, .inr (.inl of)))] sz U ∧ xU (va_A [(h0, .inr (8, [f0, f1, f2, f3, f4, f5, f6, f7, f8, f9, f10, f11, f12, .ref yd, f14])), (yd, .inr (7, [.int 0, y1, y2, y3, y4, y5, y6, y7, y8, y9, y10])), (out, .inl (xJ g, 1, .inr (.inl of)))] sz) U)) (va_Qi (fun (r : Int32) (u : Int64) => r = 1) (fun (u : Int64) (t : State) => ∃ (of1 : Nat → Int64), of1 0 = u ∧ xE g [(out, .inl (xJ g, 1, .inr (.inl of1)))] (va_A [(h0, .inr (8, [f0, f1, f2, f3, f4, f5, f6, f7, f8, f9, f10, f11, f12, .ref yd, f14])), (yd, .inr (7, [.int 0, y1, y2, y3, y4, y5, y6, y7, y8, y9, y10])), (out, .inl (xJ g, 1, .inr (.inl of)))] sz) t) (va_A [(h0, .inr (8, [f0, f1, f2, f3, f4, f5, f6, f7, f8, f9, f10, f11, f12, .ref yd, f14])), (yd, .inr (7, [.int 0, y1, y2, y3, y4, y5, y6, y7, y8, y9, y10])), (out, .inl (xJ g, 1, .inr (.inl of)))] sz)) (vx_X (fun _ : Unit => True) (fun E _ _ => False) (va_A [(h0, .inr (8, [f0, f1, f2, f3, f4, f5, f6, f7, f8, f9, f10, f11, f12, .ref yd, f14])), (yd, .inr (7, [.int 0, y1, y2, y3, y4, y5, y6, y7, y8, y9, y10])), (out, .inl (xJ g, 1, .inr (.inl of)))] sz)) 1 6 (va_A [(h0, .inr (8, [f0, f1, f2, f3, f4, f5, f6, f7, f8, f9, f10, f11, f12, .ref yd, f14])), (yd, .inr (7, [.int 0, y1, y2, y3, y4, y5, y6, y7, y8, y9, y10])), (out, .inl (xJ g, 1, .inr (.inl of)))] sz) := by
  refine vx_ofWH (hh := [(0, 10, 13, 28)]) (cc := cL_containerAt) (maxL := 5) (ret := (some .int)) (by decide) rfl ?_
  intro p e s m args below meth c s₁ B hml hv
  obtain ⟨rfl, ⟨hsz, hP, hK, hD0⟩, hU⟩ := hv
  have hx := B.exec
  have hb := B.bytes
  have hr := B.returns
  have hts := atoms_spec (ws := wsL_containerAt) B.pre
  have hown : s.vm.findClass RL = some m.cls := findClass_of_methodNamed B.named
  have hlocks := B.notSynchronized
  have htbl := vx_table (x := yL_containerAt) B (hts (.codeWith yL_containerAt cL_containerAt 5 (some .int) [(0, 10, 13, 28)]) List.mem_cons_self)
  subst hsz
  have hD := hD0.self (sz := s.heap.size)
  generalize hAe : va_A [(h0, .inr (8, [f0, f1, f2, f3, f4, f5, f6, f7, f8, f9, f10, f11, f12, .ref yd, f14])), (yd, .inr (7, [.int 0, y1, y2, y3, y4, y5, y6, y7, y8, y9, y10])), (out, .inl (xJ g, 1, .inr (.inl of)))] s.heap.size = A at hD hU ⊢
  have hA : ∀ q : Nat, s.heap.size ≤ q → A q := fun q h => by rw [← hAe]; exact Or.inr h
  have hS : va_S A s.heap s.heap [] := va_S.rf
  have hl := lv_entry ([.ref h0, .int p0, .int p1, .ref out]) (n := 5) (Nat.le_of_ble_eq_true rfl)
  rw [lg_entry_eq]
  generalize (lg_sl ([.ref h0, .int p0, .int p1, .ref out]) ++ List.replicate (5 - (lg_sl ([.ref h0, .int p0, .int p1, .ref out])).length) Slot.unset).toArray = ls at hl ⊢
  have hl : lv_has ls 5 [(0, .ref h0), (1, .int p0), (2, .int p1), (3, .ref out)] := hl
  refine lv_aload_n hx hb dL_containerAt_0 rfl (lv_at hl 3 rfl) ?_
  refine lv_iconst (v := 0) hx hb dL_containerAt_1 (by decide) ?_
  refine lv_aload_n hx hb dL_containerAt_2 rfl (lv_at hl 0 rfl) ?_
  refine lv_iload_n hx hb dL_containerAt_3 rfl (lv_at hl 1 rfl) ?_
  refine lv_iload_n hx hb dL_containerAt_4 rfl (lv_at hl 2 rfl) ?_
  have hPc := hP.sub (ws' := [(h0, .inr (8, [f0, f1, f2, f3, f4, f5, f6, f7, f8, f9, f10, f11, f12, .ref yd, f14])), (yd, .inr (7, [.int 0, y1, y2, y3, y4, y5, y6, y7, y8, y9, y10]))]) [0, 1] rfl
  have hDc := hD.sub (ws' := [(h0, .inr (8, [f0, f1, f2, f3, f4, f5, f6, f7, f8, f9, f10, f11, f12, .ref yd, f14])), (yd, .inr (7, [.int 0, y1, y2, y3, y4, y5, y6, y7, y8, y9, y10]))]) [0, 1] (by decide) rfl
  have hFc := xFree hS hA
  refine vx_calli (vx_runV (As := [.int p0, .int p1]) (rest := [.int 0, .ref out]) ⟨hx, hb, hml, hown, hts⟩ (x0_containerAt l hfl g s.heap.size h0 yd f0 f1 f2 f3 f4 f5 f6 f7 f8 f9 f10 f11 f12 f14 y1 y2 y3 y4 y5 y6 y7 y8 y9 y10 p0 p1) (cwV 2 hts gL_containerAt_X8_containerAt rfl rfl rfl (by decide +kernel) ⟨Nat.le_of_ble_eq_true rfl, Nat.le_of_ble_eq_true rfl⟩) ⟨xBU.blind, va_recv hK hPc (ci := 8) (q0 := 0) rfl rfl, fun U9 hU9 hW9 => ⟨rfl, xB.mk hPc hK hDc hU9 hW9, hU.call hS hFc hU9 hW9⟩⟩ rfl rfl hl.1 rfl (lv_room (Nat.le_of_ble_eq_true rfl)) dL_containerAt_5 ⟨Nat.le_of_ble_eq_true rfl, Nat.le_of_ble_eq_true rfl⟩) hS (fun q _ h => hFc q h) hFc (fun q _ h => hFc q h) (fun E ce q9 ux t H1 locs1 ht hvm hpx hB hz1 hk1 hS hce hcv hcl => ?_) (fun r_1 u_2 t H1 locs ht hvm hw_3 hB hz1 hk1 hS => ?_)
  · obtain ⟨rfl, hB⟩ := hB
    have hP := xSame hP hk1
    refine vx_catch (name := "java/lang/IndexOutOfBoundsException") hown [] ({ startPc := 0, endPc := 10, handlerPc := 13, catchType := 28 } : ExceptionTableEntry) [] htbl (fun z hz => absurd hz List.not_mem_nil) rfl (by decide) (hts (.classLink RL 28 "java/lang/IndexOutOfBoundsException") (by decide +kernel)) (va_Nw.use rfl (hU.2.2.2.2.1 "java/lang/IndexOutOfBoundsException" (by decide))) hce hcv hcl ?_
    generalize H1 = H at hP hS ⊢
    generalize locs1 = locs at hS ⊢
    have hP : va_P (xD g) vwCl [(h0, .inr (8, [f0, f1, f2, f3, f4, f5, f6, f7, f8, f9, f10, f11, f12, .ref yd, f14])), (yd, .inr (7, [.int 0, y1, y2, y3, y4, y5, y6, y7, y8, y9, y10])), (out, .inl (xJ g, 1, .inr (.inl of)))] H := hP
    have hD : va_D A [(h0, .inr (8, [f0, f1, f2, f3, f4, f5, f6, f7, f8, f9, f10, f11, f12, .ref yd, f14])), (yd, .inr (7, [.int 0, y1, y2, y3, y4, y5, y6, y7, y8, y9, y10])), (out, .inl (xJ g, 1, .inr (.inl of)))] := hD
    refine W.widen (k := 1) (n := 6) (by omega) (by omega) ?_
    refine lv_astore (lv' := [(4, .ref q9), (0, .ref h0), (1, .int p0), (2, .int p1), (3, .ref out)]) hx hb dL_containerAt_13 hl (by decide) rfl (fun ls hl => ?_)
    refine lv_iconst (v := 1) hx hb dL_containerAt_15 (by decide) ?_
    refine vx_ret ?_
    have hP9 := hP.sub (ws' := [(out, .inl (xJ g, 1, .inr (.inl of)))]) [2] rfl
    have hD9 := hD.sub (ws' := [(out, .inl (xJ g, 1, .inr (.inl of)))]) [2] (by decide) rfl
    exact W.iret (v := 1) hx hb hr (fun t ht hW => ⟨⟨1, (of 0), rfl, rfl, ⟨of, (by rfl), by rw [ht]; exact hP9, va_K.moved hW.alike hK, hD9⟩⟩, hS.F ht⟩) hS.2.2 dL_containerAt_16
  · exact False.elim hw_3
theorem dL_timeOf_0 : decode cL_timeOf 0 = .ok (.aload_n 2, 1) := by decide +kernel
theorem dL_timeOf_1 : decode cL_timeOf 1 = .ok (.iconst 0, 1) := by decide +kernel
theorem dL_timeOf_2 : decode cL_timeOf 2 = .ok (.aload_n 0, 1) := by decide +kernel
theorem dL_timeOf_3 : decode cL_timeOf 3 = .ok (.iload_n 1, 1) := by decide +kernel
theorem dL_timeOf_4 : decode cL_timeOf 4 = .ok (.invokevirtual 108, 3) := by decide +kernel
set_option maxRecDepth 20000 in
theorem ggL_timeOf_X8_timeOf : GoodIn wsL_timeOf wsX8_timeOf := goodIn_ca (goodIn_r _ [6, 7, 8, 9, 10, 5, 11, 12, 13, 14, 15, 16, 17, 18, 19, 20, 21, 22, 23, 24, 25, 26, 27, 28, 29, 30, 31, 32, 33, 34, 35, 36, 37] rfl (by decide +kernel)) (goodIn_sub (fun _ h => List.mem_cons_of_mem _ (List.mem_append_right _ h)) (by decide +kernel))
set_option maxRecDepth 20000 in
theorem gL_timeOf_X8_timeOf : GoodIn wsL_timeOf (wsV RL 108 RX8 yX8_timeOf wsX8_timeOf) := goodIn_app (goodIn_of _ (by decide +kernel)) ggL_timeOf_X8_timeOf
theorem dL_timeOf_12 : decode cL_timeOf 12 = .ok (.astore_n 3, 1) := by decide +kernel
theorem dL_timeOf_13 : decode cL_timeOf 13 = .ok (.iconst 1, 1) := by decide +kernel
theorem dL_timeOf_14 : decode cL_timeOf 14 = .ok (.ireturn, 1) := by decide +kernel
set_option maxHeartbeats 4000000 in
set_option maxRecDepth 100000 in
theorem l_timeOf (l : Launch) (hfl : l.stackTraces = false) (g : xG) (sz : Nat) (h0 : Nat) (ag : Nat) (f0 : Value) (f1 : Value) (f2 : Value) (f3 : Value) (f4 : Value) (f5 : Value) (f6 : Value) (f7 : Value) (f8 : Value) (f9 : Value) (f10 : Value) (f11 : Value) (f13 : Value) (f14 : Value) (a1 : Value) (p0 : Int32) (out : Nat) (of : Nat → Int64)  : vx_Met l yL_timeOf wsL_timeOf ({ frames := 9, cells := 1, slots := 6, locals := 206 }) (va_Pc [.ref h0, .int p0, .ref out] (fun U => xB g [(h0, .inr (8, [f0, f1, f2, f3, f4, f5, f6, f7, f8, f9, f10, f11, .ref ag, f13, f14])), (ag, .inr (0, [.int 0, a1])), (out, .inl (xJ g, 1, .inr (.inl of)))] sz U ∧ xU (va_A [(h0, .inr (8, [f0, f1, f2, f3, f4, f5, f6, f7, f8, f9, f10, f11, .ref ag, f13, f14])), (ag, .inr (0, [.int 0, a1])), (out, .inl (xJ g, 1, .inr (.inl of)))] sz) U)) (va_Qi (fun (r : Int32) (u : Int64) => r = 1) (fun (u : Int64) (t : State) => ∃ (of1 : Nat → Int64), of1 0 = u ∧ xE g [(out, .inl (xJ g, 1, .inr (.inl of1)))] (va_A [(h0, .inr (8, [f0, f1, f2, f3, f4, f5, f6, f7, f8, f9, f10, f11, .ref ag, f13, f14])), (ag, .inr (0, [.int 0, a1])), (out, .inl (xJ g, 1, .inr (.inl of)))] sz) t) (va_A [(h0, .inr (8, [f0, f1, f2, f3, f4, f5, f6, f7, f8, f9, f10, f11, .ref ag, f13, f14])), (ag, .inr (0, [.int 0, a1])), (out, .inl (xJ g, 1, .inr (.inl of)))] sz)) (vx_X (fun _ : Unit => True) (fun E _ _ => False) (va_A [(h0, .inr (8, [f0, f1, f2, f3, f4, f5, f6, f7, f8, f9, f10, f11, .ref ag, f13, f14])), (ag, .inr (0, [.int 0, a1])), (out, .inl (xJ g, 1, .inr (.inl of)))] sz)) 1 6 (va_A [(h0, .inr (8, [f0, f1, f2, f3, f4, f5, f6, f7, f8, f9, f10, f11, .ref ag, f13, f14])), (ag, .inr (0, [.int 0, a1])), (out, .inl (xJ g, 1, .inr (.inl of)))] sz) := by
  refine vx_ofWH (hh := [(0, 9, 12, 28)]) (cc := cL_timeOf) (maxL := 4) (ret := (some .int)) (by decide) rfl ?_
  intro p e s m args below meth c s₁ B hml hv
  obtain ⟨rfl, ⟨hsz, hP, hK, hD0⟩, hU⟩ := hv
  have hx := B.exec
  have hb := B.bytes
  have hr := B.returns
  have hts := atoms_spec (ws := wsL_timeOf) B.pre
  have hown : s.vm.findClass RL = some m.cls := findClass_of_methodNamed B.named
  have hlocks := B.notSynchronized
  have htbl := vx_table (x := yL_timeOf) B (hts (.codeWith yL_timeOf cL_timeOf 4 (some .int) [(0, 9, 12, 28)]) List.mem_cons_self)
  subst hsz
  have hD := hD0.self (sz := s.heap.size)
  generalize hAe : va_A [(h0, .inr (8, [f0, f1, f2, f3, f4, f5, f6, f7, f8, f9, f10, f11, .ref ag, f13, f14])), (ag, .inr (0, [.int 0, a1])), (out, .inl (xJ g, 1, .inr (.inl of)))] s.heap.size = A at hD hU ⊢
  have hA : ∀ q : Nat, s.heap.size ≤ q → A q := fun q h => by rw [← hAe]; exact Or.inr h
  have hS : va_S A s.heap s.heap [] := va_S.rf
  have hl := lv_entry ([.ref h0, .int p0, .ref out]) (n := 4) (Nat.le_of_ble_eq_true rfl)
  rw [lg_entry_eq]
  generalize (lg_sl ([.ref h0, .int p0, .ref out]) ++ List.replicate (4 - (lg_sl ([.ref h0, .int p0, .ref out])).length) Slot.unset).toArray = ls at hl ⊢
  have hl : lv_has ls 4 [(0, .ref h0), (1, .int p0), (2, .ref out)] := hl
  refine lv_aload_n hx hb dL_timeOf_0 rfl (lv_at hl 2 rfl) ?_
  refine lv_iconst (v := 0) hx hb dL_timeOf_1 (by decide) ?_
  refine lv_aload_n hx hb dL_timeOf_2 rfl (lv_at hl 0 rfl) ?_
  refine lv_iload_n hx hb dL_timeOf_3 rfl (lv_at hl 1 rfl) ?_
  have hPc := hP.sub (ws' := [(h0, .inr (8, [f0, f1, f2, f3, f4, f5, f6, f7, f8, f9, f10, f11, .ref ag, f13, f14])), (ag, .inr (0, [.int 0, a1]))]) [0, 1] rfl
  have hDc := hD.sub (ws' := [(h0, .inr (8, [f0, f1, f2, f3, f4, f5, f6, f7, f8, f9, f10, f11, .ref ag, f13, f14])), (ag, .inr (0, [.int 0, a1]))]) [0, 1] (by decide) rfl
  have hFc := xFree hS hA
  refine vx_calli (vx_runV (As := [.int p0]) (rest := [.int 0, .ref out]) ⟨hx, hb, hml, hown, hts⟩ (x0_timeOf l hfl g s.heap.size h0 ag f0 f1 f2 f3 f4 f5 f6 f7 f8 f9 f10 f11 f13 f14 a1 p0) (cwV 1 hts gL_timeOf_X8_timeOf rfl rfl rfl (by decide +kernel) ⟨Nat.le_of_ble_eq_true rfl, Nat.le_of_ble_eq_true rfl⟩) ⟨xBU.blind, va_recv hK hPc (ci := 8) (q0 := 0) rfl rfl, fun U9 hU9 hW9 => ⟨rfl, xB.mk hPc hK hDc hU9 hW9, hU.call hS hFc hU9 hW9⟩⟩ rfl rfl hl.1 rfl (lv_room (Nat.le_of_ble_eq_true rfl)) dL_timeOf_4 ⟨Nat.le_of_ble_eq_true rfl, Nat.le_of_ble_eq_true rfl⟩) hS (fun q _ h => hFc q h) hFc (fun q _ h => hFc q h) (fun E ce q9 ux t H1 locs1 ht hvm hpx hB hz1 hk1 hS hce hcv hcl => ?_) (fun r_1 u_2 t H1 locs ht hvm hw_3 hB hz1 hk1 hS => ?_)
  · obtain ⟨rfl, hB⟩ := hB
    have hP := xSame hP hk1
    refine vx_catch (name := "java/lang/IndexOutOfBoundsException") hown [] ({ startPc := 0, endPc := 9, handlerPc := 12, catchType := 28 } : ExceptionTableEntry) [] htbl (fun z hz => absurd hz List.not_mem_nil) rfl (by decide) (hts (.classLink RL 28 "java/lang/IndexOutOfBoundsException") (by decide +kernel)) (va_Nw.use rfl (hU.2.2.2.2.1 "java/lang/IndexOutOfBoundsException" (by decide))) hce hcv hcl ?_
    generalize H1 = H at hP hS ⊢
    generalize locs1 = locs at hS ⊢
    have hP : va_P (xD g) vwCl [(h0, .inr (8, [f0, f1, f2, f3, f4, f5, f6, f7, f8, f9, f10, f11, .ref ag, f13, f14])), (ag, .inr (0, [.int 0, a1])), (out, .inl (xJ g, 1, .inr (.inl of)))] H := hP
    have hD : va_D A [(h0, .inr (8, [f0, f1, f2, f3, f4, f5, f6, f7, f8, f9, f10, f11, .ref ag, f13, f14])), (ag, .inr (0, [.int 0, a1])), (out, .inl (xJ g, 1, .inr (.inl of)))] := hD
    refine W.widen (k := 1) (n := 6) (by omega) (by omega) ?_
    refine lv_astore_n (lv' := [(3, .ref q9), (0, .ref h0), (1, .int p0), (2, .ref out)]) hx hb dL_timeOf_12 rfl hl (by decide) rfl (fun ls hl => ?_)
    refine lv_iconst (v := 1) hx hb dL_timeOf_13 (by decide) ?_
    refine vx_ret ?_
    have hP9 := hP.sub (ws' := [(out, .inl (xJ g, 1, .inr (.inl of)))]) [2] rfl
    have hD9 := hD.sub (ws' := [(out, .inl (xJ g, 1, .inr (.inl of)))]) [2] (by decide) rfl
    exact W.iret (v := 1) hx hb hr (fun t ht hW => ⟨⟨1, (of 0), rfl, rfl, ⟨of, (by rfl), by rw [ht]; exact hP9, va_K.moved hW.alike hK, hD9⟩⟩, hS.F ht⟩) hS.2.2 dL_timeOf_14
  · exact False.elim hw_3
theorem dL_kindOf_0 : decode cL_kindOf 0 = .ok (.aload_n 2, 1) := by decide +kernel
theorem dL_kindOf_1 : decode cL_kindOf 1 = .ok (.iconst 0, 1) := by decide +kernel
theorem dL_kindOf_2 : decode cL_kindOf 2 = .ok (.aload_n 0, 1) := by decide +kernel
theorem dL_kindOf_3 : decode cL_kindOf 3 = .ok (.iload_n 1, 1) := by decide +kernel
theorem dL_kindOf_4 : decode cL_kindOf 4 = .ok (.invokevirtual 111, 3) := by decide +kernel
set_option maxRecDepth 20000 in
theorem ggL_kindOf_X8_kindOf : GoodIn wsL_kindOf wsX8_kindOf := goodIn_ca (goodIn_r _ [6, 7, 8, 9, 10, 5, 11, 12, 13, 14, 15, 16, 17, 18, 19, 20, 21, 22, 23, 24, 25, 26, 27, 28, 29, 30, 31, 32, 33, 34, 35, 36, 37] rfl (by decide +kernel)) (goodIn_sub (fun _ h => List.mem_cons_of_mem _ (List.mem_append_right _ h)) (by decide +kernel))
set_option maxRecDepth 20000 in
theorem gL_kindOf_X8_kindOf : GoodIn wsL_kindOf (wsV RL 111 RX8 yX8_kindOf wsX8_kindOf) := goodIn_app (goodIn_of _ (by decide +kernel)) ggL_kindOf_X8_kindOf
theorem dL_kindOf_12 : decode cL_kindOf 12 = .ok (.astore_n 3, 1) := by decide +kernel
theorem dL_kindOf_13 : decode cL_kindOf 13 = .ok (.iconst 1, 1) := by decide +kernel
theorem dL_kindOf_14 : decode cL_kindOf 14 = .ok (.ireturn, 1) := by decide +kernel
set_option maxHeartbeats 4000000 in
set_option maxRecDepth 100000 in
theorem l_kindOf (l : Launch) (hfl : l.stackTraces = false) (g : xG) (sz : Nat) (h0 : Nat) (ag : Nat) (f0 : Value) (f1 : Value) (f2 : Value) (f3 : Value) (f4 : Value) (f5 : Value) (f6 : Value) (f7 : Value) (f8 : Value) (f9 : Value) (f10 : Value) (f11 : Value) (f13 : Value) (f14 : Value) (a1 : Value) (p0 : Int32) (out : Nat) (of : Nat → Int64)  : vx_Met l yL_kindOf wsL_kindOf ({ frames := 9, cells := 1, slots := 6, locals := 206 }) (va_Pc [.ref h0, .int p0, .ref out] (fun U => xB g [(h0, .inr (8, [f0, f1, f2, f3, f4, f5, f6, f7, f8, f9, f10, f11, .ref ag, f13, f14])), (ag, .inr (0, [.int 0, a1])), (out, .inl (xJ g, 1, .inr (.inl of)))] sz U ∧ xU (va_A [(h0, .inr (8, [f0, f1, f2, f3, f4, f5, f6, f7, f8, f9, f10, f11, .ref ag, f13, f14])), (ag, .inr (0, [.int 0, a1])), (out, .inl (xJ g, 1, .inr (.inl of)))] sz) U)) (va_Qi (fun (r : Int32) (u : Int64) => r = 1) (fun (u : Int64) (t : State) => ∃ (of1 : Nat → Int64), of1 0 = u ∧ xE g [(out, .inl (xJ g, 1, .inr (.inl of1)))] (va_A [(h0, .inr (8, [f0, f1, f2, f3, f4, f5, f6, f7, f8, f9, f10, f11, .ref ag, f13, f14])), (ag, .inr (0, [.int 0, a1])), (out, .inl (xJ g, 1, .inr (.inl of)))] sz) t) (va_A [(h0, .inr (8, [f0, f1, f2, f3, f4, f5, f6, f7, f8, f9, f10, f11, .ref ag, f13, f14])), (ag, .inr (0, [.int 0, a1])), (out, .inl (xJ g, 1, .inr (.inl of)))] sz)) (vx_X (fun _ : Unit => True) (fun E _ _ => False) (va_A [(h0, .inr (8, [f0, f1, f2, f3, f4, f5, f6, f7, f8, f9, f10, f11, .ref ag, f13, f14])), (ag, .inr (0, [.int 0, a1])), (out, .inl (xJ g, 1, .inr (.inl of)))] sz)) 1 6 (va_A [(h0, .inr (8, [f0, f1, f2, f3, f4, f5, f6, f7, f8, f9, f10, f11, .ref ag, f13, f14])), (ag, .inr (0, [.int 0, a1])), (out, .inl (xJ g, 1, .inr (.inl of)))] sz) := by
  refine vx_ofWH (hh := [(0, 9, 12, 28)]) (cc := cL_kindOf) (maxL := 4) (ret := (some .int)) (by decide) rfl ?_
  intro p e s m args below meth c s₁ B hml hv
  obtain ⟨rfl, ⟨hsz, hP, hK, hD0⟩, hU⟩ := hv
  have hx := B.exec
  have hb := B.bytes
  have hr := B.returns
  have hts := atoms_spec (ws := wsL_kindOf) B.pre
  have hown : s.vm.findClass RL = some m.cls := findClass_of_methodNamed B.named
  have hlocks := B.notSynchronized
  have htbl := vx_table (x := yL_kindOf) B (hts (.codeWith yL_kindOf cL_kindOf 4 (some .int) [(0, 9, 12, 28)]) List.mem_cons_self)
  subst hsz
  have hD := hD0.self (sz := s.heap.size)
  generalize hAe : va_A [(h0, .inr (8, [f0, f1, f2, f3, f4, f5, f6, f7, f8, f9, f10, f11, .ref ag, f13, f14])), (ag, .inr (0, [.int 0, a1])), (out, .inl (xJ g, 1, .inr (.inl of)))] s.heap.size = A at hD hU ⊢
  have hA : ∀ q : Nat, s.heap.size ≤ q → A q := fun q h => by rw [← hAe]; exact Or.inr h
  have hS : va_S A s.heap s.heap [] := va_S.rf
  have hl := lv_entry ([.ref h0, .int p0, .ref out]) (n := 4) (Nat.le_of_ble_eq_true rfl)
  rw [lg_entry_eq]
  generalize (lg_sl ([.ref h0, .int p0, .ref out]) ++ List.replicate (4 - (lg_sl ([.ref h0, .int p0, .ref out])).length) Slot.unset).toArray = ls at hl ⊢
  have hl : lv_has ls 4 [(0, .ref h0), (1, .int p0), (2, .ref out)] := hl
  refine lv_aload_n hx hb dL_kindOf_0 rfl (lv_at hl 2 rfl) ?_
  refine lv_iconst (v := 0) hx hb dL_kindOf_1 (by decide) ?_
  refine lv_aload_n hx hb dL_kindOf_2 rfl (lv_at hl 0 rfl) ?_
  refine lv_iload_n hx hb dL_kindOf_3 rfl (lv_at hl 1 rfl) ?_
  have hPc := hP.sub (ws' := [(h0, .inr (8, [f0, f1, f2, f3, f4, f5, f6, f7, f8, f9, f10, f11, .ref ag, f13, f14])), (ag, .inr (0, [.int 0, a1]))]) [0, 1] rfl
  have hDc := hD.sub (ws' := [(h0, .inr (8, [f0, f1, f2, f3, f4, f5, f6, f7, f8, f9, f10, f11, .ref ag, f13, f14])), (ag, .inr (0, [.int 0, a1]))]) [0, 1] (by decide) rfl
  have hFc := xFree hS hA
  refine vx_calli (vx_runV (As := [.int p0]) (rest := [.int 0, .ref out]) ⟨hx, hb, hml, hown, hts⟩ (x0_kindOf l hfl g s.heap.size h0 ag f0 f1 f2 f3 f4 f5 f6 f7 f8 f9 f10 f11 f13 f14 a1 p0) (cwV 1 hts gL_kindOf_X8_kindOf rfl rfl rfl (by decide +kernel) ⟨Nat.le_of_ble_eq_true rfl, Nat.le_of_ble_eq_true rfl⟩) ⟨xBU.blind, va_recv hK hPc (ci := 8) (q0 := 0) rfl rfl, fun U9 hU9 hW9 => ⟨rfl, xB.mk hPc hK hDc hU9 hW9, hU.call hS hFc hU9 hW9⟩⟩ rfl rfl hl.1 rfl (lv_room (Nat.le_of_ble_eq_true rfl)) dL_kindOf_4 ⟨Nat.le_of_ble_eq_true rfl, Nat.le_of_ble_eq_true rfl⟩) hS (fun q _ h => hFc q h) hFc (fun q _ h => hFc q h) (fun E ce q9 ux t H1 locs1 ht hvm hpx hB hz1 hk1 hS hce hcv hcl => ?_) (fun r_1 u_2 t H1 locs ht hvm hw_3 hB hz1 hk1 hS => ?_)
  · obtain ⟨rfl, hB⟩ := hB
    have hP := xSame hP hk1
    refine vx_catch (name := "java/lang/IndexOutOfBoundsException") hown [] ({ startPc := 0, endPc := 9, handlerPc := 12, catchType := 28 } : ExceptionTableEntry) [] htbl (fun z hz => absurd hz List.not_mem_nil) rfl (by decide) (hts (.classLink RL 28 "java/lang/IndexOutOfBoundsException") (by decide +kernel)) (va_Nw.use rfl (hU.2.2.2.2.1 "java/lang/IndexOutOfBoundsException" (by decide))) hce hcv hcl ?_
    generalize H1 = H at hP hS ⊢
    generalize locs1 = locs at hS ⊢
    have hP : va_P (xD g) vwCl [(h0, .inr (8, [f0, f1, f2, f3, f4, f5, f6, f7, f8, f9, f10, f11, .ref ag, f13, f14])), (ag, .inr (0, [.int 0, a1])), (out, .inl (xJ g, 1, .inr (.inl of)))] H := hP
    have hD : va_D A [(h0, .inr (8, [f0, f1, f2, f3, f4, f5, f6, f7, f8, f9, f10, f11, .ref ag, f13, f14])), (ag, .inr (0, [.int 0, a1])), (out, .inl (xJ g, 1, .inr (.inl of)))] := hD
    refine W.widen (k := 1) (n := 6) (by omega) (by omega) ?_
    refine lv_astore_n (lv' := [(3, .ref q9), (0, .ref h0), (1, .int p0), (2, .ref out)]) hx hb dL_kindOf_12 rfl hl (by decide) rfl (fun ls hl => ?_)
    refine lv_iconst (v := 1) hx hb dL_kindOf_13 (by decide) ?_
    refine vx_ret ?_
    have hP9 := hP.sub (ws' := [(out, .inl (xJ g, 1, .inr (.inl of)))]) [2] rfl
    have hD9 := hD.sub (ws' := [(out, .inl (xJ g, 1, .inr (.inl of)))]) [2] (by decide) rfl
    exact W.iret (v := 1) hx hb hr (fun t ht hW => ⟨⟨1, (of 0), rfl, rfl, ⟨of, (by rfl), by rw [ht]; exact hP9, va_K.moved hW.alike hK, hD9⟩⟩, hS.F ht⟩) hS.2.2 dL_kindOf_14
  · exact False.elim hw_3
theorem dL_containerOf_0 : decode cL_containerOf 0 = .ok (.aload_n 2, 1) := by decide +kernel
theorem dL_containerOf_1 : decode cL_containerOf 1 = .ok (.iconst 0, 1) := by decide +kernel
theorem dL_containerOf_2 : decode cL_containerOf 2 = .ok (.aload_n 0, 1) := by decide +kernel
theorem dL_containerOf_3 : decode cL_containerOf 3 = .ok (.iload_n 1, 1) := by decide +kernel
theorem dL_containerOf_4 : decode cL_containerOf 4 = .ok (.invokevirtual 114, 3) := by decide +kernel
set_option maxRecDepth 20000 in
theorem ggL_containerOf_X8_containerOf : GoodIn wsL_containerOf wsX8_containerOf := goodIn_ca (goodIn_r _ [6, 7, 8, 9, 10, 5, 11, 12, 13, 14, 15, 16, 17, 18, 19, 20, 21, 22, 23, 24, 25, 26, 27, 28, 29, 30, 31, 32, 33, 34, 35, 36, 37] rfl (by decide +kernel)) (goodIn_sub (fun _ h => List.mem_cons_of_mem _ (List.mem_append_right _ h)) (by decide +kernel))
set_option maxRecDepth 20000 in
theorem gL_containerOf_X8_containerOf : GoodIn wsL_containerOf (wsV RL 114 RX8 yX8_containerOf wsX8_containerOf) := goodIn_app (goodIn_of _ (by decide +kernel)) ggL_containerOf_X8_containerOf
theorem dL_containerOf_12 : decode cL_containerOf 12 = .ok (.astore_n 3, 1) := by decide +kernel
theorem dL_containerOf_13 : decode cL_containerOf 13 = .ok (.iconst 1, 1) := by decide +kernel
theorem dL_containerOf_14 : decode cL_containerOf 14 = .ok (.ireturn, 1) := by decide +kernel
set_option maxHeartbeats 4000000 in
set_option maxRecDepth 100000 in
theorem l_containerOf (l : Launch) (hfl : l.stackTraces = false) (g : xG) (sz : Nat) (h0 : Nat) (ag : Nat) (f0 : Value) (f1 : Value) (f2 : Value) (f3 : Value) (f4 : Value) (f5 : Value) (f6 : Value) (f7 : Value) (f8 : Value) (f9 : Value) (f10 : Value) (f11 : Value) (f13 : Value) (f14 : Value) (a1 : Value) (p0 : Int32) (out : Nat) (of : Nat → Int64)  : vx_Met l yL_containerOf wsL_containerOf ({ frames := 9, cells := 1, slots := 6, locals := 206 }) (va_Pc [.ref h0, .int p0, .ref out] (fun U => xB g [(h0, .inr (8, [f0, f1, f2, f3, f4, f5, f6, f7, f8, f9, f10, f11, .ref ag, f13, f14])), (ag, .inr (0, [.int 0, a1])), (out, .inl (xJ g, 1, .inr (.inl of)))] sz U ∧ xU (va_A [(h0, .inr (8, [f0, f1, f2, f3, f4, f5, f6, f7, f8, f9, f10, f11, .ref ag, f13, f14])), (ag, .inr (0, [.int 0, a1])), (out, .inl (xJ g, 1, .inr (.inl of)))] sz) U)) (va_Qi (fun (r : Int32) (u : Int64) => r = 1) (fun (u : Int64) (t : State) => ∃ (of1 : Nat → Int64), of1 0 = u ∧ xE g [(out, .inl (xJ g, 1, .inr (.inl of1)))] (va_A [(h0, .inr (8, [f0, f1, f2, f3, f4, f5, f6, f7, f8, f9, f10, f11, .ref ag, f13, f14])), (ag, .inr (0, [.int 0, a1])), (out, .inl (xJ g, 1, .inr (.inl of)))] sz) t) (va_A [(h0, .inr (8, [f0, f1, f2, f3, f4, f5, f6, f7, f8, f9, f10, f11, .ref ag, f13, f14])), (ag, .inr (0, [.int 0, a1])), (out, .inl (xJ g, 1, .inr (.inl of)))] sz)) (vx_X (fun _ : Unit => True) (fun E _ _ => False) (va_A [(h0, .inr (8, [f0, f1, f2, f3, f4, f5, f6, f7, f8, f9, f10, f11, .ref ag, f13, f14])), (ag, .inr (0, [.int 0, a1])), (out, .inl (xJ g, 1, .inr (.inl of)))] sz)) 1 6 (va_A [(h0, .inr (8, [f0, f1, f2, f3, f4, f5, f6, f7, f8, f9, f10, f11, .ref ag, f13, f14])), (ag, .inr (0, [.int 0, a1])), (out, .inl (xJ g, 1, .inr (.inl of)))] sz) := by
  refine vx_ofWH (hh := [(0, 9, 12, 28)]) (cc := cL_containerOf) (maxL := 4) (ret := (some .int)) (by decide) rfl ?_
  intro p e s m args below meth c s₁ B hml hv
  obtain ⟨rfl, ⟨hsz, hP, hK, hD0⟩, hU⟩ := hv
  have hx := B.exec
  have hb := B.bytes
  have hr := B.returns
  have hts := atoms_spec (ws := wsL_containerOf) B.pre
  have hown : s.vm.findClass RL = some m.cls := findClass_of_methodNamed B.named
  have hlocks := B.notSynchronized
  have htbl := vx_table (x := yL_containerOf) B (hts (.codeWith yL_containerOf cL_containerOf 4 (some .int) [(0, 9, 12, 28)]) List.mem_cons_self)
  subst hsz
  have hD := hD0.self (sz := s.heap.size)
  generalize hAe : va_A [(h0, .inr (8, [f0, f1, f2, f3, f4, f5, f6, f7, f8, f9, f10, f11, .ref ag, f13, f14])), (ag, .inr (0, [.int 0, a1])), (out, .inl (xJ g, 1, .inr (.inl of)))] s.heap.size = A at hD hU ⊢
  have hA : ∀ q : Nat, s.heap.size ≤ q → A q := fun q h => by rw [← hAe]; exact Or.inr h
  have hS : va_S A s.heap s.heap [] := va_S.rf
  have hl := lv_entry ([.ref h0, .int p0, .ref out]) (n := 4) (Nat.le_of_ble_eq_true rfl)
  rw [lg_entry_eq]
  generalize (lg_sl ([.ref h0, .int p0, .ref out]) ++ List.replicate (4 - (lg_sl ([.ref h0, .int p0, .ref out])).length) Slot.unset).toArray = ls at hl ⊢
  have hl : lv_has ls 4 [(0, .ref h0), (1, .int p0), (2, .ref out)] := hl
  refine lv_aload_n hx hb dL_containerOf_0 rfl (lv_at hl 2 rfl) ?_
  refine lv_iconst (v := 0) hx hb dL_containerOf_1 (by decide) ?_
  refine lv_aload_n hx hb dL_containerOf_2 rfl (lv_at hl 0 rfl) ?_
  refine lv_iload_n hx hb dL_containerOf_3 rfl (lv_at hl 1 rfl) ?_
  have hPc := hP.sub (ws' := [(h0, .inr (8, [f0, f1, f2, f3, f4, f5, f6, f7, f8, f9, f10, f11, .ref ag, f13, f14])), (ag, .inr (0, [.int 0, a1]))]) [0, 1] rfl
  have hDc := hD.sub (ws' := [(h0, .inr (8, [f0, f1, f2, f3, f4, f5, f6, f7, f8, f9, f10, f11, .ref ag, f13, f14])), (ag, .inr (0, [.int 0, a1]))]) [0, 1] (by decide) rfl
  have hFc := xFree hS hA
  refine vx_calli (vx_runV (As := [.int p0]) (rest := [.int 0, .ref out]) ⟨hx, hb, hml, hown, hts⟩ (x0_containerOf l hfl g s.heap.size h0 ag f0 f1 f2 f3 f4 f5 f6 f7 f8 f9 f10 f11 f13 f14 a1 p0) (cwV 1 hts gL_containerOf_X8_containerOf rfl rfl rfl (by decide +kernel) ⟨Nat.le_of_ble_eq_true rfl, Nat.le_of_ble_eq_true rfl⟩) ⟨xBU.blind, va_recv hK hPc (ci := 8) (q0 := 0) rfl rfl, fun U9 hU9 hW9 => ⟨rfl, xB.mk hPc hK hDc hU9 hW9, hU.call hS hFc hU9 hW9⟩⟩ rfl rfl hl.1 rfl (lv_room (Nat.le_of_ble_eq_true rfl)) dL_containerOf_4 ⟨Nat.le_of_ble_eq_true rfl, Nat.le_of_ble_eq_true rfl⟩) hS (fun q _ h => hFc q h) hFc (fun q _ h => hFc q h) (fun E ce q9 ux t H1 locs1 ht hvm hpx hB hz1 hk1 hS hce hcv hcl => ?_) (fun r_1 u_2 t H1 locs ht hvm hw_3 hB hz1 hk1 hS => ?_)
  · obtain ⟨rfl, hB⟩ := hB
    have hP := xSame hP hk1
    refine vx_catch (name := "java/lang/IndexOutOfBoundsException") hown [] ({ startPc := 0, endPc := 9, handlerPc := 12, catchType := 28 } : ExceptionTableEntry) [] htbl (fun z hz => absurd hz List.not_mem_nil) rfl (by decide) (hts (.classLink RL 28 "java/lang/IndexOutOfBoundsException") (by decide +kernel)) (va_Nw.use rfl (hU.2.2.2.2.1 "java/lang/IndexOutOfBoundsException" (by decide))) hce hcv hcl ?_
    generalize H1 = H at hP hS ⊢
    generalize locs1 = locs at hS ⊢
    have hP : va_P (xD g) vwCl [(h0, .inr (8, [f0, f1, f2, f3, f4, f5, f6, f7, f8, f9, f10, f11, .ref ag, f13, f14])), (ag, .inr (0, [.int 0, a1])), (out, .inl (xJ g, 1, .inr (.inl of)))] H := hP
    have hD : va_D A [(h0, .inr (8, [f0, f1, f2, f3, f4, f5, f6, f7, f8, f9, f10, f11, .ref ag, f13, f14])), (ag, .inr (0, [.int 0, a1])), (out, .inl (xJ g, 1, .inr (.inl of)))] := hD
    refine W.widen (k := 1) (n := 6) (by omega) (by omega) ?_
    refine lv_astore_n (lv' := [(3, .ref q9), (0, .ref h0), (1, .int p0), (2, .ref out)]) hx hb dL_containerOf_12 rfl hl (by decide) rfl (fun ls hl => ?_)
    refine lv_iconst (v := 1) hx hb dL_containerOf_13 (by decide) ?_
    refine vx_ret ?_
    have hP9 := hP.sub (ws' := [(out, .inl (xJ g, 1, .inr (.inl of)))]) [2] rfl
    have hD9 := hD.sub (ws' := [(out, .inl (xJ g, 1, .inr (.inl of)))]) [2] (by decide) rfl
    exact W.iret (v := 1) hx hb hr (fun t ht hW => ⟨⟨1, (of 0), rfl, rfl, ⟨of, (by rfl), by rw [ht]; exact hP9, va_K.moved hW.alike hK, hD9⟩⟩, hS.F ht⟩) hS.2.2 dL_containerOf_14
  · exact False.elim hw_3
theorem dL_plan_0 : decode cL_plan 0 = .ok (.aload_n 1, 1) := by decide +kernel
theorem dL_plan_1 : decode cL_plan 1 = .ok (.iconst 0, 1) := by decide +kernel
theorem dL_plan_2 : decode cL_plan 2 = .ok (.aload_n 0, 1) := by decide +kernel
theorem dL_plan_3 : decode cL_plan 3 = .ok (.invokevirtual 68, 3) := by decide +kernel
set_option maxRecDepth 20000 in
theorem ggL_plan_X8_plan : GoodIn wsL_plan wsX8_plan := goodIn_ca (goodIn_r _ [6, 7, 8, 9, 10, 11, 12, 13, 14, 15, 16, 17, 5, 18, 19, 20, 21, 22, 23, 24, 25, 26, 27, 28, 29, 30, 31, 32, 33, 34, 35, 36, 37, 38, 39, 40, 41, 42, 43, 44, 45, 46, 47, 48, 49, 50, 51, 52, 53, 54, 55, 56, 57, 58, 59, 60, 61, 62, 63, 64, 65, 66, 67, 68, 69, 70, 71, 72, 73, 74, 75, 76, 77, 78, 79, 80, 81, 82, 83, 84, 85, 86, 87, 88, 89, 90, 91, 92, 93, 94, 95, 96, 97, 98, 99, 100, 101, 102, 103, 104, 105, 106, 107, 108, 109, 110, 111, 112, 113, 114, 115, 116, 117, 118, 119, 120, 121, 122, 123, 124, 125, 126, 127, 128, 129, 130, 131, 132, 133, 134, 135, 136, 137, 138, 139, 140, 141, 142, 143, 144, 145, 146, 147, 148, 149, 150, 151, 152, 153, 154, 155, 156, 157, 158, 159, 160, 161, 162, 163, 164, 165, 166, 167, 168, 169, 170, 171, 172, 173, 174, 175, 176, 177, 178, 179, 180, 181, 182, 183, 184, 185, 186, 187, 188, 189, 190, 191, 192, 193, 194, 195, 196, 197, 198] rfl (by decide +kernel)) (goodIn_sub (fun _ h => List.mem_cons_of_mem _ (List.mem_append_right _ h)) (by decide +kernel))
set_option maxRecDepth 20000 in
theorem gL_plan_X8_plan : GoodIn wsL_plan (wsV RL 68 RX8 yX8_plan wsX8_plan) := goodIn_app (goodIn_of _ (by decide +kernel)) ggL_plan_X8_plan
theorem dL_plan_11 : decode cL_plan 11 = .ok (.astore_n 2, 1) := by decide +kernel
theorem dL_plan_12 : decode cL_plan 12 = .ok (.iconst 1, 1) := by decide +kernel
theorem dL_plan_13 : decode cL_plan 13 = .ok (.ireturn, 1) := by decide +kernel
set_option maxHeartbeats 4000000 in
set_option maxRecDepth 100000 in
theorem l_plan (l : Launch) (hfl : l.stackTraces = false) (g : xG) (sz : Nat) (h0 : Nat) (f0 : Value) (f1 : Value) (f3 : Value) (f4 : Value) (f5 : Value) (f6 : Value) (f7 : Value) (f8 : Value) (f9 : Value) (f10 : Value) (f11 : Value) (f12 : Value) (f13 : Value) (f14 : Value) (out : Nat) (of : Nat → Int64)  : vx_Met l yL_plan wsL_plan ({ frames := 9, cells := 1, slots := 6, locals := 206 }) (va_Pc [.ref h0, .ref out] (fun U => xB g [(h0, .inr (8, [f0, f1, .int 0, f3, f4, f5, f6, f7, f8, f9, f10, f11, f12, f13, f14])), (out, .inl (xJ g, 1, .inr (.inl of)))] sz U ∧ xU (va_A [(h0, .inr (8, [f0, f1, .int 0, f3, f4, f5, f6, f7, f8, f9, f10, f11, f12, f13, f14])), (out, .inl (xJ g, 1, .inr (.inl of)))] sz) U)) (va_Qi (fun (r : Int32) (u : Int64) => r = 1) (fun (u : Int64) (t : State) => ∃ (of1 : Nat → Int64), of1 0 = u ∧ xE g [(out, .inl (xJ g, 1, .inr (.inl of1)))] (va_A [(h0, .inr (8, [f0, f1, .int 0, f3, f4, f5, f6, f7, f8, f9, f10, f11, f12, f13, f14])), (out, .inl (xJ g, 1, .inr (.inl of)))] sz) t) (va_A [(h0, .inr (8, [f0, f1, .int 0, f3, f4, f5, f6, f7, f8, f9, f10, f11, f12, f13, f14])), (out, .inl (xJ g, 1, .inr (.inl of)))] sz)) (vx_X (fun _ : Unit => True) (fun E _ _ => False) (va_A [(h0, .inr (8, [f0, f1, .int 0, f3, f4, f5, f6, f7, f8, f9, f10, f11, f12, f13, f14])), (out, .inl (xJ g, 1, .inr (.inl of)))] sz)) 1 6 (va_A [(h0, .inr (8, [f0, f1, .int 0, f3, f4, f5, f6, f7, f8, f9, f10, f11, f12, f13, f14])), (out, .inl (xJ g, 1, .inr (.inl of)))] sz) := by
  refine vx_ofWH (hh := [(0, 8, 11, 22)]) (cc := cL_plan) (maxL := 3) (ret := (some .int)) (by decide) rfl ?_
  intro p e s m args below meth c s₁ B hml hv
  obtain ⟨rfl, ⟨hsz, hP, hK, hD0⟩, hU⟩ := hv
  have hx := B.exec
  have hb := B.bytes
  have hr := B.returns
  have hts := atoms_spec (ws := wsL_plan) B.pre
  have hown : s.vm.findClass RL = some m.cls := findClass_of_methodNamed B.named
  have hlocks := B.notSynchronized
  have htbl := vx_table (x := yL_plan) B (hts (.codeWith yL_plan cL_plan 3 (some .int) [(0, 8, 11, 22)]) List.mem_cons_self)
  subst hsz
  have hD := hD0.self (sz := s.heap.size)
  generalize hAe : va_A [(h0, .inr (8, [f0, f1, .int 0, f3, f4, f5, f6, f7, f8, f9, f10, f11, f12, f13, f14])), (out, .inl (xJ g, 1, .inr (.inl of)))] s.heap.size = A at hD hU ⊢
  have hA : ∀ q : Nat, s.heap.size ≤ q → A q := fun q h => by rw [← hAe]; exact Or.inr h
  have hS : va_S A s.heap s.heap [] := va_S.rf
  have hl := lv_entry ([.ref h0, .ref out]) (n := 3) (Nat.le_of_ble_eq_true rfl)
  rw [lg_entry_eq]
  generalize (lg_sl ([.ref h0, .ref out]) ++ List.replicate (3 - (lg_sl ([.ref h0, .ref out])).length) Slot.unset).toArray = ls at hl ⊢
  have hl : lv_has ls 3 [(0, .ref h0), (1, .ref out)] := hl
  refine lv_aload_n hx hb dL_plan_0 rfl (lv_at hl 1 rfl) ?_
  refine lv_iconst (v := 0) hx hb dL_plan_1 (by decide) ?_
  refine lv_aload_n hx hb dL_plan_2 rfl (lv_at hl 0 rfl) ?_
  have hPc := hP.sub (ws' := [(h0, .inr (8, [f0, f1, .int 0, f3, f4, f5, f6, f7, f8, f9, f10, f11, f12, f13, f14]))]) [0] rfl
  have hDc := hD.sub (ws' := [(h0, .inr (8, [f0, f1, .int 0, f3, f4, f5, f6, f7, f8, f9, f10, f11, f12, f13, f14]))]) [0] (by decide) rfl
  have hFc := xFree hS hA
  refine vx_calli (vx_runV (As := []) (rest := [.int 0, .ref out]) ⟨hx, hb, hml, hown, hts⟩ (x0_plan l hfl g s.heap.size h0 f0 f1 f3 f4 f5 f6 f7 f8 f9 f10 f11 f12 f13 f14) (cwV 0 hts gL_plan_X8_plan rfl rfl rfl (by decide +kernel) ⟨Nat.le_of_ble_eq_true rfl, Nat.le_of_ble_eq_true rfl⟩) ⟨xBU.blind, va_recv hK hPc (ci := 8) (q0 := 0) rfl rfl, fun U9 hU9 hW9 => ⟨rfl, xB.mk hPc hK hDc hU9 hW9, hU.call hS hFc hU9 hW9⟩⟩ rfl rfl hl.1 rfl (lv_room (Nat.le_of_ble_eq_true rfl)) dL_plan_3 ⟨Nat.le_of_ble_eq_true rfl, Nat.le_of_ble_eq_true rfl⟩) hS (fun q _ h => hFc q h) hFc (fun q _ h => hFc q h) (fun E ce q9 ux t H1 locs1 ht hvm hpx hB hz1 hk1 hS hce hcv hcl => ?_) (fun r_1 u_2 t H1 locs ht hvm hw_3 hB hz1 hk1 hS => ?_)
  · obtain ⟨rfl, hB⟩ := hB
    have hP := xSame hP hk1
    refine vx_catch (name := "java/lang/IllegalStateException") hown [] ({ startPc := 0, endPc := 8, handlerPc := 11, catchType := 22 } : ExceptionTableEntry) [] htbl (fun z hz => absurd hz List.not_mem_nil) rfl (by decide) (hts (.classLink RL 22 "java/lang/IllegalStateException") (by decide +kernel)) (va_Nw.use rfl (hU.2.2.2.2.1 "java/lang/IllegalStateException" (by decide))) hce hcv hcl ?_
    generalize H1 = H at hP hS ⊢
    generalize locs1 = locs at hS ⊢
    have hP : va_P (xD g) vwCl [(h0, .inr (8, [f0, f1, .int 0, f3, f4, f5, f6, f7, f8, f9, f10, f11, f12, f13, f14])), (out, .inl (xJ g, 1, .inr (.inl of)))] H := hP
    have hD : va_D A [(h0, .inr (8, [f0, f1, .int 0, f3, f4, f5, f6, f7, f8, f9, f10, f11, f12, f13, f14])), (out, .inl (xJ g, 1, .inr (.inl of)))] := hD
    refine W.widen (k := 1) (n := 6) (by omega) (by omega) ?_
    refine lv_astore_n (lv' := [(2, .ref q9), (0, .ref h0), (1, .ref out)]) hx hb dL_plan_11 rfl hl (by decide) rfl (fun ls hl => ?_)
    refine lv_iconst (v := 1) hx hb dL_plan_12 (by decide) ?_
    refine vx_ret ?_
    have hP9 := hP.sub (ws' := [(out, .inl (xJ g, 1, .inr (.inl of)))]) [1] rfl
    have hD9 := hD.sub (ws' := [(out, .inl (xJ g, 1, .inr (.inl of)))]) [1] (by decide) rfl
    exact W.iret (v := 1) hx hb hr (fun t ht hW => ⟨⟨1, (of 0), rfl, rfl, ⟨of, (by rfl), by rw [ht]; exact hP9, va_K.moved hW.alike hK, hD9⟩⟩, hS.F ht⟩) hS.2.2 dL_plan_13
  · exact False.elim hw_3
theorem dL_delayByNumbers_0 : decode cL_delayByNumbers 0 = .ok (.aload_n 1, 1) := by decide +kernel
theorem dL_delayByNumbers_1 : decode cL_delayByNumbers 1 = .ok (.iconst 0, 1) := by decide +kernel
theorem dL_delayByNumbers_2 : decode cL_delayByNumbers 2 = .ok (.aload_n 0, 1) := by decide +kernel
theorem dL_delayByNumbers_3 : decode cL_delayByNumbers 3 = .ok (.invokevirtual 87, 3) := by decide +kernel
set_option maxRecDepth 20000 in
theorem ggL_delayByNumbers_X8_delayByNumbers : GoodIn wsL_delayByNumbers wsX8_delayByNumbers := goodIn_ca (goodIn_r _ [6, 7, 8, 9, 10, 11, 12, 13, 14, 5, 15, 16, 17, 18, 19, 20, 21, 22, 23, 24, 25, 26, 27, 28, 29, 30, 31, 32, 33, 34, 35, 36, 37, 38, 39, 40, 41, 42, 43, 44, 45, 46, 47, 48, 49, 50, 51, 52, 53, 54, 55, 56, 57, 58, 59, 60, 61, 62, 63, 64, 65, 66, 67, 68, 69, 70, 71, 72, 73, 74, 75, 76, 77, 78, 79, 80, 81, 82, 83, 84, 85, 86, 87, 88, 89, 90, 91, 92, 93, 94, 95, 96, 97, 98, 99, 100, 101, 102, 103, 104, 105, 106, 107, 108, 109, 110, 111, 112, 113, 114, 115, 116, 117, 118, 119, 120, 121, 122, 123, 124, 125, 126, 127, 128, 129] rfl (by decide +kernel)) (goodIn_sub (fun _ h => List.mem_cons_of_mem _ (List.mem_append_right _ h)) (by decide +kernel))
set_option maxRecDepth 20000 in
theorem gL_delayByNumbers_X8_delayByNumbers : GoodIn wsL_delayByNumbers (wsV RL 87 RX8 yX8_delayByNumbers wsX8_delayByNumbers) := goodIn_app (goodIn_of _ (by decide +kernel)) ggL_delayByNumbers_X8_delayByNumbers
theorem dL_delayByNumbers_11 : decode cL_delayByNumbers 11 = .ok (.astore_n 2, 1) := by decide +kernel
theorem dL_delayByNumbers_12 : decode cL_delayByNumbers 12 = .ok (.iconst 1, 1) := by decide +kernel
theorem dL_delayByNumbers_13 : decode cL_delayByNumbers 13 = .ok (.ireturn, 1) := by decide +kernel
set_option maxHeartbeats 4000000 in
set_option maxRecDepth 100000 in
theorem l_delayByNumbers (l : Launch) (hfl : l.stackTraces = false) (g : xG) (sz : Nat) (h0 : Nat) (f0 : Value) (f1 : Value) (f3 : Value) (f4 : Value) (f5 : Value) (f6 : Value) (f7 : Value) (f8 : Value) (f9 : Value) (f10 : Value) (f11 : Value) (f12 : Value) (f13 : Value) (f14 : Value) (out : Nat) (of : Nat → Int64)  : vx_Met l yL_delayByNumbers wsL_delayByNumbers ({ frames := 9, cells := 1, slots := 6, locals := 205 }) (va_Pc [.ref h0, .ref out] (fun U => xB g [(h0, .inr (8, [f0, f1, .int 0, f3, f4, f5, f6, f7, f8, f9, f10, f11, f12, f13, f14])), (out, .inl (xJ g, 1, .inr (.inl of)))] sz U ∧ xU (va_A [(h0, .inr (8, [f0, f1, .int 0, f3, f4, f5, f6, f7, f8, f9, f10, f11, f12, f13, f14])), (out, .inl (xJ g, 1, .inr (.inl of)))] sz) U)) (va_Qi (fun (r : Int32) (u : Int64) => r = 1) (fun (u : Int64) (t : State) => ∃ (of1 : Nat → Int64), of1 0 = u ∧ xE g [(out, .inl (xJ g, 1, .inr (.inl of1)))] (va_A [(h0, .inr (8, [f0, f1, .int 0, f3, f4, f5, f6, f7, f8, f9, f10, f11, f12, f13, f14])), (out, .inl (xJ g, 1, .inr (.inl of)))] sz) t) (va_A [(h0, .inr (8, [f0, f1, .int 0, f3, f4, f5, f6, f7, f8, f9, f10, f11, f12, f13, f14])), (out, .inl (xJ g, 1, .inr (.inl of)))] sz)) (vx_X (fun _ : Unit => True) (fun E _ _ => False) (va_A [(h0, .inr (8, [f0, f1, .int 0, f3, f4, f5, f6, f7, f8, f9, f10, f11, f12, f13, f14])), (out, .inl (xJ g, 1, .inr (.inl of)))] sz)) 1 6 (va_A [(h0, .inr (8, [f0, f1, .int 0, f3, f4, f5, f6, f7, f8, f9, f10, f11, f12, f13, f14])), (out, .inl (xJ g, 1, .inr (.inl of)))] sz) := by
  refine vx_ofWH (hh := [(0, 8, 11, 22)]) (cc := cL_delayByNumbers) (maxL := 3) (ret := (some .int)) (by decide) rfl ?_
  intro p e s m args below meth c s₁ B hml hv
  obtain ⟨rfl, ⟨hsz, hP, hK, hD0⟩, hU⟩ := hv
  have hx := B.exec
  have hb := B.bytes
  have hr := B.returns
  have hts := atoms_spec (ws := wsL_delayByNumbers) B.pre
  have hown : s.vm.findClass RL = some m.cls := findClass_of_methodNamed B.named
  have hlocks := B.notSynchronized
  have htbl := vx_table (x := yL_delayByNumbers) B (hts (.codeWith yL_delayByNumbers cL_delayByNumbers 3 (some .int) [(0, 8, 11, 22)]) List.mem_cons_self)
  subst hsz
  have hD := hD0.self (sz := s.heap.size)
  generalize hAe : va_A [(h0, .inr (8, [f0, f1, .int 0, f3, f4, f5, f6, f7, f8, f9, f10, f11, f12, f13, f14])), (out, .inl (xJ g, 1, .inr (.inl of)))] s.heap.size = A at hD hU ⊢
  have hA : ∀ q : Nat, s.heap.size ≤ q → A q := fun q h => by rw [← hAe]; exact Or.inr h
  have hS : va_S A s.heap s.heap [] := va_S.rf
  have hl := lv_entry ([.ref h0, .ref out]) (n := 3) (Nat.le_of_ble_eq_true rfl)
  rw [lg_entry_eq]
  generalize (lg_sl ([.ref h0, .ref out]) ++ List.replicate (3 - (lg_sl ([.ref h0, .ref out])).length) Slot.unset).toArray = ls at hl ⊢
  have hl : lv_has ls 3 [(0, .ref h0), (1, .ref out)] := hl
  refine lv_aload_n hx hb dL_delayByNumbers_0 rfl (lv_at hl 1 rfl) ?_
  refine lv_iconst (v := 0) hx hb dL_delayByNumbers_1 (by decide) ?_
  refine lv_aload_n hx hb dL_delayByNumbers_2 rfl (lv_at hl 0 rfl) ?_
  have hPc := hP.sub (ws' := [(h0, .inr (8, [f0, f1, .int 0, f3, f4, f5, f6, f7, f8, f9, f10, f11, f12, f13, f14]))]) [0] rfl
  have hDc := hD.sub (ws' := [(h0, .inr (8, [f0, f1, .int 0, f3, f4, f5, f6, f7, f8, f9, f10, f11, f12, f13, f14]))]) [0] (by decide) rfl
  have hFc := xFree hS hA
  refine vx_calli (vx_runV (As := []) (rest := [.int 0, .ref out]) ⟨hx, hb, hml, hown, hts⟩ (x0_delayByNumbers l hfl g s.heap.size h0 f0 f1 f3 f4 f5 f6 f7 f8 f9 f10 f11 f12 f13 f14) (cwV 0 hts gL_delayByNumbers_X8_delayByNumbers rfl rfl rfl (by decide +kernel) ⟨Nat.le_of_ble_eq_true rfl, Nat.le_of_ble_eq_true rfl⟩) ⟨xBU.blind, va_recv hK hPc (ci := 8) (q0 := 0) rfl rfl, fun U9 hU9 hW9 => ⟨rfl, xB.mk hPc hK hDc hU9 hW9, hU.call hS hFc hU9 hW9⟩⟩ rfl rfl hl.1 rfl (lv_room (Nat.le_of_ble_eq_true rfl)) dL_delayByNumbers_3 ⟨Nat.le_of_ble_eq_true rfl, Nat.le_of_ble_eq_true rfl⟩) hS (fun q _ h => hFc q h) hFc (fun q _ h => hFc q h) (fun E ce q9 ux t H1 locs1 ht hvm hpx hB hz1 hk1 hS hce hcv hcl => ?_) (fun r_1 u_2 t H1 locs ht hvm hw_3 hB hz1 hk1 hS => ?_)
  · obtain ⟨rfl, hB⟩ := hB
    have hP := xSame hP hk1
    refine vx_catch (name := "java/lang/IllegalStateException") hown [] ({ startPc := 0, endPc := 8, handlerPc := 11, catchType := 22 } : ExceptionTableEntry) [] htbl (fun z hz => absurd hz List.not_mem_nil) rfl (by decide) (hts (.classLink RL 22 "java/lang/IllegalStateException") (by decide +kernel)) (va_Nw.use rfl (hU.2.2.2.2.1 "java/lang/IllegalStateException" (by decide))) hce hcv hcl ?_
    generalize H1 = H at hP hS ⊢
    generalize locs1 = locs at hS ⊢
    have hP : va_P (xD g) vwCl [(h0, .inr (8, [f0, f1, .int 0, f3, f4, f5, f6, f7, f8, f9, f10, f11, f12, f13, f14])), (out, .inl (xJ g, 1, .inr (.inl of)))] H := hP
    have hD : va_D A [(h0, .inr (8, [f0, f1, .int 0, f3, f4, f5, f6, f7, f8, f9, f10, f11, f12, f13, f14])), (out, .inl (xJ g, 1, .inr (.inl of)))] := hD
    refine W.widen (k := 1) (n := 6) (by omega) (by omega) ?_
    refine lv_astore_n (lv' := [(2, .ref q9), (0, .ref h0), (1, .ref out)]) hx hb dL_delayByNumbers_11 rfl hl (by decide) rfl (fun ls hl => ?_)
    refine lv_iconst (v := 1) hx hb dL_delayByNumbers_12 (by decide) ?_
    refine vx_ret ?_
    have hP9 := hP.sub (ws' := [(out, .inl (xJ g, 1, .inr (.inl of)))]) [1] rfl
    have hD9 := hD.sub (ws' := [(out, .inl (xJ g, 1, .inr (.inl of)))]) [1] (by decide) rfl
    exact W.iret (v := 1) hx hb hr (fun t ht hW => ⟨⟨1, (of 0), rfl, rfl, ⟨of, (by rfl), by rw [ht]; exact hP9, va_K.moved hW.alike hK, hD9⟩⟩, hS.F ht⟩) hS.2.2 dL_delayByNumbers_13
  · exact False.elim hw_3
theorem dL_orderAt_0 : decode cL_orderAt 0 = .ok (.aload_n 2, 1) := by decide +kernel
theorem dL_orderAt_1 : decode cL_orderAt 1 = .ok (.iconst 0, 1) := by decide +kernel
theorem dL_orderAt_2 : decode cL_orderAt 2 = .ok (.aload_n 0, 1) := by decide +kernel
theorem dL_orderAt_3 : decode cL_orderAt 3 = .ok (.iload_n 1, 1) := by decide +kernel
theorem dL_orderAt_4 : decode cL_orderAt 4 = .ok (.invokevirtual 72, 3) := by decide +kernel
set_option maxRecDepth 20000 in
theorem ggL_orderAt_X8_orderAt : GoodIn wsL_orderAt wsX8_orderAt := goodIn_ca (goodIn_ca (goodIn_r _ [7, 8, 9, 10, 11, 12, 13, 14, 15, 6, 16, 17, 18, 19, 20, 21, 22, 23, 24, 25, 26, 27, 28, 29, 30, 31, 32, 33, 34, 35, 36, 37, 38] rfl (by decide +kernel)) (goodIn_sub (fun _ h => List.mem_cons_of_mem _ (List.mem_append_left _ (List.mem_append_right _ h))) (by decide +kernel))) (goodIn_sub (fun _ h => List.mem_cons_of_mem _ (List.mem_append_right _ h)) (by decide +kernel))
set_option maxRecDepth 20000 in
theorem gL_orderAt_X8_orderAt : GoodIn wsL_orderAt (wsV RL 72 RX8 yX8_orderAt wsX8_orderAt) := goodIn_app (goodIn_of _ (by decide +kernel)) ggL_orderAt_X8_orderAt
theorem dL_orderAt_12 : decode cL_orderAt 12 = .ok (.astore_n 3, 1) := by decide +kernel
theorem dL_orderAt_13 : decode cL_orderAt 13 = .ok (.iconst 1, 1) := by decide +kernel
theorem dL_orderAt_14 : decode cL_orderAt 14 = .ok (.ireturn, 1) := by decide +kernel
set_option maxHeartbeats 4000000 in
set_option maxRecDepth 100000 in
theorem l_orderAt (l : Launch) (hfl : l.stackTraces = false) (g : xG) (sz : Nat) (h0 : Nat) (pl : Nat) (f0 : Value) (f1 : Value) (f2 : Value) (f3 : Value) (f4 : Value) (f5 : Value) (f6 : Value) (f7 : Value) (f9 : Value) (f10 : Value) (f11 : Value) (f12 : Value) (f13 : Value) (f14 : Value) (q1 : Value) (q2 : Value) (q3 : Value) (p0 : Int32) (out : Nat) (of : Nat → Int64)  : vx_Met l yL_orderAt wsL_orderAt ({ frames := 9, cells := 1, slots := 6, locals := 206 }) (va_Pc [.ref h0, .int p0, .ref out] (fun U => xB g [(h0, .inr (8, [f0, f1, f2, f3, f4, f5, f6, f7, .ref pl, f9, f10, f11, f12, f13, f14])), (pl, .inr (4, [.int 0, q1, q2, q3])), (out, .inl (xJ g, 1, .inr (.inl of)))] sz U ∧ xU (va_A [(h0, .inr (8, [f0, f1, f2, f3, f4, f5, f6, f7, .ref pl, f9, f10, f11, f12, f13, f14])), (pl, .inr (4, [.int 0, q1, q2, q3])), (out, .inl (xJ g, 1, .inr (.inl of)))] sz) U)) (va_Qi (fun (r : Int32) (u : Int64) => r = 1) (fun (u : Int64) (t : State) => ∃ (of1 : Nat → Int64), of1 0 = u ∧ xE g [(out, .inl (xJ g, 1, .inr (.inl of1)))] (va_A [(h0, .inr (8, [f0, f1, f2, f3, f4, f5, f6, f7, .ref pl, f9, f10, f11, f12, f13, f14])), (pl, .inr (4, [.int 0, q1, q2, q3])), (out, .inl (xJ g, 1, .inr (.inl of)))] sz) t) (va_A [(h0, .inr (8, [f0, f1, f2, f3, f4, f5, f6, f7, .ref pl, f9, f10, f11, f12, f13, f14])), (pl, .inr (4, [.int 0, q1, q2, q3])), (out, .inl (xJ g, 1, .inr (.inl of)))] sz)) (vx_X (fun _ : Unit => True) (fun E _ _ => False) (va_A [(h0, .inr (8, [f0, f1, f2, f3, f4, f5, f6, f7, .ref pl, f9, f10, f11, f12, f13, f14])), (pl, .inr (4, [.int 0, q1, q2, q3])), (out, .inl (xJ g, 1, .inr (.inl of)))] sz)) 1 6 (va_A [(h0, .inr (8, [f0, f1, f2, f3, f4, f5, f6, f7, .ref pl, f9, f10, f11, f12, f13, f14])), (pl, .inr (4, [.int 0, q1, q2, q3])), (out, .inl (xJ g, 1, .inr (.inl of)))] sz) := by
  refine vx_ofWH (hh := [(0, 9, 12, 22), (0, 9, 15, 28)]) (cc := cL_orderAt) (maxL := 4) (ret := (some .int)) (by decide) rfl ?_
  intro p e s m args below meth c s₁ B hml hv
  obtain ⟨rfl, ⟨hsz, hP, hK, hD0⟩, hU⟩ := hv
  have hx := B.exec
  have hb := B.bytes
  have hr := B.returns
  have hts := atoms_spec (ws := wsL_orderAt) B.pre
  have hown : s.vm.findClass RL = some m.cls := findClass_of_methodNamed B.named
  have hlocks := B.notSynchronized
  have htbl := vx_table (x := yL_orderAt) B (hts (.codeWith yL_orderAt cL_orderAt 4 (some .int) [(0, 9, 12, 22), (0, 9, 15, 28)]) List.mem_cons_self)
  subst hsz
  have hD := hD0.self (sz := s.heap.size)
  generalize hAe : va_A [(h0, .inr (8, [f0, f1, f2, f3, f4, f5, f6, f7, .ref pl, f9, f10, f11, f12, f13, f14])), (pl, .inr (4, [.int 0, q1, q2, q3])), (out, .inl (xJ g, 1, .inr (.inl of)))] s.heap.size = A at hD hU ⊢
  have hA : ∀ q : Nat, s.heap.size ≤ q → A q := fun q h => by rw [← hAe]; exact Or.inr h
  have hS : va_S A s.heap s.heap [] := va_S.rf
  have hl := lv_entry ([.ref h0, .int p0, .ref out]) (n := 4) (Nat.le_of_ble_eq_true rfl)
  rw [lg_entry_eq]
  generalize (lg_sl ([.ref h0, .int p0, .ref out]) ++ List.replicate (4 - (lg_sl ([.ref h0, .int p0, .ref out])).length) Slot.unset).toArray = ls at hl ⊢
  have hl : lv_has ls 4 [(0, .ref h0), (1, .int p0), (2, .ref out)] := hl
  refine lv_aload_n hx hb dL_orderAt_0 rfl (lv_at hl 2 rfl) ?_
  refine lv_iconst (v := 0) hx hb dL_orderAt_1 (by decide) ?_
  refine lv_aload_n hx hb dL_orderAt_2 rfl (lv_at hl 0 rfl) ?_
  refine lv_iload_n hx hb dL_orderAt_3 rfl (lv_at hl 1 rfl) ?_
  have hPc := hP.sub (ws' := [(h0, .inr (8, [f0, f1, f2, f3, f4, f5, f6, f7, .ref pl, f9, f10, f11, f12, f13, f14])), (pl, .inr (4, [.int 0, q1, q2, q3]))]) [0, 1] rfl
  have hDc := hD.sub (ws' := [(h0, .inr (8, [f0, f1, f2, f3, f4, f5, f6, f7, .ref pl, f9, f10, f11, f12, f13, f14])), (pl, .inr (4, [.int 0, q1, q2, q3]))]) [0, 1] (by decide) rfl
  have hFc := xFree hS hA
  refine vx_calli (vx_runV (As := [.int p0]) (rest := [.int 0, .ref out]) ⟨hx, hb, hml, hown, hts⟩ (x0_orderAt l hfl g s.heap.size h0 pl f0 f1 f2 f3 f4 f5 f6 f7 f9 f10 f11 f12 f13 f14 q1 q2 q3 p0) (cwV 1 hts gL_orderAt_X8_orderAt rfl rfl rfl (by decide +kernel) ⟨Nat.le_of_ble_eq_true rfl, Nat.le_of_ble_eq_true rfl⟩) ⟨xBU.blind, va_recv hK hPc (ci := 8) (q0 := 0) rfl rfl, fun U9 hU9 hW9 => ⟨rfl, xB.mk hPc hK hDc hU9 hW9, hU.call hS hFc hU9 hW9⟩⟩ rfl rfl hl.1 rfl (lv_room (Nat.le_of_ble_eq_true rfl)) dL_orderAt_4 ⟨Nat.le_of_ble_eq_true rfl, Nat.le_of_ble_eq_true rfl⟩) hS (fun q _ h => hFc q h) hFc (fun q _ h => hFc q h) (fun E ce q9 ux t H1 locs1 ht hvm hpx hB hz1 hk1 hS hce hcv hcl => ?_) (fun r_1 u_2 t H1 locs ht hvm hw_3 hB hz1 hk1 hS => ?_)
  · obtain ⟨rfl, hB⟩ := hB
    have hP := xSame hP hk1
    refine vx_catch (name := "java/lang/IllegalStateException") hown [] ({ startPc := 0, endPc := 9, handlerPc := 12, catchType := 22 } : ExceptionTableEntry) [({ startPc := 0, endPc := 9, handlerPc := 15, catchType := 28 } : ExceptionTableEntry)] htbl (fun z hz => absurd hz List.not_mem_nil) rfl (by decide) (hts (.classLink RL 22 "java/lang/IllegalStateException") (by decide +kernel)) (va_Nw.use rfl (hU.2.2.2.2.1 "java/lang/IllegalStateException" (by decide))) hce hcv hcl ?_
    generalize H1 = H at hP hS ⊢
    generalize locs1 = locs at hS ⊢
    have hP : va_P (xD g) vwCl [(h0, .inr (8, [f0, f1, f2, f3, f4, f5, f6, f7, .ref pl, f9, f10, f11, f12, f13, f14])), (pl, .inr (4, [.int 0, q1, q2, q3])), (out, .inl (xJ g, 1, .inr (.inl of)))] H := hP
    have hD : va_D A [(h0, .inr (8, [f0, f1, f2, f3, f4, f5, f6, f7, .ref pl, f9, f10, f11, f12, f13, f14])), (pl, .inr (4, [.int 0, q1, q2, q3])), (out, .inl (xJ g, 1, .inr (.inl of)))] := hD
    refine W.widen (k := 1) (n := 6) (by omega) (by omega) ?_
    refine lv_astore_n (lv' := [(3, .ref q9), (0, .ref h0), (1, .int p0), (2, .ref out)]) hx hb dL_orderAt_12 rfl hl (by decide) rfl (fun ls hl => ?_)
    refine lv_iconst (v := 1) hx hb dL_orderAt_13 (by decide) ?_
    refine vx_ret ?_
    have hP9 := hP.sub (ws' := [(out, .inl (xJ g, 1, .inr (.inl of)))]) [2] rfl
    have hD9 := hD.sub (ws' := [(out, .inl (xJ g, 1, .inr (.inl of)))]) [2] (by decide) rfl
    exact W.iret (v := 1) hx hb hr (fun t ht hW => ⟨⟨1, (of 0), rfl, rfl, ⟨of, (by rfl), by rw [ht]; exact hP9, va_K.moved hW.alike hK, hD9⟩⟩, hS.F ht⟩) hS.2.2 dL_orderAt_14
  · exact False.elim hw_3
theorem dL_startOf_0 : decode cL_startOf 0 = .ok (.aload_n 2, 1) := by decide +kernel
theorem dL_startOf_1 : decode cL_startOf 1 = .ok (.iconst 0, 1) := by decide +kernel
theorem dL_startOf_2 : decode cL_startOf 2 = .ok (.aload_n 0, 1) := by decide +kernel
theorem dL_startOf_3 : decode cL_startOf 3 = .ok (.iload_n 1, 1) := by decide +kernel
theorem dL_startOf_4 : decode cL_startOf 4 = .ok (.invokevirtual 75, 3) := by decide +kernel
set_option maxRecDepth 20000 in
theorem ggL_startOf_X8_startOf : GoodIn wsL_startOf wsX8_startOf := goodIn_ca (goodIn_ca (goodIn_r _ [7, 8, 9, 10, 11, 12, 6, 13, 14, 15, 16, 17, 18, 19, 20, 21, 22, 23, 24, 25, 26, 27, 28, 29, 30, 31, 32, 33, 34, 35, 36, 37, 38, 39, 40, 41, 42] rfl (by decide +kernel)) (goodIn_sub (fun _ h => List.mem_cons_of_mem _ (List.mem_append_left _ (List.mem_append_right _ h))) (by decide +kernel))) (goodIn_sub (fun _ h => List.mem_cons_of_mem _ (List.mem_append_right _ h)) (by decide +kernel))
set_option maxRecDepth 20000 in
theorem gL_startOf_X8_startOf : GoodIn wsL_startOf (wsV RL 75 RX8 yX8_startOf wsX8_startOf) := goodIn_app (goodIn_of _ (by decide +kernel)) ggL_startOf_X8_startOf
theorem dL_startOf_12 : decode cL_startOf 12 = .ok (.astore_n 3, 1) := by decide +kernel
theorem dL_startOf_13 : decode cL_startOf 13 = .ok (.iconst 1, 1) := by decide +kernel
theorem dL_startOf_14 : decode cL_startOf 14 = .ok (.ireturn, 1) := by decide +kernel
set_option maxHeartbeats 4000000 in
set_option maxRecDepth 100000 in
theorem l_startOf (l : Launch) (hfl : l.stackTraces = false) (g : xG) (sz : Nat) (h0 : Nat) (pl : Nat) (f0 : Value) (f1 : Value) (f2 : Value) (f3 : Value) (f4 : Value) (f5 : Value) (f6 : Value) (f7 : Value) (f9 : Value) (f10 : Value) (f11 : Value) (f12 : Value) (f13 : Value) (f14 : Value) (q1 : Value) (q2 : Value) (q3 : Value) (p0 : Int32) (out : Nat) (of : Nat → Int64)  : vx_Met l yL_startOf wsL_startOf ({ frames := 9, cells := 1, slots := 6, locals := 206 }) (va_Pc [.ref h0, .int p0, .ref out] (fun U => xB g [(h0, .inr (8, [f0, f1, f2, f3, f4, f5, f6, f7, .ref pl, f9, f10, f11, f12, f13, f14])), (pl, .inr (4, [.int 0, q1, q2, q3])), (out, .inl (xJ g, 1, .inr (.inl of)))] sz U ∧ xU (va_A [(h0, .inr (8, [f0, f1, f2, f3, f4, f5, f6, f7, .ref pl, f9, f10, f11, f12, f13, f14])), (pl, .inr (4, [.int 0, q1, q2, q3])), (out, .inl (xJ g, 1, .inr (.inl of)))] sz) U)) (va_Qi (fun (r : Int32) (u : Int64) => r = 1) (fun (u : Int64) (t : State) => ∃ (of1 : Nat → Int64), of1 0 = u ∧ xE g [(out, .inl (xJ g, 1, .inr (.inl of1)))] (va_A [(h0, .inr (8, [f0, f1, f2, f3, f4, f5, f6, f7, .ref pl, f9, f10, f11, f12, f13, f14])), (pl, .inr (4, [.int 0, q1, q2, q3])), (out, .inl (xJ g, 1, .inr (.inl of)))] sz) t) (va_A [(h0, .inr (8, [f0, f1, f2, f3, f4, f5, f6, f7, .ref pl, f9, f10, f11, f12, f13, f14])), (pl, .inr (4, [.int 0, q1, q2, q3])), (out, .inl (xJ g, 1, .inr (.inl of)))] sz)) (vx_X (fun _ : Unit => True) (fun E _ _ => False) (va_A [(h0, .inr (8, [f0, f1, f2, f3, f4, f5, f6, f7, .ref pl, f9, f10, f11, f12, f13, f14])), (pl, .inr (4, [.int 0, q1, q2, q3])), (out, .inl (xJ g, 1, .inr (.inl of)))] sz)) 1 6 (va_A [(h0, .inr (8, [f0, f1, f2, f3, f4, f5, f6, f7, .ref pl, f9, f10, f11, f12, f13, f14])), (pl, .inr (4, [.int 0, q1, q2, q3])), (out, .inl (xJ g, 1, .inr (.inl of)))] sz) := by
  refine vx_ofWH (hh := [(0, 9, 12, 22), (0, 9, 15, 28)]) (cc := cL_startOf) (maxL := 4) (ret := (some .int)) (by decide) rfl ?_
  intro p e s m args below meth c s₁ B hml hv
  obtain ⟨rfl, ⟨hsz, hP, hK, hD0⟩, hU⟩ := hv
  have hx := B.exec
  have hb := B.bytes
  have hr := B.returns
  have hts := atoms_spec (ws := wsL_startOf) B.pre
  have hown : s.vm.findClass RL = some m.cls := findClass_of_methodNamed B.named
  have hlocks := B.notSynchronized
  have htbl := vx_table (x := yL_startOf) B (hts (.codeWith yL_startOf cL_startOf 4 (some .int) [(0, 9, 12, 22), (0, 9, 15, 28)]) List.mem_cons_self)
  subst hsz
  have hD := hD0.self (sz := s.heap.size)
  generalize hAe : va_A [(h0, .inr (8, [f0, f1, f2, f3, f4, f5, f6, f7, .ref pl, f9, f10, f11, f12, f13, f14])), (pl, .inr (4, [.int 0, q1, q2, q3])), (out, .inl (xJ g, 1, .inr (.inl of)))] s.heap.size = A at hD hU ⊢
  have hA : ∀ q : Nat, s.heap.size ≤ q → A q := fun q h => by rw [← hAe]; exact Or.inr h
  have hS : va_S A s.heap s.heap [] := va_S.rf
  have hl := lv_entry ([.ref h0, .int p0, .ref out]) (n := 4) (Nat.le_of_ble_eq_true rfl)
  rw [lg_entry_eq]
  generalize (lg_sl ([.ref h0, .int p0, .ref out]) ++ List.replicate (4 - (lg_sl ([.ref h0, .int p0, .ref out])).length) Slot.unset).toArray = ls at hl ⊢
  have hl : lv_has ls 4 [(0, .ref h0), (1, .int p0), (2, .ref out)] := hl
  refine lv_aload_n hx hb dL_startOf_0 rfl (lv_at hl 2 rfl) ?_
  refine lv_iconst (v := 0) hx hb dL_startOf_1 (by decide) ?_
  refine lv_aload_n hx hb dL_startOf_2 rfl (lv_at hl 0 rfl) ?_
  refine lv_iload_n hx hb dL_startOf_3 rfl (lv_at hl 1 rfl) ?_
  have hPc := hP.sub (ws' := [(h0, .inr (8, [f0, f1, f2, f3, f4, f5, f6, f7, .ref pl, f9, f10, f11, f12, f13, f14])), (pl, .inr (4, [.int 0, q1, q2, q3]))]) [0, 1] rfl
  have hDc := hD.sub (ws' := [(h0, .inr (8, [f0, f1, f2, f3, f4, f5, f6, f7, .ref pl, f9, f10, f11, f12, f13, f14])), (pl, .inr (4, [.int 0, q1, q2, q3]))]) [0, 1] (by decide) rfl
  have hFc := xFree hS hA
  refine vx_calli (vx_runV (As := [.int p0]) (rest := [.int 0, .ref out]) ⟨hx, hb, hml, hown, hts⟩ (x0_startOf l hfl g s.heap.size h0 pl f0 f1 f2 f3 f4 f5 f6 f7 f9 f10 f11 f12 f13 f14 q1 q2 q3 p0) (cwV 1 hts gL_startOf_X8_startOf rfl rfl rfl (by decide +kernel) ⟨Nat.le_of_ble_eq_true rfl, Nat.le_of_ble_eq_true rfl⟩) ⟨xBU.blind, va_recv hK hPc (ci := 8) (q0 := 0) rfl rfl, fun U9 hU9 hW9 => ⟨rfl, xB.mk hPc hK hDc hU9 hW9, hU.call hS hFc hU9 hW9⟩⟩ rfl rfl hl.1 rfl (lv_room (Nat.le_of_ble_eq_true rfl)) dL_startOf_4 ⟨Nat.le_of_ble_eq_true rfl, Nat.le_of_ble_eq_true rfl⟩) hS (fun q _ h => hFc q h) hFc (fun q _ h => hFc q h) (fun E ce q9 ux t H1 locs1 ht hvm hpx hB hz1 hk1 hS hce hcv hcl => ?_) (fun r_1 u_2 t H1 locs ht hvm hw_3 hB hz1 hk1 hS => ?_)
  · obtain ⟨rfl, hB⟩ := hB
    have hP := xSame hP hk1
    refine vx_catch (name := "java/lang/IllegalStateException") hown [] ({ startPc := 0, endPc := 9, handlerPc := 12, catchType := 22 } : ExceptionTableEntry) [({ startPc := 0, endPc := 9, handlerPc := 15, catchType := 28 } : ExceptionTableEntry)] htbl (fun z hz => absurd hz List.not_mem_nil) rfl (by decide) (hts (.classLink RL 22 "java/lang/IllegalStateException") (by decide +kernel)) (va_Nw.use rfl (hU.2.2.2.2.1 "java/lang/IllegalStateException" (by decide))) hce hcv hcl ?_
    generalize H1 = H at hP hS ⊢
    generalize locs1 = locs at hS ⊢
    have hP : va_P (xD g) vwCl [(h0, .inr (8, [f0, f1, f2, f3, f4, f5, f6, f7, .ref pl, f9, f10, f11, f12, f13, f14])), (pl, .inr (4, [.int 0, q1, q2, q3])), (out, .inl (xJ g, 1, .inr (.inl of)))] H := hP
    have hD : va_D A [(h0, .inr (8, [f0, f1, f2, f3, f4, f5, f6, f7, .ref pl, f9, f10, f11, f12, f13, f14])), (pl, .inr (4, [.int 0, q1, q2, q3])), (out, .inl (xJ g, 1, .inr (.inl of)))] := hD
    refine W.widen (k := 1) (n := 6) (by omega) (by omega) ?_
    refine lv_astore_n (lv' := [(3, .ref q9), (0, .ref h0), (1, .int p0), (2, .ref out)]) hx hb dL_startOf_12 rfl hl (by decide) rfl (fun ls hl => ?_)
    refine lv_iconst (v := 1) hx hb dL_startOf_13 (by decide) ?_
    refine vx_ret ?_
    have hP9 := hP.sub (ws' := [(out, .inl (xJ g, 1, .inr (.inl of)))]) [2] rfl
    have hD9 := hD.sub (ws' := [(out, .inl (xJ g, 1, .inr (.inl of)))]) [2] (by decide) rfl
    exact W.iret (v := 1) hx hb hr (fun t ht hW => ⟨⟨1, (of 0), rfl, rfl, ⟨of, (by rfl), by rw [ht]; exact hP9, va_K.moved hW.alike hK, hD9⟩⟩, hS.F ht⟩) hS.2.2 dL_startOf_14
  · exact False.elim hw_3
theorem dL_placeOf_0 : decode cL_placeOf 0 = .ok (.aload_n 2, 1) := by decide +kernel
theorem dL_placeOf_1 : decode cL_placeOf 1 = .ok (.iconst 0, 1) := by decide +kernel
theorem dL_placeOf_2 : decode cL_placeOf 2 = .ok (.aload_n 0, 1) := by decide +kernel
theorem dL_placeOf_3 : decode cL_placeOf 3 = .ok (.iload_n 1, 1) := by decide +kernel
theorem dL_placeOf_4 : decode cL_placeOf 4 = .ok (.invokevirtual 78, 3) := by decide +kernel
set_option maxRecDepth 20000 in
theorem ggL_placeOf_X8_placeOf : GoodIn wsL_placeOf wsX8_placeOf := goodIn_ca (goodIn_ca (goodIn_r _ [7, 8, 9, 10, 11, 12, 6, 13, 14, 15, 16, 17, 18, 19, 20, 21, 22, 23, 24, 25, 26, 27, 28, 29, 30, 31, 32, 33, 34, 35, 36, 37, 38, 39, 40, 41, 42] rfl (by decide +kernel)) (goodIn_sub (fun _ h => List.mem_cons_of_mem _ (List.mem_append_left _ (List.mem_append_right _ h))) (by decide +kernel))) (goodIn_sub (fun _ h => List.mem_cons_of_mem _ (List.mem_append_right _ h)) (by decide +kernel))
set_option maxRecDepth 20000 in
theorem gL_placeOf_X8_placeOf : GoodIn wsL_placeOf (wsV RL 78 RX8 yX8_placeOf wsX8_placeOf) := goodIn_app (goodIn_of _ (by decide +kernel)) ggL_placeOf_X8_placeOf
theorem dL_placeOf_12 : decode cL_placeOf 12 = .ok (.astore_n 3, 1) := by decide +kernel
theorem dL_placeOf_13 : decode cL_placeOf 13 = .ok (.iconst 1, 1) := by decide +kernel
theorem dL_placeOf_14 : decode cL_placeOf 14 = .ok (.ireturn, 1) := by decide +kernel
set_option maxHeartbeats 4000000 in
set_option maxRecDepth 100000 in
theorem l_placeOf (l : Launch) (hfl : l.stackTraces = false) (g : xG) (sz : Nat) (h0 : Nat) (pl : Nat) (f0 : Value) (f1 : Value) (f2 : Value) (f3 : Value) (f4 : Value) (f5 : Value) (f6 : Value) (f7 : Value) (f9 : Value) (f10 : Value) (f11 : Value) (f12 : Value) (f13 : Value) (f14 : Value) (q1 : Value) (q2 : Value) (q3 : Value) (p0 : Int32) (out : Nat) (of : Nat → Int64)  : vx_Met l yL_placeOf wsL_placeOf ({ frames := 9, cells := 1, slots := 6, locals := 206 }) (va_Pc [.ref h0, .int p0, .ref out] (fun U => xB g [(h0, .inr (8, [f0, f1, f2, f3, f4, f5, f6, f7, .ref pl, f9, f10, f11, f12, f13, f14])), (pl, .inr (4, [.int 0, q1, q2, q3])), (out, .inl (xJ g, 1, .inr (.inl of)))] sz U ∧ xU (va_A [(h0, .inr (8, [f0, f1, f2, f3, f4, f5, f6, f7, .ref pl, f9, f10, f11, f12, f13, f14])), (pl, .inr (4, [.int 0, q1, q2, q3])), (out, .inl (xJ g, 1, .inr (.inl of)))] sz) U)) (va_Qi (fun (r : Int32) (u : Int64) => r = 1) (fun (u : Int64) (t : State) => ∃ (of1 : Nat → Int64), of1 0 = u ∧ xE g [(out, .inl (xJ g, 1, .inr (.inl of1)))] (va_A [(h0, .inr (8, [f0, f1, f2, f3, f4, f5, f6, f7, .ref pl, f9, f10, f11, f12, f13, f14])), (pl, .inr (4, [.int 0, q1, q2, q3])), (out, .inl (xJ g, 1, .inr (.inl of)))] sz) t) (va_A [(h0, .inr (8, [f0, f1, f2, f3, f4, f5, f6, f7, .ref pl, f9, f10, f11, f12, f13, f14])), (pl, .inr (4, [.int 0, q1, q2, q3])), (out, .inl (xJ g, 1, .inr (.inl of)))] sz)) (vx_X (fun _ : Unit => True) (fun E _ _ => False) (va_A [(h0, .inr (8, [f0, f1, f2, f3, f4, f5, f6, f7, .ref pl, f9, f10, f11, f12, f13, f14])), (pl, .inr (4, [.int 0, q1, q2, q3])), (out, .inl (xJ g, 1, .inr (.inl of)))] sz)) 1 6 (va_A [(h0, .inr (8, [f0, f1, f2, f3, f4, f5, f6, f7, .ref pl, f9, f10, f11, f12, f13, f14])), (pl, .inr (4, [.int 0, q1, q2, q3])), (out, .inl (xJ g, 1, .inr (.inl of)))] sz) := by
  refine vx_ofWH (hh := [(0, 9, 12, 22), (0, 9, 15, 28)]) (cc := cL_placeOf) (maxL := 4) (ret := (some .int)) (by decide) rfl ?_
  intro p e s m args below meth c s₁ B hml hv
  obtain ⟨rfl, ⟨hsz, hP, hK, hD0⟩, hU⟩ := hv
  have hx := B.exec
  have hb := B.bytes
  have hr := B.returns
  have hts := atoms_spec (ws := wsL_placeOf) B.pre
  have hown : s.vm.findClass RL = some m.cls := findClass_of_methodNamed B.named
  have hlocks := B.notSynchronized
  have htbl := vx_table (x := yL_placeOf) B (hts (.codeWith yL_placeOf cL_placeOf 4 (some .int) [(0, 9, 12, 22), (0, 9, 15, 28)]) List.mem_cons_self)
  subst hsz
  have hD := hD0.self (sz := s.heap.size)
  generalize hAe : va_A [(h0, .inr (8, [f0, f1, f2, f3, f4, f5, f6, f7, .ref pl, f9, f10, f11, f12, f13, f14])), (pl, .inr (4, [.int 0, q1, q2, q3])), (out, .inl (xJ g, 1, .inr (.inl of)))] s.heap.size = A at hD hU ⊢
  have hA : ∀ q : Nat, s.heap.size ≤ q → A q := fun q h => by rw [← hAe]; exact Or.inr h
  have hS : va_S A s.heap s.heap [] := va_S.rf
  have hl := lv_entry ([.ref h0, .int p0, .ref out]) (n := 4) (Nat.le_of_ble_eq_true rfl)
  rw [lg_entry_eq]
  generalize (lg_sl ([.ref h0, .int p0, .ref out]) ++ List.replicate (4 - (lg_sl ([.ref h0, .int p0, .ref out])).length) Slot.unset).toArray = ls at hl ⊢
  have hl : lv_has ls 4 [(0, .ref h0), (1, .int p0), (2, .ref out)] := hl
  refine lv_aload_n hx hb dL_placeOf_0 rfl (lv_at hl 2 rfl) ?_
  refine lv_iconst (v := 0) hx hb dL_placeOf_1 (by decide) ?_
  refine lv_aload_n hx hb dL_placeOf_2 rfl (lv_at hl 0 rfl) ?_
  refine lv_iload_n hx hb dL_placeOf_3 rfl (lv_at hl 1 rfl) ?_
  have hPc := hP.sub (ws' := [(h0, .inr (8, [f0, f1, f2, f3, f4, f5, f6, f7, .ref pl, f9, f10, f11, f12, f13, f14])), (pl, .inr (4, [.int 0, q1, q2, q3]))]) [0, 1] rfl
  have hDc := hD.sub (ws' := [(h0, .inr (8, [f0, f1, f2, f3, f4, f5, f6, f7, .ref pl, f9, f10, f11, f12, f13, f14])), (pl, .inr (4, [.int 0, q1, q2, q3]))]) [0, 1] (by decide) rfl
  have hFc := xFree hS hA
  refine vx_calli (vx_runV (As := [.int p0]) (rest := [.int 0, .ref out]) ⟨hx, hb, hml, hown, hts⟩ (x0_placeOf l hfl g s.heap.size h0 pl f0 f1 f2 f3 f4 f5 f6 f7 f9 f10 f11 f12 f13 f14 q1 q2 q3 p0) (cwV 1 hts gL_placeOf_X8_placeOf rfl rfl rfl (by decide +kernel) ⟨Nat.le_of_ble_eq_true rfl, Nat.le_of_ble_eq_true rfl⟩) ⟨xBU.blind, va_recv hK hPc (ci := 8) (q0 := 0) rfl rfl, fun U9 hU9 hW9 => ⟨rfl, xB.mk hPc hK hDc hU9 hW9, hU.call hS hFc hU9 hW9⟩⟩ rfl rfl hl.1 rfl (lv_room (Nat.le_of_ble_eq_true rfl)) dL_placeOf_4 ⟨Nat.le_of_ble_eq_true rfl, Nat.le_of_ble_eq_true rfl⟩) hS (fun q _ h => hFc q h) hFc (fun q _ h => hFc q h) (fun E ce q9 ux t H1 locs1 ht hvm hpx hB hz1 hk1 hS hce hcv hcl => ?_) (fun r_1 u_2 t H1 locs ht hvm hw_3 hB hz1 hk1 hS => ?_)
  · obtain ⟨rfl, hB⟩ := hB
    have hP := xSame hP hk1
    refine vx_catch (name := "java/lang/IllegalStateException") hown [] ({ startPc := 0, endPc := 9, handlerPc := 12, catchType := 22 } : ExceptionTableEntry) [({ startPc := 0, endPc := 9, handlerPc := 15, catchType := 28 } : ExceptionTableEntry)] htbl (fun z hz => absurd hz List.not_mem_nil) rfl (by decide) (hts (.classLink RL 22 "java/lang/IllegalStateException") (by decide +kernel)) (va_Nw.use rfl (hU.2.2.2.2.1 "java/lang/IllegalStateException" (by decide))) hce hcv hcl ?_
    generalize H1 = H at hP hS ⊢
    generalize locs1 = locs at hS ⊢
    have hP : va_P (xD g) vwCl [(h0, .inr (8, [f0, f1, f2, f3, f4, f5, f6, f7, .ref pl, f9, f10, f11, f12, f13, f14])), (pl, .inr (4, [.int 0, q1, q2, q3])), (out, .inl (xJ g, 1, .inr (.inl of)))] H := hP
    have hD : va_D A [(h0, .inr (8, [f0, f1, f2, f3, f4, f5, f6, f7, .ref pl, f9, f10, f11, f12, f13, f14])), (pl, .inr (4, [.int 0, q1, q2, q3])), (out, .inl (xJ g, 1, .inr (.inl of)))] := hD
    refine W.widen (k := 1) (n := 6) (by omega) (by omega) ?_
    refine lv_astore_n (lv' := [(3, .ref q9), (0, .ref h0), (1, .int p0), (2, .ref out)]) hx hb dL_placeOf_12 rfl hl (by decide) rfl (fun ls hl => ?_)
    refine lv_iconst (v := 1) hx hb dL_placeOf_13 (by decide) ?_
    refine vx_ret ?_
    have hP9 := hP.sub (ws' := [(out, .inl (xJ g, 1, .inr (.inl of)))]) [2] rfl
    have hD9 := hD.sub (ws' := [(out, .inl (xJ g, 1, .inr (.inl of)))]) [2] (by decide) rfl
    exact W.iret (v := 1) hx hb hr (fun t ht hW => ⟨⟨1, (of 0), rfl, rfl, ⟨of, (by rfl), by rw [ht]; exact hP9, va_K.moved hW.alike hK, hD9⟩⟩, hS.F ht⟩) hS.2.2 dL_placeOf_14
  · exact False.elim hw_3
theorem dL_vesselAt_0 : decode cL_vesselAt 0 = .ok (.aload_n 3, 1) := by decide +kernel
theorem dL_vesselAt_1 : decode cL_vesselAt 1 = .ok (.iconst 0, 1) := by decide +kernel
theorem dL_vesselAt_2 : decode cL_vesselAt 2 = .ok (.aload_n 0, 1) := by decide +kernel
theorem dL_vesselAt_3 : decode cL_vesselAt 3 = .ok (.iload_n 1, 1) := by decide +kernel
theorem dL_vesselAt_4 : decode cL_vesselAt 4 = .ok (.iload_n 2, 1) := by decide +kernel
theorem dL_vesselAt_5 : decode cL_vesselAt 5 = .ok (.invokevirtual 81, 3) := by decide +kernel
set_option maxRecDepth 20000 in
theorem ggL_vesselAt_X8_vesselAt : GoodIn wsL_vesselAt wsX8_vesselAt := goodIn_ca (goodIn_ca (goodIn_r _ [7, 8, 9, 10, 11, 12, 13, 14, 15, 16, 17, 18, 6, 19, 20, 21, 22, 23, 24, 25, 26, 27, 28, 29, 30, 31, 32, 33, 34, 35, 36, 37, 38, 39, 40, 41, 42, 43, 44, 45, 46, 47, 48, 49, 50, 51, 52, 53, 54, 55, 56, 57, 58] rfl (by decide +kernel)) (goodIn_sub (fun _ h => List.mem_cons_of_mem _ (List.mem_append_left _ (List.mem_append_right _ h))) (by decide +kernel))) (goodIn_sub (fun _ h => List.mem_cons_of_mem _ (List.mem_append_right _ h)) (by decide +kernel))
set_option maxRecDepth 20000 in
theorem gL_vesselAt_X8_vesselAt : GoodIn wsL_vesselAt (wsV RL 81 RX8 yX8_vesselAt wsX8_vesselAt) := goodIn_app (goodIn_of _ (by decide +kernel)) ggL_vesselAt_X8_vesselAt
theorem dL_vesselAt_13 : decode cL_vesselAt 13 = .ok (.astore 4, 2) := by decide +kernel
theorem dL_vesselAt_15 : decode cL_vesselAt 15 = .ok (.iconst 1, 1) := by decide +kernel
theorem dL_vesselAt_16 : decode cL_vesselAt 16 = .ok (.ireturn, 1) := by decide +kernel
set_option maxHeartbeats 4000000 in
set_option maxRecDepth 100000 in
theorem l_vesselAt (l : Launch) (hfl : l.stackTraces = false) (g : xG) (sz : Nat) (h0 : Nat) (pl : Nat) (f0 : Value) (f1 : Value) (f2 : Value) (f3 : Value) (f4 : Value) (f5 : Value) (f6 : Value) (f7 : Value) (f9 : Value) (f10 : Value) (f11 : Value) (f12 : Value) (f13 : Value) (f14 : Value) (q1 : Value) (q2 : Value) (q3 : Value) (p0 : Int32) (p1 : Int32) (out : Nat) (of : Nat → Int64)  : vx_Met l yL_vesselAt wsL_vesselAt ({ frames := 9, cells := 1, slots := 6, locals := 209 }) (va_Pc [.ref h0, .int p0, .int p1, .ref out] (fun U => xB g [(h0, .inr (8, [f0, f1, f2, f3, f4, f5, f6, f7, .ref pl, f9, f10, f11, f12, f13, f14])), (pl, .inr (4, [.int 0, q1, q2, q3])), (out, .inl (xJ g, 1, .inr (.inl of)))] sz U ∧ xU (va_A [(h0, .inr (8, [f0, f1, f2, f3, f4, f5, f6, f7, .ref pl, f9, f10, f11, f12, f13, f14])), (pl, .inr (4, [.int 0, q1, q2, q3])), (out, .inl (xJ g, 1, .inr (.inl of)))] sz) U)) (va_Qi (fun (r : Int32) (u : Int64) => r = 1) (fun (u : Int64) (t : State) => ∃ (of1 : Nat → Int64), of1 0 = u ∧ xE g [(out, .inl (xJ g, 1, .inr (.inl of1)))] (va_A [(h0, .inr (8, [f0, f1, f2, f3, f4, f5, f6, f7, .ref pl, f9, f10, f11, f12, f13, f14])), (pl, .inr (4, [.int 0, q1, q2, q3])), (out, .inl (xJ g, 1, .inr (.inl of)))] sz) t) (va_A [(h0, .inr (8, [f0, f1, f2, f3, f4, f5, f6, f7, .ref pl, f9, f10, f11, f12, f13, f14])), (pl, .inr (4, [.int 0, q1, q2, q3])), (out, .inl (xJ g, 1, .inr (.inl of)))] sz)) (vx_X (fun _ : Unit => True) (fun E _ _ => False) (va_A [(h0, .inr (8, [f0, f1, f2, f3, f4, f5, f6, f7, .ref pl, f9, f10, f11, f12, f13, f14])), (pl, .inr (4, [.int 0, q1, q2, q3])), (out, .inl (xJ g, 1, .inr (.inl of)))] sz)) 1 6 (va_A [(h0, .inr (8, [f0, f1, f2, f3, f4, f5, f6, f7, .ref pl, f9, f10, f11, f12, f13, f14])), (pl, .inr (4, [.int 0, q1, q2, q3])), (out, .inl (xJ g, 1, .inr (.inl of)))] sz) := by
  refine vx_ofWH (hh := [(0, 10, 13, 22), (0, 10, 17, 28)]) (cc := cL_vesselAt) (maxL := 5) (ret := (some .int)) (by decide) rfl ?_
  intro p e s m args below meth c s₁ B hml hv
  obtain ⟨rfl, ⟨hsz, hP, hK, hD0⟩, hU⟩ := hv
  have hx := B.exec
  have hb := B.bytes
  have hr := B.returns
  have hts := atoms_spec (ws := wsL_vesselAt) B.pre
  have hown : s.vm.findClass RL = some m.cls := findClass_of_methodNamed B.named
  have hlocks := B.notSynchronized
  have htbl := vx_table (x := yL_vesselAt) B (hts (.codeWith yL_vesselAt cL_vesselAt 5 (some .int) [(0, 10, 13, 22), (0, 10, 17, 28)]) List.mem_cons_self)
  subst hsz
  have hD := hD0.self (sz := s.heap.size)
  generalize hAe : va_A [(h0, .inr (8, [f0, f1, f2, f3, f4, f5, f6, f7, .ref pl, f9, f10, f11, f12, f13, f14])), (pl, .inr (4, [.int 0, q1, q2, q3])), (out, .inl (xJ g, 1, .inr (.inl of)))] s.heap.size = A at hD hU ⊢
  have hA : ∀ q : Nat, s.heap.size ≤ q → A q := fun q h => by rw [← hAe]; exact Or.inr h
  have hS : va_S A s.heap s.heap [] := va_S.rf
  have hl := lv_entry ([.ref h0, .int p0, .int p1, .ref out]) (n := 5) (Nat.le_of_ble_eq_true rfl)
  rw [lg_entry_eq]
  generalize (lg_sl ([.ref h0, .int p0, .int p1, .ref out]) ++ List.replicate (5 - (lg_sl ([.ref h0, .int p0, .int p1, .ref out])).length) Slot.unset).toArray = ls at hl ⊢
  have hl : lv_has ls 5 [(0, .ref h0), (1, .int p0), (2, .int p1), (3, .ref out)] := hl
  refine lv_aload_n hx hb dL_vesselAt_0 rfl (lv_at hl 3 rfl) ?_
  refine lv_iconst (v := 0) hx hb dL_vesselAt_1 (by decide) ?_
  refine lv_aload_n hx hb dL_vesselAt_2 rfl (lv_at hl 0 rfl) ?_
  refine lv_iload_n hx hb dL_vesselAt_3 rfl (lv_at hl 1 rfl) ?_
  refine lv_iload_n hx hb dL_vesselAt_4 rfl (lv_at hl 2 rfl) ?_
  have hPc := hP.sub (ws' := [(h0, .inr (8, [f0, f1, f2, f3, f4, f5, f6, f7, .ref pl, f9, f10, f11, f12, f13, f14])), (pl, .inr (4, [.int 0, q1, q2, q3]))]) [0, 1] rfl
  have hDc := hD.sub (ws' := [(h0, .inr (8, [f0, f1, f2, f3, f4, f5, f6, f7, .ref pl, f9, f10, f11, f12, f13, f14])), (pl, .inr (4, [.int 0, q1, q2, q3]))]) [0, 1] (by decide) rfl
  have hFc := xFree hS hA
  refine vx_calli (vx_runV (As := [.int p0, .int p1]) (rest := [.int 0, .ref out]) ⟨hx, hb, hml, hown, hts⟩ (x0_vesselAt l hfl g s.heap.size h0 pl f0 f1 f2 f3 f4 f5 f6 f7 f9 f10 f11 f12 f13 f14 q1 q2 q3 p0 p1) (cwV 2 hts gL_vesselAt_X8_vesselAt rfl rfl rfl (by decide +kernel) ⟨Nat.le_of_ble_eq_true rfl, Nat.le_of_ble_eq_true rfl⟩) ⟨xBU.blind, va_recv hK hPc (ci := 8) (q0 := 0) rfl rfl, fun U9 hU9 hW9 => ⟨rfl, xB.mk hPc hK hDc hU9 hW9, hU.call hS hFc hU9 hW9⟩⟩ rfl rfl hl.1 rfl (lv_room (Nat.le_of_ble_eq_true rfl)) dL_vesselAt_5 ⟨Nat.le_of_ble_eq_true rfl, Nat.le_of_ble_eq_true rfl⟩) hS (fun q _ h => hFc q h) hFc (fun q _ h => hFc q h) (fun E ce q9 ux t H1 locs1 ht hvm hpx hB hz1 hk1 hS hce hcv hcl => ?_) (fun r_1 u_2 t H1 locs ht hvm hw_3 hB hz1 hk1 hS => ?_)
  · obtain ⟨rfl, hB⟩ := hB
    have hP := xSame hP hk1
    refine vx_catch (name := "java/lang/IllegalStateException") hown [] ({ startPc := 0, endPc := 10, handlerPc := 13, catchType := 22 } : ExceptionTableEntry) [({ startPc := 0, endPc := 10, handlerPc := 17, catchType := 28 } : ExceptionTableEntry)] htbl (fun z hz => absurd hz List.not_mem_nil) rfl (by decide) (hts (.classLink RL 22 "java/lang/IllegalStateException") (by decide +kernel)) (va_Nw.use rfl (hU.2.2.2.2.1 "java/lang/IllegalStateException" (by decide))) hce hcv hcl ?_
    generalize H1 = H at hP hS ⊢
    generalize locs1 = locs at hS ⊢
    have hP : va_P (xD g) vwCl [(h0, .inr (8, [f0, f1, f2, f3, f4, f5, f6, f7, .ref pl, f9, f10, f11, f12, f13, f14])), (pl, .inr (4, [.int 0, q1, q2, q3])), (out, .inl (xJ g, 1, .inr (.inl of)))] H := hP
    have hD : va_D A [(h0, .inr (8, [f0, f1, f2, f3, f4, f5, f6, f7, .ref pl, f9, f10, f11, f12, f13, f14])), (pl, .inr (4, [.int 0, q1, q2, q3])), (out, .inl (xJ g, 1, .inr (.inl of)))] := hD
    refine W.widen (k := 1) (n := 6) (by omega) (by omega) ?_
    refine lv_astore (lv' := [(4, .ref q9), (0, .ref h0), (1, .int p0), (2, .int p1), (3, .ref out)]) hx hb dL_vesselAt_13 hl (by decide) rfl (fun ls hl => ?_)
    refine lv_iconst (v := 1) hx hb dL_vesselAt_15 (by decide) ?_
    refine vx_ret ?_
    have hP9 := hP.sub (ws' := [(out, .inl (xJ g, 1, .inr (.inl of)))]) [2] rfl
    have hD9 := hD.sub (ws' := [(out, .inl (xJ g, 1, .inr (.inl of)))]) [2] (by decide) rfl
    exact W.iret (v := 1) hx hb hr (fun t ht hW => ⟨⟨1, (of 0), rfl, rfl, ⟨of, (by rfl), by rw [ht]; exact hP9, va_K.moved hW.alike hK, hD9⟩⟩, hS.F ht⟩) hS.2.2 dL_vesselAt_16
  · exact False.elim hw_3
theorem dL_cranesAt_0 : decode cL_cranesAt 0 = .ok (.aload_n 2, 1) := by decide +kernel
theorem dL_cranesAt_1 : decode cL_cranesAt 1 = .ok (.iconst 0, 1) := by decide +kernel
theorem dL_cranesAt_2 : decode cL_cranesAt 2 = .ok (.aload_n 0, 1) := by decide +kernel
theorem dL_cranesAt_3 : decode cL_cranesAt 3 = .ok (.iload_n 1, 1) := by decide +kernel
theorem dL_cranesAt_4 : decode cL_cranesAt 4 = .ok (.invokevirtual 84, 3) := by decide +kernel
set_option maxRecDepth 20000 in
theorem ggL_cranesAt_X8_cranesAt : GoodIn wsL_cranesAt wsX8_cranesAt := goodIn_ca (goodIn_r _ [6, 7, 8, 9, 10, 11, 12, 5, 13, 14, 15, 16, 17, 18, 19, 20, 21, 22, 23, 24, 25, 26, 27, 28, 29, 30, 31, 32, 33, 34, 35, 36, 37, 38, 39, 40, 41, 42, 43, 44, 45, 46, 47, 48, 49, 50, 51, 52, 53] rfl (by decide +kernel)) (goodIn_sub (fun _ h => List.mem_cons_of_mem _ (List.mem_append_right _ h)) (by decide +kernel))
set_option maxRecDepth 20000 in
theorem gL_cranesAt_X8_cranesAt : GoodIn wsL_cranesAt (wsV RL 84 RX8 yX8_cranesAt wsX8_cranesAt) := goodIn_app (goodIn_of _ (by decide +kernel)) ggL_cranesAt_X8_cranesAt
theorem dL_cranesAt_12 : decode cL_cranesAt 12 = .ok (.astore_n 3, 1) := by decide +kernel
theorem dL_cranesAt_13 : decode cL_cranesAt 13 = .ok (.iconst 1, 1) := by decide +kernel
theorem dL_cranesAt_14 : decode cL_cranesAt 14 = .ok (.ireturn, 1) := by decide +kernel
set_option maxHeartbeats 4000000 in
set_option maxRecDepth 100000 in
theorem l_cranesAt (l : Launch) (hfl : l.stackTraces = false) (g : xG) (sz : Nat) (h0 : Nat) (pl : Nat) (f0 : Value) (f1 : Value) (f2 : Value) (f3 : Value) (f4 : Value) (f5 : Value) (f6 : Value) (f7 : Value) (f9 : Value) (f10 : Value) (f11 : Value) (f12 : Value) (f13 : Value) (f14 : Value) (q1 : Value) (q2 : Value) (q3 : Value) (p0 : Int32) (out : Nat) (of : Nat → Int64)  : vx_Met l yL_cranesAt wsL_cranesAt ({ frames := 9, cells := 1, slots := 6, locals := 208 }) (va_Pc [.ref h0, .int p0, .ref out] (fun U => xB g [(h0, .inr (8, [f0, f1, f2, f3, f4, f5, f6, f7, .ref pl, f9, f10, f11, f12, f13, f14])), (pl, .inr (4, [.int 0, q1, q2, q3])), (out, .inl (xJ g, 1, .inr (.inl of)))] sz U ∧ xU (va_A [(h0, .inr (8, [f0, f1, f2, f3, f4, f5, f6, f7, .ref pl, f9, f10, f11, f12, f13, f14])), (pl, .inr (4, [.int 0, q1, q2, q3])), (out, .inl (xJ g, 1, .inr (.inl of)))] sz) U)) (va_Qi (fun (r : Int32) (u : Int64) => r = 1) (fun (u : Int64) (t : State) => ∃ (of1 : Nat → Int64), of1 0 = u ∧ xE g [(out, .inl (xJ g, 1, .inr (.inl of1)))] (va_A [(h0, .inr (8, [f0, f1, f2, f3, f4, f5, f6, f7, .ref pl, f9, f10, f11, f12, f13, f14])), (pl, .inr (4, [.int 0, q1, q2, q3])), (out, .inl (xJ g, 1, .inr (.inl of)))] sz) t) (va_A [(h0, .inr (8, [f0, f1, f2, f3, f4, f5, f6, f7, .ref pl, f9, f10, f11, f12, f13, f14])), (pl, .inr (4, [.int 0, q1, q2, q3])), (out, .inl (xJ g, 1, .inr (.inl of)))] sz)) (vx_X (fun _ : Unit => True) (fun E _ _ => False) (va_A [(h0, .inr (8, [f0, f1, f2, f3, f4, f5, f6, f7, .ref pl, f9, f10, f11, f12, f13, f14])), (pl, .inr (4, [.int 0, q1, q2, q3])), (out, .inl (xJ g, 1, .inr (.inl of)))] sz)) 1 6 (va_A [(h0, .inr (8, [f0, f1, f2, f3, f4, f5, f6, f7, .ref pl, f9, f10, f11, f12, f13, f14])), (pl, .inr (4, [.int 0, q1, q2, q3])), (out, .inl (xJ g, 1, .inr (.inl of)))] sz) := by
  refine vx_ofWH (hh := [(0, 9, 12, 22)]) (cc := cL_cranesAt) (maxL := 4) (ret := (some .int)) (by decide) rfl ?_
  intro p e s m args below meth c s₁ B hml hv
  obtain ⟨rfl, ⟨hsz, hP, hK, hD0⟩, hU⟩ := hv
  have hx := B.exec
  have hb := B.bytes
  have hr := B.returns
  have hts := atoms_spec (ws := wsL_cranesAt) B.pre
  have hown : s.vm.findClass RL = some m.cls := findClass_of_methodNamed B.named
  have hlocks := B.notSynchronized
  have htbl := vx_table (x := yL_cranesAt) B (hts (.codeWith yL_cranesAt cL_cranesAt 4 (some .int) [(0, 9, 12, 22)]) List.mem_cons_self)
  subst hsz
  have hD := hD0.self (sz := s.heap.size)
  generalize hAe : va_A [(h0, .inr (8, [f0, f1, f2, f3, f4, f5, f6, f7, .ref pl, f9, f10, f11, f12, f13, f14])), (pl, .inr (4, [.int 0, q1, q2, q3])), (out, .inl (xJ g, 1, .inr (.inl of)))] s.heap.size = A at hD hU ⊢
  have hA : ∀ q : Nat, s.heap.size ≤ q → A q := fun q h => by rw [← hAe]; exact Or.inr h
  have hS : va_S A s.heap s.heap [] := va_S.rf
  have hl := lv_entry ([.ref h0, .int p0, .ref out]) (n := 4) (Nat.le_of_ble_eq_true rfl)
  rw [lg_entry_eq]
  generalize (lg_sl ([.ref h0, .int p0, .ref out]) ++ List.replicate (4 - (lg_sl ([.ref h0, .int p0, .ref out])).length) Slot.unset).toArray = ls at hl ⊢
  have hl : lv_has ls 4 [(0, .ref h0), (1, .int p0), (2, .ref out)] := hl
  refine lv_aload_n hx hb dL_cranesAt_0 rfl (lv_at hl 2 rfl) ?_
  refine lv_iconst (v := 0) hx hb dL_cranesAt_1 (by decide) ?_
  refine lv_aload_n hx hb dL_cranesAt_2 rfl (lv_at hl 0 rfl) ?_
  refine lv_iload_n hx hb dL_cranesAt_3 rfl (lv_at hl 1 rfl) ?_
  have hPc := hP.sub (ws' := [(h0, .inr (8, [f0, f1, f2, f3, f4, f5, f6, f7, .ref pl, f9, f10, f11, f12, f13, f14])), (pl, .inr (4, [.int 0, q1, q2, q3]))]) [0, 1] rfl
  have hDc := hD.sub (ws' := [(h0, .inr (8, [f0, f1, f2, f3, f4, f5, f6, f7, .ref pl, f9, f10, f11, f12, f13, f14])), (pl, .inr (4, [.int 0, q1, q2, q3]))]) [0, 1] (by decide) rfl
  have hFc := xFree hS hA
  refine vx_calli (vx_runV (As := [.int p0]) (rest := [.int 0, .ref out]) ⟨hx, hb, hml, hown, hts⟩ (x0_cranesAt l hfl g s.heap.size h0 pl f0 f1 f2 f3 f4 f5 f6 f7 f9 f10 f11 f12 f13 f14 q1 q2 q3 p0) (cwV 1 hts gL_cranesAt_X8_cranesAt rfl rfl rfl (by decide +kernel) ⟨Nat.le_of_ble_eq_true rfl, Nat.le_of_ble_eq_true rfl⟩) ⟨xBU.blind, va_recv hK hPc (ci := 8) (q0 := 0) rfl rfl, fun U9 hU9 hW9 => ⟨rfl, xB.mk hPc hK hDc hU9 hW9, hU.call hS hFc hU9 hW9⟩⟩ rfl rfl hl.1 rfl (lv_room (Nat.le_of_ble_eq_true rfl)) dL_cranesAt_4 ⟨Nat.le_of_ble_eq_true rfl, Nat.le_of_ble_eq_true rfl⟩) hS (fun q _ h => hFc q h) hFc (fun q _ h => hFc q h) (fun E ce q9 ux t H1 locs1 ht hvm hpx hB hz1 hk1 hS hce hcv hcl => ?_) (fun r_1 u_2 t H1 locs ht hvm hw_3 hB hz1 hk1 hS => ?_)
  · obtain ⟨rfl, hB⟩ := hB
    have hP := xSame hP hk1
    refine vx_catch (name := "java/lang/IllegalStateException") hown [] ({ startPc := 0, endPc := 9, handlerPc := 12, catchType := 22 } : ExceptionTableEntry) [] htbl (fun z hz => absurd hz List.not_mem_nil) rfl (by decide) (hts (.classLink RL 22 "java/lang/IllegalStateException") (by decide +kernel)) (va_Nw.use rfl (hU.2.2.2.2.1 "java/lang/IllegalStateException" (by decide))) hce hcv hcl ?_
    generalize H1 = H at hP hS ⊢
    generalize locs1 = locs at hS ⊢
    have hP : va_P (xD g) vwCl [(h0, .inr (8, [f0, f1, f2, f3, f4, f5, f6, f7, .ref pl, f9, f10, f11, f12, f13, f14])), (pl, .inr (4, [.int 0, q1, q2, q3])), (out, .inl (xJ g, 1, .inr (.inl of)))] H := hP
    have hD : va_D A [(h0, .inr (8, [f0, f1, f2, f3, f4, f5, f6, f7, .ref pl, f9, f10, f11, f12, f13, f14])), (pl, .inr (4, [.int 0, q1, q2, q3])), (out, .inl (xJ g, 1, .inr (.inl of)))] := hD
    refine W.widen (k := 1) (n := 6) (by omega) (by omega) ?_
    refine lv_astore_n (lv' := [(3, .ref q9), (0, .ref h0), (1, .int p0), (2, .ref out)]) hx hb dL_cranesAt_12 rfl hl (by decide) rfl (fun ls hl => ?_)
    refine lv_iconst (v := 1) hx hb dL_cranesAt_13 (by decide) ?_
    refine vx_ret ?_
    have hP9 := hP.sub (ws' := [(out, .inl (xJ g, 1, .inr (.inl of)))]) [2] rfl
    have hD9 := hD.sub (ws' := [(out, .inl (xJ g, 1, .inr (.inl of)))]) [2] (by decide) rfl
    exact W.iret (v := 1) hx hb hr (fun t ht hW => ⟨⟨1, (of 0), rfl, rfl, ⟨of, (by rfl), by rw [ht]; exact hP9, va_K.moved hW.alike hK, hD9⟩⟩, hS.F ht⟩) hS.2.2 dL_cranesAt_14
  · exact False.elim hw_3
theorem dL_movedAt_0 : decode cL_movedAt 0 = .ok (.aload_n 2, 1) := by decide +kernel
theorem dL_movedAt_1 : decode cL_movedAt 1 = .ok (.iconst 0, 1) := by decide +kernel
theorem dL_movedAt_2 : decode cL_movedAt 2 = .ok (.aload_n 0, 1) := by decide +kernel
theorem dL_movedAt_3 : decode cL_movedAt 3 = .ok (.iload_n 1, 1) := by decide +kernel
theorem dL_movedAt_4 : decode cL_movedAt 4 = .ok (.invokevirtual 93, 3) := by decide +kernel
set_option maxRecDepth 20000 in
theorem ggL_movedAt_X8_movedAt : GoodIn wsL_movedAt wsX8_movedAt := goodIn_ca (goodIn_ca (goodIn_r _ [7, 8, 9, 10, 6, 11, 12, 13, 14, 15, 16, 17, 18, 19, 20, 21, 22, 23, 24, 25, 26, 27, 28, 29, 30, 31, 32, 33, 34, 35, 36, 37, 38, 39, 40, 41, 42, 43, 44, 45, 46, 47, 48, 49, 50, 51, 52, 53, 54, 55, 56, 57, 58, 59, 60, 61, 62, 63, 64, 65, 66, 67, 68, 69, 70, 71, 72, 73, 74, 75, 76, 77, 78, 79, 80, 81] rfl (by decide +kernel)) (goodIn_sub (fun _ h => List.mem_cons_of_mem _ (List.mem_append_left _ (List.mem_append_right _ h))) (by decide +kernel))) (goodIn_sub (fun _ h => List.mem_cons_of_mem _ (List.mem_append_right _ h)) (by decide +kernel))
set_option maxRecDepth 20000 in
theorem gL_movedAt_X8_movedAt : GoodIn wsL_movedAt (wsV RL 93 RX8 yX8_movedAt wsX8_movedAt) := goodIn_app (goodIn_of _ (by decide +kernel)) ggL_movedAt_X8_movedAt
theorem dL_movedAt_12 : decode cL_movedAt 12 = .ok (.astore_n 3, 1) := by decide +kernel
theorem dL_movedAt_13 : decode cL_movedAt 13 = .ok (.iconst 1, 1) := by decide +kernel
theorem dL_movedAt_14 : decode cL_movedAt 14 = .ok (.ireturn, 1) := by decide +kernel
set_option maxHeartbeats 4000000 in
set_option maxRecDepth 100000 in
theorem l_movedAt (l : Launch) (hfl : l.stackTraces = false) (g : xG) (sz : Nat) (h0 : Nat) (pl : Nat) (f0 : Value) (f1 : Value) (f2 : Value) (f3 : Value) (f4 : Value) (f5 : Value) (f6 : Value) (f7 : Value) (f9 : Value) (f10 : Value) (f11 : Value) (f12 : Value) (f13 : Value) (f14 : Value) (q1 : Value) (q2 : Value) (q3 : Value) (p0 : Int32) (out : Nat) (of : Nat → Int64)  : vx_Met l yL_movedAt wsL_movedAt ({ frames := 9, cells := 1, slots := 6, locals := 206 }) (va_Pc [.ref h0, .int p0, .ref out] (fun U => xB g [(h0, .inr (8, [f0, f1, f2, f3, f4, f5, f6, f7, .ref pl, f9, f10, f11, f12, f13, f14])), (pl, .inr (4, [.int 0, q1, q2, q3])), (out, .inl (xJ g, 1, .inr (.inl of)))] sz U ∧ xU (va_A [(h0, .inr (8, [f0, f1, f2, f3, f4, f5, f6, f7, .ref pl, f9, f10, f11, f12, f13, f14])), (pl, .inr (4, [.int 0, q1, q2, q3])), (out, .inl (xJ g, 1, .inr (.inl of)))] sz) U)) (va_Qi (fun (r : Int32) (u : Int64) => r = 1) (fun (u : Int64) (t : State) => ∃ (of1 : Nat → Int64), of1 0 = u ∧ xE g [(out, .inl (xJ g, 1, .inr (.inl of1)))] (va_A [(h0, .inr (8, [f0, f1, f2, f3, f4, f5, f6, f7, .ref pl, f9, f10, f11, f12, f13, f14])), (pl, .inr (4, [.int 0, q1, q2, q3])), (out, .inl (xJ g, 1, .inr (.inl of)))] sz) t) (va_A [(h0, .inr (8, [f0, f1, f2, f3, f4, f5, f6, f7, .ref pl, f9, f10, f11, f12, f13, f14])), (pl, .inr (4, [.int 0, q1, q2, q3])), (out, .inl (xJ g, 1, .inr (.inl of)))] sz)) (vx_X (fun _ : Unit => True) (fun E _ _ => False) (va_A [(h0, .inr (8, [f0, f1, f2, f3, f4, f5, f6, f7, .ref pl, f9, f10, f11, f12, f13, f14])), (pl, .inr (4, [.int 0, q1, q2, q3])), (out, .inl (xJ g, 1, .inr (.inl of)))] sz)) 1 6 (va_A [(h0, .inr (8, [f0, f1, f2, f3, f4, f5, f6, f7, .ref pl, f9, f10, f11, f12, f13, f14])), (pl, .inr (4, [.int 0, q1, q2, q3])), (out, .inl (xJ g, 1, .inr (.inl of)))] sz) := by
  refine vx_ofWH (hh := [(0, 9, 12, 22), (0, 9, 15, 28)]) (cc := cL_movedAt) (maxL := 4) (ret := (some .int)) (by decide) rfl ?_
  intro p e s m args below meth c s₁ B hml hv
  obtain ⟨rfl, ⟨hsz, hP, hK, hD0⟩, hU⟩ := hv
  have hx := B.exec
  have hb := B.bytes
  have hr := B.returns
  have hts := atoms_spec (ws := wsL_movedAt) B.pre
  have hown : s.vm.findClass RL = some m.cls := findClass_of_methodNamed B.named
  have hlocks := B.notSynchronized
  have htbl := vx_table (x := yL_movedAt) B (hts (.codeWith yL_movedAt cL_movedAt 4 (some .int) [(0, 9, 12, 22), (0, 9, 15, 28)]) List.mem_cons_self)
  subst hsz
  have hD := hD0.self (sz := s.heap.size)
  generalize hAe : va_A [(h0, .inr (8, [f0, f1, f2, f3, f4, f5, f6, f7, .ref pl, f9, f10, f11, f12, f13, f14])), (pl, .inr (4, [.int 0, q1, q2, q3])), (out, .inl (xJ g, 1, .inr (.inl of)))] s.heap.size = A at hD hU ⊢
  have hA : ∀ q : Nat, s.heap.size ≤ q → A q := fun q h => by rw [← hAe]; exact Or.inr h
  have hS : va_S A s.heap s.heap [] := va_S.rf
  have hl := lv_entry ([.ref h0, .int p0, .ref out]) (n := 4) (Nat.le_of_ble_eq_true rfl)
  rw [lg_entry_eq]
  generalize (lg_sl ([.ref h0, .int p0, .ref out]) ++ List.replicate (4 - (lg_sl ([.ref h0, .int p0, .ref out])).length) Slot.unset).toArray = ls at hl ⊢
  have hl : lv_has ls 4 [(0, .ref h0), (1, .int p0), (2, .ref out)] := hl
  refine lv_aload_n hx hb dL_movedAt_0 rfl (lv_at hl 2 rfl) ?_
  refine lv_iconst (v := 0) hx hb dL_movedAt_1 (by decide) ?_
  refine lv_aload_n hx hb dL_movedAt_2 rfl (lv_at hl 0 rfl) ?_
  refine lv_iload_n hx hb dL_movedAt_3 rfl (lv_at hl 1 rfl) ?_
  have hPc := hP.sub (ws' := [(h0, .inr (8, [f0, f1, f2, f3, f4, f5, f6, f7, .ref pl, f9, f10, f11, f12, f13, f14])), (pl, .inr (4, [.int 0, q1, q2, q3]))]) [0, 1] rfl
  have hDc := hD.sub (ws' := [(h0, .inr (8, [f0, f1, f2, f3, f4, f5, f6, f7, .ref pl, f9, f10, f11, f12, f13, f14])), (pl, .inr (4, [.int 0, q1, q2, q3]))]) [0, 1] (by decide) rfl
  have hFc := xFree hS hA
  refine vx_calli (vx_runV (As := [.int p0]) (rest := [.int 0, .ref out]) ⟨hx, hb, hml, hown, hts⟩ (x0_movedAt l hfl g s.heap.size h0 pl f0 f1 f2 f3 f4 f5 f6 f7 f9 f10 f11 f12 f13 f14 q1 q2 q3 p0) (cwV 1 hts gL_movedAt_X8_movedAt rfl rfl rfl (by decide +kernel) ⟨Nat.le_of_ble_eq_true rfl, Nat.le_of_ble_eq_true rfl⟩) ⟨xBU.blind, va_recv hK hPc (ci := 8) (q0 := 0) rfl rfl, fun U9 hU9 hW9 => ⟨rfl, xB.mk hPc hK hDc hU9 hW9, hU.call hS hFc hU9 hW9⟩⟩ rfl rfl hl.1 rfl (lv_room (Nat.le_of_ble_eq_true rfl)) dL_movedAt_4 ⟨Nat.le_of_ble_eq_true rfl, Nat.le_of_ble_eq_true rfl⟩) hS (fun q _ h => hFc q h) hFc (fun q _ h => hFc q h) (fun E ce q9 ux t H1 locs1 ht hvm hpx hB hz1 hk1 hS hce hcv hcl => ?_) (fun r_1 u_2 t H1 locs ht hvm hw_3 hB hz1 hk1 hS => ?_)
  · obtain ⟨rfl, hB⟩ := hB
    have hP := xSame hP hk1
    refine vx_catch (name := "java/lang/IllegalStateException") hown [] ({ startPc := 0, endPc := 9, handlerPc := 12, catchType := 22 } : ExceptionTableEntry) [({ startPc := 0, endPc := 9, handlerPc := 15, catchType := 28 } : ExceptionTableEntry)] htbl (fun z hz => absurd hz List.not_mem_nil) rfl (by decide) (hts (.classLink RL 22 "java/lang/IllegalStateException") (by decide +kernel)) (va_Nw.use rfl (hU.2.2.2.2.1 "java/lang/IllegalStateException" (by decide))) hce hcv hcl ?_
    generalize H1 = H at hP hS ⊢
    generalize locs1 = locs at hS ⊢
    have hP : va_P (xD g) vwCl [(h0, .inr (8, [f0, f1, f2, f3, f4, f5, f6, f7, .ref pl, f9, f10, f11, f12, f13, f14])), (pl, .inr (4, [.int 0, q1, q2, q3])), (out, .inl (xJ g, 1, .inr (.inl of)))] H := hP
    have hD : va_D A [(h0, .inr (8, [f0, f1, f2, f3, f4, f5, f6, f7, .ref pl, f9, f10, f11, f12, f13, f14])), (pl, .inr (4, [.int 0, q1, q2, q3])), (out, .inl (xJ g, 1, .inr (.inl of)))] := hD
    refine W.widen (k := 1) (n := 6) (by omega) (by omega) ?_
    refine lv_astore_n (lv' := [(3, .ref q9), (0, .ref h0), (1, .int p0), (2, .ref out)]) hx hb dL_movedAt_12 rfl hl (by decide) rfl (fun ls hl => ?_)
    refine lv_iconst (v := 1) hx hb dL_movedAt_13 (by decide) ?_
    refine vx_ret ?_
    have hP9 := hP.sub (ws' := [(out, .inl (xJ g, 1, .inr (.inl of)))]) [2] rfl
    have hD9 := hD.sub (ws' := [(out, .inl (xJ g, 1, .inr (.inl of)))]) [2] (by decide) rfl
    exact W.iret (v := 1) hx hb hr (fun t ht hW => ⟨⟨1, (of 0), rfl, rfl, ⟨of, (by rfl), by rw [ht]; exact hP9, va_K.moved hW.alike hK, hD9⟩⟩, hS.F ht⟩) hS.2.2 dL_movedAt_14
  · exact False.elim hw_3
theorem dL_giveSlots_0 : decode cL_giveSlots 0 = .ok (.aload_n 1, 1) := by decide +kernel
theorem dL_giveSlots_1 : decode cL_giveSlots 1 = .ok (.iconst 0, 1) := by decide +kernel
theorem dL_giveSlots_2 : decode cL_giveSlots 2 = .ok (.aload_n 0, 1) := by decide +kernel
theorem dL_giveSlots_3 : decode cL_giveSlots 3 = .ok (.invokevirtual 96, 3) := by decide +kernel
set_option maxRecDepth 20000 in
theorem ggL_giveSlots_X8_giveSlots : GoodIn wsL_giveSlots wsX8_giveSlots := goodIn_ca (goodIn_r _ [6, 7, 8, 9, 10, 11, 12, 13, 14, 15, 16, 17, 18, 19, 20, 5, 21, 22, 23, 24, 25, 26, 27, 28, 29, 30, 31, 32, 33, 34, 35, 36, 37, 38, 39, 40, 41, 42, 43, 44, 45, 46, 47, 48, 49, 50, 51, 52, 53, 54, 55, 56, 57, 58, 59, 60, 61, 62, 63, 64, 65, 66, 67, 68, 69, 70, 71, 72, 73, 74, 75, 76, 77, 78, 79, 80, 81, 82, 83, 84, 85, 86, 87, 88, 89, 90, 91, 92, 93, 94, 95, 96, 97, 98, 99, 100, 101, 102, 103, 104, 105, 106, 107, 108, 109, 110, 111, 112, 113, 114, 115, 116, 117, 118, 119, 120, 121, 122, 123, 124, 125, 126, 127, 128, 129, 130, 131, 132, 133, 134, 135, 136, 137, 138, 139, 140, 141, 142, 143, 144, 145, 146, 147, 148, 149, 150, 151, 152, 153, 154, 155, 156, 157, 158, 159, 160, 161, 162, 163, 164, 165, 166, 167, 168, 169, 170, 171, 172, 173, 174, 175, 176, 177, 178, 179, 180, 181, 182, 183, 184, 185, 186, 187, 188, 189, 190, 191, 192, 193, 194, 195, 196, 197, 198, 199, 200] rfl (by decide +kernel)) (goodIn_sub (fun _ h => List.mem_cons_of_mem _ (List.mem_append_right _ h)) (by decide +kernel))
set_option maxRecDepth 20000 in
theorem gL_giveSlots_X8_giveSlots : GoodIn wsL_giveSlots (wsV RL 96 RX8 yX8_giveSlots wsX8_giveSlots) := goodIn_app (goodIn_of _ (by decide +kernel)) ggL_giveSlots_X8_giveSlots
theorem dL_giveSlots_11 : decode cL_giveSlots 11 = .ok (.astore_n 2, 1) := by decide +kernel
theorem dL_giveSlots_12 : decode cL_giveSlots 12 = .ok (.iconst 1, 1) := by decide +kernel
theorem dL_giveSlots_13 : decode cL_giveSlots 13 = .ok (.ireturn, 1) := by decide +kernel
set_option maxHeartbeats 4000000 in
set_option maxRecDepth 100000 in
theorem l_giveSlots (l : Launch) (hfl : l.stackTraces = false) (g : xG) (sz : Nat) (h0 : Nat) (pl : Nat) (f0 : Value) (f1 : Value) (f2 : Value) (f3 : Value) (f4 : Value) (f5 : Value) (f6 : Value) (f7 : Value) (f9 : Value) (f10 : Value) (f11 : Value) (f12 : Value) (f13 : Value) (f14 : Value) (q1 : Value) (q2 : Value) (q3 : Value) (out : Nat) (of : Nat → Int64)  : vx_Met l yL_giveSlots wsL_giveSlots ({ frames := 9, cells := 1, slots := 6, locals := 206 }) (va_Pc [.ref h0, .ref out] (fun U => xB g [(h0, .inr (8, [f0, f1, f2, f3, f4, f5, f6, f7, .ref pl, f9, f10, f11, f12, f13, f14])), (pl, .inr (4, [.int 0, q1, q2, q3])), (out, .inl (xJ g, 1, .inr (.inl of)))] sz U ∧ xU (va_A [(h0, .inr (8, [f0, f1, f2, f3, f4, f5, f6, f7, .ref pl, f9, f10, f11, f12, f13, f14])), (pl, .inr (4, [.int 0, q1, q2, q3])), (out, .inl (xJ g, 1, .inr (.inl of)))] sz) U)) (va_Qi (fun (r : Int32) (u : Int64) => r = 1) (fun (u : Int64) (t : State) => ∃ (of1 : Nat → Int64), of1 0 = u ∧ xE g [(out, .inl (xJ g, 1, .inr (.inl of1)))] (va_A [(h0, .inr (8, [f0, f1, f2, f3, f4, f5, f6, f7, .ref pl, f9, f10, f11, f12, f13, f14])), (pl, .inr (4, [.int 0, q1, q2, q3])), (out, .inl (xJ g, 1, .inr (.inl of)))] sz) t) (va_A [(h0, .inr (8, [f0, f1, f2, f3, f4, f5, f6, f7, .ref pl, f9, f10, f11, f12, f13, f14])), (pl, .inr (4, [.int 0, q1, q2, q3])), (out, .inl (xJ g, 1, .inr (.inl of)))] sz)) (vx_X (fun _ : Unit => True) (fun E _ _ => False) (va_A [(h0, .inr (8, [f0, f1, f2, f3, f4, f5, f6, f7, .ref pl, f9, f10, f11, f12, f13, f14])), (pl, .inr (4, [.int 0, q1, q2, q3])), (out, .inl (xJ g, 1, .inr (.inl of)))] sz)) 1 6 (va_A [(h0, .inr (8, [f0, f1, f2, f3, f4, f5, f6, f7, .ref pl, f9, f10, f11, f12, f13, f14])), (pl, .inr (4, [.int 0, q1, q2, q3])), (out, .inl (xJ g, 1, .inr (.inl of)))] sz) := by
  refine vx_ofWH (hh := [(0, 8, 11, 22)]) (cc := cL_giveSlots) (maxL := 3) (ret := (some .int)) (by decide) rfl ?_
  intro p e s m args below meth c s₁ B hml hv
  obtain ⟨rfl, ⟨hsz, hP, hK, hD0⟩, hU⟩ := hv
  have hx := B.exec
  have hb := B.bytes
  have hr := B.returns
  have hts := atoms_spec (ws := wsL_giveSlots) B.pre
  have hown : s.vm.findClass RL = some m.cls := findClass_of_methodNamed B.named
  have hlocks := B.notSynchronized
  have htbl := vx_table (x := yL_giveSlots) B (hts (.codeWith yL_giveSlots cL_giveSlots 3 (some .int) [(0, 8, 11, 22)]) List.mem_cons_self)
  subst hsz
  have hD := hD0.self (sz := s.heap.size)
  generalize hAe : va_A [(h0, .inr (8, [f0, f1, f2, f3, f4, f5, f6, f7, .ref pl, f9, f10, f11, f12, f13, f14])), (pl, .inr (4, [.int 0, q1, q2, q3])), (out, .inl (xJ g, 1, .inr (.inl of)))] s.heap.size = A at hD hU ⊢
  have hA : ∀ q : Nat, s.heap.size ≤ q → A q := fun q h => by rw [← hAe]; exact Or.inr h
  have hS : va_S A s.heap s.heap [] := va_S.rf
  have hl := lv_entry ([.ref h0, .ref out]) (n := 3) (Nat.le_of_ble_eq_true rfl)
  rw [lg_entry_eq]
  generalize (lg_sl ([.ref h0, .ref out]) ++ List.replicate (3 - (lg_sl ([.ref h0, .ref out])).length) Slot.unset).toArray = ls at hl ⊢
  have hl : lv_has ls 3 [(0, .ref h0), (1, .ref out)] := hl
  refine lv_aload_n hx hb dL_giveSlots_0 rfl (lv_at hl 1 rfl) ?_
  refine lv_iconst (v := 0) hx hb dL_giveSlots_1 (by decide) ?_
  refine lv_aload_n hx hb dL_giveSlots_2 rfl (lv_at hl 0 rfl) ?_
  have hPc := hP.sub (ws' := [(h0, .inr (8, [f0, f1, f2, f3, f4, f5, f6, f7, .ref pl, f9, f10, f11, f12, f13, f14])), (pl, .inr (4, [.int 0, q1, q2, q3]))]) [0, 1] rfl
  have hDc := hD.sub (ws' := [(h0, .inr (8, [f0, f1, f2, f3, f4, f5, f6, f7, .ref pl, f9, f10, f11, f12, f13, f14])), (pl, .inr (4, [.int 0, q1, q2, q3]))]) [0, 1] (by decide) rfl
  have hFc := xFree hS hA
  refine vx_calli (vx_runV (As := []) (rest := [.int 0, .ref out]) ⟨hx, hb, hml, hown, hts⟩ (x0_giveSlots l hfl g s.heap.size h0 pl f0 f1 f2 f3 f4 f5 f6 f7 f9 f10 f11 f12 f13 f14 q1 q2 q3) (cwV 0 hts gL_giveSlots_X8_giveSlots rfl rfl rfl (by decide +kernel) ⟨Nat.le_of_ble_eq_true rfl, Nat.le_of_ble_eq_true rfl⟩) ⟨xBU.blind, va_recv hK hPc (ci := 8) (q0 := 0) rfl rfl, fun U9 hU9 hW9 => ⟨rfl, xB.mk hPc hK hDc hU9 hW9, hU.call hS hFc hU9 hW9⟩⟩ rfl rfl hl.1 rfl (lv_room (Nat.le_of_ble_eq_true rfl)) dL_giveSlots_3 ⟨Nat.le_of_ble_eq_true rfl, Nat.le_of_ble_eq_true rfl⟩) hS (fun q _ h => hFc q h) hFc (fun q _ h => hFc q h) (fun E ce q9 ux t H1 locs1 ht hvm hpx hB hz1 hk1 hS hce hcv hcl => ?_) (fun r_1 u_2 t H1 locs ht hvm hw_3 hB hz1 hk1 hS => ?_)
  · obtain ⟨rfl, hB⟩ := hB
    have hP := xSame hP hk1
    refine vx_catch (name := "java/lang/IllegalStateException") hown [] ({ startPc := 0, endPc := 8, handlerPc := 11, catchType := 22 } : ExceptionTableEntry) [] htbl (fun z hz => absurd hz List.not_mem_nil) rfl (by decide) (hts (.classLink RL 22 "java/lang/IllegalStateException") (by decide +kernel)) (va_Nw.use rfl (hU.2.2.2.2.1 "java/lang/IllegalStateException" (by decide))) hce hcv hcl ?_
    generalize H1 = H at hP hS ⊢
    generalize locs1 = locs at hS ⊢
    have hP : va_P (xD g) vwCl [(h0, .inr (8, [f0, f1, f2, f3, f4, f5, f6, f7, .ref pl, f9, f10, f11, f12, f13, f14])), (pl, .inr (4, [.int 0, q1, q2, q3])), (out, .inl (xJ g, 1, .inr (.inl of)))] H := hP
    have hD : va_D A [(h0, .inr (8, [f0, f1, f2, f3, f4, f5, f6, f7, .ref pl, f9, f10, f11, f12, f13, f14])), (pl, .inr (4, [.int 0, q1, q2, q3])), (out, .inl (xJ g, 1, .inr (.inl of)))] := hD
    refine W.widen (k := 1) (n := 6) (by omega) (by omega) ?_
    refine lv_astore_n (lv' := [(2, .ref q9), (0, .ref h0), (1, .ref out)]) hx hb dL_giveSlots_11 rfl hl (by decide) rfl (fun ls hl => ?_)
    refine lv_iconst (v := 1) hx hb dL_giveSlots_12 (by decide) ?_
    refine vx_ret ?_
    have hP9 := hP.sub (ws' := [(out, .inl (xJ g, 1, .inr (.inl of)))]) [2] rfl
    have hD9 := hD.sub (ws' := [(out, .inl (xJ g, 1, .inr (.inl of)))]) [2] (by decide) rfl
    exact W.iret (v := 1) hx hb hr (fun t ht hW => ⟨⟨1, (of 0), rfl, rfl, ⟨of, (by rfl), by rw [ht]; exact hP9, va_K.moved hW.alike hK, hD9⟩⟩, hS.F ht⟩) hS.2.2 dL_giveSlots_13
  · exact False.elim hw_3
theorem dL_costIf_0 : decode cL_costIf 0 = .ok (.aload_n 3, 1) := by decide +kernel
theorem dL_costIf_1 : decode cL_costIf 1 = .ok (.iconst 0, 1) := by decide +kernel
theorem dL_costIf_2 : decode cL_costIf 2 = .ok (.aload_n 0, 1) := by decide +kernel
theorem dL_costIf_3 : decode cL_costIf 3 = .ok (.iload_n 1, 1) := by decide +kernel
theorem dL_costIf_4 : decode cL_costIf 4 = .ok (.iload_n 2, 1) := by decide +kernel
theorem dL_costIf_5 : decode cL_costIf 5 = .ok (.invokevirtual 105, 3) := by decide +kernel
set_option maxRecDepth 20000 in
theorem ggL_costIf_X8_costIf : GoodIn wsL_costIf wsX8_costIf := goodIn_ca (goodIn_ca (goodIn_ca (goodIn_r _ [8, 9, 10, 11, 12, 13, 7, 14, 15, 16, 17, 18, 19, 20, 21, 22, 23, 24, 25, 26, 27, 28, 29, 30, 31, 32, 33, 34, 35, 36, 37, 38, 39, 40, 41, 42, 43, 44, 45, 46, 47, 48, 49, 50, 51, 52, 53, 54, 55, 56, 57, 58, 59, 60, 61, 62, 63, 64, 65, 66, 67, 68, 69, 70, 71, 72, 73, 74, 75, 76, 77, 78, 79, 80, 81, 82, 83, 84, 85, 86, 87, 88, 89, 90, 91, 92, 93, 94, 95, 96, 97, 98, 99, 100, 101, 102, 103, 104, 105, 106, 107, 108, 109, 110, 111, 112, 113, 114, 115, 116, 117, 118, 119, 120, 121, 122, 123, 124, 125, 126, 127, 128, 129, 130, 131, 132, 133, 134, 135, 136, 137, 138, 139, 140, 141, 142, 143, 144, 145, 146, 147, 148, 149, 150, 151, 152, 153, 154, 155, 156] rfl (by decide +kernel)) (goodIn_sub (fun _ h => List.mem_cons_of_mem _ (List.mem_append_left _ (List.mem_append_left _ (List.mem_append_right _ h)))) (by decide +kernel))) (goodIn_sub (fun _ h => List.mem_cons_of_mem _ (List.mem_append_left _ (List.mem_append_right _ h))) (by decide +kernel))) (goodIn_sub (fun _ h => List.mem_cons_of_mem _ (List.mem_append_right _ h)) (by decide +kernel))
set_option maxRecDepth 20000 in
theorem gL_costIf_X8_costIf : GoodIn wsL_costIf (wsV RL 105 RX8 yX8_costIf wsX8_costIf) := goodIn_app (goodIn_of _ (by decide +kernel)) ggL_costIf_X8_costIf
theorem dL_costIf_13 : decode cL_costIf 13 = .ok (.astore 4, 2) := by decide +kernel
theorem dL_costIf_15 : decode cL_costIf 15 = .ok (.iconst 1, 1) := by decide +kernel
theorem dL_costIf_16 : decode cL_costIf 16 = .ok (.ireturn, 1) := by decide +kernel
set_option maxHeartbeats 4000000 in
set_option maxRecDepth 100000 in
theorem l_costIf (l : Launch) (hfl : l.stackTraces = false) (g : xG) (sz : Nat) (h0 : Nat) (pl : Nat) (f0 : Value) (f1 : Value) (f2 : Value) (f3 : Value) (f4 : Value) (f5 : Value) (f6 : Value) (f7 : Value) (f9 : Value) (f10 : Value) (f11 : Value) (f12 : Value) (f13 : Value) (f14 : Value) (q1 : Value) (q2 : Value) (q3 : Value) (p0 : Int32) (p1 : Int32) (out : Nat) (of : Nat → Int64)  : vx_Met l yL_costIf wsL_costIf ({ frames := 9, cells := 1, slots := 6, locals := 207 }) (va_Pc [.ref h0, .int p0, .int p1, .ref out] (fun U => xB g [(h0, .inr (8, [f0, f1, f2, f3, f4, f5, f6, f7, .ref pl, f9, f10, f11, f12, f13, f14])), (pl, .inr (4, [.int 0, q1, q2, q3])), (out, .inl (xJ g, 1, .inr (.inl of)))] sz U ∧ xU (va_A [(h0, .inr (8, [f0, f1, f2, f3, f4, f5, f6, f7, .ref pl, f9, f10, f11, f12, f13, f14])), (pl, .inr (4, [.int 0, q1, q2, q3])), (out, .inl (xJ g, 1, .inr (.inl of)))] sz) U)) (va_Qi (fun (r : Int32) (u : Int64) => r = 1) (fun (u : Int64) (t : State) => ∃ (of1 : Nat → Int64), of1 0 = u ∧ xE g [(out, .inl (xJ g, 1, .inr (.inl of1)))] (va_A [(h0, .inr (8, [f0, f1, f2, f3, f4, f5, f6, f7, .ref pl, f9, f10, f11, f12, f13, f14])), (pl, .inr (4, [.int 0, q1, q2, q3])), (out, .inl (xJ g, 1, .inr (.inl of)))] sz) t) (va_A [(h0, .inr (8, [f0, f1, f2, f3, f4, f5, f6, f7, .ref pl, f9, f10, f11, f12, f13, f14])), (pl, .inr (4, [.int 0, q1, q2, q3])), (out, .inl (xJ g, 1, .inr (.inl of)))] sz)) (vx_X (fun _ : Unit => True) (fun E _ _ => False) (va_A [(h0, .inr (8, [f0, f1, f2, f3, f4, f5, f6, f7, .ref pl, f9, f10, f11, f12, f13, f14])), (pl, .inr (4, [.int 0, q1, q2, q3])), (out, .inl (xJ g, 1, .inr (.inl of)))] sz)) 1 6 (va_A [(h0, .inr (8, [f0, f1, f2, f3, f4, f5, f6, f7, .ref pl, f9, f10, f11, f12, f13, f14])), (pl, .inr (4, [.int 0, q1, q2, q3])), (out, .inl (xJ g, 1, .inr (.inl of)))] sz) := by
  refine vx_ofWH (hh := [(0, 10, 13, 22), (0, 10, 17, 28), (0, 10, 21, 13)]) (cc := cL_costIf) (maxL := 5) (ret := (some .int)) (by decide) rfl ?_
  intro p e s m args below meth c s₁ B hml hv
  obtain ⟨rfl, ⟨hsz, hP, hK, hD0⟩, hU⟩ := hv
  have hx := B.exec
  have hb := B.bytes
  have hr := B.returns
  have hts := atoms_spec (ws := wsL_costIf) B.pre
  have hown : s.vm.findClass RL = some m.cls := findClass_of_methodNamed B.named
  have hlocks := B.notSynchronized
  have htbl := vx_table (x := yL_costIf) B (hts (.codeWith yL_costIf cL_costIf 5 (some .int) [(0, 10, 13, 22), (0, 10, 17, 28), (0, 10, 21, 13)]) List.mem_cons_self)
  subst hsz
  have hD := hD0.self (sz := s.heap.size)
  generalize hAe : va_A [(h0, .inr (8, [f0, f1, f2, f3, f4, f5, f6, f7, .ref pl, f9, f10, f11, f12, f13, f14])), (pl, .inr (4, [.int 0, q1, q2, q3])), (out, .inl (xJ g, 1, .inr (.inl of)))] s.heap.size = A at hD hU ⊢
  have hA : ∀ q : Nat, s.heap.size ≤ q → A q := fun q h => by rw [← hAe]; exact Or.inr h
  have hS : va_S A s.heap s.heap [] := va_S.rf
  have hl := lv_entry ([.ref h0, .int p0, .int p1, .ref out]) (n := 5) (Nat.le_of_ble_eq_true rfl)
  rw [lg_entry_eq]
  generalize (lg_sl ([.ref h0, .int p0, .int p1, .ref out]) ++ List.replicate (5 - (lg_sl ([.ref h0, .int p0, .int p1, .ref out])).length) Slot.unset).toArray = ls at hl ⊢
  have hl : lv_has ls 5 [(0, .ref h0), (1, .int p0), (2, .int p1), (3, .ref out)] := hl
  refine lv_aload_n hx hb dL_costIf_0 rfl (lv_at hl 3 rfl) ?_
  refine lv_iconst (v := 0) hx hb dL_costIf_1 (by decide) ?_
  refine lv_aload_n hx hb dL_costIf_2 rfl (lv_at hl 0 rfl) ?_
  refine lv_iload_n hx hb dL_costIf_3 rfl (lv_at hl 1 rfl) ?_
  refine lv_iload_n hx hb dL_costIf_4 rfl (lv_at hl 2 rfl) ?_
  have hPc := hP.sub (ws' := [(h0, .inr (8, [f0, f1, f2, f3, f4, f5, f6, f7, .ref pl, f9, f10, f11, f12, f13, f14])), (pl, .inr (4, [.int 0, q1, q2, q3]))]) [0, 1] rfl
  have hDc := hD.sub (ws' := [(h0, .inr (8, [f0, f1, f2, f3, f4, f5, f6, f7, .ref pl, f9, f10, f11, f12, f13, f14])), (pl, .inr (4, [.int 0, q1, q2, q3]))]) [0, 1] (by decide) rfl
  have hFc := xFree hS hA
  refine vx_calli (vx_runV (As := [.int p0, .int p1]) (rest := [.int 0, .ref out]) ⟨hx, hb, hml, hown, hts⟩ (x0_costIf l hfl g s.heap.size h0 pl f0 f1 f2 f3 f4 f5 f6 f7 f9 f10 f11 f12 f13 f14 q1 q2 q3 p0 p1) (cwV 2 hts gL_costIf_X8_costIf rfl rfl rfl (by decide +kernel) ⟨Nat.le_of_ble_eq_true rfl, Nat.le_of_ble_eq_true rfl⟩) ⟨xBU.blind, va_recv hK hPc (ci := 8) (q0 := 0) rfl rfl, fun U9 hU9 hW9 => ⟨rfl, xB.mk hPc hK hDc hU9 hW9, hU.call hS hFc hU9 hW9⟩⟩ rfl rfl hl.1 rfl (lv_room (Nat.le_of_ble_eq_true rfl)) dL_costIf_5 ⟨Nat.le_of_ble_eq_true rfl, Nat.le_of_ble_eq_true rfl⟩) hS (fun q _ h => hFc q h) hFc (fun q _ h => hFc q h) (fun E ce q9 ux t H1 locs1 ht hvm hpx hB hz1 hk1 hS hce hcv hcl => ?_) (fun r_1 u_2 t H1 locs ht hvm hw_3 hB hz1 hk1 hS => ?_)
  · obtain ⟨rfl, hB⟩ := hB
    have hP := xSame hP hk1
    refine vx_catch (name := "java/lang/IllegalStateException") hown [] ({ startPc := 0, endPc := 10, handlerPc := 13, catchType := 22 } : ExceptionTableEntry) [({ startPc := 0, endPc := 10, handlerPc := 17, catchType := 28 } : ExceptionTableEntry), ({ startPc := 0, endPc := 10, handlerPc := 21, catchType := 13 } : ExceptionTableEntry)] htbl (fun z hz => absurd hz List.not_mem_nil) rfl (by decide) (hts (.classLink RL 22 "java/lang/IllegalStateException") (by decide +kernel)) (va_Nw.use rfl (hU.2.2.2.2.1 "java/lang/IllegalStateException" (by decide))) hce hcv hcl ?_
    generalize H1 = H at hP hS ⊢
    generalize locs1 = locs at hS ⊢
    have hP : va_P (xD g) vwCl [(h0, .inr (8, [f0, f1, f2, f3, f4, f5, f6, f7, .ref pl, f9, f10, f11, f12, f13, f14])), (pl, .inr (4, [.int 0, q1, q2, q3])), (out, .inl (xJ g, 1, .inr (.inl of)))] H := hP
    have hD : va_D A [(h0, .inr (8, [f0, f1, f2, f3, f4, f5, f6, f7, .ref pl, f9, f10, f11, f12, f13, f14])), (pl, .inr (4, [.int 0, q1, q2, q3])), (out, .inl (xJ g, 1, .inr (.inl of)))] := hD
    refine W.widen (k := 1) (n := 6) (by omega) (by omega) ?_
    refine lv_astore (lv' := [(4, .ref q9), (0, .ref h0), (1, .int p0), (2, .int p1), (3, .ref out)]) hx hb dL_costIf_13 hl (by decide) rfl (fun ls hl => ?_)
    refine lv_iconst (v := 1) hx hb dL_costIf_15 (by decide) ?_
    refine vx_ret ?_
    have hP9 := hP.sub (ws' := [(out, .inl (xJ g, 1, .inr (.inl of)))]) [2] rfl
    have hD9 := hD.sub (ws' := [(out, .inl (xJ g, 1, .inr (.inl of)))]) [2] (by decide) rfl
    exact W.iret (v := 1) hx hb hr (fun t ht hW => ⟨⟨1, (of 0), rfl, rfl, ⟨of, (by rfl), by rw [ht]; exact hP9, va_K.moved hW.alike hK, hD9⟩⟩, hS.F ht⟩) hS.2.2 dL_costIf_16
  · exact False.elim hw_3
theorem dL_slotOf_0 : decode cL_slotOf 0 = .ok (.aload_n 2, 1) := by decide +kernel
theorem dL_slotOf_1 : decode cL_slotOf 1 = .ok (.iconst 0, 1) := by decide +kernel
theorem dL_slotOf_2 : decode cL_slotOf 2 = .ok (.aload_n 0, 1) := by decide +kernel
theorem dL_slotOf_3 : decode cL_slotOf 3 = .ok (.iload_n 1, 1) := by decide +kernel
theorem dL_slotOf_4 : decode cL_slotOf 4 = .ok (.invokevirtual 99, 3) := by decide +kernel
set_option maxRecDepth 20000 in
theorem ggL_slotOf_X8_slotOf : GoodIn wsL_slotOf wsX8_slotOf := goodIn_ca (goodIn_ca (goodIn_r _ [7, 8, 9, 10, 11, 6, 12, 13, 14, 15, 16, 17, 18, 19, 20, 21, 22, 23, 24, 25, 26, 27, 28, 29, 30, 31, 32, 33, 34, 35, 36, 37, 38, 39, 40, 41, 42, 43, 44] rfl (by decide +kernel)) (goodIn_sub (fun _ h => List.mem_cons_of_mem _ (List.mem_append_left _ (List.mem_append_right _ h))) (by decide +kernel))) (goodIn_sub (fun _ h => List.mem_cons_of_mem _ (List.mem_append_right _ h)) (by decide +kernel))
set_option maxRecDepth 20000 in
theorem gL_slotOf_X8_slotOf : GoodIn wsL_slotOf (wsV RL 99 RX8 yX8_slotOf wsX8_slotOf) := goodIn_app (goodIn_of _ (by decide +kernel)) ggL_slotOf_X8_slotOf
theorem dL_slotOf_12 : decode cL_slotOf 12 = .ok (.astore_n 3, 1) := by decide +kernel
theorem dL_slotOf_13 : decode cL_slotOf 13 = .ok (.iconst 1, 1) := by decide +kernel
theorem dL_slotOf_14 : decode cL_slotOf 14 = .ok (.ireturn, 1) := by decide +kernel
set_option maxHeartbeats 4000000 in
set_option maxRecDepth 100000 in
theorem l_slotOf (l : Launch) (hfl : l.stackTraces = false) (g : xG) (sz : Nat) (h0 : Nat) (f0 : Value) (f1 : Value) (f2 : Value) (f3 : Value) (f4 : Value) (f5 : Value) (f6 : Value) (f7 : Value) (f8 : Value) (f9 : Value) (f11 : Value) (f12 : Value) (f13 : Value) (f14 : Value) (p0 : Int32) (out : Nat) (of : Nat → Int64)  : vx_Met l yL_slotOf wsL_slotOf ({ frames := 9, cells := 1, slots := 6, locals := 206 }) (va_Pc [.ref h0, .int p0, .ref out] (fun U => xB g [(h0, .inr (8, [f0, f1, f2, f3, f4, f5, f6, f7, f8, f9, .int 0, f11, f12, f13, f14])), (out, .inl (xJ g, 1, .inr (.inl of)))] sz U ∧ xU (va_A [(h0, .inr (8, [f0, f1, f2, f3, f4, f5, f6, f7, f8, f9, .int 0, f11, f12, f13, f14])), (out, .inl (xJ g, 1, .inr (.inl of)))] sz) U)) (va_Qi (fun (r : Int32) (u : Int64) => r = 1) (fun (u : Int64) (t : State) => ∃ (of1 : Nat → Int64), of1 0 = u ∧ xE g [(out, .inl (xJ g, 1, .inr (.inl of1)))] (va_A [(h0, .inr (8, [f0, f1, f2, f3, f4, f5, f6, f7, f8, f9, .int 0, f11, f12, f13, f14])), (out, .inl (xJ g, 1, .inr (.inl of)))] sz) t) (va_A [(h0, .inr (8, [f0, f1, f2, f3, f4, f5, f6, f7, f8, f9, .int 0, f11, f12, f13, f14])), (out, .inl (xJ g, 1, .inr (.inl of)))] sz)) (vx_X (fun _ : Unit => True) (fun E _ _ => False) (va_A [(h0, .inr (8, [f0, f1, f2, f3, f4, f5, f6, f7, f8, f9, .int 0, f11, f12, f13, f14])), (out, .inl (xJ g, 1, .inr (.inl of)))] sz)) 1 6 (va_A [(h0, .inr (8, [f0, f1, f2, f3, f4, f5, f6, f7, f8, f9, .int 0, f11, f12, f13, f14])), (out, .inl (xJ g, 1, .inr (.inl of)))] sz) := by
  refine vx_ofWH (hh := [(0, 9, 12, 22), (0, 9, 15, 28)]) (cc := cL_slotOf) (maxL := 4) (ret := (some .int)) (by decide) rfl ?_
  intro p e s m args below meth c s₁ B hml hv
  obtain ⟨rfl, ⟨hsz, hP, hK, hD0⟩, hU⟩ := hv
  have hx := B.exec
  have hb := B.bytes
  have hr := B.returns
  have hts := atoms_spec (ws := wsL_slotOf) B.pre
  have hown : s.vm.findClass RL = some m.cls := findClass_of_methodNamed B.named
  have hlocks := B.notSynchronized
  have htbl := vx_table (x := yL_slotOf) B (hts (.codeWith yL_slotOf cL_slotOf 4 (some .int) [(0, 9, 12, 22), (0, 9, 15, 28)]) List.mem_cons_self)
  subst hsz
  have hD := hD0.self (sz := s.heap.size)
  generalize hAe : va_A [(h0, .inr (8, [f0, f1, f2, f3, f4, f5, f6, f7, f8, f9, .int 0, f11, f12, f13, f14])), (out, .inl (xJ g, 1, .inr (.inl of)))] s.heap.size = A at hD hU ⊢
  have hA : ∀ q : Nat, s.heap.size ≤ q → A q := fun q h => by rw [← hAe]; exact Or.inr h
  have hS : va_S A s.heap s.heap [] := va_S.rf
  have hl := lv_entry ([.ref h0, .int p0, .ref out]) (n := 4) (Nat.le_of_ble_eq_true rfl)
  rw [lg_entry_eq]
  generalize (lg_sl ([.ref h0, .int p0, .ref out]) ++ List.replicate (4 - (lg_sl ([.ref h0, .int p0, .ref out])).length) Slot.unset).toArray = ls at hl ⊢
  have hl : lv_has ls 4 [(0, .ref h0), (1, .int p0), (2, .ref out)] := hl
  refine lv_aload_n hx hb dL_slotOf_0 rfl (lv_at hl 2 rfl) ?_
  refine lv_iconst (v := 0) hx hb dL_slotOf_1 (by decide) ?_
  refine lv_aload_n hx hb dL_slotOf_2 rfl (lv_at hl 0 rfl) ?_
  refine lv_iload_n hx hb dL_slotOf_3 rfl (lv_at hl 1 rfl) ?_
  have hPc := hP.sub (ws' := [(h0, .inr (8, [f0, f1, f2, f3, f4, f5, f6, f7, f8, f9, .int 0, f11, f12, f13, f14]))]) [0] rfl
  have hDc := hD.sub (ws' := [(h0, .inr (8, [f0, f1, f2, f3, f4, f5, f6, f7, f8, f9, .int 0, f11, f12, f13, f14]))]) [0] (by decide) rfl
  have hFc := xFree hS hA
  refine vx_calli (vx_runV (As := [.int p0]) (rest := [.int 0, .ref out]) ⟨hx, hb, hml, hown, hts⟩ (x0_slotOf l hfl g s.heap.size h0 f0 f1 f2 f3 f4 f5 f6 f7 f8 f9 f11 f12 f13 f14 p0) (cwV 1 hts gL_slotOf_X8_slotOf rfl rfl rfl (by decide +kernel) ⟨Nat.le_of_ble_eq_true rfl, Nat.le_of_ble_eq_true rfl⟩) ⟨xBU.blind, va_recv hK hPc (ci := 8) (q0 := 0) rfl rfl, fun U9 hU9 hW9 => ⟨rfl, xB.mk hPc hK hDc hU9 hW9, hU.call hS hFc hU9 hW9⟩⟩ rfl rfl hl.1 rfl (lv_room (Nat.le_of_ble_eq_true rfl)) dL_slotOf_4 ⟨Nat.le_of_ble_eq_true rfl, Nat.le_of_ble_eq_true rfl⟩) hS (fun q _ h => hFc q h) hFc (fun q _ h => hFc q h) (fun E ce q9 ux t H1 locs1 ht hvm hpx hB hz1 hk1 hS hce hcv hcl => ?_) (fun r_1 u_2 t H1 locs ht hvm hw_3 hB hz1 hk1 hS => ?_)
  · obtain ⟨rfl, hB⟩ := hB
    have hP := xSame hP hk1
    refine vx_catch (name := "java/lang/IllegalStateException") hown [] ({ startPc := 0, endPc := 9, handlerPc := 12, catchType := 22 } : ExceptionTableEntry) [({ startPc := 0, endPc := 9, handlerPc := 15, catchType := 28 } : ExceptionTableEntry)] htbl (fun z hz => absurd hz List.not_mem_nil) rfl (by decide) (hts (.classLink RL 22 "java/lang/IllegalStateException") (by decide +kernel)) (va_Nw.use rfl (hU.2.2.2.2.1 "java/lang/IllegalStateException" (by decide))) hce hcv hcl ?_
    generalize H1 = H at hP hS ⊢
    generalize locs1 = locs at hS ⊢
    have hP : va_P (xD g) vwCl [(h0, .inr (8, [f0, f1, f2, f3, f4, f5, f6, f7, f8, f9, .int 0, f11, f12, f13, f14])), (out, .inl (xJ g, 1, .inr (.inl of)))] H := hP
    have hD : va_D A [(h0, .inr (8, [f0, f1, f2, f3, f4, f5, f6, f7, f8, f9, .int 0, f11, f12, f13, f14])), (out, .inl (xJ g, 1, .inr (.inl of)))] := hD
    refine W.widen (k := 1) (n := 6) (by omega) (by omega) ?_
    refine lv_astore_n (lv' := [(3, .ref q9), (0, .ref h0), (1, .int p0), (2, .ref out)]) hx hb dL_slotOf_12 rfl hl (by decide) rfl (fun ls hl => ?_)
    refine lv_iconst (v := 1) hx hb dL_slotOf_13 (by decide) ?_
    refine vx_ret ?_
    have hP9 := hP.sub (ws' := [(out, .inl (xJ g, 1, .inr (.inl of)))]) [1] rfl
    have hD9 := hD.sub (ws' := [(out, .inl (xJ g, 1, .inr (.inl of)))]) [1] (by decide) rfl
    exact W.iret (v := 1) hx hb hr (fun t ht hW => ⟨⟨1, (of 0), rfl, rfl, ⟨of, (by rfl), by rw [ht]; exact hP9, va_K.moved hW.alike hK, hD9⟩⟩, hS.F ht⟩) hS.2.2 dL_slotOf_14
  · exact False.elim hw_3
theorem dL_inSlot_0 : decode cL_inSlot 0 = .ok (.aload_n 2, 1) := by decide +kernel
theorem dL_inSlot_1 : decode cL_inSlot 1 = .ok (.iconst 0, 1) := by decide +kernel
theorem dL_inSlot_2 : decode cL_inSlot 2 = .ok (.aload_n 0, 1) := by decide +kernel
theorem dL_inSlot_3 : decode cL_inSlot 3 = .ok (.iload_n 1, 1) := by decide +kernel
theorem dL_inSlot_4 : decode cL_inSlot 4 = .ok (.invokevirtual 102, 3) := by decide +kernel
set_option maxRecDepth 20000 in
theorem ggL_inSlot_X8_inSlot : GoodIn wsL_inSlot wsX8_inSlot := goodIn_ca (goodIn_ca (goodIn_r _ [7, 8, 9, 10, 11, 12, 13, 6, 14, 15, 16, 17, 18, 19, 20, 21, 22, 23, 24, 25, 26, 27, 28, 29, 30, 31, 32, 33, 34, 35, 36, 37, 38, 39, 40, 41, 42, 43] rfl (by decide +kernel)) (goodIn_sub (fun _ h => List.mem_cons_of_mem _ (List.mem_append_left _ (List.mem_append_right _ h))) (by decide +kernel))) (goodIn_sub (fun _ h => List.mem_cons_of_mem _ (List.mem_append_right _ h)) (by decide +kernel))
set_option maxRecDepth 20000 in
theorem gL_inSlot_X8_inSlot : GoodIn wsL_inSlot (wsV RL 102 RX8 yX8_inSlot wsX8_inSlot) := goodIn_app (goodIn_of _ (by decide +kernel)) ggL_inSlot_X8_inSlot
theorem dL_inSlot_12 : decode cL_inSlot 12 = .ok (.astore_n 3, 1) := by decide +kernel
theorem dL_inSlot_13 : decode cL_inSlot 13 = .ok (.iconst 1, 1) := by decide +kernel
theorem dL_inSlot_14 : decode cL_inSlot 14 = .ok (.ireturn, 1) := by decide +kernel
set_option maxHeartbeats 4000000 in
set_option maxRecDepth 100000 in
theorem l_inSlot (l : Launch) (hfl : l.stackTraces = false) (g : xG) (sz : Nat) (h0 : Nat) (f0 : Value) (f1 : Value) (f2 : Value) (f3 : Value) (f4 : Value) (f5 : Value) (f6 : Value) (f7 : Value) (f8 : Value) (f9 : Value) (f11 : Value) (f12 : Value) (f13 : Value) (f14 : Value) (p0 : Int32) (out : Nat) (of : Nat → Int64)  : vx_Met l yL_inSlot wsL_inSlot ({ frames := 9, cells := 1, slots := 6, locals := 208 }) (va_Pc [.ref h0, .int p0, .ref out] (fun U => xB g [(h0, .inr (8, [f0, f1, f2, f3, f4, f5, f6, f7, f8, f9, .int 0, f11, f12, f13, f14])), (out, .inl (xJ g, 1, .inr (.inl of)))] sz U ∧ xU (va_A [(h0, .inr (8, [f0, f1, f2, f3, f4, f5, f6, f7, f8, f9, .int 0, f11, f12, f13, f14])), (out, .inl (xJ g, 1, .inr (.inl of)))] sz) U)) (va_Qi (fun (r : Int32) (u : Int64) => r = 1) (fun (u : Int64) (t : State) => ∃ (of1 : Nat → Int64), of1 0 = u ∧ xE g [(out, .inl (xJ g, 1, .inr (.inl of1)))] (va_A [(h0, .inr (8, [f0, f1, f2, f3, f4, f5, f6, f7, f8, f9, .int 0, f11, f12, f13, f14])), (out, .inl (xJ g, 1, .inr (.inl of)))] sz) t) (va_A [(h0, .inr (8, [f0, f1, f2, f3, f4, f5, f6, f7, f8, f9, .int 0, f11, f12, f13, f14])), (out, .inl (xJ g, 1, .inr (.inl of)))] sz)) (vx_X (fun _ : Unit => True) (fun E _ _ => False) (va_A [(h0, .inr (8, [f0, f1, f2, f3, f4, f5, f6, f7, f8, f9, .int 0, f11, f12, f13, f14])), (out, .inl (xJ g, 1, .inr (.inl of)))] sz)) 1 6 (va_A [(h0, .inr (8, [f0, f1, f2, f3, f4, f5, f6, f7, f8, f9, .int 0, f11, f12, f13, f14])), (out, .inl (xJ g, 1, .inr (.inl of)))] sz) := by
  refine vx_ofWH (hh := [(0, 9, 12, 22), (0, 9, 15, 28)]) (cc := cL_inSlot) (maxL := 4) (ret := (some .int)) (by decide) rfl ?_
  intro p e s m args below meth c s₁ B hml hv
  obtain ⟨rfl, ⟨hsz, hP, hK, hD0⟩, hU⟩ := hv
  have hx := B.exec
  have hb := B.bytes
  have hr := B.returns
  have hts := atoms_spec (ws := wsL_inSlot) B.pre
  have hown : s.vm.findClass RL = some m.cls := findClass_of_methodNamed B.named
  have hlocks := B.notSynchronized
  have htbl := vx_table (x := yL_inSlot) B (hts (.codeWith yL_inSlot cL_inSlot 4 (some .int) [(0, 9, 12, 22), (0, 9, 15, 28)]) List.mem_cons_self)
  subst hsz
  have hD := hD0.self (sz := s.heap.size)
  generalize hAe : va_A [(h0, .inr (8, [f0, f1, f2, f3, f4, f5, f6, f7, f8, f9, .int 0, f11, f12, f13, f14])), (out, .inl (xJ g, 1, .inr (.inl of)))] s.heap.size = A at hD hU ⊢
  have hA : ∀ q : Nat, s.heap.size ≤ q → A q := fun q h => by rw [← hAe]; exact Or.inr h
  have hS : va_S A s.heap s.heap [] := va_S.rf
  have hl := lv_entry ([.ref h0, .int p0, .ref out]) (n := 4) (Nat.le_of_ble_eq_true rfl)
  rw [lg_entry_eq]
  generalize (lg_sl ([.ref h0, .int p0, .ref out]) ++ List.replicate (4 - (lg_sl ([.ref h0, .int p0, .ref out])).length) Slot.unset).toArray = ls at hl ⊢
  have hl : lv_has ls 4 [(0, .ref h0), (1, .int p0), (2, .ref out)] := hl
  refine lv_aload_n hx hb dL_inSlot_0 rfl (lv_at hl 2 rfl) ?_
  refine lv_iconst (v := 0) hx hb dL_inSlot_1 (by decide) ?_
  refine lv_aload_n hx hb dL_inSlot_2 rfl (lv_at hl 0 rfl) ?_
  refine lv_iload_n hx hb dL_inSlot_3 rfl (lv_at hl 1 rfl) ?_
  have hPc := hP.sub (ws' := [(h0, .inr (8, [f0, f1, f2, f3, f4, f5, f6, f7, f8, f9, .int 0, f11, f12, f13, f14]))]) [0] rfl
  have hDc := hD.sub (ws' := [(h0, .inr (8, [f0, f1, f2, f3, f4, f5, f6, f7, f8, f9, .int 0, f11, f12, f13, f14]))]) [0] (by decide) rfl
  have hFc := xFree hS hA
  refine vx_calli (vx_runV (As := [.int p0]) (rest := [.int 0, .ref out]) ⟨hx, hb, hml, hown, hts⟩ (x0_inSlot l hfl g s.heap.size h0 f0 f1 f2 f3 f4 f5 f6 f7 f8 f9 f11 f12 f13 f14 p0) (cwV 1 hts gL_inSlot_X8_inSlot rfl rfl rfl (by decide +kernel) ⟨Nat.le_of_ble_eq_true rfl, Nat.le_of_ble_eq_true rfl⟩) ⟨xBU.blind, va_recv hK hPc (ci := 8) (q0 := 0) rfl rfl, fun U9 hU9 hW9 => ⟨rfl, xB.mk hPc hK hDc hU9 hW9, hU.call hS hFc hU9 hW9⟩⟩ rfl rfl hl.1 rfl (lv_room (Nat.le_of_ble_eq_true rfl)) dL_inSlot_4 ⟨Nat.le_of_ble_eq_true rfl, Nat.le_of_ble_eq_true rfl⟩) hS (fun q _ h => hFc q h) hFc (fun q _ h => hFc q h) (fun E ce q9 ux t H1 locs1 ht hvm hpx hB hz1 hk1 hS hce hcv hcl => ?_) (fun r_1 u_2 t H1 locs ht hvm hw_3 hB hz1 hk1 hS => ?_)
  · obtain ⟨rfl, hB⟩ := hB
    have hP := xSame hP hk1
    refine vx_catch (name := "java/lang/IllegalStateException") hown [] ({ startPc := 0, endPc := 9, handlerPc := 12, catchType := 22 } : ExceptionTableEntry) [({ startPc := 0, endPc := 9, handlerPc := 15, catchType := 28 } : ExceptionTableEntry)] htbl (fun z hz => absurd hz List.not_mem_nil) rfl (by decide) (hts (.classLink RL 22 "java/lang/IllegalStateException") (by decide +kernel)) (va_Nw.use rfl (hU.2.2.2.2.1 "java/lang/IllegalStateException" (by decide))) hce hcv hcl ?_
    generalize H1 = H at hP hS ⊢
    generalize locs1 = locs at hS ⊢
    have hP : va_P (xD g) vwCl [(h0, .inr (8, [f0, f1, f2, f3, f4, f5, f6, f7, f8, f9, .int 0, f11, f12, f13, f14])), (out, .inl (xJ g, 1, .inr (.inl of)))] H := hP
    have hD : va_D A [(h0, .inr (8, [f0, f1, f2, f3, f4, f5, f6, f7, f8, f9, .int 0, f11, f12, f13, f14])), (out, .inl (xJ g, 1, .inr (.inl of)))] := hD
    refine W.widen (k := 1) (n := 6) (by omega) (by omega) ?_
    refine lv_astore_n (lv' := [(3, .ref q9), (0, .ref h0), (1, .int p0), (2, .ref out)]) hx hb dL_inSlot_12 rfl hl (by decide) rfl (fun ls hl => ?_)
    refine lv_iconst (v := 1) hx hb dL_inSlot_13 (by decide) ?_
    refine vx_ret ?_
    have hP9 := hP.sub (ws' := [(out, .inl (xJ g, 1, .inr (.inl of)))]) [1] rfl
    have hD9 := hD.sub (ws' := [(out, .inl (xJ g, 1, .inr (.inl of)))]) [1] (by decide) rfl
    exact W.iret (v := 1) hx hb hr (fun t ht hW => ⟨⟨1, (of 0), rfl, rfl, ⟨of, (by rfl), by rw [ht]; exact hP9, va_K.moved hW.alike hK, hD9⟩⟩, hS.F ht⟩) hS.2.2 dL_inSlot_14
  · exact False.elim hw_3
theorem dL_work__0 : decode cL_work_ 0 = .ok (.aload_n 2, 1) := by decide +kernel
theorem dL_work__1 : decode cL_work_ 1 = .ok (.iconst 0, 1) := by decide +kernel
theorem dL_work__2 : decode cL_work_ 2 = .ok (.aload_n 0, 1) := by decide +kernel
theorem dL_work__3 : decode cL_work_ 3 = .ok (.iload_n 1, 1) := by decide +kernel
theorem dL_work__4 : decode cL_work_ 4 = .ok (.invokevirtual 117, 3) := by decide +kernel
set_option maxRecDepth 20000 in
theorem ggL_work__X8_work_ : GoodIn wsL_work_ wsX8_work_ := goodIn_ca (goodIn_ca (goodIn_r _ [7, 8, 9, 10, 11, 12, 6, 13, 14, 15, 16, 17, 18, 19, 20, 21, 22, 23, 24, 25, 26, 27, 28, 29, 30, 31, 32, 33, 34, 35, 36, 37, 38, 39, 40, 41, 42, 43, 44, 45, 46, 47, 48, 49, 50, 51, 52, 53, 54, 55, 56, 57, 58, 59, 60, 61, 62, 63, 64, 65, 66, 67, 68, 69, 70, 71, 72, 73, 74, 75, 76, 77, 78, 79, 80, 81, 82, 83, 84, 85, 86, 87, 88, 89, 90, 91, 92, 93, 94, 95, 96, 97, 98, 99, 100, 101, 102, 103, 104, 105, 106, 107, 108, 109, 110, 111, 112, 113, 114, 115, 116, 117, 118, 119, 120, 121, 122, 123, 124, 125, 126, 127, 128] rfl (by decide +kernel)) (goodIn_sub (fun _ h => List.mem_cons_of_mem _ (List.mem_append_left _ (List.mem_append_right _ h))) (by decide +kernel))) (goodIn_sub (fun _ h => List.mem_cons_of_mem _ (List.mem_append_right _ h)) (by decide +kernel))
set_option maxRecDepth 20000 in
theorem gL_work__X8_work_ : GoodIn wsL_work_ (wsV RL 117 RX8 yX8_work_ wsX8_work_) := goodIn_app (goodIn_of _ (by decide +kernel)) ggL_work__X8_work_
theorem dL_work__12 : decode cL_work_ 12 = .ok (.astore_n 3, 1) := by decide +kernel
theorem dL_work__13 : decode cL_work_ 13 = .ok (.iconst 1, 1) := by decide +kernel
theorem dL_work__14 : decode cL_work_ 14 = .ok (.ireturn, 1) := by decide +kernel
theorem dL_work__15 : decode cL_work_ 15 = .ok (.astore_n 3, 1) := by decide +kernel
theorem dL_work__16 : decode cL_work_ 16 = .ok (.iconst 2, 1) := by decide +kernel
theorem dL_work__17 : decode cL_work_ 17 = .ok (.ireturn, 1) := by decide +kernel
set_option maxHeartbeats 4000000 in
set_option maxRecDepth 100000 in
theorem l_work_ (l : Launch) (hfl : l.stackTraces = false) (g : xG) (sz : Nat) (h0 : Nat) (f0 : Value) (f1 : Value) (f2 : Value) (f3 : Value) (f4 : Value) (f5 : Value) (f6 : Value) (f7 : Value) (f8 : Value) (f9 : Value) (f11 : Value) (f12 : Value) (f13 : Value) (f14 : Value) (p0 : Int32) (out : Nat) (of : Nat → Int64)  : vx_Met l yL_work_ wsL_work_ ({ frames := 9, cells := 2, slots := 12, locals := 206 }) (va_Pc [.ref h0, .int p0, .ref out] (fun U => xB g [(h0, .inr (8, [f0, f1, f2, f3, f4, f5, f6, f7, f8, f9, .int 0, f11, f12, f13, f14])), (out, .inl (xJ g, 1, .inr (.inl of)))] sz U ∧ xU (va_A [(h0, .inr (8, [f0, f1, f2, f3, f4, f5, f6, f7, f8, f9, .int 0, f11, f12, f13, f14])), (out, .inl (xJ g, 1, .inr (.inl of)))] sz) U)) (va_Qi (fun (r : Int32) (u : Int64) => (r = 1 ∧ p0 < 0) ∨ (r = 2 ∧ ¬ p0 < 0)) (fun (u : Int64) (t : State) => ∃ (of1 : Nat → Int64), of1 0 = u ∧ xE g [(out, .inl (xJ g, 1, .inr (.inl of1)))] (va_A [(h0, .inr (8, [f0, f1, f2, f3, f4, f5, f6, f7, f8, f9, .int 0, f11, f12, f13, f14])), (out, .inl (xJ g, 1, .inr (.inl of)))] sz) t) (va_A [(h0, .inr (8, [f0, f1, f2, f3, f4, f5, f6, f7, f8, f9, .int 0, f11, f12, f13, f14])), (out, .inl (xJ g, 1, .inr (.inl of)))] sz)) (vx_X (fun _ : Unit => True) (fun E _ _ => False) (va_A [(h0, .inr (8, [f0, f1, f2, f3, f4, f5, f6, f7, f8, f9, .int 0, f11, f12, f13, f14])), (out, .inl (xJ g, 1, .inr (.inl of)))] sz)) 2 12 (va_A [(h0, .inr (8, [f0, f1, f2, f3, f4, f5, f6, f7, f8, f9, .int 0, f11, f12, f13, f14])), (out, .inl (xJ g, 1, .inr (.inl of)))] sz) := by
  refine vx_ofWH (hh := [(0, 9, 12, 13), (0, 9, 15, 22)]) (cc := cL_work_) (maxL := 4) (ret := (some .int)) (by decide) rfl ?_
  intro p e s m args below meth c s₁ B hml hv
  obtain ⟨rfl, ⟨hsz, hP, hK, hD0⟩, hU⟩ := hv
  have hx := B.exec
  have hb := B.bytes
  have hr := B.returns
  have hts := atoms_spec (ws := wsL_work_) B.pre
  have hown : s.vm.findClass RL = some m.cls := findClass_of_methodNamed B.named
  have hlocks := B.notSynchronized
  have htbl := vx_table (x := yL_work_) B (hts (.codeWith yL_work_ cL_work_ 4 (some .int) [(0, 9, 12, 13), (0, 9, 15, 22)]) List.mem_cons_self)
  subst hsz
  have hD := hD0.self (sz := s.heap.size)
  generalize hAe : va_A [(h0, .inr (8, [f0, f1, f2, f3, f4, f5, f6, f7, f8, f9, .int 0, f11, f12, f13, f14])), (out, .inl (xJ g, 1, .inr (.inl of)))] s.heap.size = A at hD hU ⊢
  have hA : ∀ q : Nat, s.heap.size ≤ q → A q := fun q h => by rw [← hAe]; exact Or.inr h
  have hS : va_S A s.heap s.heap [] := va_S.rf
  have hl := lv_entry ([.ref h0, .int p0, .ref out]) (n := 4) (Nat.le_of_ble_eq_true rfl)
  rw [lg_entry_eq]
  generalize (lg_sl ([.ref h0, .int p0, .ref out]) ++ List.replicate (4 - (lg_sl ([.ref h0, .int p0, .ref out])).length) Slot.unset).toArray = ls at hl ⊢
  have hl : lv_has ls 4 [(0, .ref h0), (1, .int p0), (2, .ref out)] := hl
  refine lv_aload_n hx hb dL_work__0 rfl (lv_at hl 2 rfl) ?_
  refine lv_iconst (v := 0) hx hb dL_work__1 (by decide) ?_
  refine lv_aload_n hx hb dL_work__2 rfl (lv_at hl 0 rfl) ?_
  refine lv_iload_n hx hb dL_work__3 rfl (lv_at hl 1 rfl) ?_
  have hPc := hP.sub (ws' := [(h0, .inr (8, [f0, f1, f2, f3, f4, f5, f6, f7, f8, f9, .int 0, f11, f12, f13, f14]))]) [0] rfl
  have hDc := hD.sub (ws' := [(h0, .inr (8, [f0, f1, f2, f3, f4, f5, f6, f7, f8, f9, .int 0, f11, f12, f13, f14]))]) [0] (by decide) rfl
  have hFc := xFree hS hA
  refine vx_calli (vx_runV (As := [.int p0]) (rest := [.int 0, .ref out]) ⟨hx, hb, hml, hown, hts⟩ (x0_work_ l hfl g s.heap.size h0 f0 f1 f2 f3 f4 f5 f6 f7 f8 f9 f11 f12 f13 f14 p0) (cwV 1 hts gL_work__X8_work_ rfl rfl rfl (by decide +kernel) ⟨Nat.le_of_ble_eq_true rfl, Nat.le_of_ble_eq_true rfl⟩) ⟨xBU.blind, va_recv hK hPc (ci := 8) (q0 := 0) rfl rfl, fun U9 hU9 hW9 => ⟨rfl, xB.mk hPc hK hDc hU9 hW9, hU.call hS hFc hU9 hW9⟩⟩ rfl rfl hl.1 rfl (lv_room (Nat.le_of_ble_eq_true rfl)) dL_work__4 ⟨Nat.le_of_ble_eq_true rfl, Nat.le_of_ble_eq_true rfl⟩) hS (fun q _ h => hFc q h) hFc (fun q _ h => hFc q h) (fun E ce q9 ux t H1 locs1 ht hvm hpx hB hz1 hk1 hS hce hcv hcl => ?_) (fun r_1 u_2 t H1 locs ht hvm hw_3 hB hz1 hk1 hS => ?_)
  · rcases hB with ⟨rfl, hB⟩ | ⟨rfl, hB⟩
    · have hP := xSame hP hk1
      refine vx_catch (name := "java/lang/IllegalArgumentException") hown [] ({ startPc := 0, endPc := 9, handlerPc := 12, catchType := 13 } : ExceptionTableEntry) [({ startPc := 0, endPc := 9, handlerPc := 15, catchType := 22 } : ExceptionTableEntry)] htbl (fun z hz => absurd hz List.not_mem_nil) rfl (by decide) (hts (.classLink RL 13 "java/lang/IllegalArgumentException") (by decide +kernel)) (va_Nw.use rfl (hU.2.2.2.2.1 "java/lang/IllegalArgumentException" (by decide))) hce hcv hcl ?_
      generalize H1 = H at hP hS ⊢
      generalize locs1 = locs at hS ⊢
      have hP : va_P (xD g) vwCl [(h0, .inr (8, [f0, f1, f2, f3, f4, f5, f6, f7, f8, f9, .int 0, f11, f12, f13, f14])), (out, .inl (xJ g, 1, .inr (.inl of)))] H := hP
      have hD : va_D A [(h0, .inr (8, [f0, f1, f2, f3, f4, f5, f6, f7, f8, f9, .int 0, f11, f12, f13, f14])), (out, .inl (xJ g, 1, .inr (.inl of)))] := hD
      refine W.widen (k := 2) (n := 12) (by omega) (by omega) ?_
      refine lv_astore_n (lv' := [(3, .ref q9), (0, .ref h0), (1, .int p0), (2, .ref out)]) hx hb dL_work__12 rfl hl (by decide) rfl (fun ls hl => ?_)
      refine lv_iconst (v := 1) hx hb dL_work__13 (by decide) ?_
      refine vx_ret ?_
      have hP9 := hP.sub (ws' := [(out, .inl (xJ g, 1, .inr (.inl of)))]) [1] rfl
      have hD9 := hD.sub (ws' := [(out, .inl (xJ g, 1, .inr (.inl of)))]) [1] (by decide) rfl
      exact W.iret (v := 1) hx hb hr (fun t ht hW => ⟨⟨1, (of 0), rfl, Or.inl (⟨rfl, (by first | trivial | assumption | (refine ⟨?_, ?_⟩ <;> assumption) | exact hB | (simp only [Int32.lt_iff_toInt_lt, Int32.le_iff_toInt_le, Int32.reduceToInt] at *; omega))⟩), ⟨of, (by rfl), by rw [ht]; exact hP9, va_K.moved hW.alike hK, hD9⟩⟩, hS.F ht⟩) hS.2.2 dL_work__14
    · have hP := xSame hP hk1
      refine vx_catch (name := "java/lang/IllegalStateException") hown [({ startPc := 0, endPc := 9, handlerPc := 12, catchType := 13 } : ExceptionTableEntry)] ({ startPc := 0, endPc := 9, handlerPc := 15, catchType := 22 } : ExceptionTableEntry) [] htbl (fun z hz => by obtain rfl := List.mem_singleton.mp hz; exact Or.inr ⟨by decide, "java/lang/IllegalArgumentException", (hts (.classLink RL 13 "java/lang/IllegalArgumentException") (by decide +kernel)), hU.2.2.2.2.2 ("java/lang/IllegalStateException", "java/lang/IllegalArgumentException") (by decide)⟩) rfl (by decide) (hts (.classLink RL 22 "java/lang/IllegalStateException") (by decide +kernel)) (va_Nw.use rfl (hU.2.2.2.2.1 "java/lang/IllegalStateException" (by decide))) hce hcv hcl ?_
      generalize H1 = H at hP hS ⊢
      generalize locs1 = locs at hS ⊢
      have hP : va_P (xD g) vwCl [(h0, .inr (8, [f0, f1, f2, f3, f4, f5, f6, f7, f8, f9, .int 0, f11, f12, f13, f14])), (out, .inl (xJ g, 1, .inr (.inl of)))] H := hP
      have hD : va_D A [(h0, .inr (8, [f0, f1, f2, f3, f4, f5, f6, f7, f8, f9, .int 0, f11, f12, f13, f14])), (out, .inl (xJ g, 1, .inr (.inl of)))] := hD
      refine W.widen (k := 2) (n := 12) (by omega) (by omega) ?_
      refine lv_astore_n (lv' := [(3, .ref q9), (0, .ref h0), (1, .int p0), (2, .ref out)]) hx hb dL_work__15 rfl hl (by decide) rfl (fun ls hl => ?_)
      refine lv_iconst (v := 2) hx hb dL_work__16 (by decide) ?_
      refine vx_ret ?_
      have hP9 := hP.sub (ws' := [(out, .inl (xJ g, 1, .inr (.inl of)))]) [1] rfl
      have hD9 := hD.sub (ws' := [(out, .inl (xJ g, 1, .inr (.inl of)))]) [1] (by decide) rfl
      exact W.iret (v := 2) hx hb hr (fun t ht hW => ⟨⟨2, (of 0), rfl, Or.inr (⟨rfl, (by first | trivial | assumption | (refine ⟨?_, ?_⟩ <;> assumption) | exact hB | (simp only [Int32.lt_iff_toInt_lt, Int32.le_iff_toInt_le, Int32.reduceToInt] at *; omega))⟩), ⟨of, (by rfl), by rw [ht]; exact hP9, va_K.moved hW.alike hK, hD9⟩⟩, hS.F ht⟩) hS.2.2 dL_work__17
  · exact False.elim hw_3
theorem dL_inTheEnd_0 : decode cL_inTheEnd 0 = .ok (.aload_n 2, 1) := by decide +kernel
theorem dL_inTheEnd_1 : decode cL_inTheEnd 1 = .ok (.iconst 0, 1) := by decide +kernel
theorem dL_inTheEnd_2 : decode cL_inTheEnd 2 = .ok (.aload_n 0, 1) := by decide +kernel
theorem dL_inTheEnd_3 : decode cL_inTheEnd 3 = .ok (.iload_n 1, 1) := by decide +kernel
theorem dL_inTheEnd_4 : decode cL_inTheEnd 4 = .ok (.invokevirtual 137, 3) := by decide +kernel
set_option maxRecDepth 20000 in
theorem ggL_inTheEnd_X8_inTheEnd : GoodIn wsL_inTheEnd wsX8_inTheEnd := goodIn_ca (goodIn_ca (goodIn_r _ [7, 8, 9, 10, 11, 12, 13, 14, 6, 15, 16, 17, 18, 19, 20, 21, 22, 23, 24, 25, 26, 27, 28, 29, 30, 31, 32, 33, 34, 35, 36, 37, 38, 39, 40, 41, 42, 43, 44, 45, 46, 47, 48, 49, 50, 51, 52, 53, 54, 55, 56, 57, 58, 59, 60, 61, 62, 63, 64, 65, 66, 67, 68, 69, 70, 71, 72, 73, 74, 75, 76, 77, 78, 79, 80, 81, 82, 83, 84, 85, 86, 87, 88, 89, 90, 91, 92, 93, 94, 95, 96, 97, 98, 99, 100, 101, 102, 103, 104, 105, 106, 107, 108, 109, 110, 111, 112, 113, 114, 115, 116, 117, 118, 119, 120, 121, 122, 123, 124, 125, 126, 127, 128, 129, 130, 131, 132, 133, 134, 135, 136, 137, 138, 139, 140, 141, 142] rfl (by decide +kernel)) (goodIn_sub (fun _ h => List.mem_cons_of_mem _ (List.mem_append_left _ (List.mem_append_right _ h))) (by decide +kernel))) (goodIn_sub (fun _ h => List.mem_cons_of_mem _ (List.mem_append_right _ h)) (by decide +kernel))
set_option maxRecDepth 20000 in
theorem gL_inTheEnd_X8_inTheEnd : GoodIn wsL_inTheEnd (wsV RL 137 RX8 yX8_inTheEnd wsX8_inTheEnd) := goodIn_app (goodIn_of _ (by decide +kernel)) ggL_inTheEnd_X8_inTheEnd
theorem dL_inTheEnd_12 : decode cL_inTheEnd 12 = .ok (.astore_n 3, 1) := by decide +kernel
theorem dL_inTheEnd_13 : decode cL_inTheEnd 13 = .ok (.iconst 1, 1) := by decide +kernel
theorem dL_inTheEnd_14 : decode cL_inTheEnd 14 = .ok (.ireturn, 1) := by decide +kernel
theorem dL_inTheEnd_15 : decode cL_inTheEnd 15 = .ok (.astore_n 3, 1) := by decide +kernel
theorem dL_inTheEnd_16 : decode cL_inTheEnd 16 = .ok (.iconst 2, 1) := by decide +kernel
theorem dL_inTheEnd_17 : decode cL_inTheEnd 17 = .ok (.ireturn, 1) := by decide +kernel
set_option maxHeartbeats 4000000 in
set_option maxRecDepth 100000 in
theorem l_inTheEnd (l : Launch) (hfl : l.stackTraces = false) (g : xG) (sz : Nat) (h0 : Nat) (f0 : Value) (f1 : Value) (f2 : Value) (f3 : Value) (f4 : Value) (f5 : Value) (f6 : Value) (f7 : Value) (f8 : Value) (f9 : Value) (f11 : Value) (f12 : Value) (f13 : Value) (f14 : Value) (p0 : Int32) (out : Nat) (of : Nat → Int64)  : vx_Met l yL_inTheEnd wsL_inTheEnd ({ frames := 9, cells := 2, slots := 12, locals := 206 }) (va_Pc [.ref h0, .int p0, .ref out] (fun U => xB g [(h0, .inr (8, [f0, f1, f2, f3, f4, f5, f6, f7, f8, f9, .int 0, f11, f12, f13, f14])), (out, .inl (xJ g, 1, .inr (.inl of)))] sz U ∧ xU (va_A [(h0, .inr (8, [f0, f1, f2, f3, f4, f5, f6, f7, f8, f9, .int 0, f11, f12, f13, f14])), (out, .inl (xJ g, 1, .inr (.inl of)))] sz) U)) (va_Qi (fun (r : Int32) (u : Int64) => (r = 1 ∧ (p0 < 0 ∨ 3 < p0)) ∨ (r = 2 ∧ (¬ p0 < 0 ∧ ¬ 3 < p0))) (fun (u : Int64) (t : State) => ∃ (of1 : Nat → Int64), of1 0 = u ∧ xE g [(out, .inl (xJ g, 1, .inr (.inl of1)))] (va_A [(h0, .inr (8, [f0, f1, f2, f3, f4, f5, f6, f7, f8, f9, .int 0, f11, f12, f13, f14])), (out, .inl (xJ g, 1, .inr (.inl of)))] sz) t) (va_A [(h0, .inr (8, [f0, f1, f2, f3, f4, f5, f6, f7, f8, f9, .int 0, f11, f12, f13, f14])), (out, .inl (xJ g, 1, .inr (.inl of)))] sz)) (vx_X (fun _ : Unit => True) (fun E _ _ => False) (va_A [(h0, .inr (8, [f0, f1, f2, f3, f4, f5, f6, f7, f8, f9, .int 0, f11, f12, f13, f14])), (out, .inl (xJ g, 1, .inr (.inl of)))] sz)) 2 12 (va_A [(h0, .inr (8, [f0, f1, f2, f3, f4, f5, f6, f7, f8, f9, .int 0, f11, f12, f13, f14])), (out, .inl (xJ g, 1, .inr (.inl of)))] sz) := by
  refine vx_ofWH (hh := [(0, 9, 12, 13), (0, 9, 15, 22)]) (cc := cL_inTheEnd) (maxL := 4) (ret := (some .int)) (by decide) rfl ?_
  intro p e s m args below meth c s₁ B hml hv
  obtain ⟨rfl, ⟨hsz, hP, hK, hD0⟩, hU⟩ := hv
  have hx := B.exec
  have hb := B.bytes
  have hr := B.returns
  have hts := atoms_spec (ws := wsL_inTheEnd) B.pre
  have hown : s.vm.findClass RL = some m.cls := findClass_of_methodNamed B.named
  have hlocks := B.notSynchronized
  have htbl := vx_table (x := yL_inTheEnd) B (hts (.codeWith yL_inTheEnd cL_inTheEnd 4 (some .int) [(0, 9, 12, 13), (0, 9, 15, 22)]) List.mem_cons_self)
  subst hsz
  have hD := hD0.self (sz := s.heap.size)
  generalize hAe : va_A [(h0, .inr (8, [f0, f1, f2, f3, f4, f5, f6, f7, f8, f9, .int 0, f11, f12, f13, f14])), (out, .inl (xJ g, 1, .inr (.inl of)))] s.heap.size = A at hD hU ⊢
  have hA : ∀ q : Nat, s.heap.size ≤ q → A q := fun q h => by rw [← hAe]; exact Or.inr h
  have hS : va_S A s.heap s.heap [] := va_S.rf
  have hl := lv_entry ([.ref h0, .int p0, .ref out]) (n := 4) (Nat.le_of_ble_eq_true rfl)
  rw [lg_entry_eq]
  generalize (lg_sl ([.ref h0, .int p0, .ref out]) ++ List.replicate (4 - (lg_sl ([.ref h0, .int p0, .ref out])).length) Slot.unset).toArray = ls at hl ⊢
  have hl : lv_has ls 4 [(0, .ref h0), (1, .int p0), (2, .ref out)] := hl
  refine lv_aload_n hx hb dL_inTheEnd_0 rfl (lv_at hl 2 rfl) ?_
  refine lv_iconst (v := 0) hx hb dL_inTheEnd_1 (by decide) ?_
  refine lv_aload_n hx hb dL_inTheEnd_2 rfl (lv_at hl 0 rfl) ?_
  refine lv_iload_n hx hb dL_inTheEnd_3 rfl (lv_at hl 1 rfl) ?_
  have hPc := hP.sub (ws' := [(h0, .inr (8, [f0, f1, f2, f3, f4, f5, f6, f7, f8, f9, .int 0, f11, f12, f13, f14]))]) [0] rfl
  have hDc := hD.sub (ws' := [(h0, .inr (8, [f0, f1, f2, f3, f4, f5, f6, f7, f8, f9, .int 0, f11, f12, f13, f14]))]) [0] (by decide) rfl
  have hFc := xFree hS hA
  refine vx_calli (vx_runV (As := [.int p0]) (rest := [.int 0, .ref out]) ⟨hx, hb, hml, hown, hts⟩ (x0_inTheEnd l hfl g s.heap.size h0 f0 f1 f2 f3 f4 f5 f6 f7 f8 f9 f11 f12 f13 f14 p0) (cwV 1 hts gL_inTheEnd_X8_inTheEnd rfl rfl rfl (by decide +kernel) ⟨Nat.le_of_ble_eq_true rfl, Nat.le_of_ble_eq_true rfl⟩) ⟨xBU.blind, va_recv hK hPc (ci := 8) (q0 := 0) rfl rfl, fun U9 hU9 hW9 => ⟨rfl, xB.mk hPc hK hDc hU9 hW9, hU.call hS hFc hU9 hW9⟩⟩ rfl rfl hl.1 rfl (lv_room (Nat.le_of_ble_eq_true rfl)) dL_inTheEnd_4 ⟨Nat.le_of_ble_eq_true rfl, Nat.le_of_ble_eq_true rfl⟩) hS (fun q _ h => hFc q h) hFc (fun q _ h => hFc q h) (fun E ce q9 ux t H1 locs1 ht hvm hpx hB hz1 hk1 hS hce hcv hcl => ?_) (fun r_1 u_2 t H1 locs ht hvm hw_3 hB hz1 hk1 hS => ?_)
  · rcases hB with ⟨rfl, hB⟩ | ⟨rfl, hB⟩
    · have hP := xSame hP hk1
      refine vx_catch (name := "java/lang/IllegalArgumentException") hown [] ({ startPc := 0, endPc := 9, handlerPc := 12, catchType := 13 } : ExceptionTableEntry) [({ startPc := 0, endPc := 9, handlerPc := 15, catchType := 22 } : ExceptionTableEntry)] htbl (fun z hz => absurd hz List.not_mem_nil) rfl (by decide) (hts (.classLink RL 13 "java/lang/IllegalArgumentException") (by decide +kernel)) (va_Nw.use rfl (hU.2.2.2.2.1 "java/lang/IllegalArgumentException" (by decide))) hce hcv hcl ?_
      generalize H1 = H at hP hS ⊢
      generalize locs1 = locs at hS ⊢
      have hP : va_P (xD g) vwCl [(h0, .inr (8, [f0, f1, f2, f3, f4, f5, f6, f7, f8, f9, .int 0, f11, f12, f13, f14])), (out, .inl (xJ g, 1, .inr (.inl of)))] H := hP
      have hD : va_D A [(h0, .inr (8, [f0, f1, f2, f3, f4, f5, f6, f7, f8, f9, .int 0, f11, f12, f13, f14])), (out, .inl (xJ g, 1, .inr (.inl of)))] := hD
      refine W.widen (k := 2) (n := 12) (by omega) (by omega) ?_
      refine lv_astore_n (lv' := [(3, .ref q9), (0, .ref h0), (1, .int p0), (2, .ref out)]) hx hb dL_inTheEnd_12 rfl hl (by decide) rfl (fun ls hl => ?_)
      refine lv_iconst (v := 1) hx hb dL_inTheEnd_13 (by decide) ?_
      refine vx_ret ?_
      have hP9 := hP.sub (ws' := [(out, .inl (xJ g, 1, .inr (.inl of)))]) [1] rfl
      have hD9 := hD.sub (ws' := [(out, .inl (xJ g, 1, .inr (.inl of)))]) [1] (by decide) rfl
      exact W.iret (v := 1) hx hb hr (fun t ht hW => ⟨⟨1, (of 0), rfl, Or.inl (⟨rfl, (by first | trivial | assumption | (refine ⟨?_, ?_⟩ <;> assumption) | exact hB | (simp only [Int32.lt_iff_toInt_lt, Int32.le_iff_toInt_le, Int32.reduceToInt] at *; omega))⟩), ⟨of, (by rfl), by rw [ht]; exact hP9, va_K.moved hW.alike hK, hD9⟩⟩, hS.F ht⟩) hS.2.2 dL_inTheEnd_14
    · have hP := xSame hP hk1
      refine vx_catch (name := "java/lang/IllegalStateException") hown [({ startPc := 0, endPc := 9, handlerPc := 12, catchType := 13 } : ExceptionTableEntry)] ({ startPc := 0, endPc := 9, handlerPc := 15, catchType := 22 } : ExceptionTableEntry) [] htbl (fun z hz => by obtain rfl := List.mem_singleton.mp hz; exact Or.inr ⟨by decide, "java/lang/IllegalArgumentException", (hts (.classLink RL 13 "java/lang/IllegalArgumentException") (by decide +kernel)), hU.2.2.2.2.2 ("java/lang/IllegalStateException", "java/lang/IllegalArgumentException") (by decide)⟩) rfl (by decide) (hts (.classLink RL 22 "java/lang/IllegalStateException") (by decide +kernel)) (va_Nw.use rfl (hU.2.2.2.2.1 "java/lang/IllegalStateException" (by decide))) hce hcv hcl ?_
      generalize H1 = H at hP hS ⊢
      generalize locs1 = locs at hS ⊢
      have hP : va_P (xD g) vwCl [(h0, .inr (8, [f0, f1, f2, f3, f4, f5, f6, f7, f8, f9, .int 0, f11, f12, f13, f14])), (out, .inl (xJ g, 1, .inr (.inl of)))] H := hP
      have hD : va_D A [(h0, .inr (8, [f0, f1, f2, f3, f4, f5, f6, f7, f8, f9, .int 0, f11, f12, f13, f14])), (out, .inl (xJ g, 1, .inr (.inl of)))] := hD
      refine W.widen (k := 2) (n := 12) (by omega) (by omega) ?_
      refine lv_astore_n (lv' := [(3, .ref q9), (0, .ref h0), (1, .int p0), (2, .ref out)]) hx hb dL_inTheEnd_15 rfl hl (by decide) rfl (fun ls hl => ?_)
      refine lv_iconst (v := 2) hx hb dL_inTheEnd_16 (by decide) ?_
      refine vx_ret ?_
      have hP9 := hP.sub (ws' := [(out, .inl (xJ g, 1, .inr (.inl of)))]) [1] rfl
      have hD9 := hD.sub (ws' := [(out, .inl (xJ g, 1, .inr (.inl of)))]) [1] (by decide) rfl
      exact W.iret (v := 2) hx hb hr (fun t ht hW => ⟨⟨2, (of 0), rfl, Or.inr (⟨rfl, (by first | trivial | assumption | (refine ⟨?_, ?_⟩ <;> assumption) | exact hB | (simp only [Int32.lt_iff_toInt_lt, Int32.le_iff_toInt_le, Int32.reduceToInt] at *; omega))⟩), ⟨of, (by rfl), by rw [ht]; exact hP9, va_K.moved hW.alike hK, hD9⟩⟩, hS.F ht⟩) hS.2.2 dL_inTheEnd_17
  · exact False.elim hw_3
theorem dL_setQuay_0 : decode cL_setQuay 0 = .ok (.aload_n 2, 1) := by decide +kernel
theorem dL_setQuay_1 : decode cL_setQuay 1 = .ok (.iconst 0, 1) := by decide +kernel
theorem dL_setQuay_2 : decode cL_setQuay 2 = .ok (.aload_n 0, 1) := by decide +kernel
theorem dL_setQuay_3 : decode cL_setQuay 3 = .ok (.iload_n 1, 1) := by decide +kernel
theorem dL_setQuay_4 : decode cL_setQuay 4 = .ok (.invokevirtual 7, 3) := by decide +kernel
set_option maxRecDepth 20000 in
theorem ggL_setQuay_X8_setQuay : GoodIn wsL_setQuay wsX8_setQuay := goodIn_ca (goodIn_r _ [6, 7, 8, 9, 5, 10, 11, 12, 13, 14, 15, 16, 17, 18, 19, 20, 21, 22, 23, 24, 25, 26, 27, 28, 29, 30, 31, 32, 33, 34, 35, 36, 37, 38, 39, 40, 41, 42, 43, 44, 45, 46, 47, 48, 49, 50, 51, 52, 53, 54, 55, 56, 57, 58, 59, 60, 61, 62, 63, 64, 65, 66, 67, 68, 69, 70, 71, 72] rfl (by decide +kernel)) (goodIn_sub (fun _ h => List.mem_cons_of_mem _ (List.mem_append_right _ h)) (by decide +kernel))
set_option maxRecDepth 20000 in
theorem gL_setQuay_X8_setQuay : GoodIn wsL_setQuay (wsV RL 7 RX8 yX8_setQuay wsX8_setQuay) := goodIn_app (goodIn_of _ (by decide +kernel)) ggL_setQuay_X8_setQuay
theorem dL_setQuay_12 : decode cL_setQuay 12 = .ok (.astore_n 3, 1) := by decide +kernel
theorem dL_setQuay_13 : decode cL_setQuay 13 = .ok (.iconst 1, 1) := by decide +kernel
theorem dL_setQuay_14 : decode cL_setQuay 14 = .ok (.ireturn, 1) := by decide +kernel
theorem dL_setQuay_7 : decode cL_setQuay 7 = .ok (.i2l, 1) := by decide +kernel
theorem dL_setQuay_8 : decode cL_setQuay 8 = .ok (.lastore, 1) := by decide +kernel
theorem dL_setQuay_9 : decode cL_setQuay 9 = .ok (.goto 6, 3) := by decide +kernel
theorem dL_setQuay_15 : decode cL_setQuay 15 = .ok (.iconst 0, 1) := by decide +kernel
theorem dL_setQuay_16 : decode cL_setQuay 16 = .ok (.ireturn, 1) := by decide +kernel
set_option maxHeartbeats 4000000 in
set_option maxRecDepth 100000 in
theorem l_setQuay (l : Launch) (hfl : l.stackTraces = false) (g : xG) (sz : Nat) (h0 : Nat) (pl : Nat) (ag : Nat) (yd : Nat) (hg : Nat) (st : Nat) (so : Nat) (f1 : Value) (f2 : Value) (f3 : Value) (f4 : Value) (f5 : Value) (f6 : Value) (f7 : Value) (f9 : Value) (f10 : Value) (f11 : Value) (f14 : Value) (q0 : Value) (q1 : Value) (q2 : Value) (q3 : Value) (a0 : Value) (a1 : Value) (y0 : Value) (y1 : Value) (y2 : Value) (y3 : Value) (y5 : Value) (y6 : Value) (y7 : Value) (y10 : Value) (fh : Nat → Int32) (ft : Nat → Int32) (fo : Nat → Int32) (p0 : Int32) (out : Nat) (of : Nat → Int64)  : vx_Met l yL_setQuay wsL_setQuay ({ frames := 8, cells := 1, slots := 6, locals := 164 }) (va_Pc [.ref h0, .int p0, .ref out] (fun U => xB g [(h0, .inr (8, [.int 20, f1, f2, f3, f4, f5, f6, f7, .ref pl, f9, f10, f11, .ref ag, .ref yd, f14])), (pl, .inr (4, [q0, q1, q2, q3])), (ag, .inr (0, [a0, a1])), (yd, .inr (7, [y0, y1, y2, y3, .ref hg, y5, y6, y7, .ref st, .ref so, y10])), (hg, .inl (xI g, 12, .inl fh)), (st, .inl (xI g, 24, .inl ft)), (so, .inl (xI g, 24, .inl fo)), (out, .inl (xJ g, 1, .inr (.inl of)))] sz U ∧ xU (va_A [(h0, .inr (8, [.int 20, f1, f2, f3, f4, f5, f6, f7, .ref pl, f9, f10, f11, .ref ag, .ref yd, f14])), (pl, .inr (4, [q0, q1, q2, q3])), (ag, .inr (0, [a0, a1])), (yd, .inr (7, [y0, y1, y2, y3, .ref hg, y5, y6, y7, .ref st, .ref so, y10])), (hg, .inl (xI g, 12, .inl fh)), (st, .inl (xI g, 24, .inl ft)), (so, .inl (xI g, 24, .inl fo)), (out, .inl (xJ g, 1, .inr (.inl of)))] sz) U)) (va_Qi (fun (r : Int32) (u : Int64) => (r = 0 ∧ u = 20 ∧ (¬ p0 < 4 ∧ ¬ 60 < p0)) ∨ (r = 1 ∧ (p0 < 4 ∨ 60 < p0))) (fun (u : Int64) (t : State) => ∃ (of1 : Nat → Int64), of1 0 = u ∧ xE g [(out, .inl (xJ g, 1, .inr (.inl of1)))] (va_A [(h0, .inr (8, [.int 20, f1, f2, f3, f4, f5, f6, f7, .ref pl, f9, f10, f11, .ref ag, .ref yd, f14])), (pl, .inr (4, [q0, q1, q2, q3])), (ag, .inr (0, [a0, a1])), (yd, .inr (7, [y0, y1, y2, y3, .ref hg, y5, y6, y7, .ref st, .ref so, y10])), (hg, .inl (xI g, 12, .inl fh)), (st, .inl (xI g, 24, .inl ft)), (so, .inl (xI g, 24, .inl fo)), (out, .inl (xJ g, 1, .inr (.inl of)))] sz) t) (va_A [(h0, .inr (8, [.int 20, f1, f2, f3, f4, f5, f6, f7, .ref pl, f9, f10, f11, .ref ag, .ref yd, f14])), (pl, .inr (4, [q0, q1, q2, q3])), (ag, .inr (0, [a0, a1])), (yd, .inr (7, [y0, y1, y2, y3, .ref hg, y5, y6, y7, .ref st, .ref so, y10])), (hg, .inl (xI g, 12, .inl fh)), (st, .inl (xI g, 24, .inl ft)), (so, .inl (xI g, 24, .inl fo)), (out, .inl (xJ g, 1, .inr (.inl of)))] sz)) (vx_X (fun _ : Unit => True) (fun E _ _ => False) (va_A [(h0, .inr (8, [.int 20, f1, f2, f3, f4, f5, f6, f7, .ref pl, f9, f10, f11, .ref ag, .ref yd, f14])), (pl, .inr (4, [q0, q1, q2, q3])), (ag, .inr (0, [a0, a1])), (yd, .inr (7, [y0, y1, y2, y3, .ref hg, y5, y6, y7, .ref st, .ref so, y10])), (hg, .inl (xI g, 12, .inl fh)), (st, .inl (xI g, 24, .inl ft)), (so, .inl (xI g, 24, .inl fo)), (out, .inl (xJ g, 1, .inr (.inl of)))] sz)) 1 6 (va_A [(h0, .inr (8, [.int 20, f1, f2, f3, f4, f5, f6, f7, .ref pl, f9, f10, f11, .ref ag, .ref yd, f14])), (pl, .inr (4, [q0, q1, q2, q3])), (ag, .inr (0, [a0, a1])), (yd, .inr (7, [y0, y1, y2, y3, .ref hg, y5, y6, y7, .ref st, .ref so, y10])), (hg, .inl (xI g, 12, .inl fh)), (st, .inl (xI g, 24, .inl ft)), (so, .inl (xI g, 24, .inl fo)), (out, .inl (xJ g, 1, .inr (.inl of)))] sz) := by
  refine vx_ofWH (hh := [(0, 9, 12, 13)]) (cc := cL_setQuay) (maxL := 4) (ret := (some .int)) (by decide) rfl ?_
  intro p e s m args below meth c s₁ B hml hv
  obtain ⟨rfl, ⟨hsz, hP, hK, hD0⟩, hU⟩ := hv
  have hx := B.exec
  have hb := B.bytes
  have hr := B.returns
  have hts := atoms_spec (ws := wsL_setQuay) B.pre
  have hown : s.vm.findClass RL = some m.cls := findClass_of_methodNamed B.named
  have hlocks := B.notSynchronized
  have htbl := vx_table (x := yL_setQuay) B (hts (.codeWith yL_setQuay cL_setQuay 4 (some .int) [(0, 9, 12, 13)]) List.mem_cons_self)
  subst hsz
  have hD := hD0.self (sz := s.heap.size)
  generalize hAe : va_A [(h0, .inr (8, [.int 20, f1, f2, f3, f4, f5, f6, f7, .ref pl, f9, f10, f11, .ref ag, .ref yd, f14])), (pl, .inr (4, [q0, q1, q2, q3])), (ag, .inr (0, [a0, a1])), (yd, .inr (7, [y0, y1, y2, y3, .ref hg, y5, y6, y7, .ref st, .ref so, y10])), (hg, .inl (xI g, 12, .inl fh)), (st, .inl (xI g, 24, .inl ft)), (so, .inl (xI g, 24, .inl fo)), (out, .inl (xJ g, 1, .inr (.inl of)))] s.heap.size = A at hD hU ⊢
  have hA : ∀ q : Nat, s.heap.size ≤ q → A q := fun q h => by rw [← hAe]; exact Or.inr h
  have hS : va_S A s.heap s.heap [] := va_S.rf
  have hl := lv_entry ([.ref h0, .int p0, .ref out]) (n := 4) (Nat.le_of_ble_eq_true rfl)
  rw [lg_entry_eq]
  generalize (lg_sl ([.ref h0, .int p0, .ref out]) ++ List.replicate (4 - (lg_sl ([.ref h0, .int p0, .ref out])).length) Slot.unset).toArray = ls at hl ⊢
  have hl : lv_has ls 4 [(0, .ref h0), (1, .int p0), (2, .ref out)] := hl
  refine lv_aload_n hx hb dL_setQuay_0 rfl (lv_at hl 2 rfl) ?_
  refine lv_iconst (v := 0) hx hb dL_setQuay_1 (by decide) ?_
  refine lv_aload_n hx hb dL_setQuay_2 rfl (lv_at hl 0 rfl) ?_
  refine lv_iload_n hx hb dL_setQuay_3 rfl (lv_at hl 1 rfl) ?_
  have hPc := hP.sub (ws' := [(h0, .inr (8, [.int 20, f1, f2, f3, f4, f5, f6, f7, .ref pl, f9, f10, f11, .ref ag, .ref yd, f14])), (pl, .inr (4, [q0, q1, q2, q3])), (ag, .inr (0, [a0, a1])), (yd, .inr (7, [y0, y1, y2, y3, .ref hg, y5, y6, y7, .ref st, .ref so, y10])), (hg, .inl (xI g, 12, .inl fh)), (st, .inl (xI g, 24, .inl ft)), (so, .inl (xI g, 24, .inl fo))]) [0, 1, 2, 3, 4, 5, 6] rfl
  have hDc := hD.sub (ws' := [(h0, .inr (8, [.int 20, f1, f2, f3, f4, f5, f6, f7, .ref pl, f9, f10, f11, .ref ag, .ref yd, f14])), (pl, .inr (4, [q0, q1, q2, q3])), (ag, .inr (0, [a0, a1])), (yd, .inr (7, [y0, y1, y2, y3, .ref hg, y5, y6, y7, .ref st, .ref so, y10])), (hg, .inl (xI g, 12, .inl fh)), (st, .inl (xI g, 24, .inl ft)), (so, .inl (xI g, 24, .inl fo))]) [0, 1, 2, 3, 4, 5, 6] (by decide) rfl
  have hFc := va_free (wc := [(h0, .inr (8, [.int 20, f1, f2, f3, f4, f5, f6, f7, .ref pl, f9, f10, f11, .ref ag, .ref yd, f14])), (pl, .inr (4, [q0, q1, q2, q3])), (ag, .inr (0, [a0, a1])), (yd, .inr (7, [y0, y1, y2, y3, .ref hg, y5, y6, y7, .ref st, .ref so, y10])), (hg, .inl (xI g, 12, .inl fh)), (st, .inl (xI g, 24, .inl ft)), (so, .inl (xI g, 24, .inl fo))]) hD hS hA [0, 1, 2, 3, 4, 5, 6] rfl
  refine vx_calli (vx_runV (As := [.int p0]) (rest := [.int 0, .ref out]) ⟨hx, hb, hml, hown, hts⟩ (x_setQuay l hfl g s.heap.size h0 pl ag yd hg st so f1 f2 f3 f4 f5 f6 f7 f9 f10 f11 f14 q0 q1 q2 q3 a0 a1 y0 y1 y2 y3 y5 y6 y7 y10 fh ft fo 20 p0) (cwV 1 hts gL_setQuay_X8_setQuay rfl rfl rfl (by decide +kernel) ⟨Nat.le_of_ble_eq_true rfl, Nat.le_of_ble_eq_true rfl⟩) ⟨xBU.blind, va_recv hK hPc (ci := 8) (q0 := 0) rfl rfl, fun U9 hU9 hW9 => ⟨rfl, xB.mk hPc hK hDc hU9 hW9, hU.call hS hFc hU9 hW9⟩⟩ rfl rfl hl.1 rfl (lv_room (Nat.le_of_ble_eq_true rfl)) dL_setQuay_4 ⟨Nat.le_of_ble_eq_true rfl, Nat.le_of_ble_eq_true rfl⟩) hS (fun q _ h => hFc q h) hFc (fun q _ h => hFc q h) (fun E ce q9 ux t H1 locs1 ht hvm hpx hB hz1 hk1 hS hce hcv hcl => ?_) (fun r_1 u_2 t H1 locs ht hvm hw_3 hB hz1 hk1 hS => ?_)
  · obtain ⟨rfl, hB⟩ := hB
    obtain ⟨hP, hD⟩ := xJoin0 (wr := [(out, .inl (xJ g, 1, .inr (.inl of)))]) hP hD [0, 1, 2, 3, 4, 5, 6] [7] rfl rfl (by decide) (by decide) hk1 hFc
    refine vx_catch (name := "java/lang/IllegalArgumentException") hown [] ({ startPc := 0, endPc := 9, handlerPc := 12, catchType := 13 } : ExceptionTableEntry) [] htbl (fun z hz => absurd hz List.not_mem_nil) rfl (by decide) (hts (.classLink RL 13 "java/lang/IllegalArgumentException") (by decide +kernel)) (va_Nw.use rfl (hU.2.2.2.2.1 "java/lang/IllegalArgumentException" (by decide))) hce hcv hcl ?_
    generalize H1 = H at hP hS ⊢
    generalize locs1 = locs at hS ⊢
    have hP : va_P (xD g) vwCl [(out, .inl (xJ g, 1, .inr (.inl of)))] H := hP
    have hD : va_D A [(out, .inl (xJ g, 1, .inr (.inl of)))] := hD
    refine W.widen (k := 1) (n := 6) (by omega) (by omega) ?_
    refine lv_astore_n (lv' := [(3, .ref q9), (0, .ref h0), (1, .int p0), (2, .ref out)]) hx hb dL_setQuay_12 rfl hl (by decide) rfl (fun ls hl => ?_)
    refine lv_iconst (v := 1) hx hb dL_setQuay_13 (by decide) ?_
    refine vx_ret ?_
    have hP9 := hP.sub (ws' := [(out, .inl (xJ g, 1, .inr (.inl of)))]) [0] rfl
    have hD9 := hD.sub (ws' := [(out, .inl (xJ g, 1, .inr (.inl of)))]) [0] (by decide) rfl
    exact W.iret (v := 1) hx hb hr (fun t ht hW => ⟨⟨1, (of 0), rfl, Or.inr (⟨rfl, (by first | trivial | assumption | (refine ⟨?_, ?_⟩ <;> assumption) | exact hB | (simp only [Int32.lt_iff_toInt_lt, Int32.le_iff_toInt_le, Int32.reduceToInt] at *; omega))⟩), ⟨of, (by rfl), by rw [ht]; exact hP9, va_K.moved hW.alike hK, hD9⟩⟩, hS.F ht⟩) hS.2.2 dL_setQuay_14
  · obtain ⟨hP, hD⟩ := xJoin0 (wr := [(out, .inl (xJ g, 1, .inr (.inl of)))]) hP hD [0, 1, 2, 3, 4, 5, 6] [7] rfl rfl (by decide) (by decide) hk1 hFc
    generalize H1 = H at hP hS ⊢
    have hP : va_P (xD g) vwCl [(out, .inl (xJ g, 1, .inr (.inl of)))] H := hP
    have hD : va_D A [(out, .inl (xJ g, 1, .inr (.inl of)))] := hD
    refine W.widen (k := 1) (n := 6) (by omega) (by omega) ?_
    try dsimp only at hw_3
    obtain ⟨rfl, c_4⟩ := hw_3
    refine lv_i2l (v := 20) hx hb dL_setQuay_7 (by decide) ?_
    refine va_last (x := 20) hx hb hK hP hD hS 0 4 rfl rfl (by unfold vp_in; decide) dL_setQuay_8 (fun H locs hP hD hS => ?_)
    have hP : va_P (xD g) vwCl [(out, .inl (xJ g, 1, .inr (.inl (vp_updL of (0 : Int32).toNatClampNeg 20))))] H := hP
    have hD : va_D A [(out, .inl (xJ g, 1, .inr (.inl (vp_updL of (0 : Int32).toNatClampNeg 20))))] := hD
    refine lv_goto (tgt := 15) hx hb dL_setQuay_9 (by decide) ?_
    refine lv_iconst (v := 0) hx hb dL_setQuay_15 (by decide) ?_
    refine vx_ret ?_
    have hP9 := hP.sub (ws' := [(out, .inl (xJ g, 1, .inr (.inl (vp_updL of (0 : Int32).toNatClampNeg 20))))]) [0] rfl
    have hD9 := hD.sub (ws' := [(out, .inl (xJ g, 1, .inr (.inl (vp_updL of (0 : Int32).toNatClampNeg 20))))]) [0] (by decide) rfl
    exact W.iret (v := 0) hx hb hr (fun t ht hW => ⟨⟨0, 20, rfl, Or.inl (⟨rfl, rfl, (by first | trivial | assumption | (refine ⟨?_, ?_⟩ <;> assumption) | exact hB | (simp only [Int32.lt_iff_toInt_lt, Int32.le_iff_toInt_le, Int32.reduceToInt] at *; omega))⟩), ⟨(vp_updL of (0 : Int32).toNatClampNeg 20), (by rfl), by rw [ht]; exact hP9, va_K.moved hW.alike hK, hD9⟩⟩, hS.F ht⟩) hS.2.2 dL_setQuay_16
theorem dL_setCranes_0 : decode cL_setCranes 0 = .ok (.aload_n 2, 1) := by decide +kernel
theorem dL_setCranes_1 : decode cL_setCranes 1 = .ok (.iconst 0, 1) := by decide +kernel
theorem dL_setCranes_2 : decode cL_setCranes 2 = .ok (.aload_n 0, 1) := by decide +kernel
theorem dL_setCranes_3 : decode cL_setCranes 3 = .ok (.iload_n 1, 1) := by decide +kernel
theorem dL_setCranes_4 : decode cL_setCranes 4 = .ok (.invokevirtual 15, 3) := by decide +kernel
set_option maxRecDepth 20000 in
theorem ggL_setCranes_X8_setCranes : GoodIn wsL_setCranes wsX8_setCranes := goodIn_ca (goodIn_r _ [6, 7, 8, 9, 5, 10, 11, 12, 13, 14, 15, 16, 17, 18, 19, 20, 21, 22, 23, 24, 25, 26, 27, 28, 29, 30, 31, 32, 33, 34, 35, 36, 37, 38, 39, 40, 41, 42, 43, 44, 45, 46, 47, 48, 49, 50, 51, 52, 53, 54, 55, 56, 57, 58, 59, 60, 61, 62, 63, 64, 65, 66, 67, 68, 69, 70, 71, 72] rfl (by decide +kernel)) (goodIn_sub (fun _ h => List.mem_cons_of_mem _ (List.mem_append_right _ h)) (by decide +kernel))
set_option maxRecDepth 20000 in
theorem gL_setCranes_X8_setCranes : GoodIn wsL_setCranes (wsV RL 15 RX8 yX8_setCranes wsX8_setCranes) := goodIn_app (goodIn_of _ (by decide +kernel)) ggL_setCranes_X8_setCranes
theorem dL_setCranes_12 : decode cL_setCranes 12 = .ok (.astore_n 3, 1) := by decide +kernel
theorem dL_setCranes_13 : decode cL_setCranes 13 = .ok (.iconst 1, 1) := by decide +kernel
theorem dL_setCranes_14 : decode cL_setCranes 14 = .ok (.ireturn, 1) := by decide +kernel
theorem dL_setCranes_7 : decode cL_setCranes 7 = .ok (.i2l, 1) := by decide +kernel
theorem dL_setCranes_8 : decode cL_setCranes 8 = .ok (.lastore, 1) := by decide +kernel
theorem dL_setCranes_9 : decode cL_setCranes 9 = .ok (.goto 6, 3) := by decide +kernel
theorem dL_setCranes_15 : decode cL_setCranes 15 = .ok (.iconst 0, 1) := by decide +kernel
theorem dL_setCranes_16 : decode cL_setCranes 16 = .ok (.ireturn, 1) := by decide +kernel
set_option maxHeartbeats 4000000 in
set_option maxRecDepth 100000 in
theorem l_setCranes (l : Launch) (hfl : l.stackTraces = false) (g : xG) (sz : Nat) (h0 : Nat) (pl : Nat) (ag : Nat) (yd : Nat) (hg : Nat) (st : Nat) (so : Nat) (f0 : Value) (f2 : Value) (f3 : Value) (f4 : Value) (f5 : Value) (f6 : Value) (f7 : Value) (f9 : Value) (f10 : Value) (f11 : Value) (f14 : Value) (q0 : Value) (q1 : Value) (q2 : Value) (q3 : Value) (a0 : Value) (a1 : Value) (y0 : Value) (y1 : Value) (y2 : Value) (y3 : Value) (y5 : Value) (y6 : Value) (y7 : Value) (y10 : Value) (fh : Nat → Int32) (ft : Nat → Int32) (fo : Nat → Int32) (p0 : Int32) (out : Nat) (of : Nat → Int64)  : vx_Met l yL_setCranes wsL_setCranes ({ frames := 8, cells := 1, slots := 6, locals := 164 }) (va_Pc [.ref h0, .int p0, .ref out] (fun U => xB g [(h0, .inr (8, [f0, .int 3, f2, f3, f4, f5, f6, f7, .ref pl, f9, f10, f11, .ref ag, .ref yd, f14])), (pl, .inr (4, [q0, q1, q2, q3])), (ag, .inr (0, [a0, a1])), (yd, .inr (7, [y0, y1, y2, y3, .ref hg, y5, y6, y7, .ref st, .ref so, y10])), (hg, .inl (xI g, 12, .inl fh)), (st, .inl (xI g, 24, .inl ft)), (so, .inl (xI g, 24, .inl fo)), (out, .inl (xJ g, 1, .inr (.inl of)))] sz U ∧ xU (va_A [(h0, .inr (8, [f0, .int 3, f2, f3, f4, f5, f6, f7, .ref pl, f9, f10, f11, .ref ag, .ref yd, f14])), (pl, .inr (4, [q0, q1, q2, q3])), (ag, .inr (0, [a0, a1])), (yd, .inr (7, [y0, y1, y2, y3, .ref hg, y5, y6, y7, .ref st, .ref so, y10])), (hg, .inl (xI g, 12, .inl fh)), (st, .inl (xI g, 24, .inl ft)), (so, .inl (xI g, 24, .inl fo)), (out, .inl (xJ g, 1, .inr (.inl of)))] sz) U)) (va_Qi (fun (r : Int32) (u : Int64) => (r = 0 ∧ u = 3 ∧ (¬ p0 < 1 ∧ ¬ 6 < p0)) ∨ (r = 1 ∧ (p0 < 1 ∨ 6 < p0))) (fun (u : Int64) (t : State) => ∃ (of1 : Nat → Int64), of1 0 = u ∧ xE g [(out, .inl (xJ g, 1, .inr (.inl of1)))] (va_A [(h0, .inr (8, [f0, .int 3, f2, f3, f4, f5, f6, f7, .ref pl, f9, f10, f11, .ref ag, .ref yd, f14])), (pl, .inr (4, [q0, q1, q2, q3])), (ag, .inr (0, [a0, a1])), (yd, .inr (7, [y0, y1, y2, y3, .ref hg, y5, y6, y7, .ref st, .ref so, y10])), (hg, .inl (xI g, 12, .inl fh)), (st, .inl (xI g, 24, .inl ft)), (so, .inl (xI g, 24, .inl fo)), (out, .inl (xJ g, 1, .inr (.inl of)))] sz) t) (va_A [(h0, .inr (8, [f0, .int 3, f2, f3, f4, f5, f6, f7, .ref pl, f9, f10, f11, .ref ag, .ref yd, f14])), (pl, .inr (4, [q0, q1, q2, q3])), (ag, .inr (0, [a0, a1])), (yd, .inr (7, [y0, y1, y2, y3, .ref hg, y5, y6, y7, .ref st, .ref so, y10])), (hg, .inl (xI g, 12, .inl fh)), (st, .inl (xI g, 24, .inl ft)), (so, .inl (xI g, 24, .inl fo)), (out, .inl (xJ g, 1, .inr (.inl of)))] sz)) (vx_X (fun _ : Unit => True) (fun E _ _ => False) (va_A [(h0, .inr (8, [f0, .int 3, f2, f3, f4, f5, f6, f7, .ref pl, f9, f10, f11, .ref ag, .ref yd, f14])), (pl, .inr (4, [q0, q1, q2, q3])), (ag, .inr (0, [a0, a1])), (yd, .inr (7, [y0, y1, y2, y3, .ref hg, y5, y6, y7, .ref st, .ref so, y10])), (hg, .inl (xI g, 12, .inl fh)), (st, .inl (xI g, 24, .inl ft)), (so, .inl (xI g, 24, .inl fo)), (out, .inl (xJ g, 1, .inr (.inl of)))] sz)) 1 6 (va_A [(h0, .inr (8, [f0, .int 3, f2, f3, f4, f5, f6, f7, .ref pl, f9, f10, f11, .ref ag, .ref yd, f14])), (pl, .inr (4, [q0, q1, q2, q3])), (ag, .inr (0, [a0, a1])), (yd, .inr (7, [y0, y1, y2, y3, .ref hg, y5, y6, y7, .ref st, .ref so, y10])), (hg, .inl (xI g, 12, .inl fh)), (st, .inl (xI g, 24, .inl ft)), (so, .inl (xI g, 24, .inl fo)), (out, .inl (xJ g, 1, .inr (.inl of)))] sz) := by
  refine vx_ofWH (hh := [(0, 9, 12, 13)]) (cc := cL_setCranes) (maxL := 4) (ret := (some .int)) (by decide) rfl ?_
  intro p e s m args below meth c s₁ B hml hv
  obtain ⟨rfl, ⟨hsz, hP, hK, hD0⟩, hU⟩ := hv
  have hx := B.exec
  have hb := B.bytes
  have hr := B.returns
  have hts := atoms_spec (ws := wsL_setCranes) B.pre
  have hown : s.vm.findClass RL = some m.cls := findClass_of_methodNamed B.named
  have hlocks := B.notSynchronized
  have htbl := vx_table (x := yL_setCranes) B (hts (.codeWith yL_setCranes cL_setCranes 4 (some .int) [(0, 9, 12, 13)]) List.mem_cons_self)
  subst hsz
  have hD := hD0.self (sz := s.heap.size)
  generalize hAe : va_A [(h0, .inr (8, [f0, .int 3, f2, f3, f4, f5, f6, f7, .ref pl, f9, f10, f11, .ref ag, .ref yd, f14])), (pl, .inr (4, [q0, q1, q2, q3])), (ag, .inr (0, [a0, a1])), (yd, .inr (7, [y0, y1, y2, y3, .ref hg, y5, y6, y7, .ref st, .ref so, y10])), (hg, .inl (xI g, 12, .inl fh)), (st, .inl (xI g, 24, .inl ft)), (so, .inl (xI g, 24, .inl fo)), (out, .inl (xJ g, 1, .inr (.inl of)))] s.heap.size = A at hD hU ⊢
  have hA : ∀ q : Nat, s.heap.size ≤ q → A q := fun q h => by rw [← hAe]; exact Or.inr h
  have hS : va_S A s.heap s.heap [] := va_S.rf
  have hl := lv_entry ([.ref h0, .int p0, .ref out]) (n := 4) (Nat.le_of_ble_eq_true rfl)
  rw [lg_entry_eq]
  generalize (lg_sl ([.ref h0, .int p0, .ref out]) ++ List.replicate (4 - (lg_sl ([.ref h0, .int p0, .ref out])).length) Slot.unset).toArray = ls at hl ⊢
  have hl : lv_has ls 4 [(0, .ref h0), (1, .int p0), (2, .ref out)] := hl
  refine lv_aload_n hx hb dL_setCranes_0 rfl (lv_at hl 2 rfl) ?_
  refine lv_iconst (v := 0) hx hb dL_setCranes_1 (by decide) ?_
  refine lv_aload_n hx hb dL_setCranes_2 rfl (lv_at hl 0 rfl) ?_
  refine lv_iload_n hx hb dL_setCranes_3 rfl (lv_at hl 1 rfl) ?_
  have hPc := hP.sub (ws' := [(h0, .inr (8, [f0, .int 3, f2, f3, f4, f5, f6, f7, .ref pl, f9, f10, f11, .ref ag, .ref yd, f14])), (pl, .inr (4, [q0, q1, q2, q3])), (ag, .inr (0, [a0, a1])), (yd, .inr (7, [y0, y1, y2, y3, .ref hg, y5, y6, y7, .ref st, .ref so, y10])), (hg, .inl (xI g, 12, .inl fh)), (st, .inl (xI g, 24, .inl ft)), (so, .inl (xI g, 24, .inl fo))]) [0, 1, 2, 3, 4, 5, 6] rfl
  have hDc := hD.sub (ws' := [(h0, .inr (8, [f0, .int 3, f2, f3, f4, f5, f6, f7, .ref pl, f9, f10, f11, .ref ag, .ref yd, f14])), (pl, .inr (4, [q0, q1, q2, q3])), (ag, .inr (0, [a0, a1])), (yd, .inr (7, [y0, y1, y2, y3, .ref hg, y5, y6, y7, .ref st, .ref so, y10])), (hg, .inl (xI g, 12, .inl fh)), (st, .inl (xI g, 24, .inl ft)), (so, .inl (xI g, 24, .inl fo))]) [0, 1, 2, 3, 4, 5, 6] (by decide) rfl
  have hFc := va_free (wc := [(h0, .inr (8, [f0, .int 3, f2, f3, f4, f5, f6, f7, .ref pl, f9, f10, f11, .ref ag, .ref yd, f14])), (pl, .inr (4, [q0, q1, q2, q3])), (ag, .inr (0, [a0, a1])), (yd, .inr (7, [y0, y1, y2, y3, .ref hg, y5, y6, y7, .ref st, .ref so, y10])), (hg, .inl (xI g, 12, .inl fh)), (st, .inl (xI g, 24, .inl ft)), (so, .inl (xI g, 24, .inl fo))]) hD hS hA [0, 1, 2, 3, 4, 5, 6] rfl
  refine vx_calli (vx_runV (As := [.int p0]) (rest := [.int 0, .ref out]) ⟨hx, hb, hml, hown, hts⟩ (x_setCranes l hfl g s.heap.size h0 pl ag yd hg st so f0 f2 f3 f4 f5 f6 f7 f9 f10 f11 f14 q0 q1 q2 q3 a0 a1 y0 y1 y2 y3 y5 y6 y7 y10 fh ft fo 3 p0) (cwV 1 hts gL_setCranes_X8_setCranes rfl rfl rfl (by decide +kernel) ⟨Nat.le_of_ble_eq_true rfl, Nat.le_of_ble_eq_true rfl⟩) ⟨xBU.blind, va_recv hK hPc (ci := 8) (q0 := 0) rfl rfl, fun U9 hU9 hW9 => ⟨rfl, xB.mk hPc hK hDc hU9 hW9, hU.call hS hFc hU9 hW9⟩⟩ rfl rfl hl.1 rfl (lv_room (Nat.le_of_ble_eq_true rfl)) dL_setCranes_4 ⟨Nat.le_of_ble_eq_true rfl, Nat.le_of_ble_eq_true rfl⟩) hS (fun q _ h => hFc q h) hFc (fun q _ h => hFc q h) (fun E ce q9 ux t H1 locs1 ht hvm hpx hB hz1 hk1 hS hce hcv hcl => ?_) (fun r_1 u_2 t H1 locs ht hvm hw_3 hB hz1 hk1 hS => ?_)
  · obtain ⟨rfl, hB⟩ := hB
    obtain ⟨hP, hD⟩ := xJoin0 (wr := [(out, .inl (xJ g, 1, .inr (.inl of)))]) hP hD [0, 1, 2, 3, 4, 5, 6] [7] rfl rfl (by decide) (by decide) hk1 hFc
    refine vx_catch (name := "java/lang/IllegalArgumentException") hown [] ({ startPc := 0, endPc := 9, handlerPc := 12, catchType := 13 } : ExceptionTableEntry) [] htbl (fun z hz => absurd hz List.not_mem_nil) rfl (by decide) (hts (.classLink RL 13 "java/lang/IllegalArgumentException") (by decide +kernel)) (va_Nw.use rfl (hU.2.2.2.2.1 "java/lang/IllegalArgumentException" (by decide))) hce hcv hcl ?_
    generalize H1 = H at hP hS ⊢
    generalize locs1 = locs at hS ⊢
    have hP : va_P (xD g) vwCl [(out, .inl (xJ g, 1, .inr (.inl of)))] H := hP
    have hD : va_D A [(out, .inl (xJ g, 1, .inr (.inl of)))] := hD
    refine W.widen (k := 1) (n := 6) (by omega) (by omega) ?_
    refine lv_astore_n (lv' := [(3, .ref q9), (0, .ref h0), (1, .int p0), (2, .ref out)]) hx hb dL_setCranes_12 rfl hl (by decide) rfl (fun ls hl => ?_)
    refine lv_iconst (v := 1) hx hb dL_setCranes_13 (by decide) ?_
    refine vx_ret ?_
    have hP9 := hP.sub (ws' := [(out, .inl (xJ g, 1, .inr (.inl of)))]) [0] rfl
    have hD9 := hD.sub (ws' := [(out, .inl (xJ g, 1, .inr (.inl of)))]) [0] (by decide) rfl
    exact W.iret (v := 1) hx hb hr (fun t ht hW => ⟨⟨1, (of 0), rfl, Or.inr (⟨rfl, (by first | trivial | assumption | (refine ⟨?_, ?_⟩ <;> assumption) | exact hB | (simp only [Int32.lt_iff_toInt_lt, Int32.le_iff_toInt_le, Int32.reduceToInt] at *; omega))⟩), ⟨of, (by rfl), by rw [ht]; exact hP9, va_K.moved hW.alike hK, hD9⟩⟩, hS.F ht⟩) hS.2.2 dL_setCranes_14
  · obtain ⟨hP, hD⟩ := xJoin0 (wr := [(out, .inl (xJ g, 1, .inr (.inl of)))]) hP hD [0, 1, 2, 3, 4, 5, 6] [7] rfl rfl (by decide) (by decide) hk1 hFc
    generalize H1 = H at hP hS ⊢
    have hP : va_P (xD g) vwCl [(out, .inl (xJ g, 1, .inr (.inl of)))] H := hP
    have hD : va_D A [(out, .inl (xJ g, 1, .inr (.inl of)))] := hD
    refine W.widen (k := 1) (n := 6) (by omega) (by omega) ?_
    try dsimp only at hw_3
    obtain ⟨rfl, c_4⟩ := hw_3
    refine lv_i2l (v := 3) hx hb dL_setCranes_7 (by decide) ?_
    refine va_last (x := 3) hx hb hK hP hD hS 0 4 rfl rfl (by unfold vp_in; decide) dL_setCranes_8 (fun H locs hP hD hS => ?_)
    have hP : va_P (xD g) vwCl [(out, .inl (xJ g, 1, .inr (.inl (vp_updL of (0 : Int32).toNatClampNeg 3))))] H := hP
    have hD : va_D A [(out, .inl (xJ g, 1, .inr (.inl (vp_updL of (0 : Int32).toNatClampNeg 3))))] := hD
    refine lv_goto (tgt := 15) hx hb dL_setCranes_9 (by decide) ?_
    refine lv_iconst (v := 0) hx hb dL_setCranes_15 (by decide) ?_
    refine vx_ret ?_
    have hP9 := hP.sub (ws' := [(out, .inl (xJ g, 1, .inr (.inl (vp_updL of (0 : Int32).toNatClampNeg 3))))]) [0] rfl
    have hD9 := hD.sub (ws' := [(out, .inl (xJ g, 1, .inr (.inl (vp_updL of (0 : Int32).toNatClampNeg 3))))]) [0] (by decide) rfl
    exact W.iret (v := 0) hx hb hr (fun t ht hW => ⟨⟨0, 3, rfl, Or.inl (⟨rfl, rfl, (by first | trivial | assumption | (refine ⟨?_, ?_⟩ <;> assumption) | exact hB | (simp only [Int32.lt_iff_toInt_lt, Int32.le_iff_toInt_le, Int32.reduceToInt] at *; omega))⟩), ⟨(vp_updL of (0 : Int32).toNatClampNeg 3), (by rfl), by rw [ht]; exact hP9, va_K.moved hW.alike hK, hD9⟩⟩, hS.F ht⟩) hS.2.2 dL_setCranes_16
theorem dL_setRoom_0 : decode cL_setRoom 0 = .ok (.aload_n 3, 1) := by decide +kernel
theorem dL_setRoom_1 : decode cL_setRoom 1 = .ok (.iconst 0, 1) := by decide +kernel
theorem dL_setRoom_2 : decode cL_setRoom 2 = .ok (.aload_n 0, 1) := by decide +kernel
theorem dL_setRoom_3 : decode cL_setRoom 3 = .ok (.iload_n 1, 1) := by decide +kernel
theorem dL_setRoom_4 : decode cL_setRoom 4 = .ok (.iload_n 2, 1) := by decide +kernel
theorem dL_setRoom_5 : decode cL_setRoom 5 = .ok (.invokevirtual 38, 3) := by decide +kernel
set_option maxRecDepth 20000 in
theorem ggL_setRoom_X8_setRoom : GoodIn wsL_setRoom wsX8_setRoom := goodIn_ca (goodIn_ca (goodIn_r _ [7, 8, 9, 10, 6, 11, 12, 13, 14, 15, 16, 17, 18, 19, 20, 21, 22, 23, 24, 25, 26, 27, 28, 29, 30, 31, 32, 33, 34, 35, 36, 37, 38, 39, 40, 41, 42, 43, 44, 45, 46, 47, 48, 49, 50, 51, 52, 53, 54, 55, 56, 57, 58, 59, 60, 61, 62, 63, 64, 65, 66, 67, 68] rfl (by decide +kernel)) (goodIn_sub (fun _ h => List.mem_cons_of_mem _ (List.mem_append_left _ (List.mem_append_right _ h))) (by decide +kernel))) (goodIn_sub (fun _ h => List.mem_cons_of_mem _ (List.mem_append_right _ h)) (by decide +kernel))
set_option maxRecDepth 20000 in
theorem gL_setRoom_X8_setRoom : GoodIn wsL_setRoom (wsV RL 38 RX8 yX8_setRoom wsX8_setRoom) := goodIn_app (goodIn_of _ (by decide +kernel)) ggL_setRoom_X8_setRoom
theorem dL_setRoom_13 : decode cL_setRoom 13 = .ok (.astore 4, 2) := by decide +kernel
theorem dL_setRoom_15 : decode cL_setRoom 15 = .ok (.iconst 1, 1) := by decide +kernel
theorem dL_setRoom_16 : decode cL_setRoom 16 = .ok (.ireturn, 1) := by decide +kernel
theorem dL_setRoom_17 : decode cL_setRoom 17 = .ok (.astore 4, 2) := by decide +kernel
theorem dL_setRoom_19 : decode cL_setRoom 19 = .ok (.iconst 2, 1) := by decide +kernel
theorem dL_setRoom_20 : decode cL_setRoom 20 = .ok (.ireturn, 1) := by decide +kernel
theorem dL_setRoom_8 : decode cL_setRoom 8 = .ok (.i2l, 1) := by decide +kernel
theorem dL_setRoom_9 : decode cL_setRoom 9 = .ok (.lastore, 1) := by decide +kernel
theorem dL_setRoom_10 : decode cL_setRoom 10 = .ok (.goto 11, 3) := by decide +kernel
theorem dL_setRoom_21 : decode cL_setRoom 21 = .ok (.iconst 0, 1) := by decide +kernel
theorem dL_setRoom_22 : decode cL_setRoom 22 = .ok (.ireturn, 1) := by decide +kernel
set_option maxHeartbeats 4000000 in
set_option maxRecDepth 100000 in
theorem l_setRoom (l : Launch) (hfl : l.stackTraces = false) (g : xG) (sz : Nat) (h0 : Nat) (rm : Nat) (ag : Nat) (yd : Nat) (hg : Nat) (st : Nat) (so : Nat) (f0 : Value) (f1 : Value) (f2 : Value) (f3 : Value) (f4 : Value) (f6 : Value) (f7 : Value) (f8 : Value) (f9 : Value) (f10 : Value) (f11 : Value) (f14 : Value) (a0 : Value) (a1 : Value) (y0 : Value) (y1 : Value) (y2 : Value) (y3 : Value) (y5 : Value) (y6 : Value) (y7 : Value) (y10 : Value) (fh : Nat → Int32) (ft : Nat → Int32) (fo : Nat → Int32) (rf : Nat → Int32) (p0 : Int32) (p1 : Int32) (out : Nat) (of : Nat → Int64)  (hrf : ∀ j : Nat, j < 16 → rf j = 2) : vx_Met l yL_setRoom wsL_setRoom ({ frames := 8, cells := 2, slots := 12, locals := 165 }) (va_Pc [.ref h0, .int p0, .int p1, .ref out] (fun U => xB g [(h0, .inr (8, [f0, f1, f2, f3, f4, .ref rm, f6, f7, f8, f9, f10, f11, .ref ag, .ref yd, f14])), (rm, .inl (xI g, 16, .inl rf)), (ag, .inr (0, [a0, a1])), (yd, .inr (7, [y0, y1, y2, y3, .ref hg, y5, y6, y7, .ref st, .ref so, y10])), (hg, .inl (xI g, 12, .inl fh)), (st, .inl (xI g, 24, .inl ft)), (so, .inl (xI g, 24, .inl fo)), (out, .inl (xJ g, 1, .inr (.inl of)))] sz U ∧ xU (va_A [(h0, .inr (8, [f0, f1, f2, f3, f4, .ref rm, f6, f7, f8, f9, f10, f11, .ref ag, .ref yd, f14])), (rm, .inl (xI g, 16, .inl rf)), (ag, .inr (0, [a0, a1])), (yd, .inr (7, [y0, y1, y2, y3, .ref hg, y5, y6, y7, .ref st, .ref so, y10])), (hg, .inl (xI g, 12, .inl fh)), (st, .inl (xI g, 24, .inl ft)), (so, .inl (xI g, 24, .inl fo)), (out, .inl (xJ g, 1, .inr (.inl of)))] sz) U)) (va_Qi (fun (r : Int32) (u : Int64) => (r = 0 ∧ u = 2 ∧ ((¬ p0 < 0 ∧ p0 < 16) ∧ ¬ p1 < 0 ∧ ¬ 6 < p1)) ∨ (r = 1 ∧ (p0 < 0 ∨ ¬ p0 < 16)) ∨ (r = 2 ∧ ((¬ p0 < 0 ∧ p0 < 16) ∧ (p1 < 0 ∨ 6 < p1)))) (fun (u : Int64) (t : State) => ∃ (of1 : Nat → Int64), of1 0 = u ∧ xE g [(out, .inl (xJ g, 1, .inr (.inl of1)))] (va_A [(h0, .inr (8, [f0, f1, f2, f3, f4, .ref rm, f6, f7, f8, f9, f10, f11, .ref ag, .ref yd, f14])), (rm, .inl (xI g, 16, .inl rf)), (ag, .inr (0, [a0, a1])), (yd, .inr (7, [y0, y1, y2, y3, .ref hg, y5, y6, y7, .ref st, .ref so, y10])), (hg, .inl (xI g, 12, .inl fh)), (st, .inl (xI g, 24, .inl ft)), (so, .inl (xI g, 24, .inl fo)), (out, .inl (xJ g, 1, .inr (.inl of)))] sz) t) (va_A [(h0, .inr (8, [f0, f1, f2, f3, f4, .ref rm, f6, f7, f8, f9, f10, f11, .ref ag, .ref yd, f14])), (rm, .inl (xI g, 16, .inl rf)), (ag, .inr (0, [a0, a1])), (yd, .inr (7, [y0, y1, y2, y3, .ref hg, y5, y6, y7, .ref st, .ref so, y10])), (hg, .inl (xI g, 12, .inl fh)), (st, .inl (xI g, 24, .inl ft)), (so, .inl (xI g, 24, .inl fo)), (out, .inl (xJ g, 1, .inr (.inl of)))] sz)) (vx_X (fun _ : Unit => True) (fun E _ _ => False) (va_A [(h0, .inr (8, [f0, f1, f2, f3, f4, .ref rm, f6, f7, f8, f9, f10, f11, .ref ag, .ref yd, f14])), (rm, .inl (xI g, 16, .inl rf)), (ag, .inr (0, [a0, a1])), (yd, .inr (7, [y0, y1, y2, y3, .ref hg, y5, y6, y7, .ref st, .ref so, y10])), (hg, .inl (xI g, 12, .inl fh)), (st, .inl (xI g, 24, .inl ft)), (so, .inl (xI g, 24, .inl fo)), (out, .inl (xJ g, 1, .inr (.inl of)))] sz)) 2 12 (va_A [(h0, .inr (8, [f0, f1, f2, f3, f4, .ref rm, f6, f7, f8, f9, f10, f11, .ref ag, .ref yd, f14])), (rm, .inl (xI g, 16, .inl rf)), (ag, .inr (0, [a0, a1])), (yd, .inr (7, [y0, y1, y2, y3, .ref hg, y5, y6, y7, .ref st, .ref so, y10])), (hg, .inl (xI g, 12, .inl fh)), (st, .inl (xI g, 24, .inl ft)), (so, .inl (xI g, 24, .inl fo)), (out, .inl (xJ g, 1, .inr (.inl of)))] sz) := by
  refine vx_ofWH (hh := [(0, 10, 13, 28), (0, 10, 17, 13)]) (cc := cL_setRoom) (maxL := 5) (ret := (some .int)) (by decide) rfl ?_
  intro p e s m args below meth c s₁ B hml hv
  obtain ⟨rfl, ⟨hsz, hP, hK, hD0⟩, hU⟩ := hv
  have hx := B.exec
  have hb := B.bytes
  have hr := B.returns
  have hts := atoms_spec (ws := wsL_setRoom) B.pre
  have hown : s.vm.findClass RL = some m.cls := findClass_of_methodNamed B.named
  have hlocks := B.notSynchronized
  have htbl := vx_table (x := yL_setRoom) B (hts (.codeWith yL_setRoom cL_setRoom 5 (some .int) [(0, 10, 13, 28), (0, 10, 17, 13)]) List.mem_cons_self)
  subst hsz
  have hD := hD0.self (sz := s.heap.size)
  generalize hAe : va_A [(h0, .inr (8, [f0, f1, f2, f3, f4, .ref rm, f6, f7, f8, f9, f10, f11, .ref ag, .ref yd, f14])), (rm, .inl (xI g, 16, .inl rf)), (ag, .inr (0, [a0, a1])), (yd, .inr (7, [y0, y1, y2, y3, .ref hg, y5, y6, y7, .ref st, .ref so, y10])), (hg, .inl (xI g, 12, .inl fh)), (st, .inl (xI g, 24, .inl ft)), (so, .inl (xI g, 24, .inl fo)), (out, .inl (xJ g, 1, .inr (.inl of)))] s.heap.size = A at hD hU ⊢
  have hA : ∀ q : Nat, s.heap.size ≤ q → A q := fun q h => by rw [← hAe]; exact Or.inr h
  have hS : va_S A s.heap s.heap [] := va_S.rf
  have hl := lv_entry ([.ref h0, .int p0, .int p1, .ref out]) (n := 5) (Nat.le_of_ble_eq_true rfl)
  rw [lg_entry_eq]
  generalize (lg_sl ([.ref h0, .int p0, .int p1, .ref out]) ++ List.replicate (5 - (lg_sl ([.ref h0, .int p0, .int p1, .ref out])).length) Slot.unset).toArray = ls at hl ⊢
  have hl : lv_has ls 5 [(0, .ref h0), (1, .int p0), (2, .int p1), (3, .ref out)] := hl
  refine lv_aload_n hx hb dL_setRoom_0 rfl (lv_at hl 3 rfl) ?_
  refine lv_iconst (v := 0) hx hb dL_setRoom_1 (by decide) ?_
  refine lv_aload_n hx hb dL_setRoom_2 rfl (lv_at hl 0 rfl) ?_
  refine lv_iload_n hx hb dL_setRoom_3 rfl (lv_at hl 1 rfl) ?_
  refine lv_iload_n hx hb dL_setRoom_4 rfl (lv_at hl 2 rfl) ?_
  have hPc := hP.sub (ws' := [(h0, .inr (8, [f0, f1, f2, f3, f4, .ref rm, f6, f7, f8, f9, f10, f11, .ref ag, .ref yd, f14])), (rm, .inl (xI g, 16, .inl rf)), (ag, .inr (0, [a0, a1])), (yd, .inr (7, [y0, y1, y2, y3, .ref hg, y5, y6, y7, .ref st, .ref so, y10])), (hg, .inl (xI g, 12, .inl fh)), (st, .inl (xI g, 24, .inl ft)), (so, .inl (xI g, 24, .inl fo))]) [0, 1, 2, 3, 4, 5, 6] rfl
  have hDc := hD.sub (ws' := [(h0, .inr (8, [f0, f1, f2, f3, f4, .ref rm, f6, f7, f8, f9, f10, f11, .ref ag, .ref yd, f14])), (rm, .inl (xI g, 16, .inl rf)), (ag, .inr (0, [a0, a1])), (yd, .inr (7, [y0, y1, y2, y3, .ref hg, y5, y6, y7, .ref st, .ref so, y10])), (hg, .inl (xI g, 12, .inl fh)), (st, .inl (xI g, 24, .inl ft)), (so, .inl (xI g, 24, .inl fo))]) [0, 1, 2, 3, 4, 5, 6] (by decide) rfl
  have hFc := va_free (wc := [(h0, .inr (8, [f0, f1, f2, f3, f4, .ref rm, f6, f7, f8, f9, f10, f11, .ref ag, .ref yd, f14])), (rm, .inl (xI g, 16, .inl rf)), (ag, .inr (0, [a0, a1])), (yd, .inr (7, [y0, y1, y2, y3, .ref hg, y5, y6, y7, .ref st, .ref so, y10])), (hg, .inl (xI g, 12, .inl fh)), (st, .inl (xI g, 24, .inl ft)), (so, .inl (xI g, 24, .inl fo))]) hD hS hA [0, 1, 2, 3, 4, 5, 6] rfl
  refine vx_calli (vx_runV (As := [.int p0, .int p1]) (rest := [.int 0, .ref out]) ⟨hx, hb, hml, hown, hts⟩ (x2_setRoom l hfl g s.heap.size h0 rm ag yd hg st so f0 f1 f2 f3 f4 f6 f7 f8 f9 f10 f11 f14 a0 a1 y0 y1 y2 y3 y5 y6 y7 y10 fh ft fo rf p0 p1 (by first | assumption | decide | omega | simp_all)) (cwV 2 hts gL_setRoom_X8_setRoom rfl rfl rfl (by decide +kernel) ⟨Nat.le_of_ble_eq_true rfl, Nat.le_of_ble_eq_true rfl⟩) ⟨xBU.blind, va_recv hK hPc (ci := 8) (q0 := 0) rfl rfl, fun U9 hU9 hW9 => ⟨rfl, xB.mk hPc hK hDc hU9 hW9, hU.call hS hFc hU9 hW9⟩⟩ rfl rfl hl.1 rfl (lv_room (Nat.le_of_ble_eq_true rfl)) dL_setRoom_5 ⟨Nat.le_of_ble_eq_true rfl, Nat.le_of_ble_eq_true rfl⟩) hS (fun q _ h => hFc q h) hFc (fun q _ h => hFc q h) (fun E ce q9 ux t H1 locs1 ht hvm hpx hB hz1 hk1 hS hce hcv hcl => ?_) (fun r_1 u_2 t H1 locs ht hvm hw_3 hB hz1 hk1 hS => ?_)
  · rcases hB with ⟨rfl, hB⟩ | ⟨rfl, hB⟩
    · obtain ⟨hP, hD⟩ := xJoin0 (wr := [(out, .inl (xJ g, 1, .inr (.inl of)))]) hP hD [0, 1, 2, 3, 4, 5, 6] [7] rfl rfl (by decide) (by decide) hk1 hFc
      refine vx_catch (name := "java/lang/IndexOutOfBoundsException") hown [] ({ startPc := 0, endPc := 10, handlerPc := 13, catchType := 28 } : ExceptionTableEntry) [({ startPc := 0, endPc := 10, handlerPc := 17, catchType := 13 } : ExceptionTableEntry)] htbl (fun z hz => absurd hz List.not_mem_nil) rfl (by decide) (hts (.classLink RL 28 "java/lang/IndexOutOfBoundsException") (by decide +kernel)) (va_Nw.use rfl (hU.2.2.2.2.1 "java/lang/IndexOutOfBoundsException" (by decide))) hce hcv hcl ?_
      generalize H1 = H at hP hS ⊢
      generalize locs1 = locs at hS ⊢
      have hP : va_P (xD g) vwCl [(out, .inl (xJ g, 1, .inr (.inl of)))] H := hP
      have hD : va_D A [(out, .inl (xJ g, 1, .inr (.inl of)))] := hD
      refine W.widen (k := 2) (n := 12) (by omega) (by omega) ?_
      refine lv_astore (lv' := [(4, .ref q9), (0, .ref h0), (1, .int p0), (2, .int p1), (3, .ref out)]) hx hb dL_setRoom_13 hl (by decide) rfl (fun ls hl => ?_)
      refine lv_iconst (v := 1) hx hb dL_setRoom_15 (by decide) ?_
      refine vx_ret ?_
      have hP9 := hP.sub (ws' := [(out, .inl (xJ g, 1, .inr (.inl of)))]) [0] rfl
      have hD9 := hD.sub (ws' := [(out, .inl (xJ g, 1, .inr (.inl of)))]) [0] (by decide) rfl
      exact W.iret (v := 1) hx hb hr (fun t ht hW => ⟨⟨1, (of 0), rfl, Or.inr (Or.inl (⟨rfl, (by first | trivial | assumption | (refine ⟨?_, ?_⟩ <;> assumption) | exact hB | (simp only [Int32.lt_iff_toInt_lt, Int32.le_iff_toInt_le, Int32.reduceToInt] at *; omega))⟩)), ⟨of, (by rfl), by rw [ht]; exact hP9, va_K.moved hW.alike hK, hD9⟩⟩, hS.F ht⟩) hS.2.2 dL_setRoom_16
    · obtain ⟨hP, hD⟩ := xJoin0 (wr := [(out, .inl (xJ g, 1, .inr (.inl of)))]) hP hD [0, 1, 2, 3, 4, 5, 6] [7] rfl rfl (by decide) (by decide) hk1 hFc
      refine vx_catch (name := "java/lang/IllegalArgumentException") hown [({ startPc := 0, endPc := 10, handlerPc := 13, catchType := 28 } : ExceptionTableEntry)] ({ startPc := 0, endPc := 10, handlerPc := 17, catchType := 13 } : ExceptionTableEntry) [] htbl (fun z hz => by obtain rfl := List.mem_singleton.mp hz; exact Or.inr ⟨by decide, "java/lang/IndexOutOfBoundsException", (hts (.classLink RL 28 "java/lang/IndexOutOfBoundsException") (by decide +kernel)), hU.2.2.2.2.2 ("java/lang/IllegalArgumentException", "java/lang/IndexOutOfBoundsException") (by decide)⟩) rfl (by decide) (hts (.classLink RL 13 "java/lang/IllegalArgumentException") (by decide +kernel)) (va_Nw.use rfl (hU.2.2.2.2.1 "java/lang/IllegalArgumentException" (by decide))) hce hcv hcl ?_
      generalize H1 = H at hP hS ⊢
      generalize locs1 = locs at hS ⊢
      have hP : va_P (xD g) vwCl [(out, .inl (xJ g, 1, .inr (.inl of)))] H := hP
      have hD : va_D A [(out, .inl (xJ g, 1, .inr (.inl of)))] := hD
      refine W.widen (k := 2) (n := 12) (by omega) (by omega) ?_
      refine lv_astore (lv' := [(4, .ref q9), (0, .ref h0), (1, .int p0), (2, .int p1), (3, .ref out)]) hx hb dL_setRoom_17 hl (by decide) rfl (fun ls hl => ?_)
      refine lv_iconst (v := 2) hx hb dL_setRoom_19 (by decide) ?_
      refine vx_ret ?_
      have hP9 := hP.sub (ws' := [(out, .inl (xJ g, 1, .inr (.inl of)))]) [0] rfl
      have hD9 := hD.sub (ws' := [(out, .inl (xJ g, 1, .inr (.inl of)))]) [0] (by decide) rfl
      exact W.iret (v := 2) hx hb hr (fun t ht hW => ⟨⟨2, (of 0), rfl, Or.inr (Or.inr (⟨rfl, (by first | trivial | assumption | (refine ⟨?_, ?_⟩ <;> assumption) | exact hB | (simp only [Int32.lt_iff_toInt_lt, Int32.le_iff_toInt_le, Int32.reduceToInt] at *; omega))⟩)), ⟨of, (by rfl), by rw [ht]; exact hP9, va_K.moved hW.alike hK, hD9⟩⟩, hS.F ht⟩) hS.2.2 dL_setRoom_20
  · obtain ⟨hP, hD⟩ := xJoin0 (wr := [(out, .inl (xJ g, 1, .inr (.inl of)))]) hP hD [0, 1, 2, 3, 4, 5, 6] [7] rfl rfl (by decide) (by decide) hk1 hFc
    generalize H1 = H at hP hS ⊢
    have hP : va_P (xD g) vwCl [(out, .inl (xJ g, 1, .inr (.inl of)))] H := hP
    have hD : va_D A [(out, .inl (xJ g, 1, .inr (.inl of)))] := hD
    refine W.widen (k := 2) (n := 12) (by omega) (by omega) ?_
    try dsimp only at hw_3
    obtain ⟨rfl, c_4⟩ := hw_3
    refine lv_i2l (v := 2) hx hb dL_setRoom_8 (by decide) ?_
    refine va_last (x := 2) hx hb hK hP hD hS 0 4 rfl rfl (by unfold vp_in; decide) dL_setRoom_9 (fun H locs hP hD hS => ?_)
    have hP : va_P (xD g) vwCl [(out, .inl (xJ g, 1, .inr (.inl (vp_updL of (0 : Int32).toNatClampNeg 2))))] H := hP
    have hD : va_D A [(out, .inl (xJ g, 1, .inr (.inl (vp_updL of (0 : Int32).toNatClampNeg 2))))] := hD
    refine lv_goto (tgt := 21) hx hb dL_setRoom_10 (by decide) ?_
    refine lv_iconst (v := 0) hx hb dL_setRoom_21 (by decide) ?_
    refine vx_ret ?_
    have hP9 := hP.sub (ws' := [(out, .inl (xJ g, 1, .inr (.inl (vp_updL of (0 : Int32).toNatClampNeg 2))))]) [0] rfl
    have hD9 := hD.sub (ws' := [(out, .inl (xJ g, 1, .inr (.inl (vp_updL of (0 : Int32).toNatClampNeg 2))))]) [0] (by decide) rfl
    exact W.iret (v := 0) hx hb hr (fun t ht hW => ⟨⟨0, 2, rfl, Or.inl (⟨rfl, rfl, (by first | trivial | assumption | (refine ⟨?_, ?_⟩ <;> assumption) | exact hB | (simp only [Int32.lt_iff_toInt_lt, Int32.le_iff_toInt_le, Int32.reduceToInt] at *; omega))⟩), ⟨(vp_updL of (0 : Int32).toNatClampNeg 2), (by rfl), by rw [ht]; exact hP9, va_K.moved hW.alike hK, hD9⟩⟩, hS.F ht⟩) hS.2.2 dL_setRoom_22
theorem dL_addStack_0 : decode cL_addStack 0 = .ok (.aload_n 2, 1) := by decide +kernel
theorem dL_addStack_1 : decode cL_addStack 1 = .ok (.iconst 0, 1) := by decide +kernel
theorem dL_addStack_2 : decode cL_addStack 2 = .ok (.aload_n 0, 1) := by decide +kernel
theorem dL_addStack_3 : decode cL_addStack 3 = .ok (.iload_n 1, 1) := by decide +kernel
theorem dL_addStack_4 : decode cL_addStack 4 = .ok (.invokevirtual 41, 3) := by decide +kernel
set_option maxRecDepth 20000 in
theorem ggL_addStack_X8_addStack : GoodIn wsL_addStack wsX8_addStack := goodIn_ca (goodIn_ca (goodIn_r _ [7, 8, 9, 10, 11, 12, 13, 14, 6, 15, 16, 17, 18, 19, 20, 21, 22, 23, 24, 25, 26, 27, 28, 29, 30, 31, 32, 33, 34, 35, 36, 37, 38, 39, 40, 41, 42, 43, 44, 45, 46, 47, 48, 49, 50, 51, 52, 53, 54, 55, 56, 57] rfl (by decide +kernel)) (goodIn_sub (fun _ h => List.mem_cons_of_mem _ (List.mem_append_left _ (List.mem_append_right _ h))) (by decide +kernel))) (goodIn_sub (fun _ h => List.mem_cons_of_mem _ (List.mem_append_right _ h)) (by decide +kernel))
set_option maxRecDepth 20000 in
theorem gL_addStack_X8_addStack : GoodIn wsL_addStack (wsV RL 41 RX8 yX8_addStack wsX8_addStack) := goodIn_app (goodIn_of _ (by decide +kernel)) ggL_addStack_X8_addStack
theorem dL_addStack_12 : decode cL_addStack 12 = .ok (.astore_n 3, 1) := by decide +kernel
theorem dL_addStack_13 : decode cL_addStack 13 = .ok (.iconst 1, 1) := by decide +kernel
theorem dL_addStack_14 : decode cL_addStack 14 = .ok (.ireturn, 1) := by decide +kernel
theorem dL_addStack_7 : decode cL_addStack 7 = .ok (.i2l, 1) := by decide +kernel
theorem dL_addStack_8 : decode cL_addStack 8 = .ok (.lastore, 1) := by decide +kernel
theorem dL_addStack_9 : decode cL_addStack 9 = .ok (.goto 9, 3) := by decide +kernel
theorem dL_addStack_18 : decode cL_addStack 18 = .ok (.iconst 0, 1) := by decide +kernel
theorem dL_addStack_19 : decode cL_addStack 19 = .ok (.ireturn, 1) := by decide +kernel
set_option maxHeartbeats 4000000 in
set_option maxRecDepth 100000 in
theorem l_addStack (l : Launch) (hfl : l.stackTraces = false) (g : xG) (sz : Nat) (h0 : Nat) (lm : Nat) (yd : Nat) (hg : Nat) (st : Nat) (so : Nat) (f0 : Value) (f1 : Value) (f2 : Value) (f3 : Value) (f4 : Value) (f5 : Value) (f6 : Value) (f7 : Value) (f8 : Value) (f9 : Value) (f10 : Value) (f11 : Value) (f12 : Value) (f14 : Value) (y1 : Value) (y2 : Value) (y5 : Value) (y6 : Value) (y7 : Value) (y10 : Value) (fh : Nat → Int32) (ft : Nat → Int32) (fo : Nat → Int32) (fl : Nat → Int32) (p0 : Int32) (out : Nat) (of : Nat → Int64)  : vx_Met l yL_addStack wsL_addStack ({ frames := 8, cells := 1, slots := 6, locals := 163 }) (va_Pc [.ref h0, .int p0, .ref out] (fun U => xB g [(h0, .inr (8, [f0, f1, f2, f3, f4, f5, f6, f7, f8, f9, f10, f11, f12, .ref yd, f14])), (yd, .inr (7, [.int 0, y1, y2, .ref lm, .ref hg, y5, y6, y7, .ref st, .ref so, y10])), (lm, .inl (xI g, 12, .inl fl)), (hg, .inl (xI g, 12, .inl fh)), (st, .inl (xI g, 24, .inl ft)), (so, .inl (xI g, 24, .inl fo)), (out, .inl (xJ g, 1, .inr (.inl of)))] sz U ∧ xU (va_A [(h0, .inr (8, [f0, f1, f2, f3, f4, f5, f6, f7, f8, f9, f10, f11, f12, .ref yd, f14])), (yd, .inr (7, [.int 0, y1, y2, .ref lm, .ref hg, y5, y6, y7, .ref st, .ref so, y10])), (lm, .inl (xI g, 12, .inl fl)), (hg, .inl (xI g, 12, .inl fh)), (st, .inl (xI g, 24, .inl ft)), (so, .inl (xI g, 24, .inl fo)), (out, .inl (xJ g, 1, .inr (.inl of)))] sz) U)) (va_Qi (fun (r : Int32) (u : Int64) => (r = 0 ∧ u = 0 ∧ (¬ p0 < 1 ∧ ¬ 5 < p0)) ∨ (r = 1 ∧ (p0 < 1 ∨ 5 < p0))) (fun (u : Int64) (t : State) => ∃ (of1 : Nat → Int64), of1 0 = u ∧ xE g [(out, .inl (xJ g, 1, .inr (.inl of1)))] (va_A [(h0, .inr (8, [f0, f1, f2, f3, f4, f5, f6, f7, f8, f9, f10, f11, f12, .ref yd, f14])), (yd, .inr (7, [.int 0, y1, y2, .ref lm, .ref hg, y5, y6, y7, .ref st, .ref so, y10])), (lm, .inl (xI g, 12, .inl fl)), (hg, .inl (xI g, 12, .inl fh)), (st, .inl (xI g, 24, .inl ft)), (so, .inl (xI g, 24, .inl fo)), (out, .inl (xJ g, 1, .inr (.inl of)))] sz) t) (va_A [(h0, .inr (8, [f0, f1, f2, f3, f4, f5, f6, f7, f8, f9, f10, f11, f12, .ref yd, f14])), (yd, .inr (7, [.int 0, y1, y2, .ref lm, .ref hg, y5, y6, y7, .ref st, .ref so, y10])), (lm, .inl (xI g, 12, .inl fl)), (hg, .inl (xI g, 12, .inl fh)), (st, .inl (xI g, 24, .inl ft)), (so, .inl (xI g, 24, .inl fo)), (out, .inl (xJ g, 1, .inr (.inl of)))] sz)) (vx_X (fun _ : Unit => True) (fun E _ _ => False) (va_A [(h0, .inr (8, [f0, f1, f2, f3, f4, f5, f6, f7, f8, f9, f10, f11, f12, .ref yd, f14])), (yd, .inr (7, [.int 0, y1, y2, .ref lm, .ref hg, y5, y6, y7, .ref st, .ref so, y10])), (lm, .inl (xI g, 12, .inl fl)), (hg, .inl (xI g, 12, .inl fh)), (st, .inl (xI g, 24, .inl ft)), (so, .inl (xI g, 24, .inl fo)), (out, .inl (xJ g, 1, .inr (.inl of)))] sz)) 1 6 (va_A [(h0, .inr (8, [f0, f1, f2, f3, f4, f5, f6, f7, f8, f9, f10, f11, f12, .ref yd, f14])), (yd, .inr (7, [.int 0, y1, y2, .ref lm, .ref hg, y5, y6, y7, .ref st, .ref so, y10])), (lm, .inl (xI g, 12, .inl fl)), (hg, .inl (xI g, 12, .inl fh)), (st, .inl (xI g, 24, .inl ft)), (so, .inl (xI g, 24, .inl fo)), (out, .inl (xJ g, 1, .inr (.inl of)))] sz) := by
  refine vx_ofWH (hh := [(0, 9, 12, 13), (0, 9, 15, 22)]) (cc := cL_addStack) (maxL := 4) (ret := (some .int)) (by decide) rfl ?_
  intro p e s m args below meth c s₁ B hml hv
  obtain ⟨rfl, ⟨hsz, hP, hK, hD0⟩, hU⟩ := hv
  have hx := B.exec
  have hb := B.bytes
  have hr := B.returns
  have hts := atoms_spec (ws := wsL_addStack) B.pre
  have hown : s.vm.findClass RL = some m.cls := findClass_of_methodNamed B.named
  have hlocks := B.notSynchronized
  have htbl := vx_table (x := yL_addStack) B (hts (.codeWith yL_addStack cL_addStack 4 (some .int) [(0, 9, 12, 13), (0, 9, 15, 22)]) List.mem_cons_self)
  subst hsz
  have hD := hD0.self (sz := s.heap.size)
  generalize hAe : va_A [(h0, .inr (8, [f0, f1, f2, f3, f4, f5, f6, f7, f8, f9, f10, f11, f12, .ref yd, f14])), (yd, .inr (7, [.int 0, y1, y2, .ref lm, .ref hg, y5, y6, y7, .ref st, .ref so, y10])), (lm, .inl (xI g, 12, .inl fl)), (hg, .inl (xI g, 12, .inl fh)), (st, .inl (xI g, 24, .inl ft)), (so, .inl (xI g, 24, .inl fo)), (out, .inl (xJ g, 1, .inr (.inl of)))] s.heap.size = A at hD hU ⊢
  have hA : ∀ q : Nat, s.heap.size ≤ q → A q := fun q h => by rw [← hAe]; exact Or.inr h
  have hS : va_S A s.heap s.heap [] := va_S.rf
  have hl := lv_entry ([.ref h0, .int p0, .ref out]) (n := 4) (Nat.le_of_ble_eq_true rfl)
  rw [lg_entry_eq]
  generalize (lg_sl ([.ref h0, .int p0, .ref out]) ++ List.replicate (4 - (lg_sl ([.ref h0, .int p0, .ref out])).length) Slot.unset).toArray = ls at hl ⊢
  have hl : lv_has ls 4 [(0, .ref h0), (1, .int p0), (2, .ref out)] := hl
  refine lv_aload_n hx hb dL_addStack_0 rfl (lv_at hl 2 rfl) ?_
  refine lv_iconst (v := 0) hx hb dL_addStack_1 (by decide) ?_
  refine lv_aload_n hx hb dL_addStack_2 rfl (lv_at hl 0 rfl) ?_
  refine lv_iload_n hx hb dL_addStack_3 rfl (lv_at hl 1 rfl) ?_
  have hPc := hP.sub (ws' := [(h0, .inr (8, [f0, f1, f2, f3, f4, f5, f6, f7, f8, f9, f10, f11, f12, .ref yd, f14])), (yd, .inr (7, [.int 0, y1, y2, .ref lm, .ref hg, y5, y6, y7, .ref st, .ref so, y10])), (lm, .inl (xI g, 12, .inl fl)), (hg, .inl (xI g, 12, .inl fh)), (st, .inl (xI g, 24, .inl ft)), (so, .inl (xI g, 24, .inl fo))]) [0, 1, 2, 3, 4, 5] rfl
  have hDc := hD.sub (ws' := [(h0, .inr (8, [f0, f1, f2, f3, f4, f5, f6, f7, f8, f9, f10, f11, f12, .ref yd, f14])), (yd, .inr (7, [.int 0, y1, y2, .ref lm, .ref hg, y5, y6, y7, .ref st, .ref so, y10])), (lm, .inl (xI g, 12, .inl fl)), (hg, .inl (xI g, 12, .inl fh)), (st, .inl (xI g, 24, .inl ft)), (so, .inl (xI g, 24, .inl fo))]) [0, 1, 2, 3, 4, 5] (by decide) rfl
  have hFc := va_free (wc := [(h0, .inr (8, [f0, f1, f2, f3, f4, f5, f6, f7, f8, f9, f10, f11, f12, .ref yd, f14])), (yd, .inr (7, [.int 0, y1, y2, .ref lm, .ref hg, y5, y6, y7, .ref st, .ref so, y10])), (lm, .inl (xI g, 12, .inl fl)), (hg, .inl (xI g, 12, .inl fh)), (st, .inl (xI g, 24, .inl ft)), (so, .inl (xI g, 24, .inl fo))]) hD hS hA [0, 1, 2, 3, 4, 5] rfl
  refine vx_calli (vx_runV (As := [.int p0]) (rest := [.int 0, .ref out]) ⟨hx, hb, hml, hown, hts⟩ (x0_addStack l hfl g s.heap.size h0 lm yd hg st so f0 f1 f2 f3 f4 f5 f6 f7 f8 f9 f10 f11 f12 f14 y1 y2 y5 y6 y7 y10 fh ft fo fl p0) (cwV 1 hts gL_addStack_X8_addStack rfl rfl rfl (by decide +kernel) ⟨Nat.le_of_ble_eq_true rfl, Nat.le_of_ble_eq_true rfl⟩) ⟨xBU.blind, va_recv hK hPc (ci := 8) (q0 := 0) rfl rfl, fun U9 hU9 hW9 => ⟨rfl, xB.mk hPc hK hDc hU9 hW9, hU.call hS hFc hU9 hW9⟩⟩ rfl rfl hl.1 rfl (lv_room (Nat.le_of_ble_eq_true rfl)) dL_addStack_4 ⟨Nat.le_of_ble_eq_true rfl, Nat.le_of_ble_eq_true rfl⟩) hS (fun q _ h => hFc q h) hFc (fun q _ h => hFc q h) (fun E ce q9 ux t H1 locs1 ht hvm hpx hB hz1 hk1 hS hce hcv hcl => ?_) (fun r_1 u_2 t H1 locs ht hvm hw_3 hB hz1 hk1 hS => ?_)
  · obtain ⟨rfl, hB⟩ := hB
    obtain ⟨hP, hD⟩ := xJoin0 (wr := [(out, .inl (xJ g, 1, .inr (.inl of)))]) hP hD [0, 1, 2, 3, 4, 5] [6] rfl rfl (by decide) (by decide) hk1 hFc
    refine vx_catch (name := "java/lang/IllegalArgumentException") hown [] ({ startPc := 0, endPc := 9, handlerPc := 12, catchType := 13 } : ExceptionTableEntry) [({ startPc := 0, endPc := 9, handlerPc := 15, catchType := 22 } : ExceptionTableEntry)] htbl (fun z hz => absurd hz List.not_mem_nil) rfl (by decide) (hts (.classLink RL 13 "java/lang/IllegalArgumentException") (by decide +kernel)) (va_Nw.use rfl (hU.2.2.2.2.1 "java/lang/IllegalArgumentException" (by decide))) hce hcv hcl ?_
    generalize H1 = H at hP hS ⊢
    generalize locs1 = locs at hS ⊢
    have hP : va_P (xD g) vwCl [(out, .inl (xJ g, 1, .inr (.inl of)))] H := hP
    have hD : va_D A [(out, .inl (xJ g, 1, .inr (.inl of)))] := hD
    refine W.widen (k := 1) (n := 6) (by omega) (by omega) ?_
    refine lv_astore_n (lv' := [(3, .ref q9), (0, .ref h0), (1, .int p0), (2, .ref out)]) hx hb dL_addStack_12 rfl hl (by decide) rfl (fun ls hl => ?_)
    refine lv_iconst (v := 1) hx hb dL_addStack_13 (by decide) ?_
    refine vx_ret ?_
    have hP9 := hP.sub (ws' := [(out, .inl (xJ g, 1, .inr (.inl of)))]) [0] rfl
    have hD9 := hD.sub (ws' := [(out, .inl (xJ g, 1, .inr (.inl of)))]) [0] (by decide) rfl
    exact W.iret (v := 1) hx hb hr (fun t ht hW => ⟨⟨1, (of 0), rfl, Or.inr (⟨rfl, (by first | trivial | assumption | (refine ⟨?_, ?_⟩ <;> assumption) | exact hB | (simp only [Int32.lt_iff_toInt_lt, Int32.le_iff_toInt_le, Int32.reduceToInt] at *; omega))⟩), ⟨of, (by rfl), by rw [ht]; exact hP9, va_K.moved hW.alike hK, hD9⟩⟩, hS.F ht⟩) hS.2.2 dL_addStack_14
  · obtain ⟨hP, hD⟩ := xJoin0 (wr := [(out, .inl (xJ g, 1, .inr (.inl of)))]) hP hD [0, 1, 2, 3, 4, 5] [6] rfl rfl (by decide) (by decide) hk1 hFc
    generalize H1 = H at hP hS ⊢
    have hP : va_P (xD g) vwCl [(out, .inl (xJ g, 1, .inr (.inl of)))] H := hP
    have hD : va_D A [(out, .inl (xJ g, 1, .inr (.inl of)))] := hD
    refine W.widen (k := 1) (n := 6) (by omega) (by omega) ?_
    try dsimp only at hw_3
    obtain ⟨rfl, c_4⟩ := hw_3
    refine lv_i2l (v := 0) hx hb dL_addStack_7 (by decide) ?_
    refine va_last (x := 0) hx hb hK hP hD hS 0 4 rfl rfl (by unfold vp_in; decide) dL_addStack_8 (fun H locs hP hD hS => ?_)
    have hP : va_P (xD g) vwCl [(out, .inl (xJ g, 1, .inr (.inl (vp_updL of (0 : Int32).toNatClampNeg 0))))] H := hP
    have hD : va_D A [(out, .inl (xJ g, 1, .inr (.inl (vp_updL of (0 : Int32).toNatClampNeg 0))))] := hD
    refine lv_goto (tgt := 18) hx hb dL_addStack_9 (by decide) ?_
    refine lv_iconst (v := 0) hx hb dL_addStack_18 (by decide) ?_
    refine vx_ret ?_
    have hP9 := hP.sub (ws' := [(out, .inl (xJ g, 1, .inr (.inl (vp_updL of (0 : Int32).toNatClampNeg 0))))]) [0] rfl
    have hD9 := hD.sub (ws' := [(out, .inl (xJ g, 1, .inr (.inl (vp_updL of (0 : Int32).toNatClampNeg 0))))]) [0] (by decide) rfl
    exact W.iret (v := 0) hx hb hr (fun t ht hW => ⟨⟨0, 0, rfl, Or.inl (⟨rfl, rfl, (by first | trivial | assumption | (refine ⟨?_, ?_⟩ <;> assumption) | exact hB | (simp only [Int32.lt_iff_toInt_lt, Int32.le_iff_toInt_le, Int32.reduceToInt] at *; omega))⟩), ⟨(vp_updL of (0 : Int32).toNatClampNeg 0), (by rfl), by rw [ht]; exact hP9, va_K.moved hW.alike hK, hD9⟩⟩, hS.F ht⟩) hS.2.2 dL_addStack_19
theorem dL_tidy_0 : decode cL_tidy 0 = .ok (.aload_n 2, 1) := by decide +kernel
theorem dL_tidy_1 : decode cL_tidy 1 = .ok (.iconst 0, 1) := by decide +kernel
theorem dL_tidy_2 : decode cL_tidy 2 = .ok (.aload_n 0, 1) := by decide +kernel
theorem dL_tidy_3 : decode cL_tidy 3 = .ok (.iload_n 1, 1) := by decide +kernel
theorem dL_tidy_4 : decode cL_tidy 4 = .ok (.invokevirtual 134, 3) := by decide +kernel
set_option maxRecDepth 20000 in
theorem ggL_tidy_X8_tidy : GoodIn wsL_tidy wsX8_tidy := goodIn_ca (goodIn_r _ [6, 7, 8, 9, 5, 10, 11, 12, 13, 14, 15, 16, 17, 18, 19, 20, 21, 22, 23, 24, 25, 26, 27, 28, 29, 30, 31, 32, 33, 34, 35, 36, 37, 38, 39, 40, 41, 42, 43, 44, 45, 46, 47, 48, 49, 50, 51, 52, 53, 54, 55, 56, 57, 58, 59, 60, 61, 62, 63, 64, 65, 66, 67, 68, 69, 70, 71, 72, 73, 74, 75, 76, 77, 78, 79, 80, 81, 82, 83, 84, 85, 86, 87] rfl (by decide +kernel)) (goodIn_sub (fun _ h => List.mem_cons_of_mem _ (List.mem_append_right _ h)) (by decide +kernel))
set_option maxRecDepth 20000 in
theorem gL_tidy_X8_tidy : GoodIn wsL_tidy (wsV RL 134 RX8 yX8_tidy wsX8_tidy) := goodIn_app (goodIn_of _ (by decide +kernel)) ggL_tidy_X8_tidy
theorem dL_tidy_12 : decode cL_tidy 12 = .ok (.astore_n 3, 1) := by decide +kernel
theorem dL_tidy_13 : decode cL_tidy 13 = .ok (.iconst 1, 1) := by decide +kernel
theorem dL_tidy_14 : decode cL_tidy 14 = .ok (.ireturn, 1) := by decide +kernel
theorem dL_tidy_7 : decode cL_tidy 7 = .ok (.i2l, 1) := by decide +kernel
theorem dL_tidy_8 : decode cL_tidy 8 = .ok (.lastore, 1) := by decide +kernel
theorem dL_tidy_9 : decode cL_tidy 9 = .ok (.goto 6, 3) := by decide +kernel
theorem dL_tidy_15 : decode cL_tidy 15 = .ok (.iconst 0, 1) := by decide +kernel
theorem dL_tidy_16 : decode cL_tidy 16 = .ok (.ireturn, 1) := by decide +kernel
set_option maxHeartbeats 4000000 in
set_option maxRecDepth 100000 in
theorem l_tidy (l : Launch) (hfl : l.stackTraces = false) (g : xG) (sz : Nat) (h0 : Nat) (yd : Nat) (f0 : Value) (f1 : Value) (f2 : Value) (f3 : Value) (f4 : Value) (f5 : Value) (f6 : Value) (f7 : Value) (f8 : Value) (f9 : Value) (f10 : Value) (f11 : Value) (f12 : Value) (f14 : Value) (y2 : Value) (y3 : Value) (y4 : Value) (y5 : Value) (y6 : Value) (y7 : Value) (y8 : Value) (y9 : Value) (y10 : Value) (rc : Int32) (p0 : Int32) (out : Nat) (of : Nat → Int64)  : vx_Met l yL_tidy wsL_tidy ({ frames := 9, cells := 1, slots := 6, locals := 206 }) (va_Pc [.ref h0, .int p0, .ref out] (fun U => xB g [(h0, .inr (8, [f0, f1, f2, f3, f4, f5, f6, f7, f8, f9, f10, f11, f12, .ref yd, f14])), (yd, .inr (7, [.int 0, .int rc, y2, y3, y4, y5, y6, y7, y8, y9, y10])), (out, .inl (xJ g, 1, .inr (.inl of)))] sz U ∧ xU (va_A [(h0, .inr (8, [f0, f1, f2, f3, f4, f5, f6, f7, f8, f9, f10, f11, f12, .ref yd, f14])), (yd, .inr (7, [.int 0, .int rc, y2, y3, y4, y5, y6, y7, y8, y9, y10])), (out, .inl (xJ g, 1, .inr (.inl of)))] sz) U)) (va_Qi (fun (r : Int32) (u : Int64) => (r = 0 ∧ u = 0 ∧ (¬ p0 < 0)) ∨ (r = 1 ∧ p0 < 0)) (fun (u : Int64) (t : State) => ∃ (of1 : Nat → Int64), of1 0 = u ∧ xE g [(out, .inl (xJ g, 1, .inr (.inl of1)))] (va_A [(h0, .inr (8, [f0, f1, f2, f3, f4, f5, f6, f7, f8, f9, f10, f11, f12, .ref yd, f14])), (yd, .inr (7, [.int 0, .int rc, y2, y3, y4, y5, y6, y7, y8, y9, y10])), (out, .inl (xJ g, 1, .inr (.inl of)))] sz) t) (va_A [(h0, .inr (8, [f0, f1, f2, f3, f4, f5, f6, f7, f8, f9, f10, f11, f12, .ref yd, f14])), (yd, .inr (7, [.int 0, .int rc, y2, y3, y4, y5, y6, y7, y8, y9, y10])), (out, .inl (xJ g, 1, .inr (.inl of)))] sz)) (vx_X (fun _ : Unit => True) (fun E _ _ => False) (va_A [(h0, .inr (8, [f0, f1, f2, f3, f4, f5, f6, f7, f8, f9, f10, f11, f12, .ref yd, f14])), (yd, .inr (7, [.int 0, .int rc, y2, y3, y4, y5, y6, y7, y8, y9, y10])), (out, .inl (xJ g, 1, .inr (.inl of)))] sz)) 1 6 (va_A [(h0, .inr (8, [f0, f1, f2, f3, f4, f5, f6, f7, f8, f9, f10, f11, f12, .ref yd, f14])), (yd, .inr (7, [.int 0, .int rc, y2, y3, y4, y5, y6, y7, y8, y9, y10])), (out, .inl (xJ g, 1, .inr (.inl of)))] sz) := by
  refine vx_ofWH (hh := [(0, 9, 12, 13)]) (cc := cL_tidy) (maxL := 4) (ret := (some .int)) (by decide) rfl ?_
  intro p e s m args below meth c s₁ B hml hv
  obtain ⟨rfl, ⟨hsz, hP, hK, hD0⟩, hU⟩ := hv
  have hx := B.exec
  have hb := B.bytes
  have hr := B.returns
  have hts := atoms_spec (ws := wsL_tidy) B.pre
  have hown : s.vm.findClass RL = some m.cls := findClass_of_methodNamed B.named
  have hlocks := B.notSynchronized
  have htbl := vx_table (x := yL_tidy) B (hts (.codeWith yL_tidy cL_tidy 4 (some .int) [(0, 9, 12, 13)]) List.mem_cons_self)
  subst hsz
  have hD := hD0.self (sz := s.heap.size)
  generalize hAe : va_A [(h0, .inr (8, [f0, f1, f2, f3, f4, f5, f6, f7, f8, f9, f10, f11, f12, .ref yd, f14])), (yd, .inr (7, [.int 0, .int rc, y2, y3, y4, y5, y6, y7, y8, y9, y10])), (out, .inl (xJ g, 1, .inr (.inl of)))] s.heap.size = A at hD hU ⊢
  have hA : ∀ q : Nat, s.heap.size ≤ q → A q := fun q h => by rw [← hAe]; exact Or.inr h
  have hS : va_S A s.heap s.heap [] := va_S.rf
  have hl := lv_entry ([.ref h0, .int p0, .ref out]) (n := 4) (Nat.le_of_ble_eq_true rfl)
  rw [lg_entry_eq]
  generalize (lg_sl ([.ref h0, .int p0, .ref out]) ++ List.replicate (4 - (lg_sl ([.ref h0, .int p0, .ref out])).length) Slot.unset).toArray = ls at hl ⊢
  have hl : lv_has ls 4 [(0, .ref h0), (1, .int p0), (2, .ref out)] := hl
  refine lv_aload_n hx hb dL_tidy_0 rfl (lv_at hl 2 rfl) ?_
  refine lv_iconst (v := 0) hx hb dL_tidy_1 (by decide) ?_
  refine lv_aload_n hx hb dL_tidy_2 rfl (lv_at hl 0 rfl) ?_
  refine lv_iload_n hx hb dL_tidy_3 rfl (lv_at hl 1 rfl) ?_
  have hPc := hP.sub (ws' := [(h0, .inr (8, [f0, f1, f2, f3, f4, f5, f6, f7, f8, f9, f10, f11, f12, .ref yd, f14])), (yd, .inr (7, [.int 0, .int rc, y2, y3, y4, y5, y6, y7, y8, y9, y10]))]) [0, 1] rfl
  have hDc := hD.sub (ws' := [(h0, .inr (8, [f0, f1, f2, f3, f4, f5, f6, f7, f8, f9, f10, f11, f12, .ref yd, f14])), (yd, .inr (7, [.int 0, .int rc, y2, y3, y4, y5, y6, y7, y8, y9, y10]))]) [0, 1] (by decide) rfl
  have hFc := va_free (wc := [(h0, .inr (8, [f0, f1, f2, f3, f4, f5, f6, f7, f8, f9, f10, f11, f12, .ref yd, f14])), (yd, .inr (7, [.int 0, .int rc, y2, y3, y4, y5, y6, y7, y8, y9, y10]))]) hD hS hA [0, 1] rfl
  refine vx_calli (vx_runV (As := [.int p0]) (rest := [.int 0, .ref out]) ⟨hx, hb, hml, hown, hts⟩ (x0_tidy l hfl g s.heap.size h0 yd f0 f1 f2 f3 f4 f5 f6 f7 f8 f9 f10 f11 f12 f14 y2 y3 y4 y5 y6 y7 y8 y9 y10 rc p0) (cwV 1 hts gL_tidy_X8_tidy rfl rfl rfl (by decide +kernel) ⟨Nat.le_of_ble_eq_true rfl, Nat.le_of_ble_eq_true rfl⟩) ⟨xBU.blind, va_recv hK hPc (ci := 8) (q0 := 0) rfl rfl, fun U9 hU9 hW9 => ⟨rfl, xB.mk hPc hK hDc hU9 hW9, hU.call hS hFc hU9 hW9⟩⟩ rfl rfl hl.1 rfl (lv_room (Nat.le_of_ble_eq_true rfl)) dL_tidy_4 ⟨Nat.le_of_ble_eq_true rfl, Nat.le_of_ble_eq_true rfl⟩) hS (fun q _ h => hFc q h) hFc (fun q _ h => hFc q h) (fun E ce q9 ux t H1 locs1 ht hvm hpx hB hz1 hk1 hS hce hcv hcl => ?_) (fun r_1 u_2 t H1 locs ht hvm hw_3 hB hz1 hk1 hS => ?_)
  · obtain ⟨rfl, hB⟩ := hB
    obtain ⟨hP, hD⟩ := xJoin0 (wr := [(out, .inl (xJ g, 1, .inr (.inl of)))]) hP hD [0, 1] [2] rfl rfl (by decide) (by decide) hk1 hFc
    refine vx_catch (name := "java/lang/IllegalArgumentException") hown [] ({ startPc := 0, endPc := 9, handlerPc := 12, catchType := 13 } : ExceptionTableEntry) [] htbl (fun z hz => absurd hz List.not_mem_nil) rfl (by decide) (hts (.classLink RL 13 "java/lang/IllegalArgumentException") (by decide +kernel)) (va_Nw.use rfl (hU.2.2.2.2.1 "java/lang/IllegalArgumentException" (by decide))) hce hcv hcl ?_
    generalize H1 = H at hP hS ⊢
    generalize locs1 = locs at hS ⊢
    have hP : va_P (xD g) vwCl [(out, .inl (xJ g, 1, .inr (.inl of)))] H := hP
    have hD : va_D A [(out, .inl (xJ g, 1, .inr (.inl of)))] := hD
    refine W.widen (k := 1) (n := 6) (by omega) (by omega) ?_
    refine lv_astore_n (lv' := [(3, .ref q9), (0, .ref h0), (1, .int p0), (2, .ref out)]) hx hb dL_tidy_12 rfl hl (by decide) rfl (fun ls hl => ?_)
    refine lv_iconst (v := 1) hx hb dL_tidy_13 (by decide) ?_
    refine vx_ret ?_
    have hP9 := hP.sub (ws' := [(out, .inl (xJ g, 1, .inr (.inl of)))]) [0] rfl
    have hD9 := hD.sub (ws' := [(out, .inl (xJ g, 1, .inr (.inl of)))]) [0] (by decide) rfl
    exact W.iret (v := 1) hx hb hr (fun t ht hW => ⟨⟨1, (of 0), rfl, Or.inr (⟨rfl, (by first | trivial | assumption | (refine ⟨?_, ?_⟩ <;> assumption) | exact hB | (simp only [Int32.lt_iff_toInt_lt, Int32.le_iff_toInt_le, Int32.reduceToInt] at *; omega))⟩), ⟨of, (by rfl), by rw [ht]; exact hP9, va_K.moved hW.alike hK, hD9⟩⟩, hS.F ht⟩) hS.2.2 dL_tidy_14
  · obtain ⟨hP, hD⟩ := xJoin0 (wr := [(out, .inl (xJ g, 1, .inr (.inl of)))]) hP hD [0, 1] [2] rfl rfl (by decide) (by decide) hk1 hFc
    generalize H1 = H at hP hS ⊢
    have hP : va_P (xD g) vwCl [(out, .inl (xJ g, 1, .inr (.inl of)))] H := hP
    have hD : va_D A [(out, .inl (xJ g, 1, .inr (.inl of)))] := hD
    refine W.widen (k := 1) (n := 6) (by omega) (by omega) ?_
    try dsimp only at hw_3
    obtain ⟨rfl, c_4⟩ := hw_3
    refine lv_i2l (v := 0) hx hb dL_tidy_7 (by decide) ?_
    refine va_last (x := 0) hx hb hK hP hD hS 0 4 rfl rfl (by unfold vp_in; decide) dL_tidy_8 (fun H locs hP hD hS => ?_)
    have hP : va_P (xD g) vwCl [(out, .inl (xJ g, 1, .inr (.inl (vp_updL of (0 : Int32).toNatClampNeg 0))))] H := hP
    have hD : va_D A [(out, .inl (xJ g, 1, .inr (.inl (vp_updL of (0 : Int32).toNatClampNeg 0))))] := hD
    refine lv_goto (tgt := 15) hx hb dL_tidy_9 (by decide) ?_
    refine lv_iconst (v := 0) hx hb dL_tidy_15 (by decide) ?_
    refine vx_ret ?_
    have hP9 := hP.sub (ws' := [(out, .inl (xJ g, 1, .inr (.inl (vp_updL of (0 : Int32).toNatClampNeg 0))))]) [0] rfl
    have hD9 := hD.sub (ws' := [(out, .inl (xJ g, 1, .inr (.inl (vp_updL of (0 : Int32).toNatClampNeg 0))))]) [0] (by decide) rfl
    exact W.iret (v := 0) hx hb hr (fun t ht hW => ⟨⟨0, 0, rfl, Or.inl (⟨rfl, rfl, (by first | trivial | assumption | (refine ⟨?_, ?_⟩ <;> assumption) | exact hB | (simp only [Int32.lt_iff_toInt_lt, Int32.le_iff_toInt_le, Int32.reduceToInt] at *; omega))⟩), ⟨(vp_updL of (0 : Int32).toNatClampNeg 0), (by rfl), by rw [ht]; exact hP9, va_K.moved hW.alike hK, hD9⟩⟩, hS.F ht⟩) hS.2.2 dL_tidy_16
theorem dL_addVessel_0 : decode cL_addVessel 0 = .ok (.aload 5, 2) := by decide +kernel
theorem dL_addVessel_2 : decode cL_addVessel 2 = .ok (.iconst 0, 1) := by decide +kernel
theorem dL_addVessel_3 : decode cL_addVessel 3 = .ok (.aload_n 0, 1) := by decide +kernel
theorem dL_addVessel_4 : decode cL_addVessel 4 = .ok (.iload_n 1, 1) := by decide +kernel
theorem dL_addVessel_5 : decode cL_addVessel 5 = .ok (.iload_n 2, 1) := by decide +kernel
theorem dL_addVessel_6 : decode cL_addVessel 6 = .ok (.iload_n 3, 1) := by decide +kernel
theorem dL_addVessel_7 : decode cL_addVessel 7 = .ok (.iload 4, 2) := by decide +kernel
theorem dL_addVessel_9 : decode cL_addVessel 9 = .ok (.invokevirtual 18, 3) := by decide +kernel
set_option maxRecDepth 20000 in
theorem ggL_addVessel_X8_addVessel : GoodIn wsL_addVessel wsX8_addVessel := goodIn_ca (goodIn_ca (goodIn_r _ [7, 8, 9, 10, 11, 12, 13, 14, 15, 16, 17, 18, 6, 19, 20, 21, 22, 23, 24, 25, 26, 27, 28, 29, 30, 31, 32, 33, 34, 35, 36, 37, 38, 39, 40, 41, 42, 43, 44, 45, 46, 47, 48, 49, 50, 51, 52, 53, 54, 55, 56, 57, 58, 59, 60, 61, 62, 63, 64, 65, 66, 67, 68, 69, 70, 71, 72, 73, 74, 75, 76, 77, 78, 79, 80, 81, 82, 83, 84, 85, 86, 87, 88, 89, 90, 91, 92, 93, 94, 95, 96, 97, 98, 99, 100, 101, 102, 103, 104, 105, 106, 107, 108, 109, 110, 111, 112, 113, 114, 115, 116, 117, 118, 119, 120, 121, 122, 123, 124, 125, 126, 127, 128, 129, 130, 131, 132, 133, 134, 135, 136, 137, 138, 139, 140, 141, 142, 143, 144, 145, 146, 147, 148, 149, 150, 151, 152, 153, 154, 155, 156, 157, 158, 159, 160, 161, 162, 163, 164, 165, 166, 167, 168, 169, 170, 171, 172, 173, 174] rfl (by decide +kernel)) (goodIn_sub (fun _ h => List.mem_cons_of_mem _ (List.mem_append_left _ (List.mem_append_right _ h))) (by decide +kernel))) (goodIn_sub (fun _ h => List.mem_cons_of_mem _ (List.mem_append_right _ h)) (by decide +kernel))
set_option maxRecDepth 20000 in
theorem gL_addVessel_X8_addVessel : GoodIn wsL_addVessel (wsV RL 18 RX8 yX8_addVessel wsX8_addVessel) := goodIn_app (goodIn_of _ (by decide +kernel)) ggL_addVessel_X8_addVessel
theorem dL_addVessel_17 : decode cL_addVessel 17 = .ok (.astore 6, 2) := by decide +kernel
theorem dL_addVessel_19 : decode cL_addVessel 19 = .ok (.iconst 1, 1) := by decide +kernel
theorem dL_addVessel_20 : decode cL_addVessel 20 = .ok (.ireturn, 1) := by decide +kernel
theorem dL_addVessel_12 : decode cL_addVessel 12 = .ok (.i2l, 1) := by decide +kernel
theorem dL_addVessel_13 : decode cL_addVessel 13 = .ok (.lastore, 1) := by decide +kernel
theorem dL_addVessel_14 : decode cL_addVessel 14 = .ok (.goto 11, 3) := by decide +kernel
theorem dL_addVessel_25 : decode cL_addVessel 25 = .ok (.iconst 0, 1) := by decide +kernel
theorem dL_addVessel_26 : decode cL_addVessel 26 = .ok (.ireturn, 1) := by decide +kernel
set_option maxHeartbeats 4000000 in
set_option maxRecDepth 100000 in
theorem l_addVessel (l : Launch) (hfl : l.stackTraces = false) (g : xG) (sz : Nat) (h0 : Nat) (fl : Nat) (cw : Nat) (pl : Nat) (ag : Nat) (yd : Nat) (hg : Nat) (st : Nat) (so : Nat) (ve : Nat) (le : Nat) (l0 : Nat) (l1 : Nat) (l2 : Nat) (l3 : Nat) (l4 : Nat) (bc : Nat) (ii : Nat) (wl : Nat) (wb : Nat) (fr : Nat) (bg : Nat) (ff : Nat → Option Nat) (f0 : Value) (f1 : Value) (f4 : Value) (f5 : Value) (f7 : Value) (f9 : Value) (f10 : Value) (f11 : Value) (f14 : Value) (v0 : Value) (v1 : Value) (v2 : Value) (v3 : Value) (v4 : Value) (v5 : Value) (v6 : Value) (v7 : Value) (q0 : Value) (q1 : Value) (q2 : Value) (q3 : Value) (a0 : Value) (a1 : Value) (y0 : Value) (y1 : Value) (y2 : Value) (y3 : Value) (y5 : Value) (y6 : Value) (y7 : Value) (y10 : Value) (fh : Nat → Int32) (ft : Nat → Int32) (fo : Nat → Int32) (fa : Nat → Int32) (fb : Nat → Int32) (fc : Nat → Int32) (fd : Nat → Int32) (fe : Nat → Int32) (fw : Nat → Int32) (g0 : Nat → Int32) (g1 : Nat → Int32) (g2 : Nat → Int32) (g3 : Nat → Int32) (g4 : Nat → Int32) (p0 : Int32) (p1 : Int32) (p2 : Int32) (p3 : Int32) (out : Nat) (of : Nat → Int64)  (hff : ff 0 = some ve) : vx_Met l yL_addVessel wsL_addVessel ({ frames := 8, cells := 4, slots := 24, locals := 246 }) (va_Pc [.ref h0, .int p0, .int p1, .int p2, .int p3, .ref out] (fun U => xB g [(h0, .inr (8, [f0, f1, .int 0, .ref fl, f4, f5, .ref cw, f7, .ref pl, f9, f10, f11, .ref ag, .ref yd, f14])), (fl, .inl (xV g, 6, .inr (.inr (.inr (.inr ff))))), (ve, .inr (6, [v0, v1, v2, v3, v4, v5, v6, v7, .ref wb, .ref fr, .ref bg])), (wb, .inl (xI g, 10, .inl fa)), (fr, .inl (xI g, 4, .inl fb)), (bg, .inl (xI g, 10, .inl fc)), (cw, .inr (3, [.ref le, .ref bc, .ref ii, .ref wl])), (le, .inl (xM g, 5, .inr (.inr (.inr (.inr (xOut5 l0 l1 l2 l3 l4)))))), (l0, .inl (xI g, 11, .inl g0)), (l1, .inl (xI g, 11, .inl g1)), (l2, .inl (xI g, 11, .inl g2)), (l3, .inl (xI g, 11, .inl g3)), (l4, .inl (xI g, 11, .inl g4)), (bc, .inl (xI g, 4, .inl fd)), (ii, .inl (xZ g, 4, .inl fe)), (wl, .inl (xI g, 4, .inl fw)), (pl, .inr (4, [q0, q1, q2, q3])), (ag, .inr (0, [a0, a1])), (yd, .inr (7, [y0, y1, y2, y3, .ref hg, y5, y6, y7, .ref st, .ref so, y10])), (hg, .inl (xI g, 12, .inl fh)), (st, .inl (xI g, 24, .inl ft)), (so, .inl (xI g, 24, .inl fo)), (out, .inl (xJ g, 1, .inr (.inl of)))] sz U ∧ xU (va_A [(h0, .inr (8, [f0, f1, .int 0, .ref fl, f4, f5, .ref cw, f7, .ref pl, f9, f10, f11, .ref ag, .ref yd, f14])), (fl, .inl (xV g, 6, .inr (.inr (.inr (.inr ff))))), (ve, .inr (6, [v0, v1, v2, v3, v4, v5, v6, v7, .ref wb, .ref fr, .ref bg])), (wb, .inl (xI g, 10, .inl fa)), (fr, .inl (xI g, 4, .inl fb)), (bg, .inl (xI g, 10, .inl fc)), (cw, .inr (3, [.ref le, .ref bc, .ref ii, .ref wl])), (le, .inl (xM g, 5, .inr (.inr (.inr (.inr (xOut5 l0 l1 l2 l3 l4)))))), (l0, .inl (xI g, 11, .inl g0)), (l1, .inl (xI g, 11, .inl g1)), (l2, .inl (xI g, 11, .inl g2)), (l3, .inl (xI g, 11, .inl g3)), (l4, .inl (xI g, 11, .inl g4)), (bc, .inl (xI g, 4, .inl fd)), (ii, .inl (xZ g, 4, .inl fe)), (wl, .inl (xI g, 4, .inl fw)), (pl, .inr (4, [q0, q1, q2, q3])), (ag, .inr (0, [a0, a1])), (yd, .inr (7, [y0, y1, y2, y3, .ref hg, y5, y6, y7, .ref st, .ref so, y10])), (hg, .inl (xI g, 12, .inl fh)), (st, .inl (xI g, 24, .inl ft)), (so, .inl (xI g, 24, .inl fo)), (out, .inl (xJ g, 1, .inr (.inl of)))] sz) U)) (va_Qi (fun (r : Int32) (u : Int64) => (r = 0 ∧ u = 0 ∧ ((¬ p0 < 0 ∧ ¬ 400 < p0) ∧ (¬ p1 < 1 ∧ ¬ 10 < p1) ∧ (¬ p2 < 1 ∧ ¬ 9 < p2) ∧ (¬ p3 < 1 ∧ ¬ 4 < p3))) ∨ (r = 1 ∧ (p0 < 0 ∨ 400 < p0 ∨ p1 < 1 ∨ 10 < p1 ∨ p2 < 1 ∨ 9 < p2 ∨ p3 < 1 ∨ 4 < p3))) (fun (u : Int64) (t : State) => ∃ (of1 : Nat → Int64), of1 0 = u ∧ xE g [(out, .inl (xJ g, 1, .inr (.inl of1)))] (va_A [(h0, .inr (8, [f0, f1, .int 0, .ref fl, f4, f5, .ref cw, f7, .ref pl, f9, f10, f11, .ref ag, .ref yd, f14])), (fl, .inl (xV g, 6, .inr (.inr (.inr (.inr ff))))), (ve, .inr (6, [v0, v1, v2, v3, v4, v5, v6, v7, .ref wb, .ref fr, .ref bg])), (wb, .inl (xI g, 10, .inl fa)), (fr, .inl (xI g, 4, .inl fb)), (bg, .inl (xI g, 10, .inl fc)), (cw, .inr (3, [.ref le, .ref bc, .ref ii, .ref wl])), (le, .inl (xM g, 5, .inr (.inr (.inr (.inr (xOut5 l0 l1 l2 l3 l4)))))), (l0, .inl (xI g, 11, .inl g0)), (l1, .inl (xI g, 11, .inl g1)), (l2, .inl (xI g, 11, .inl g2)), (l3, .inl (xI g, 11, .inl g3)), (l4, .inl (xI g, 11, .inl g4)), (bc, .inl (xI g, 4, .inl fd)), (ii, .inl (xZ g, 4, .inl fe)), (wl, .inl (xI g, 4, .inl fw)), (pl, .inr (4, [q0, q1, q2, q3])), (ag, .inr (0, [a0, a1])), (yd, .inr (7, [y0, y1, y2, y3, .ref hg, y5, y6, y7, .ref st, .ref so, y10])), (hg, .inl (xI g, 12, .inl fh)), (st, .inl (xI g, 24, .inl ft)), (so, .inl (xI g, 24, .inl fo)), (out, .inl (xJ g, 1, .inr (.inl of)))] sz) t) (va_A [(h0, .inr (8, [f0, f1, .int 0, .ref fl, f4, f5, .ref cw, f7, .ref pl, f9, f10, f11, .ref ag, .ref yd, f14])), (fl, .inl (xV g, 6, .inr (.inr (.inr (.inr ff))))), (ve, .inr (6, [v0, v1, v2, v3, v4, v5, v6, v7, .ref wb, .ref fr, .ref bg])), (wb, .inl (xI g, 10, .inl fa)), (fr, .inl (xI g, 4, .inl fb)), (bg, .inl (xI g, 10, .inl fc)), (cw, .inr (3, [.ref le, .ref bc, .ref ii, .ref wl])), (le, .inl (xM g, 5, .inr (.inr (.inr (.inr (xOut5 l0 l1 l2 l3 l4)))))), (l0, .inl (xI g, 11, .inl g0)), (l1, .inl (xI g, 11, .inl g1)), (l2, .inl (xI g, 11, .inl g2)), (l3, .inl (xI g, 11, .inl g3)), (l4, .inl (xI g, 11, .inl g4)), (bc, .inl (xI g, 4, .inl fd)), (ii, .inl (xZ g, 4, .inl fe)), (wl, .inl (xI g, 4, .inl fw)), (pl, .inr (4, [q0, q1, q2, q3])), (ag, .inr (0, [a0, a1])), (yd, .inr (7, [y0, y1, y2, y3, .ref hg, y5, y6, y7, .ref st, .ref so, y10])), (hg, .inl (xI g, 12, .inl fh)), (st, .inl (xI g, 24, .inl ft)), (so, .inl (xI g, 24, .inl fo)), (out, .inl (xJ g, 1, .inr (.inl of)))] sz)) (vx_X (fun _ : Unit => True) (fun E _ _ => False) (va_A [(h0, .inr (8, [f0, f1, .int 0, .ref fl, f4, f5, .ref cw, f7, .ref pl, f9, f10, f11, .ref ag, .ref yd, f14])), (fl, .inl (xV g, 6, .inr (.inr (.inr (.inr ff))))), (ve, .inr (6, [v0, v1, v2, v3, v4, v5, v6, v7, .ref wb, .ref fr, .ref bg])), (wb, .inl (xI g, 10, .inl fa)), (fr, .inl (xI g, 4, .inl fb)), (bg, .inl (xI g, 10, .inl fc)), (cw, .inr (3, [.ref le, .ref bc, .ref ii, .ref wl])), (le, .inl (xM g, 5, .inr (.inr (.inr (.inr (xOut5 l0 l1 l2 l3 l4)))))), (l0, .inl (xI g, 11, .inl g0)), (l1, .inl (xI g, 11, .inl g1)), (l2, .inl (xI g, 11, .inl g2)), (l3, .inl (xI g, 11, .inl g3)), (l4, .inl (xI g, 11, .inl g4)), (bc, .inl (xI g, 4, .inl fd)), (ii, .inl (xZ g, 4, .inl fe)), (wl, .inl (xI g, 4, .inl fw)), (pl, .inr (4, [q0, q1, q2, q3])), (ag, .inr (0, [a0, a1])), (yd, .inr (7, [y0, y1, y2, y3, .ref hg, y5, y6, y7, .ref st, .ref so, y10])), (hg, .inl (xI g, 12, .inl fh)), (st, .inl (xI g, 24, .inl ft)), (so, .inl (xI g, 24, .inl fo)), (out, .inl (xJ g, 1, .inr (.inl of)))] sz)) 4 24 (va_A [(h0, .inr (8, [f0, f1, .int 0, .ref fl, f4, f5, .ref cw, f7, .ref pl, f9, f10, f11, .ref ag, .ref yd, f14])), (fl, .inl (xV g, 6, .inr (.inr (.inr (.inr ff))))), (ve, .inr (6, [v0, v1, v2, v3, v4, v5, v6, v7, .ref wb, .ref fr, .ref bg])), (wb, .inl (xI g, 10, .inl fa)), (fr, .inl (xI g, 4, .inl fb)), (bg, .inl (xI g, 10, .inl fc)), (cw, .inr (3, [.ref le, .ref bc, .ref ii, .ref wl])), (le, .inl (xM g, 5, .inr (.inr (.inr (.inr (xOut5 l0 l1 l2 l3 l4)))))), (l0, .inl (xI g, 11, .inl g0)), (l1, .inl (xI g, 11, .inl g1)), (l2, .inl (xI g, 11, .inl g2)), (l3, .inl (xI g, 11, .inl g3)), (l4, .inl (xI g, 11, .inl g4)), (bc, .inl (xI g, 4, .inl fd)), (ii, .inl (xZ g, 4, .inl fe)), (wl, .inl (xI g, 4, .inl fw)), (pl, .inr (4, [q0, q1, q2, q3])), (ag, .inr (0, [a0, a1])), (yd, .inr (7, [y0, y1, y2, y3, .ref hg, y5, y6, y7, .ref st, .ref so, y10])), (hg, .inl (xI g, 12, .inl fh)), (st, .inl (xI g, 24, .inl ft)), (so, .inl (xI g, 24, .inl fo)), (out, .inl (xJ g, 1, .inr (.inl of)))] sz) := by
  refine vx_ofWH (hh := [(0, 14, 17, 13), (0, 14, 21, 22)]) (cc := cL_addVessel) (maxL := 7) (ret := (some .int)) (by decide) rfl ?_
  intro p e s m args below meth c s₁ B hml hv
  obtain ⟨rfl, ⟨hsz, hP, hK, hD0⟩, hU⟩ := hv
  have hx := B.exec
  have hb := B.bytes
  have hr := B.returns
  have hts := atoms_spec (ws := wsL_addVessel) B.pre
  have hown : s.vm.findClass RL = some m.cls := findClass_of_methodNamed B.named
  have hlocks := B.notSynchronized
  have htbl := vx_table (x := yL_addVessel) B (hts (.codeWith yL_addVessel cL_addVessel 7 (some .int) [(0, 14, 17, 13), (0, 14, 21, 22)]) List.mem_cons_self)
  subst hsz
  have hD := hD0.self (sz := s.heap.size)
  generalize hAe : va_A [(h0, .inr (8, [f0, f1, .int 0, .ref fl, f4, f5, .ref cw, f7, .ref pl, f9, f10, f11, .ref ag, .ref yd, f14])), (fl, .inl (xV g, 6, .inr (.inr (.inr (.inr ff))))), (ve, .inr (6, [v0, v1, v2, v3, v4, v5, v6, v7, .ref wb, .ref fr, .ref bg])), (wb, .inl (xI g, 10, .inl fa)), (fr, .inl (xI g, 4, .inl fb)), (bg, .inl (xI g, 10, .inl fc)), (cw, .inr (3, [.ref le, .ref bc, .ref ii, .ref wl])), (le, .inl (xM g, 5, .inr (.inr (.inr (.inr (xOut5 l0 l1 l2 l3 l4)))))), (l0, .inl (xI g, 11, .inl g0)), (l1, .inl (xI g, 11, .inl g1)), (l2, .inl (xI g, 11, .inl g2)), (l3, .inl (xI g, 11, .inl g3)), (l4, .inl (xI g, 11, .inl g4)), (bc, .inl (xI g, 4, .inl fd)), (ii, .inl (xZ g, 4, .inl fe)), (wl, .inl (xI g, 4, .inl fw)), (pl, .inr (4, [q0, q1, q2, q3])), (ag, .inr (0, [a0, a1])), (yd, .inr (7, [y0, y1, y2, y3, .ref hg, y5, y6, y7, .ref st, .ref so, y10])), (hg, .inl (xI g, 12, .inl fh)), (st, .inl (xI g, 24, .inl ft)), (so, .inl (xI g, 24, .inl fo)), (out, .inl (xJ g, 1, .inr (.inl of)))] s.heap.size = A at hD hU ⊢
  have hA : ∀ q : Nat, s.heap.size ≤ q → A q := fun q h => by rw [← hAe]; exact Or.inr h
  have hS : va_S A s.heap s.heap [] := va_S.rf
  have hl := lv_entry ([.ref h0, .int p0, .int p1, .int p2, .int p3, .ref out]) (n := 7) (Nat.le_of_ble_eq_true rfl)
  rw [lg_entry_eq]
  generalize (lg_sl ([.ref h0, .int p0, .int p1, .int p2, .int p3, .ref out]) ++ List.replicate (7 - (lg_sl ([.ref h0, .int p0, .int p1, .int p2, .int p3, .ref out])).length) Slot.unset).toArray = ls at hl ⊢
  have hl : lv_has ls 7 [(0, .ref h0), (1, .int p0), (2, .int p1), (3, .int p2), (4, .int p3), (5, .ref out)] := hl
  refine lv_aload hx hb dL_addVessel_0 (lv_at hl 5 rfl) ?_
  refine lv_iconst (v := 0) hx hb dL_addVessel_2 (by decide) ?_
  refine lv_aload_n hx hb dL_addVessel_3 rfl (lv_at hl 0 rfl) ?_
  refine lv_iload_n hx hb dL_addVessel_4 rfl (lv_at hl 1 rfl) ?_
  refine lv_iload_n hx hb dL_addVessel_5 rfl (lv_at hl 2 rfl) ?_
  refine lv_iload_n hx hb dL_addVessel_6 rfl (lv_at hl 3 rfl) ?_
  refine lv_iload hx hb dL_addVessel_7 (lv_at hl 4 rfl) ?_
  have hPc := hP.sub (ws' := [(h0, .inr (8, [f0, f1, .int 0, .ref fl, f4, f5, .ref cw, f7, .ref pl, f9, f10, f11, .ref ag, .ref yd, f14])), (fl, .inl (xV g, 6, .inr (.inr (.inr (.inr ff))))), (ve, .inr (6, [v0, v1, v2, v3, v4, v5, v6, v7, .ref wb, .ref fr, .ref bg])), (wb, .inl (xI g, 10, .inl fa)), (fr, .inl (xI g, 4, .inl fb)), (bg, .inl (xI g, 10, .inl fc)), (cw, .inr (3, [.ref le, .ref bc, .ref ii, .ref wl])), (le, .inl (xM g, 5, .inr (.inr (.inr (.inr (xOut5 l0 l1 l2 l3 l4)))))), (l0, .inl (xI g, 11, .inl g0)), (l1, .inl (xI g, 11, .inl g1)), (l2, .inl (xI g, 11, .inl g2)), (l3, .inl (xI g, 11, .inl g3)), (l4, .inl (xI g, 11, .inl g4)), (bc, .inl (xI g, 4, .inl fd)), (ii, .inl (xZ g, 4, .inl fe)), (wl, .inl (xI g, 4, .inl fw)), (pl, .inr (4, [q0, q1, q2, q3])), (ag, .inr (0, [a0, a1])), (yd, .inr (7, [y0, y1, y2, y3, .ref hg, y5, y6, y7, .ref st, .ref so, y10])), (hg, .inl (xI g, 12, .inl fh)), (st, .inl (xI g, 24, .inl ft)), (so, .inl (xI g, 24, .inl fo))]) [0, 1, 2, 3, 4, 5, 6, 7, 8, 9, 10, 11, 12, 13, 14, 15, 16, 17, 18, 19, 20, 21] rfl
  have hDc := hD.sub (ws' := [(h0, .inr (8, [f0, f1, .int 0, .ref fl, f4, f5, .ref cw, f7, .ref pl, f9, f10, f11, .ref ag, .ref yd, f14])), (fl, .inl (xV g, 6, .inr (.inr (.inr (.inr ff))))), (ve, .inr (6, [v0, v1, v2, v3, v4, v5, v6, v7, .ref wb, .ref fr, .ref bg])), (wb, .inl (xI g, 10, .inl fa)), (fr, .inl (xI g, 4, .inl fb)), (bg, .inl (xI g, 10, .inl fc)), (cw, .inr (3, [.ref le, .ref bc, .ref ii, .ref wl])), (le, .inl (xM g, 5, .inr (.inr (.inr (.inr (xOut5 l0 l1 l2 l3 l4)))))), (l0, .inl (xI g, 11, .inl g0)), (l1, .inl (xI g, 11, .inl g1)), (l2, .inl (xI g, 11, .inl g2)), (l3, .inl (xI g, 11, .inl g3)), (l4, .inl (xI g, 11, .inl g4)), (bc, .inl (xI g, 4, .inl fd)), (ii, .inl (xZ g, 4, .inl fe)), (wl, .inl (xI g, 4, .inl fw)), (pl, .inr (4, [q0, q1, q2, q3])), (ag, .inr (0, [a0, a1])), (yd, .inr (7, [y0, y1, y2, y3, .ref hg, y5, y6, y7, .ref st, .ref so, y10])), (hg, .inl (xI g, 12, .inl fh)), (st, .inl (xI g, 24, .inl ft)), (so, .inl (xI g, 24, .inl fo))]) [0, 1, 2, 3, 4, 5, 6, 7, 8, 9, 10, 11, 12, 13, 14, 15, 16, 17, 18, 19, 20, 21] (by decide) rfl
  have hFc := va_free (wc := [(h0, .inr (8, [f0, f1, .int 0, .ref fl, f4, f5, .ref cw, f7, .ref pl, f9, f10, f11, .ref ag, .ref yd, f14])), (fl, .inl (xV g, 6, .inr (.inr (.inr (.inr ff))))), (ve, .inr (6, [v0, v1, v2, v3, v4, v5, v6, v7, .ref wb, .ref fr, .ref bg])), (wb, .inl (xI g, 10, .inl fa)), (fr, .inl (xI g, 4, .inl fb)), (bg, .inl (xI g, 10, .inl fc)), (cw, .inr (3, [.ref le, .ref bc, .ref ii, .ref wl])), (le, .inl (xM g, 5, .inr (.inr (.inr (.inr (xOut5 l0 l1 l2 l3 l4)))))), (l0, .inl (xI g, 11, .inl g0)), (l1, .inl (xI g, 11, .inl g1)), (l2, .inl (xI g, 11, .inl g2)), (l3, .inl (xI g, 11, .inl g3)), (l4, .inl (xI g, 11, .inl g4)), (bc, .inl (xI g, 4, .inl fd)), (ii, .inl (xZ g, 4, .inl fe)), (wl, .inl (xI g, 4, .inl fw)), (pl, .inr (4, [q0, q1, q2, q3])), (ag, .inr (0, [a0, a1])), (yd, .inr (7, [y0, y1, y2, y3, .ref hg, y5, y6, y7, .ref st, .ref so, y10])), (hg, .inl (xI g, 12, .inl fh)), (st, .inl (xI g, 24, .inl ft)), (so, .inl (xI g, 24, .inl fo))]) hD hS hA [0, 1, 2, 3, 4, 5, 6, 7, 8, 9, 10, 11, 12, 13, 14, 15, 16, 17, 18, 19, 20, 21] rfl
  refine vx_calli (vx_runV (As := [.int p0, .int p1, .int p2, .int p3]) (rest := [.int 0, .ref out]) ⟨hx, hb, hml, hown, hts⟩ (x0_addVessel l hfl g s.heap.size h0 fl cw pl ag yd hg st so ve le l0 l1 l2 l3 l4 bc ii wl wb fr bg ff f0 f1 f4 f5 f7 f9 f10 f11 f14 v0 v1 v2 v3 v4 v5 v6 v7 q0 q1 q2 q3 a0 a1 y0 y1 y2 y3 y5 y6 y7 y10 fh ft fo fa fb fc fd fe fw g0 g1 g2 g3 g4 p0 p1 p2 p3 (by first | assumption | decide | omega | simp_all)) (cwV 4 hts gL_addVessel_X8_addVessel rfl rfl rfl (by decide +kernel) ⟨Nat.le_of_ble_eq_true rfl, Nat.le_of_ble_eq_true rfl⟩) ⟨xBU.blind, va_recv hK hPc (ci := 8) (q0 := 0) rfl rfl, fun U9 hU9 hW9 => ⟨rfl, xB.mk hPc hK hDc hU9 hW9, hU.call hS hFc hU9 hW9⟩⟩ rfl rfl hl.1 rfl (lv_room (Nat.le_of_ble_eq_true rfl)) dL_addVessel_9 ⟨Nat.le_of_ble_eq_true rfl, Nat.le_of_ble_eq_true rfl⟩) hS (fun q _ h => hFc q h) hFc (fun q _ h => hFc q h) (fun E ce q9 ux t H1 locs1 ht hvm hpx hB hz1 hk1 hS hce hcv hcl => ?_) (fun r_1 u_2 t H1 locs ht hvm hw_3 hB hz1 hk1 hS => ?_)
  · obtain ⟨rfl, hB⟩ := hB
    obtain ⟨hP, hD⟩ := xJoin0 (wr := [(out, .inl (xJ g, 1, .inr (.inl of)))]) hP hD [0, 1, 2, 3, 4, 5, 6, 7, 8, 9, 10, 11, 12, 13, 14, 15, 16, 17, 18, 19, 20, 21] [22] rfl rfl (by decide) (by decide) hk1 hFc
    refine vx_catch (name := "java/lang/IllegalArgumentException") hown [] ({ startPc := 0, endPc := 14, handlerPc := 17, catchType := 13 } : ExceptionTableEntry) [({ startPc := 0, endPc := 14, handlerPc := 21, catchType := 22 } : ExceptionTableEntry)] htbl (fun z hz => absurd hz List.not_mem_nil) rfl (by decide) (hts (.classLink RL 13 "java/lang/IllegalArgumentException") (by decide +kernel)) (va_Nw.use rfl (hU.2.2.2.2.1 "java/lang/IllegalArgumentException" (by decide))) hce hcv hcl ?_
    generalize H1 = H at hP hS ⊢
    generalize locs1 = locs at hS ⊢
    have hP : va_P (xD g) vwCl [(out, .inl (xJ g, 1, .inr (.inl of)))] H := hP
    have hD : va_D A [(out, .inl (xJ g, 1, .inr (.inl of)))] := hD
    refine W.widen (k := 4) (n := 24) (by omega) (by omega) ?_
    refine lv_astore (lv' := [(6, .ref q9), (0, .ref h0), (1, .int p0), (2, .int p1), (3, .int p2), (4, .int p3), (5, .ref out)]) hx hb dL_addVessel_17 hl (by decide) rfl (fun ls hl => ?_)
    refine lv_iconst (v := 1) hx hb dL_addVessel_19 (by decide) ?_
    refine vx_ret ?_
    have hP9 := hP.sub (ws' := [(out, .inl (xJ g, 1, .inr (.inl of)))]) [0] rfl
    have hD9 := hD.sub (ws' := [(out, .inl (xJ g, 1, .inr (.inl of)))]) [0] (by decide) rfl
    exact W.iret (v := 1) hx hb hr (fun t ht hW => ⟨⟨1, (of 0), rfl, Or.inr (⟨rfl, (by first | trivial | assumption | (refine ⟨?_, ?_⟩ <;> assumption) | exact hB | (simp only [Int32.lt_iff_toInt_lt, Int32.le_iff_toInt_le, Int32.reduceToInt] at *; omega))⟩), ⟨of, (by rfl), by rw [ht]; exact hP9, va_K.moved hW.alike hK, hD9⟩⟩, hS.F ht⟩) hS.2.2 dL_addVessel_20
  · obtain ⟨hP, hD⟩ := xJoin0 (wr := [(out, .inl (xJ g, 1, .inr (.inl of)))]) hP hD [0, 1, 2, 3, 4, 5, 6, 7, 8, 9, 10, 11, 12, 13, 14, 15, 16, 17, 18, 19, 20, 21] [22] rfl rfl (by decide) (by decide) hk1 hFc
    generalize H1 = H at hP hS ⊢
    have hP : va_P (xD g) vwCl [(out, .inl (xJ g, 1, .inr (.inl of)))] H := hP
    have hD : va_D A [(out, .inl (xJ g, 1, .inr (.inl of)))] := hD
    refine W.widen (k := 4) (n := 24) (by omega) (by omega) ?_
    try dsimp only at hw_3
    obtain ⟨rfl, c_4⟩ := hw_3
    refine lv_i2l (v := 0) hx hb dL_addVessel_12 (by decide) ?_
    refine va_last (x := 0) hx hb hK hP hD hS 0 4 rfl rfl (by unfold vp_in; decide) dL_addVessel_13 (fun H locs hP hD hS => ?_)
    have hP : va_P (xD g) vwCl [(out, .inl (xJ g, 1, .inr (.inl (vp_updL of (0 : Int32).toNatClampNeg 0))))] H := hP
    have hD : va_D A [(out, .inl (xJ g, 1, .inr (.inl (vp_updL of (0 : Int32).toNatClampNeg 0))))] := hD
    refine lv_goto (tgt := 25) hx hb dL_addVessel_14 (by decide) ?_
    refine lv_iconst (v := 0) hx hb dL_addVessel_25 (by decide) ?_
    refine vx_ret ?_
    have hP9 := hP.sub (ws' := [(out, .inl (xJ g, 1, .inr (.inl (vp_updL of (0 : Int32).toNatClampNeg 0))))]) [0] rfl
    have hD9 := hD.sub (ws' := [(out, .inl (xJ g, 1, .inr (.inl (vp_updL of (0 : Int32).toNatClampNeg 0))))]) [0] (by decide) rfl
    exact W.iret (v := 0) hx hb hr (fun t ht hW => ⟨⟨0, 0, rfl, Or.inl (⟨rfl, rfl, (by first | trivial | assumption | (refine ⟨?_, ?_⟩ <;> assumption) | exact hB | (simp only [Int32.lt_iff_toInt_lt, Int32.le_iff_toInt_le, Int32.reduceToInt] at *; omega))⟩), ⟨(vp_updL of (0 : Int32).toNatClampNeg 0), (by rfl), by rw [ht]; exact hP9, va_K.moved hW.alike hK, hD9⟩⟩, hS.F ht⟩) hS.2.2 dL_addVessel_26
