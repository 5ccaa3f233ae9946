theorem dX8_mixed_0 : decode cX8_mixed 0 = .ok (.lload_n 0, 1) := by decide +kernel
theorem dX8_mixed_1 : decode cX8_mixed 1 = .ok (.ldc2_w 360, 3) := by decide +kernel
theorem dX8_mixed_4 : decode cX8_mixed 4 = .ok (.lmul, 1) := by decide +kernel
theorem dX8_mixed_5 : decode cX8_mixed 5 = .ok (.iload_n 2, 1) := by decide +kernel
theorem dX8_mixed_6 : decode cX8_mixed 6 = .ok (.i2l, 1) := by decide +kernel
theorem dX8_mixed_7 : decode cX8_mixed 7 = .ok (.ladd, 1) := by decide +kernel
theorem dX8_mixed_8 : decode cX8_mixed 8 = .ok (.lreturn, 1) := by decide +kernel
set_option maxHeartbeats 4000000 in
set_option maxRecDepth 100000 in
theorem x_mixed (l : Launch) (g : xG) (sz : Nat) (p0 : Int64) (p1 : Int32)  : Met l yX8_mixed wsX8_mixed ({ frames := 0, cells := 0, slots := 0, locals := 0 }) (va_Pc [.long p0, .int p1] (fun U => xB g [] sz U)) (va_Ql (fun (r : Int64) (u : Unit) => r = p0 * 31 + p1.toInt64) (fun _ _ => True) (va_A [] sz)) 0 0 (va_A [] sz) := by
  refine Met.ofW (cc := cX8_mixed) (maxL := 3) (ret := (some .long)) (by decide) rfl ?_
  intro p e s m args below meth c s₁ B hml hv
  obtain ⟨rfl, ⟨hsz, hP, hK, hD0⟩⟩ := hv
  have hx := B.exec
  have hb := B.bytes
  have hr := B.returns
  have hts := atoms_spec (ws := wsX8_mixed) B.pre
  have hown : s.vm.findClass RX8 = some m.cls := findClass_of_methodNamed B.named
  have hlocks := B.notSynchronized
  subst hsz
  have hD := hD0
  generalize hAe : va_A [] s.heap.size = A
  have hA : ∀ q : Nat, s.heap.size ≤ q → A q := fun q h => by rw [← hAe]; exact Or.inr h
  have hS : va_S A s.heap s.heap [] := va_S.rf
  have hl := lv_entry ([.long p0, .int p1]) (n := 3) (Nat.le_of_ble_eq_true rfl)
  rw [lg_entry_eq]
  generalize (lg_sl ([.long p0, .int p1]) ++ List.replicate (3 - (lg_sl ([.long p0, .int p1])).length) Slot.unset).toArray = ls at hl ⊢
  have hl : lv_has ls 3 [(0, .long p0), (2, .int p1)] := hl
  refine lv_lload_n hx hb dX8_mixed_0 rfl (lv_at hl 0 rfl) ?_
  refine lv_ldc2 (v := 31) hx hb hown (hts (.constantLong RX8 360 (31)) (by decide +kernel)) dX8_mixed_1 ?_
  refine lv_lmul hx hb dX8_mixed_4 ?_
  refine lv_topl (fun v_1 ev_1 => ?_)
  refine lv_iload_n hx hb dX8_mixed_5 rfl (lv_at hl 1 rfl) ?_
  refine lv_i2l (v := p1.toInt64) hx hb dX8_mixed_6 rfl ?_
  refine lv_ladd hx hb dX8_mixed_7 ?_
  refine lv_topl (fun v_2 ev_2 => ?_)
  exact W.lret (v := v_2) hx hb hr (fun t ht hW => ⟨⟨v_2, (), rfl, (by rw [ev_2, ev_1]), trivial⟩, hS.F ht⟩) hS.2.2 dX8_mixed_8
theorem dX8_mixedPlan_0 : decode cX8_mixedPlan 0 = .ok (.lload_n 1, 1) := by decide +kernel
theorem dX8_mixedPlan_1 : decode cX8_mixedPlan 1 = .ok (.aload_n 0, 1) := by decide +kernel
theorem dX8_mixedPlan_2 : decode cX8_mixedPlan 2 = .ok (.getfield 57, 3) := by decide +kernel
theorem dX8_mixedPlan_5 : decode cX8_mixedPlan 5 = .ok (.getfield 218, 3) := by decide +kernel
theorem dX8_mixedPlan_8 : decode cX8_mixedPlan 8 = .ok (.ifCond .eq 7, 3) := by decide +kernel
theorem dX8_mixedPlan_15 : decode cX8_mixedPlan 15 = .ok (.iconst 0, 1) := by decide +kernel
theorem dX8_mixedPlan_16 : decode cX8_mixedPlan 16 = .ok (.invokestatic 339, 3) := by decide +kernel
set_option maxRecDepth 20000 in
theorem ggX8_mixedPlan_X8_mixed : GoodIn wsX8_mixedPlan wsX8_mixed := goodIn_r _ [12, 13] rfl (by decide +kernel)
set_option maxRecDepth 20000 in
theorem gX8_mixedPlan_X8_mixed : GoodIn wsX8_mixedPlan (va_wsS RX8 339 yX8_mixed wsX8_mixed) := goodIn_app (goodIn_of _ (by decide +kernel)) ggX8_mixedPlan_X8_mixed
theorem dX8_mixedPlan_19 : decode cX8_mixedPlan 19 = .ok (.lstore_n 3, 1) := by decide +kernel
theorem dX8_mixedPlan_20 : decode cX8_mixedPlan 20 = .ok (.aload_n 0, 1) := by decide +kernel
theorem dX8_mixedPlan_21 : decode cX8_mixedPlan 21 = .ok (.getfield 57, 3) := by decide +kernel
theorem dX8_mixedPlan_24 : decode cX8_mixedPlan 24 = .ok (.getfield 218, 3) := by decide +kernel
theorem dX8_mixedPlan_27 : decode cX8_mixedPlan 27 = .ok (.ifCond .ne 5, 3) := by decide +kernel
theorem dX8_mixedPlan_30 : decode cX8_mixedPlan 30 = .ok (.lload_n 3, 1) := by decide +kernel
theorem dX8_mixedPlan_31 : decode cX8_mixedPlan 31 = .ok (.lreturn, 1) := by decide +kernel
set_option maxHeartbeats 4000000 in
set_option maxRecDepth 100000 in
theorem x0_mixedPlan (l : Launch) (g : xG) (sz : Nat) (h0 : Nat) (pl : Nat) (f0 : Value) (f1 : Value) (f2 : Value) (f3 : Value) (f4 : Value) (f5 : Value) (f6 : Value) (f7 : Value) (f9 : Value) (f10 : Value) (f11 : Value) (f12 : Value) (f13 : Value) (f14 : Value) (q1 : Value) (q2 : Value) (q3 : Value) (p0 : Int64)  : Met l yX8_mixedPlan wsX8_mixedPlan ({ frames := 1, cells := 0, slots := 0, locals := 22 }) (va_Pc [.ref h0, .long p0] (fun U => xB g [(h0, .inr (8, [f0, f1, f2, f3, f4, f5, f6, f7, .ref pl, f9, f10, f11, f12, f13, f14])), (pl, .inr (4, [.int 0, q1, q2, q3]))] sz U)) (va_Ql (fun (r : Int64) (u : Unit) => r = p0 * 31 + (0 : Int32).toInt64) (fun _ _ => True) (va_A [] sz)) 0 0 (va_A [] sz) := by
  refine Met.ofW (cc := cX8_mixedPlan) (maxL := 6) (ret := (some .long)) (by decide) rfl ?_
  intro p e s m args below meth c s₁ B hml hv
  obtain ⟨rfl, ⟨hsz, hP, hK, hD0⟩⟩ := hv
  have hx := B.exec
  have hb := B.bytes
  have hr := B.returns
  have hts := atoms_spec (ws := wsX8_mixedPlan) B.pre
  have hown : s.vm.findClass RX8 = some m.cls := findClass_of_methodNamed B.named
  have hlocks := B.notSynchronized
  subst hsz
  have hD := hD0
  generalize hAe : va_A [] s.heap.size = A
  have hA : ∀ q : Nat, s.heap.size ≤ q → A q := fun q h => by rw [← hAe]; exact Or.inr h
  have hS : va_S A s.heap s.heap [] := va_S.rf
  have hl := lv_entry ([.ref h0, .long p0]) (n := 6) (Nat.le_of_ble_eq_true rfl)
  rw [lg_entry_eq]
  generalize (lg_sl ([.ref h0, .long p0]) ++ List.replicate (6 - (lg_sl ([.ref h0, .long p0])).length) Slot.unset).toArray = ls at hl ⊢
  have hl : lv_has ls 6 [(0, .ref h0), (1, .long p0)] := hl
  have hFX4 : ∀ w ∈ u_ws RX4 TX4 4, w ∈ wsX8_mixedPlan := by decide +kernel
  have hFX8 : ∀ w ∈ u_ws RX8 TX8 15, w ∈ wsX8_mixedPlan := by decide +kernel
  refine lv_lload_n hx hb dX8_mixedPlan_0 rfl (lv_at hl 1 rfl) ?_
  refine lv_aload_n hx hb dX8_mixedPlan_1 rfl (lv_at hl 0 rfl) ?_
  refine va_get (D := xD g) (ci := 8) (v := .ref pl) (C := RX8) (T := TX8) (N := 15) hx hb hts hFX8 hown hK hP 0 rfl rfl 8 (by decide) (hts (.fieldLink RX8 57 "Stevedore" "plan" "LStevedore$Plan;") (by decide +kernel)) (fun _ h9 => h9) rfl dX8_mixedPlan_2 ?_
  refine va_get (D := xD g) (ci := 4) (v := .int 0) (C := RX4) (T := TX4) (N := 4) hx hb hts hFX4 hown hK hP 1 rfl rfl 0 (by decide) (hts (.fieldLink RX8 218 "Stevedore$Plan" "isMade" "Z") (by decide +kernel)) (fun _ h9 => h9) rfl dX8_mixedPlan_5 ?_
  refine lv_if_eq (tgt := 15) hx hb dX8_mixedPlan_8 (by decide) (fun _ => ?_) (fun c0 => absurd (by decide) c0)
  refine lv_iconst (v := 0) hx hb dX8_mixedPlan_15 (by decide) ?_
  have hPc := hP.sub (ws' := []) [] rfl
  have hDc := hD.sub (ws' := []) [] (by decide) rfl
  have hFc := xFree hS hA
  refine va_calll (va_runS (As := [.long p0, .int 0]) (rest := []) ⟨hx, hb, hml, hown, hts⟩ (x_mixed l g s.heap.size p0 0) (va_cwS 2 hts gX8_mixedPlan_X8_mixed rfl rfl rfl (by decide +kernel) ⟨Nat.le_of_ble_eq_true rfl, Nat.le_of_ble_eq_true rfl⟩) ⟨xB.blind, fun U9 hU9 hW9 => ⟨rfl, xB.mk hPc hK hDc hU9 hW9⟩⟩ rfl rfl hl.1 rfl (lv_room (Nat.le_of_ble_eq_true rfl)) dX8_mixedPlan_16 ⟨Nat.le_of_ble_eq_true rfl, Nat.le_of_ble_eq_true rfl⟩) hS (fun q _ h => hFc q h) hFc (fun r_1 u_2 t H1 locs ht hvm hw_3 hB hz1 hk1 hS => ?_)
  have hP := xSame hP hk1
  generalize H1 = H at hP hS ⊢
  have hP : va_P (xD g) vwCl [(h0, .inr (8, [f0, f1, f2, f3, f4, f5, f6, f7, .ref pl, f9, f10, f11, f12, f13, f14])), (pl, .inr (4, [.int 0, q1, q2, q3]))] H := hP
  try dsimp only at hw_3
  refine lv_lstore_n (lv' := [(3, .long r_1), (0, .ref h0), (1, .long p0)]) hx hb dX8_mixedPlan_19 rfl hl (by decide) rfl (fun ls hl => ?_)
  refine lv_aload_n hx hb dX8_mixedPlan_20 rfl (lv_at hl 1 rfl) ?_
  refine va_get (D := xD g) (ci := 8) (v := .ref pl) (C := RX8) (T := TX8) (N := 15) hx hb hts hFX8 hown hK hP 0 rfl rfl 8 (by decide) (hts (.fieldLink RX8 57 "Stevedore" "plan" "LStevedore$Plan;") (by decide +kernel)) (fun _ h9 => h9) rfl dX8_mixedPlan_21 ?_
  refine va_get (D := xD g) (ci := 4) (v := .int 0) (C := RX4) (T := TX4) (N := 4) hx hb hts hFX4 hown hK hP 1 rfl rfl 0 (by decide) (hts (.fieldLink RX8 218 "Stevedore$Plan" "isMade" "Z") (by decide +kernel)) (fun _ h9 => h9) rfl dX8_mixedPlan_24 ?_
  refine lv_if_ne (tgt := 32) hx hb dX8_mixedPlan_27 (by decide) (fun c0 => absurd (by decide) c0) (fun _ => ?_)
  refine lv_lload_n hx hb dX8_mixedPlan_30 rfl (lv_at hl 0 rfl) ?_
  exact W.lret (v := r_1) hx hb hr (fun t ht hW => ⟨⟨r_1, (), rfl, hw_3, trivial⟩, hS.F ht⟩) hS.2.2 dX8_mixedPlan_31
theorem dX8_mixedSlots_0 : decode cX8_mixedSlots 0 = .ok (.lload_n 1, 1) := by decide +kernel
theorem dX8_mixedSlots_1 : decode cX8_mixedSlots 1 = .ok (.lstore_n 3, 1) := by decide +kernel
theorem dX8_mixedSlots_2 : decode cX8_mixedSlots 2 = .ok (.aload_n 0, 1) := by decide +kernel
theorem dX8_mixedSlots_3 : decode cX8_mixedSlots 3 = .ok (.getfield 268, 3) := by decide +kernel
theorem dX8_mixedSlots_6 : decode cX8_mixedSlots 6 = .ok (.ifCond .ne 5, 3) := by decide +kernel
theorem dX8_mixedSlots_9 : decode cX8_mixedSlots 9 = .ok (.lload_n 3, 1) := by decide +kernel
theorem dX8_mixedSlots_10 : decode cX8_mixedSlots 10 = .ok (.lreturn, 1) := by decide +kernel
set_option maxHeartbeats 4000000 in
set_option maxRecDepth 100000 in
theorem x0_mixedSlots (l : Launch) (g : xG) (sz : Nat) (h0 : Nat) (f0 : Value) (f1 : Value) (f2 : Value) (f3 : Value) (f4 : Value) (f5 : Value) (f6 : Value) (f7 : Value) (f8 : Value) (f9 : Value) (f11 : Value) (f12 : Value) (f13 : Value) (f14 : Value) (p0 : Int64)  : Met l yX8_mixedSlots wsX8_mixedSlots ({ frames := 0, cells := 0, slots := 0, locals := 0 }) (va_Pc [.ref h0, .long p0] (fun U => xB g [(h0, .inr (8, [f0, f1, f2, f3, f4, f5, f6, f7, f8, f9, .int 0, f11, f12, f13, f14]))] sz U)) (va_Ql (fun (r : Int64) (u : Unit) => r = p0) (fun _ _ => True) (va_A [] sz)) 0 0 (va_A [] sz) := by
  refine Met.ofW (cc := cX8_mixedSlots) (maxL := 6) (ret := (some .long)) (by decide) rfl ?_
  intro p e s m args below meth c s₁ B hml hv
  obtain ⟨rfl, ⟨hsz, hP, hK, hD0⟩⟩ := hv
  have hx := B.exec
  have hb := B.bytes
  have hr := B.returns
  have hts := atoms_spec (ws := wsX8_mixedSlots) B.pre
  have hown : s.vm.findClass RX8 = some m.cls := findClass_of_methodNamed B.named
  have hlocks := B.notSynchronized
  subst hsz
  have hD := hD0
  generalize hAe : va_A [] s.heap.size = A
  have hA : ∀ q : Nat, s.heap.size ≤ q → A q := fun q h => by rw [← hAe]; exact Or.inr h
  have hS : va_S A s.heap s.heap [] := va_S.rf
  have hl := lv_entry ([.ref h0, .long p0]) (n := 6) (Nat.le_of_ble_eq_true rfl)
  rw [lg_entry_eq]
  generalize (lg_sl ([.ref h0, .long p0]) ++ List.replicate (6 - (lg_sl ([.ref h0, .long p0])).length) Slot.unset).toArray = ls at hl ⊢
  have hl : lv_has ls 6 [(0, .ref h0), (1, .long p0)] := hl
  have hFX8 : ∀ w ∈ u_ws RX8 TX8 15, w ∈ wsX8_mixedSlots := by decide +kernel
  refine lv_lload_n hx hb dX8_mixedSlots_0 rfl (lv_at hl 1 rfl) ?_
  refine lv_lstore_n (lv' := [(3, .long p0), (0, .ref h0), (1, .long p0)]) hx hb dX8_mixedSlots_1 rfl hl (by decide) rfl (fun ls hl => ?_)
  refine lv_aload_n hx hb dX8_mixedSlots_2 rfl (lv_at hl 1 rfl) ?_
  refine va_get (D := xD g) (ci := 8) (v := .int 0) (C := RX8) (T := TX8) (N := 15) hx hb hts hFX8 hown hK hP 0 rfl rfl 10 (by decide) (hts (.fieldLink RX8 268 "Stevedore" "hasSlots" "Z") (by decide +kernel)) (fun _ h9 => h9) rfl dX8_mixedSlots_3 ?_
  refine lv_if_ne (tgt := 11) hx hb dX8_mixedSlots_6 (by decide) (fun c0 => absurd (by decide) c0) (fun _ => ?_)
  refine lv_lload_n hx hb dX8_mixedSlots_9 rfl (lv_at hl 0 rfl) ?_
  exact W.lret (v := p0) hx hb hr (fun t ht hW => ⟨⟨p0, (), rfl, rfl, trivial⟩, hS.F ht⟩) hS.2.2 dX8_mixedSlots_10
theorem dX8_mixedAgenda_0 : decode cX8_mixedAgenda 0 = .ok (.lload_n 1, 1) := by decide +kernel
theorem dX8_mixedAgenda_1 : decode cX8_mixedAgenda 1 = .ok (.aload_n 0, 1) := by decide +kernel
theorem dX8_mixedAgenda_2 : decode cX8_mixedAgenda 2 = .ok (.getfield 74, 3) := by decide +kernel
theorem dX8_mixedAgenda_5 : decode cX8_mixedAgenda 5 = .ok (.getfield 278, 3) := by decide +kernel
theorem dX8_mixedAgenda_8 : decode cX8_mixedAgenda 8 = .ok (.invokestatic 339, 3) := by decide +kernel
set_option maxRecDepth 20000 in
theorem ggX8_mixedAgenda_X8_mixed : GoodIn wsX8_mixedAgenda wsX8_mixed := goodIn_r _ [6, 7] rfl (by decide +kernel)
set_option maxRecDepth 20000 in
theorem gX8_mixedAgenda_X8_mixed : GoodIn wsX8_mixedAgenda (va_wsS RX8 339 yX8_mixed wsX8_mixed) := goodIn_app (goodIn_of _ (by decide +kernel)) ggX8_mixedAgenda_X8_mixed
theorem dX8_mixedAgenda_11 : decode cX8_mixedAgenda 11 = .ok (.lstore_n 3, 1) := by decide +kernel
theorem dX8_mixedAgenda_12 : decode cX8_mixedAgenda 12 = .ok (.iconst 0, 1) := by decide +kernel
theorem dX8_mixedAgenda_13 : decode cX8_mixedAgenda 13 = .ok (.istore 5, 2) := by decide +kernel
theorem dX8_mixedAgenda_15 : decode cX8_mixedAgenda 15 = .ok (.iload 5, 2) := by decide +kernel
theorem dX8_mixedAgenda_17 : decode cX8_mixedAgenda 17 = .ok (.aload_n 0, 1) := by decide +kernel
theorem dX8_mixedAgenda_18 : decode cX8_mixedAgenda 18 = .ok (.getfield 74, 3) := by decide +kernel
theorem dX8_mixedAgenda_21 : decode cX8_mixedAgenda 21 = .ok (.getfield 278, 3) := by decide +kernel
theorem dX8_mixedAgenda_24 : decode cX8_mixedAgenda 24 = .ok (.if_icmp .ge 51, 3) := by decide +kernel
theorem dX8_mixedAgenda_75 : decode cX8_mixedAgenda 75 = .ok (.lload_n 3, 1) := by decide +kernel
theorem dX8_mixedAgenda_76 : decode cX8_mixedAgenda 76 = .ok (.lreturn, 1) := by decide +kernel
set_option maxHeartbeats 4000000 in
set_option maxRecDepth 100000 in
theorem x0_mixedAgenda (l : Launch) (g : xG) (sz : Nat) (h0 : Nat) (ag : Nat) (f0 : Value) (f1 : Value) (f2 : Value) (f3 : Value) (f4 : Value) (f5 : Value) (f6 : Value) (f7 : Value) (f8 : Value) (f9 : Value) (f10 : Value) (f11 : Value) (f13 : Value) (f14 : Value) (a1 : Value) (p0 : Int64)  : Met l yX8_mixedAgenda wsX8_mixedAgenda ({ frames := 1, cells := 0, slots := 0, locals := 22 }) (va_Pc [.ref h0, .long p0] (fun U => xB g [(h0, .inr (8, [f0, f1, f2, f3, f4, f5, f6, f7, f8, f9, f10, f11, .ref ag, f13, f14])), (ag, .inr (0, [.int 0, a1]))] sz U)) (va_Ql (fun (r : Int64) (u : Unit) => r = p0 * 31 + (0 : Int32).toInt64) (fun _ _ => True) (va_A [] sz)) 0 0 (va_A [] sz) := by
  refine Met.ofW (cc := cX8_mixedAgenda) (maxL := 6) (ret := (some .long)) (by decide) rfl ?_
  intro p e s m args below meth c s₁ B hml hv
  obtain ⟨rfl, ⟨hsz, hP, hK, hD0⟩⟩ := hv
  have hx := B.exec
  have hb := B.bytes
  have hr := B.returns
  have hts := atoms_spec (ws := wsX8_mixedAgenda) B.pre
  have hown : s.vm.findClass RX8 = some m.cls := findClass_of_methodNamed B.named
  have hlocks := B.notSynchronized
  subst hsz
  have hD := hD0
  generalize hAe : va_A [] s.heap.size = A
  have hA : ∀ q : Nat, s.heap.size ≤ q → A q := fun q h => by rw [← hAe]; exact Or.inr h
  have hS : va_S A s.heap s.heap [] := va_S.rf
  have hl := lv_entry ([.ref h0, .long p0]) (n := 6) (Nat.le_of_ble_eq_true rfl)
  rw [lg_entry_eq]
  generalize (lg_sl ([.ref h0, .long p0]) ++ List.replicate (6 - (lg_sl ([.ref h0, .long p0])).length) Slot.unset).toArray = ls at hl ⊢
  have hl : lv_has ls 6 [(0, .ref h0), (1, .long p0)] := hl
  have hFX0 : ∀ w ∈ u_ws RX0 TX0 2, w ∈ wsX8_mixedAgenda := by decide +kernel
  have hFX8 : ∀ w ∈ u_ws RX8 TX8 15, w ∈ wsX8_mixedAgenda := by decide +kernel
  refine lv_lload_n hx hb dX8_mixedAgenda_0 rfl (lv_at hl 1 rfl) ?_
  refine lv_aload_n hx hb dX8_mixedAgenda_1 rfl (lv_at hl 0 rfl) ?_
  refine va_get (D := xD g) (ci := 8) (v := .ref ag) (C := RX8) (T := TX8) (N := 15) hx hb hts hFX8 hown hK hP 0 rfl rfl 12 (by decide) (hts (.fieldLink RX8 74 "Stevedore" "agenda" "LStevedore$Agenda;") (by decide +kernel)) (fun _ h9 => h9) rfl dX8_mixedAgenda_2 ?_
  refine va_get (D := xD g) (ci := 0) (v := .int 0) (C := RX0) (T := TX0) (N := 2) hx hb hts hFX0 hown hK hP 1 rfl rfl 0 (by decide) (hts (.fieldLink RX8 278 "Stevedore$Agenda" "count" "I") (by decide +kernel)) (fun _ h9 => h9) rfl dX8_mixedAgenda_5 ?_
  have hPc := hP.sub (ws' := []) [] rfl
  have hDc := hD.sub (ws' := []) [] (by decide) rfl
  have hFc := xFree hS hA
  refine va_calll (va_runS (As := [.long p0, .int 0]) (rest := []) ⟨hx, hb, hml, hown, hts⟩ (x_mixed l g s.heap.size p0 0) (va_cwS 2 hts gX8_mixedAgenda_X8_mixed rfl rfl rfl (by decide +kernel) ⟨Nat.le_of_ble_eq_true rfl, Nat.le_of_ble_eq_true rfl⟩) ⟨xB.blind, fun U9 hU9 hW9 => ⟨rfl, xB.mk hPc hK hDc hU9 hW9⟩⟩ rfl rfl hl.1 rfl (lv_room (Nat.le_of_ble_eq_true rfl)) dX8_mixedAgenda_8 ⟨Nat.le_of_ble_eq_true rfl, Nat.le_of_ble_eq_true rfl⟩) hS (fun q _ h => hFc q h) hFc (fun r_1 u_2 t H1 locs ht hvm hw_3 hB hz1 hk1 hS => ?_)
  have hP := xSame hP hk1
  generalize H1 = H at hP hS ⊢
  have hP : va_P (xD g) vwCl [(h0, .inr (8, [f0, f1, f2, f3, f4, f5, f6, f7, f8, f9, f10, f11, .ref ag, f13, f14])), (ag, .inr (0, [.int 0, a1]))] H := hP
  try dsimp only at hw_3
  refine lv_lstore_n (lv' := [(3, .long r_1), (0, .ref h0), (1, .long p0)]) hx hb dX8_mixedAgenda_11 rfl hl (by decide) rfl (fun ls hl => ?_)
  refine lv_iconst (v := 0) hx hb dX8_mixedAgenda_12 (by decide) ?_
  refine lv_istore (lv' := [(5, .int 0), (3, .long r_1), (0, .ref h0), (1, .long p0)]) hx hb dX8_mixedAgenda_13 hl (by decide) rfl (fun ls hl => ?_)
  refine lv_iload hx hb dX8_mixedAgenda_15 (lv_at hl 0 rfl) ?_
  refine lv_aload_n hx hb dX8_mixedAgenda_17 rfl (lv_at hl 2 rfl) ?_
  refine va_get (D := xD g) (ci := 8) (v := .ref ag) (C := RX8) (T := TX8) (N := 15) hx hb hts hFX8 hown hK hP 0 rfl rfl 12 (by decide) (hts (.fieldLink RX8 74 "Stevedore" "agenda" "LStevedore$Agenda;") (by decide +kernel)) (fun _ h9 => h9) rfl dX8_mixedAgenda_18 ?_
  refine va_get (D := xD g) (ci := 0) (v := .int 0) (C := RX0) (T := TX0) (N := 2) hx hb hts hFX0 hown hK hP 1 rfl rfl 0 (by decide) (hts (.fieldLink RX8 278 "Stevedore$Agenda" "count" "I") (by decide +kernel)) (fun _ h9 => h9) rfl dX8_mixedAgenda_21 ?_
  refine lv_icmp_ge (tgt := 75) hx hb dX8_mixedAgenda_24 (by decide) (fun _ => ?_) (fun c0 => absurd (by decide) c0)
  refine lv_lload_n hx hb dX8_mixedAgenda_75 rfl (lv_at hl 1 rfl) ?_
  exact W.lret (v := r_1) hx hb hr (fun t ht hW => ⟨⟨r_1, (), rfl, hw_3, trivial⟩, hS.F ht⟩) hS.2.2 dX8_mixedAgenda_76
theorem dX8_mixedYard_0 : decode cX8_mixedYard 0 = .ok (.lload_n 1, 1) := by decide +kernel
theorem dX8_mixedYard_1 : decode cX8_mixedYard 1 = .ok (.lstore_n 3, 1) := by decide +kernel
theorem dX8_mixedYard_2 : decode cX8_mixedYard 2 = .ok (.iconst 0, 1) := by decide +kernel
theorem dX8_mixedYard_3 : decode cX8_mixedYard 3 = .ok (.istore 5, 2) := by decide +kernel
theorem dX8_mixedYard_5 : decode cX8_mixedYard 5 = .ok (.iload 5, 2) := by decide +kernel
theorem dX8_mixedYard_7 : decode cX8_mixedYard 7 = .ok (.aload_n 0, 1) := by decide +kernel
theorem dX8_mixedYard_8 : decode cX8_mixedYard 8 = .ok (.getfield 26, 3) := by decide +kernel
theorem dX8_mixedYard_11 : decode cX8_mixedYard 11 = .ok (.getfield 129, 3) := by decide +kernel
theorem dX8_mixedYard_14 : decode cX8_mixedYard 14 = .ok (.if_icmp .ge 39, 3) := by decide +kernel
theorem dX8_mixedYard_53 : decode cX8_mixedYard 53 = .ok (.iconst 0, 1) := by decide +kernel
theorem dX8_mixedYard_54 : decode cX8_mixedYard 54 = .ok (.istore 5, 2) := by decide +kernel
theorem dX8_mixedYard_56 : decode cX8_mixedYard 56 = .ok (.iload 5, 2) := by decide +kernel
theorem dX8_mixedYard_58 : decode cX8_mixedYard 58 = .ok (.aload_n 0, 1) := by decide +kernel
theorem dX8_mixedYard_59 : decode cX8_mixedYard 59 = .ok (.getfield 81, 3) := by decide +kernel
theorem dX8_mixedYard_62 : decode cX8_mixedYard 62 = .ok (.getfield 162, 3) := by decide +kernel
theorem dX8_mixedYard_65 : decode cX8_mixedYard 65 = .ok (.if_icmp .ge 66, 3) := by decide +kernel
theorem dX8_mixedYard_131 : decode cX8_mixedYard 131 = .ok (.lload_n 3, 1) := by decide +kernel
theorem dX8_mixedYard_132 : decode cX8_mixedYard 132 = .ok (.aload_n 0, 1) := by decide +kernel
theorem dX8_mixedYard_133 : decode cX8_mixedYard 133 = .ok (.getfield 81, 3) := by decide +kernel
theorem dX8_mixedYard_136 : decode cX8_mixedYard 136 = .ok (.getfield 319, 3) := by decide +kernel
theorem dX8_mixedYard_139 : decode cX8_mixedYard 139 = .ok (.invokestatic 339, 3) := by decide +kernel
set_option maxRecDepth 20000 in
theorem ggX8_mixedYard_X8_mixed : GoodIn wsX8_mixedYard wsX8_mixed := goodIn_r _ [13, 14] rfl (by decide +kernel)
set_option maxRecDepth 20000 in
theorem gX8_mixedYard_X8_mixed : GoodIn wsX8_mixedYard (va_wsS RX8 339 yX8_mixed wsX8_mixed) := goodIn_app (goodIn_of _ (by decide +kernel)) ggX8_mixedYard_X8_mixed
theorem dX8_mixedYard_142 : decode cX8_mixedYard 142 = .ok (.lstore_n 3, 1) := by decide +kernel
theorem dX8_mixedYard_143 : decode cX8_mixedYard 143 = .ok (.lload_n 3, 1) := by decide +kernel
theorem dX8_mixedYard_144 : decode cX8_mixedYard 144 = .ok (.aload_n 0, 1) := by decide +kernel
theorem dX8_mixedYard_145 : decode cX8_mixedYard 145 = .ok (.getfield 81, 3) := by decide +kernel
theorem dX8_mixedYard_148 : decode cX8_mixedYard 148 = .ok (.invokevirtual 322, 3) := by decide +kernel
set_option maxRecDepth 20000 in
theorem ggX8_mixedYard_X7_countBlocking : GoodIn wsX8_mixedYard wsX7_countBlocking := goodIn_r _ [19, 20, 21, 22, 23, 24, 18, 25, 26, 27, 28, 29, 30, 31, 32, 33, 34, 35, 57, 58, 59, 60, 61, 62, 63, 64, 65, 66, 67] rfl (by decide +kernel)
set_option maxRecDepth 20000 in
theorem gX8_mixedYard_X7_countBlocking : GoodIn wsX8_mixedYard (wsV RX8 322 RX7 yX7_countBlocking wsX7_countBlocking) := goodIn_app (goodIn_of _ (by decide +kernel)) ggX8_mixedYard_X7_countBlocking
theorem dX8_mixedYard_151 : decode cX8_mixedYard 151 = .ok (.invokestatic 339, 3) := by decide +kernel
theorem dX8_mixedYard_154 : decode cX8_mixedYard 154 = .ok (.lreturn, 1) := by decide +kernel
set_option maxHeartbeats 4000000 in
set_option maxRecDepth 100000 in
theorem x0_mixedYard (l : Launch) (g : xG) (sz : Nat) (h0 : Nat) (cg : Nat) (yd : Nat) (f0 : Value) (f1 : Value) (f2 : Value) (f3 : Value) (f5 : Value) (f6 : Value) (f7 : Value) (f8 : Value) (f9 : Value) (f10 : Value) (f11 : Value) (f12 : Value) (f14 : Value) (c1 : Value) (c2 : Value) (c3 : Value) (c4 : Value) (c5 : Value) (y2 : Value) (y3 : Value) (y4 : Value) (y5 : Value) (y6 : Value) (y7 : Value) (y8 : Value) (y9 : Value) (y10 : Value) (p0 : Int64)  : Met l yX8_mixedYard wsX8_mixedYard ({ frames := 1, cells := 0, slots := 0, locals := 23 }) (va_Pc [.ref h0, .long p0] (fun U => xB g [(h0, .inr (8, [f0, f1, f2, f3, .ref cg, f5, f6, f7, f8, f9, f10, f11, f12, .ref yd, f14])), (cg, .inr (2, [.int 0, c1, c2, c3, c4, c5])), (yd, .inr (7, [.int 0, .int 0, y2, y3, y4, y5, y6, y7, y8, y9, y10]))] sz U)) (va_Ql (fun (r : Int64) (u : Unit) => r = (p0 * 31 + (0 : Int32).toInt64) * 31 + (0 : Int32).toInt64) (fun _ _ => True) (va_A [] sz)) 0 0 (va_A [] sz) := by
  refine Met.ofW (cc := cX8_mixedYard) (maxL := 7) (ret := (some .long)) (by decide) rfl ?_
  intro p e s m args below meth c s₁ B hml hv
  obtain ⟨rfl, ⟨hsz, hP, hK, hD0⟩⟩ := hv
  have hx := B.exec
  have hb := B.bytes
  have hr := B.returns
  have hts := atoms_spec (ws := wsX8_mixedYard) B.pre
  have hown : s.vm.findClass RX8 = some m.cls := findClass_of_methodNamed B.named
  have hlocks := B.notSynchronized
  subst hsz
  have hD := hD0
  generalize hAe : va_A [] s.heap.size = A
  have hA : ∀ q : Nat, s.heap.size ≤ q → A q := fun q h => by rw [← hAe]; exact Or.inr h
  have hS : va_S A s.heap s.heap [] := va_S.rf
  have hl := lv_entry ([.ref h0, .long p0]) (n := 7) (Nat.le_of_ble_eq_true rfl)
  rw [lg_entry_eq]
  generalize (lg_sl ([.ref h0, .long p0]) ++ List.replicate (7 - (lg_sl ([.ref h0, .long p0])).length) Slot.unset).toArray = ls at hl ⊢
  have hl : lv_has ls 7 [(0, .ref h0), (1, .long p0)] := hl
  have hFX2 : ∀ w ∈ u_ws RX2 TX2 6, w ∈ wsX8_mixedYard := by decide +kernel
  have hFX7 : ∀ w ∈ u_ws RX7 TX7 11, w ∈ wsX8_mixedYard := by decide +kernel
  have hFX8 : ∀ w ∈ u_ws RX8 TX8 15, w ∈ wsX8_mixedYard := by decide +kernel
  refine lv_lload_n hx hb dX8_mixedYard_0 rfl (lv_at hl 1 rfl) ?_
  refine lv_lstore_n (lv' := [(3, .long p0), (0, .ref h0), (1, .long p0)]) hx hb dX8_mixedYard_1 rfl hl (by decide) rfl (fun ls hl => ?_)
  refine lv_iconst (v := 0) hx hb dX8_mixedYard_2 (by decide) ?_
  refine lv_istore (lv' := [(5, .int 0), (3, .long p0), (0, .ref h0), (1, .long p0)]) hx hb dX8_mixedYard_3 hl (by decide) rfl (fun ls hl => ?_)
  refine lv_iload hx hb dX8_mixedYard_5 (lv_at hl 0 rfl) ?_
  refine lv_aload_n hx hb dX8_mixedYard_7 rfl (lv_at hl 2 rfl) ?_
  refine va_get (D := xD g) (ci := 8) (v := .ref cg) (C := RX8) (T := TX8) (N := 15) hx hb hts hFX8 hown hK hP 0 rfl rfl 4 (by decide) (hts (.fieldLink RX8 26 "Stevedore" "cargo" "LStevedore$Cargo;") (by decide +kernel)) (fun _ h9 => h9) rfl dX8_mixedYard_8 ?_
  refine va_get (D := xD g) (ci := 2) (v := .int 0) (C := RX2) (T := TX2) (N := 6) hx hb hts hFX2 hown hK hP 1 rfl rfl 0 (by decide) (hts (.fieldLink RX8 129 "Stevedore$Cargo" "count" "I") (by decide +kernel)) (fun _ h9 => h9) rfl dX8_mixedYard_11 ?_
  refine lv_icmp_ge (tgt := 53) hx hb dX8_mixedYard_14 (by decide) (fun _ => ?_) (fun c0 => absurd (by decide) c0)
  refine lv_iconst (v := 0) hx hb dX8_mixedYard_53 (by decide) ?_
  refine lv_istore (lv' := [(5, .int 0), (3, .long p0), (0, .ref h0), (1, .long p0)]) hx hb dX8_mixedYard_54 hl (by decide) rfl (fun ls hl => ?_)
  refine lv_iload hx hb dX8_mixedYard_56 (lv_at hl 0 rfl) ?_
  refine lv_aload_n hx hb dX8_mixedYard_58 rfl (lv_at hl 2 rfl) ?_
  refine va_get (D := xD g) (ci := 8) (v := .ref yd) (C := RX8) (T := TX8) (N := 15) hx hb hts hFX8 hown hK hP 0 rfl rfl 13 (by decide) (hts (.fieldLink RX8 81 "Stevedore" "yard" "LStevedore$Yard;") (by decide +kernel)) (fun _ h9 => h9) rfl dX8_mixedYard_59 ?_
  refine va_get (D := xD g) (ci := 7) (v := .int 0) (C := RX7) (T := TX7) (N := 11) hx hb hts hFX7 hown hK hP 2 rfl rfl 0 (by decide) (hts (.fieldLink RX8 162 "Stevedore$Yard" "stackCount" "I") (by decide +kernel)) (fun _ h9 => h9) rfl dX8_mixedYard_62 ?_
  refine lv_icmp_ge (tgt := 131) hx hb dX8_mixedYard_65 (by decide) (fun _ => ?_) (fun c0 => absurd (by decide) c0)
  refine lv_lload_n hx hb dX8_mixedYard_131 rfl (lv_at hl 1 rfl) ?_
  refine lv_aload_n hx hb dX8_mixedYard_132 rfl (lv_at hl 2 rfl) ?_
  refine va_get (D := xD g) (ci := 8) (v := .ref yd) (C := RX8) (T := TX8) (N := 15) hx hb hts hFX8 hown hK hP 0 rfl rfl 13 (by decide) (hts (.fieldLink RX8 81 "Stevedore" "yard" "LStevedore$Yard;") (by decide +kernel)) (fun _ h9 => h9) rfl dX8_mixedYard_133 ?_
  refine va_get (D := xD g) (ci := 7) (v := .int 0) (C := RX7) (T := TX7) (N := 11) hx hb hts hFX7 hown hK hP 2 rfl rfl 1 (by decide) (hts (.fieldLink RX8 319 "Stevedore$Yard" "reshuffleCount" "I") (by decide +kernel)) (fun _ h9 => h9) rfl dX8_mixedYard_136 ?_
  have hPc := hP.sub (ws' := []) [] rfl
  have hDc := hD.sub (ws' := []) [] (by decide) rfl
  have hFc := xFree hS hA
  refine va_calll (va_runS (As := [.long p0, .int 0]) (rest := []) ⟨hx, hb, hml, hown, hts⟩ (x_mixed l g s.heap.size p0 0) (va_cwS 2 hts gX8_mixedYard_X8_mixed rfl rfl rfl (by decide +kernel) ⟨Nat.le_of_ble_eq_true rfl, Nat.le_of_ble_eq_true rfl⟩) ⟨xB.blind, fun U9 hU9 hW9 => ⟨rfl, xB.mk hPc hK hDc hU9 hW9⟩⟩ rfl rfl hl.1 rfl (lv_room (Nat.le_of_ble_eq_true rfl)) dX8_mixedYard_139 ⟨Nat.le_of_ble_eq_true rfl, Nat.le_of_ble_eq_true rfl⟩) hS (fun q _ h => hFc q h) hFc (fun r_1 u_2 t H1 locs ht hvm hw_3 hB hz1 hk1 hS => ?_)
  have hP := xSame hP hk1
  generalize H1 = H at hP hS ⊢
  have hP : va_P (xD g) vwCl [(h0, .inr (8, [f0, f1, f2, f3, .ref cg, f5, f6, f7, f8, f9, f10, f11, f12, .ref yd, f14])), (cg, .inr (2, [.int 0, c1, c2, c3, c4, c5])), (yd, .inr (7, [.int 0, .int 0, y2, y3, y4, y5, y6, y7, y8, y9, y10]))] H := hP
  try dsimp only at hw_3
  refine lv_lstore_n (lv' := [(3, .long r_1), (5, .int 0), (0, .ref h0), (1, .long p0)]) hx hb dX8_mixedYard_142 rfl hl (by decide) rfl (fun ls hl => ?_)
  refine lv_lload_n hx hb dX8_mixedYard_143 rfl (lv_at hl 0 rfl) ?_
  refine lv_aload_n hx hb dX8_mixedYard_144 rfl (lv_at hl 2 rfl) ?_
  refine va_get (D := xD g) (ci := 8) (v := .ref yd) (C := RX8) (T := TX8) (N := 15) hx hb hts hFX8 hown hK hP 0 rfl rfl 13 (by decide) (hts (.fieldLink RX8 81 "Stevedore" "yard" "LStevedore$Yard;") (by decide +kernel)) (fun _ h9 => h9) rfl dX8_mixedYard_145 ?_
  have hPc := hP.sub (ws' := [(yd, .inr (7, [.int 0, .int 0, y2, y3, y4, y5, y6, y7, y8, y9, y10]))]) [2] rfl
  have hDc := hD.sub (ws' := [(yd, .inr (7, [.int 0, .int 0, y2, y3, y4, y5, y6, y7, y8, y9, y10]))]) [2] (by decide) rfl
  have hFc := xFree hS hA
  refine va_calli (va_runV (As := []) (rest := [.long r_1]) ⟨hx, hb, hml, hown, hts⟩ (x0_countBlocking l g H.size yd (.int 0) y2 y3 y4 y5 y6 y7 y8 y9 y10) (cwV 0 hts gX8_mixedYard_X7_countBlocking rfl rfl rfl (by decide +kernel) ⟨Nat.le_of_ble_eq_true rfl, Nat.le_of_ble_eq_true rfl⟩) ⟨xB.blind, va_recv hK hPc (ci := 7) (q0 := 0) rfl rfl, fun U9 hU9 hW9 => ⟨rfl, xB.mk hPc hK hDc hU9 hW9⟩⟩ rfl rfl hl.1 rfl (lv_room (Nat.le_of_ble_eq_true rfl)) dX8_mixedYard_148 ⟨Nat.le_of_ble_eq_true rfl, Nat.le_of_ble_eq_true rfl⟩) hS (fun q _ h => hFc q h) hFc (fun r_4 u_5 t H1 locs ht hvm hw_6 hB hz1 hk1 hS => ?_)
  have hP := xSame hP hk1
  generalize H1 = H at hP hS ⊢
  have hP : va_P (xD g) vwCl [(h0, .inr (8, [f0, f1, f2, f3, .ref cg, f5, f6, f7, f8, f9, f10, f11, f12, .ref yd, f14])), (cg, .inr (2, [.int 0, c1, c2, c3, c4, c5])), (yd, .inr (7, [.int 0, .int 0, y2, y3, y4, y5, y6, y7, y8, y9, y10]))] H := hP
  try dsimp only at hw_6
  obtain rfl := hw_6
  have hPc := hP.sub (ws' := []) [] rfl
  have hDc := hD.sub (ws' := []) [] (by decide) rfl
  have hFc := xFree hS hA
  refine va_calll (va_runS (As := [.long r_1, .int 0]) (rest := []) ⟨hx, hb, hml, hown, hts⟩ (x_mixed l g H.size r_1 0) (va_cwS 2 hts gX8_mixedYard_X8_mixed rfl rfl rfl (by decide +kernel) ⟨Nat.le_of_ble_eq_true rfl, Nat.le_of_ble_eq_true rfl⟩) ⟨xB.blind, fun U9 hU9 hW9 => ⟨rfl, xB.mk hPc hK hDc hU9 hW9⟩⟩ rfl rfl hl.1 rfl (lv_room (Nat.le_of_ble_eq_true rfl)) dX8_mixedYard_151 ⟨Nat.le_of_ble_eq_true rfl, Nat.le_of_ble_eq_true rfl⟩) hS (fun q _ h => hFc q h) hFc (fun r_7 u_8 t H1 locs ht hvm hw_9 hB hz1 hk1 hS => ?_)
  have hP := xSame hP hk1
  generalize H1 = H at hP hS ⊢
  have hP : va_P (xD g) vwCl [(h0, .inr (8, [f0, f1, f2, f3, .ref cg, f5, f6, f7, f8, f9, f10, f11, f12, .ref yd, f14])), (cg, .inr (2, [.int 0, c1, c2, c3, c4, c5])), (yd, .inr (7, [.int 0, .int 0, y2, y3, y4, y5, y6, y7, y8, y9, y10]))] H := hP
  try dsimp only at hw_9
  exact W.lret (v := r_7) hx hb hr (fun t ht hW => ⟨⟨r_7, (), rfl, (by rw [hw_9, hw_3]), trivial⟩, hS.F ht⟩) hS.2.2 dX8_mixedYard_154
theorem dX8_digest_0 : decode cX8_digest 0 = .ok (.ldc2_w 337, 3) := by decide +kernel
theorem dX8_digest_3 : decode cX8_digest 3 = .ok (.lstore_n 1, 1) := by decide +kernel
theorem dX8_digest_4 : decode cX8_digest 4 = .ok (.lload_n 1, 1) := by decide +kernel
theorem dX8_digest_5 : decode cX8_digest 5 = .ok (.aload_n 0, 1) := by decide +kernel
theorem dX8_digest_6 : decode cX8_digest 6 = .ok (.getfield 95, 3) := by decide +kernel
theorem dX8_digest_9 : decode cX8_digest 9 = .ok (.invokestatic 339, 3) := by decide +kernel
set_option maxRecDepth 20000 in
theorem ggX8_digest_X8_mixed : GoodIn wsX8_digest wsX8_mixed := goodIn_r _ [11, 12] rfl (by decide +kernel)
set_option maxRecDepth 20000 in
theorem gX8_digest_X8_mixed : GoodIn wsX8_digest (va_wsS RX8 339 yX8_mixed wsX8_mixed) := goodIn_app (goodIn_of _ (by decide +kernel)) ggX8_digest_X8_mixed
theorem dX8_digest_12 : decode cX8_digest 12 = .ok (.lstore_n 1, 1) := by decide +kernel
theorem dX8_digest_13 : decode cX8_digest 13 = .ok (.lload_n 1, 1) := by decide +kernel
theorem dX8_digest_14 : decode cX8_digest 14 = .ok (.aload_n 0, 1) := by decide +kernel
theorem dX8_digest_15 : decode cX8_digest 15 = .ok (.getfield 26, 3) := by decide +kernel
theorem dX8_digest_18 : decode cX8_digest 18 = .ok (.getfield 129, 3) := by decide +kernel
theorem dX8_digest_21 : decode cX8_digest 21 = .ok (.invokestatic 339, 3) := by decide +kernel
theorem dX8_digest_24 : decode cX8_digest 24 = .ok (.lstore_n 1, 1) := by decide +kernel
theorem dX8_digest_25 : decode cX8_digest 25 = .ok (.lload_n 1, 1) := by decide +kernel
theorem dX8_digest_26 : decode cX8_digest 26 = .ok (.aload_n 0, 1) := by decide +kernel
theorem dX8_digest_27 : decode cX8_digest 27 = .ok (.getfield 81, 3) := by decide +kernel
theorem dX8_digest_30 : decode cX8_digest 30 = .ok (.getfield 162, 3) := by decide +kernel
theorem dX8_digest_33 : decode cX8_digest 33 = .ok (.invokestatic 339, 3) := by decide +kernel
theorem dX8_digest_36 : decode cX8_digest 36 = .ok (.lstore_n 1, 1) := by decide +kernel
theorem dX8_digest_37 : decode cX8_digest 37 = .ok (.iconst 0, 1) := by decide +kernel
theorem dX8_digest_38 : decode cX8_digest 38 = .ok (.istore_n 3, 1) := by decide +kernel
theorem dX8_digest_39 : decode cX8_digest 39 = .ok (.iload_n 3, 1) := by decide +kernel
theorem dX8_digest_40 : decode cX8_digest 40 = .ok (.aload_n 0, 1) := by decide +kernel
theorem dX8_digest_41 : decode cX8_digest 41 = .ok (.getfield 95, 3) := by decide +kernel
theorem dX8_digest_44 : decode cX8_digest 44 = .ok (.if_icmp .ge 20, 3) := by decide +kernel
theorem dX8_digest_64 : decode cX8_digest 64 = .ok (.aload_n 0, 1) := by decide +kernel
theorem dX8_digest_65 : decode cX8_digest 65 = .ok (.lload_n 1, 1) := by decide +kernel
theorem dX8_digest_66 : decode cX8_digest 66 = .ok (.invokevirtual 347, 3) := by decide +kernel
set_option maxRecDepth 20000 in
theorem ggX8_digest_X8_mixedPlan : GoodIn wsX8_digest wsX8_mixedPlan := goodIn_r _ [42, 43, 44, 2, 45, 46, 47, 3, 4, 8, 9, 10, 11, 12, 48, 49, 50, 51, 52, 7, 23, 53, 54, 55, 56, 57, 58, 59, 60, 61, 62, 63, 64, 65, 66, 122, 123, 124, 125, 126, 127, 128, 129, 130, 131, 132, 133, 134, 135, 136, 165, 166, 167, 168, 137, 138, 139, 140, 141, 142, 154, 155, 156, 157, 158, 159, 160, 161, 162, 163, 164] rfl (by decide +kernel)
set_option maxRecDepth 20000 in
theorem gX8_digest_X8_mixedPlan : GoodIn wsX8_digest (wsV RX8 347 RX8 yX8_mixedPlan wsX8_mixedPlan) := goodIn_app (goodIn_of _ (by decide +kernel)) ggX8_digest_X8_mixedPlan
theorem dX8_digest_69 : decode cX8_digest 69 = .ok (.lstore_n 1, 1) := by decide +kernel
theorem dX8_digest_70 : decode cX8_digest 70 = .ok (.aload_n 0, 1) := by decide +kernel
theorem dX8_digest_71 : decode cX8_digest 71 = .ok (.lload_n 1, 1) := by decide +kernel
theorem dX8_digest_72 : decode cX8_digest 72 = .ok (.invokevirtual 351, 3) := by decide +kernel
set_option maxRecDepth 20000 in
theorem ggX8_digest_X8_mixedSlots : GoodIn wsX8_digest wsX8_mixedSlots := goodIn_r _ [70, 71, 3, 4, 72, 8, 9, 10, 11, 12, 122, 123, 124, 125, 126, 127, 128, 129, 130, 131, 132, 133, 134, 135, 136, 137, 138, 139, 140, 141, 142] rfl (by decide +kernel)
set_option maxRecDepth 20000 in
theorem gX8_digest_X8_mixedSlots : GoodIn wsX8_digest (wsV RX8 351 RX8 yX8_mixedSlots wsX8_mixedSlots) := goodIn_app (goodIn_of _ (by decide +kernel)) ggX8_digest_X8_mixedSlots
theorem dX8_digest_75 : decode cX8_digest 75 = .ok (.lstore_n 1, 1) := by decide +kernel
theorem dX8_digest_76 : decode cX8_digest 76 = .ok (.aload_n 0, 1) := by decide +kernel
theorem dX8_digest_77 : decode cX8_digest 77 = .ok (.lload_n 1, 1) := by decide +kernel
theorem dX8_digest_78 : decode cX8_digest 78 = .ok (.invokevirtual 354, 3) := by decide +kernel
set_option maxRecDepth 20000 in
theorem ggX8_digest_X8_mixedAgenda : GoodIn wsX8_digest wsX8_mixedAgenda := goodIn_r _ [76, 77, 78, 8, 9, 10, 11, 12, 79, 80, 81, 82, 83, 84, 85, 86, 87, 88, 89, 90, 91, 92, 122, 123, 124, 125, 126, 127, 128, 129, 130, 131, 132, 133, 134, 135, 136, 169, 170] rfl (by decide +kernel)
set_option maxRecDepth 20000 in
theorem gX8_digest_X8_mixedAgenda : GoodIn wsX8_digest (wsV RX8 354 RX8 yX8_mixedAgenda wsX8_mixedAgenda) := goodIn_app (goodIn_of _ (by decide +kernel)) ggX8_digest_X8_mixedAgenda
theorem dX8_digest_81 : decode cX8_digest 81 = .ok (.lstore_n 1, 1) := by decide +kernel
theorem dX8_digest_82 : decode cX8_digest 82 = .ok (.aload_n 0, 1) := by decide +kernel
theorem dX8_digest_83 : decode cX8_digest 83 = .ok (.lload_n 1, 1) := by decide +kernel
theorem dX8_digest_84 : decode cX8_digest 84 = .ok (.invokevirtual 357, 3) := by decide +kernel
set_option maxRecDepth 20000 in
theorem ggX8_digest_X8_mixedYard : GoodIn wsX8_digest wsX8_mixedYard := goodIn_r _ [96, 3, 4, 5, 97, 98, 6, 99, 100, 101, 8, 9, 10, 11, 12, 102, 103, 104, 105, 106, 107, 108, 109, 110, 111, 112, 113, 114, 115, 116, 117, 118, 119, 120, 37, 121, 122, 123, 124, 125, 126, 127, 128, 129, 130, 131, 132, 133, 134, 135, 136, 137, 138, 139, 140, 141, 142, 143, 144, 145, 146, 147, 148, 149, 150, 151, 152, 153] rfl (by decide +kernel)
set_option maxRecDepth 20000 in
theorem gX8_digest_X8_mixedYard : GoodIn wsX8_digest (wsV RX8 357 RX8 yX8_mixedYard wsX8_mixedYard) := goodIn_app (goodIn_of _ (by decide +kernel)) ggX8_digest_X8_mixedYard
theorem dX8_digest_87 : decode cX8_digest 87 = .ok (.lreturn, 1) := by decide +kernel
set_option maxHeartbeats 4000000 in
set_option maxRecDepth 100000 in
theorem x0_digest (l : Launch) (g : xG) (sz : Nat) (h0 : Nat) (cg : Nat) (pl : Nat) (ag : Nat) (yd : Nat) (f0 : Value) (f1 : Value) (f3 : Value) (f5 : Value) (f6 : Value) (f7 : Value) (f9 : Value) (f11 : Value) (f14 : Value) (c1 : Value) (c2 : Value) (c3 : Value) (c4 : Value) (c5 : Value) (q1 : Value) (q2 : Value) (q3 : Value) (a1 : Value) (y2 : Value) (y3 : Value) (y4 : Value) (y5 : Value) (y6 : Value) (y7 : Value) (y8 : Value) (y9 : Value) (y10 : Value)  : Met l yX8_digest wsX8_digest ({ frames := 2, cells := 0, slots := 0, locals := 49 }) (va_Pc [.ref h0] (fun U => xB g [(h0, .inr (8, [f0, f1, .int 0, f3, .ref cg, f5, f6, f7, .ref pl, f9, .int 0, f11, .ref ag, .ref yd, f14])), (cg, .inr (2, [.int 0, c1, c2, c3, c4, c5])), (pl, .inr (4, [.int 0, q1, q2, q3])), (ag, .inr (0, [.int 0, a1])), (yd, .inr (7, [.int 0, .int 0, y2, y3, y4, y5, y6, y7, y8, y9, y10]))] sz U)) (va_Ql (fun (r : Int64) (u : Unit) => r = 1596391921176664) (fun _ _ => True) (va_A [] sz)) 0 0 (va_A [] sz) := by
  refine Met.ofW (cc := cX8_digest) (maxL := 4) (ret := (some .long)) (by decide) rfl ?_
  intro p e s m args below meth c s₁ B hml hv
  obtain ⟨rfl, ⟨hsz, hP, hK, hD0⟩⟩ := hv
  have hx := B.exec
  have hb := B.bytes
  have hr := B.returns
  have hts := atoms_spec (ws := wsX8_digest) B.pre
  have hown : s.vm.findClass RX8 = some m.cls := findClass_of_methodNamed B.named
  have hlocks := B.notSynchronized
  subst hsz
  have hD := hD0
  generalize hAe : va_A [] s.heap.size = A
  have hA : ∀ q : Nat, s.heap.size ≤ q → A q := fun q h => by rw [← hAe]; exact Or.inr h
  have hS : va_S A s.heap s.heap [] := va_S.rf
  have hl := lv_entry ([.ref h0]) (n := 4) (Nat.le_of_ble_eq_true rfl)
  rw [lg_entry_eq]
  generalize (lg_sl ([.ref h0]) ++ List.replicate (4 - (lg_sl ([.ref h0])).length) Slot.unset).toArray = ls at hl ⊢
  have hl : lv_has ls 4 [(0, .ref h0)] := hl
  have hFX2 : ∀ w ∈ u_ws RX2 TX2 6, w ∈ wsX8_digest := by decide +kernel
  have hFX7 : ∀ w ∈ u_ws RX7 TX7 11, w ∈ wsX8_digest := by decide +kernel
  have hFX8 : ∀ w ∈ u_ws RX8 TX8 15, w ∈ wsX8_digest := by decide +kernel
  refine lv_ldc2 (v := 58024) hx hb hown (hts (.constantLong RX8 337 (58024)) (by decide +kernel)) dX8_digest_0 ?_
  refine lv_lstore_n (lv' := [(1, .long 58024), (0, .ref h0)]) hx hb dX8_digest_3 rfl hl (by decide) rfl (fun ls hl => ?_)
  refine lv_lload_n hx hb dX8_digest_4 rfl (lv_at hl 0 rfl) ?_
  refine lv_aload_n hx hb dX8_digest_5 rfl (lv_at hl 1 rfl) ?_
  refine va_get (D := xD g) (ci := 8) (v := .int 0) (C := RX8) (T := TX8) (N := 15) hx hb hts hFX8 hown hK hP 0 rfl rfl 2 (by decide) (hts (.fieldLink RX8 95 "Stevedore" "vesselCount" "I") (by decide +kernel)) (fun _ h9 => h9) rfl dX8_digest_6 ?_
  have hPc := hP.sub (ws' := []) [] rfl
  have hDc := hD.sub (ws' := []) [] (by decide) rfl
  have hFc := xFree hS hA
  refine va_calll (va_runS (As := [.long 58024, .int 0]) (rest := []) ⟨hx, hb, hml, hown, hts⟩ (x_mixed l g s.heap.size 58024 0) (va_cwS 2 hts gX8_digest_X8_mixed rfl rfl rfl (by decide +kernel) ⟨Nat.le_of_ble_eq_true rfl, Nat.le_of_ble_eq_true rfl⟩) ⟨xB.blind, fun U9 hU9 hW9 => ⟨rfl, xB.mk hPc hK hDc hU9 hW9⟩⟩ rfl rfl hl.1 rfl (lv_room (Nat.le_of_ble_eq_true rfl)) dX8_digest_9 ⟨Nat.le_of_ble_eq_true rfl, Nat.le_of_ble_eq_true rfl⟩) hS (fun q _ h => hFc q h) hFc (fun r_1 u_2 t H1 locs ht hvm hw_3 hB hz1 hk1 hS => ?_)
  have hP := xSame hP hk1
  generalize H1 = H at hP hS ⊢
  have hP : va_P (xD g) vwCl [(h0, .inr (8, [f0, f1, .int 0, f3, .ref cg, f5, f6, f7, .ref pl, f9, .int 0, f11, .ref ag, .ref yd, f14])), (cg, .inr (2, [.int 0, c1, c2, c3, c4, c5])), (pl, .inr (4, [.int 0, q1, q2, q3])), (ag, .inr (0, [.int 0, a1])), (yd, .inr (7, [.int 0, .int 0, y2, y3, y4, y5, y6, y7, y8, y9, y10]))] H := hP
  try dsimp only at hw_3
  obtain rfl : r_1 = (1798744 : Int64) := hw_3.trans (by decide)
  refine lv_lstore_n (lv' := [(1, .long 1798744), (0, .ref h0)]) hx hb dX8_digest_12 rfl hl (by decide) rfl (fun ls hl => ?_)
  refine lv_lload_n hx hb dX8_digest_13 rfl (lv_at hl 0 rfl) ?_
  refine lv_aload_n hx hb dX8_digest_14 rfl (lv_at hl 1 rfl) ?_
  refine va_get (D := xD g) (ci := 8) (v := .ref cg) (C := RX8) (T := TX8) (N := 15) hx hb hts hFX8 hown hK hP 0 rfl rfl 4 (by decide) (hts (.fieldLink RX8 26 "Stevedore" "cargo" "LStevedore$Cargo;") (by decide +kernel)) (fun _ h9 => h9) rfl dX8_digest_15 ?_
  refine va_get (D := xD g) (ci := 2) (v := .int 0) (C := RX2) (T := TX2) (N := 6) hx hb hts hFX2 hown hK hP 1 rfl rfl 0 (by decide) (hts (.fieldLink RX8 129 "Stevedore$Cargo" "count" "I") (by decide +kernel)) (fun _ h9 => h9) rfl dX8_digest_18 ?_
  have hPc := hP.sub (ws' := []) [] rfl
  have hDc := hD.sub (ws' := []) [] (by decide) rfl
  have hFc := xFree hS hA
  refine va_calll (va_runS (As := [.long 1798744, .int 0]) (rest := []) ⟨hx, hb, hml, hown, hts⟩ (x_mixed l g H.size 1798744 0) (va_cwS 2 hts gX8_digest_X8_mixed rfl rfl rfl (by decide +kernel) ⟨Nat.le_of_ble_eq_true rfl, Nat.le_of_ble_eq_true rfl⟩) ⟨xB.blind, fun U9 hU9 hW9 => ⟨rfl, xB.mk hPc hK hDc hU9 hW9⟩⟩ rfl rfl hl.1 rfl (lv_room (Nat.le_of_ble_eq_true rfl)) dX8_digest_21 ⟨Nat.le_of_ble_eq_true rfl, Nat.le_of_ble_eq_true rfl⟩) hS (fun q _ h => hFc q h) hFc (fun r_4 u_5 t H1 locs ht hvm hw_6 hB hz1 hk1 hS => ?_)
  have hP := xSame hP hk1
  generalize H1 = H at hP hS ⊢
  have hP : va_P (xD g) vwCl [(h0, .inr (8, [f0, f1, .int 0, f3, .ref cg, f5, f6, f7, .ref pl, f9, .int 0, f11, .ref ag, .ref yd, f14])), (cg, .inr (2, [.int 0, c1, c2, c3, c4, c5])), (pl, .inr (4, [.int 0, q1, q2, q3])), (ag, .inr (0, [.int 0, a1])), (yd, .inr (7, [.int 0, .int 0, y2, y3, y4, y5, y6, y7, y8, y9, y10]))] H := hP
  try dsimp only at hw_6
  obtain rfl : r_4 = (55761064 : Int64) := hw_6.trans (by decide)
  refine lv_lstore_n (lv' := [(1, .long 55761064), (0, .ref h0)]) hx hb dX8_digest_24 rfl hl (by decide) rfl (fun ls hl => ?_)
  refine lv_lload_n hx hb dX8_digest_25 rfl (lv_at hl 0 rfl) ?_
  refine lv_aload_n hx hb dX8_digest_26 rfl (lv_at hl 1 rfl) ?_
  refine va_get (D := xD g) (ci := 8) (v := .ref yd) (C := RX8) (T := TX8) (N := 15) hx hb hts hFX8 hown hK hP 0 rfl rfl 13 (by decide) (hts (.fieldLink RX8 81 "Stevedore" "yard" "LStevedore$Yard;") (by decide +kernel)) (fun _ h9 => h9) rfl dX8_digest_27 ?_
  refine va_get (D := xD g) (ci := 7) (v := .int 0) (C := RX7) (T := TX7) (N := 11) hx hb hts hFX7 hown hK hP 4 rfl rfl 0 (by decide) (hts (.fieldLink RX8 162 "Stevedore$Yard" "stackCount" "I") (by decide +kernel)) (fun _ h9 => h9) rfl dX8_digest_30 ?_
  have hPc := hP.sub (ws' := []) [] rfl
  have hDc := hD.sub (ws' := []) [] (by decide) rfl
  have hFc := xFree hS hA
  refine va_calll (va_runS (As := [.long 55761064, .int 0]) (rest := []) ⟨hx, hb, hml, hown, hts⟩ (x_mixed l g H.size 55761064 0) (va_cwS 2 hts gX8_digest_X8_mixed rfl rfl rfl (by decide +kernel) ⟨Nat.le_of_ble_eq_true rfl, Nat.le_of_ble_eq_true rfl⟩) ⟨xB.blind, fun U9 hU9 hW9 => ⟨rfl, xB.mk hPc hK hDc hU9 hW9⟩⟩ rfl rfl hl.1 rfl (lv_room (Nat.le_of_ble_eq_true rfl)) dX8_digest_33 ⟨Nat.le_of_ble_eq_true rfl, Nat.le_of_ble_eq_true rfl⟩) hS (fun q _ h => hFc q h) hFc (fun r_7 u_8 t H1 locs ht hvm hw_9 hB hz1 hk1 hS => ?_)
  have hP := xSame hP hk1
  generalize H1 = H at hP hS ⊢
  have hP : va_P (xD g) vwCl [(h0, .inr (8, [f0, f1, .int 0, f3, .ref cg, f5, f6, f7, .ref pl, f9, .int 0, f11, .ref ag, .ref yd, f14])), (cg, .inr (2, [.int 0, c1, c2, c3, c4, c5])), (pl, .inr (4, [.int 0, q1, q2, q3])), (ag, .inr (0, [.int 0, a1])), (yd, .inr (7, [.int 0, .int 0, y2, y3, y4, y5, y6, y7, y8, y9, y10]))] H := hP
  try dsimp only at hw_9
  obtain rfl : r_7 = (1728592984 : Int64) := hw_9.trans (by decide)
  refine lv_lstore_n (lv' := [(1, .long 1728592984), (0, .ref h0)]) hx hb dX8_digest_36 rfl hl (by decide) rfl (fun ls hl => ?_)
  refine lv_iconst (v := 0) hx hb dX8_digest_37 (by decide) ?_
  refine lv_istore_n (lv' := [(3, .int 0), (1, .long 1728592984), (0, .ref h0)]) hx hb dX8_digest_38 rfl hl (by decide) rfl (fun ls hl => ?_)
  refine lv_iload_n hx hb dX8_digest_39 rfl (lv_at hl 0 rfl) ?_
  refine lv_aload_n hx hb dX8_digest_40 rfl (lv_at hl 2 rfl) ?_
  refine va_get (D := xD g) (ci := 8) (v := .int 0) (C := RX8) (T := TX8) (N := 15) hx hb hts hFX8 hown hK hP 0 rfl rfl 2 (by decide) (hts (.fieldLink RX8 95 "Stevedore" "vesselCount" "I") (by decide +kernel)) (fun _ h9 => h9) rfl dX8_digest_41 ?_
  refine lv_icmp_ge (tgt := 64) hx hb dX8_digest_44 (by decide) (fun _ => ?_) (fun c0 => absurd (by decide) c0)
  refine lv_aload_n hx hb dX8_digest_64 rfl (lv_at hl 2 rfl) ?_
  refine lv_lload_n hx hb dX8_digest_65 rfl (lv_at hl 1 rfl) ?_
  have hPc := hP.sub (ws' := [(h0, .inr (8, [f0, f1, .int 0, f3, .ref cg, f5, f6, f7, .ref pl, f9, .int 0, f11, .ref ag, .ref yd, f14])), (pl, .inr (4, [.int 0, q1, q2, q3]))]) [0, 2] rfl
  have hDc := hD.sub (ws' := [(h0, .inr (8, [f0, f1, .int 0, f3, .ref cg, f5, f6, f7, .ref pl, f9, .int 0, f11, .ref ag, .ref yd, f14])), (pl, .inr (4, [.int 0, q1, q2, q3]))]) [0, 2] (by decide) rfl
  have hFc := xFree hS hA
  refine va_calll (va_runV (As := [.long 1728592984]) (rest := []) ⟨hx, hb, hml, hown, hts⟩ (x0_mixedPlan l g H.size h0 pl f0 f1 (.int 0) f3 (.ref cg) f5 f6 f7 f9 (.int 0) f11 (.ref ag) (.ref yd) f14 q1 q2 q3 1728592984) (cwV 1 hts gX8_digest_X8_mixedPlan rfl rfl rfl (by decide +kernel) ⟨Nat.le_of_ble_eq_true rfl, Nat.le_of_ble_eq_true rfl⟩) ⟨xB.blind, va_recv hK hPc (ci := 8) (q0 := 0) rfl rfl, fun U9 hU9 hW9 => ⟨rfl, xB.mk hPc hK hDc hU9 hW9⟩⟩ rfl rfl hl.1 rfl (lv_room (Nat.le_of_ble_eq_true rfl)) dX8_digest_66 ⟨Nat.le_of_ble_eq_true rfl, Nat.le_of_ble_eq_true rfl⟩) hS (fun q _ h => hFc q h) hFc (fun r_10 u_11 t H1 locs ht hvm hw_12 hB hz1 hk1 hS => ?_)
  have hP := xSame hP hk1
  generalize H1 = H at hP hS ⊢
  have hP : va_P (xD g) vwCl [(h0, .inr (8, [f0, f1, .int 0, f3, .ref cg, f5, f6, f7, .ref pl, f9, .int 0, f11, .ref ag, .ref yd, f14])), (cg, .inr (2, [.int 0, c1, c2, c3, c4, c5])), (pl, .inr (4, [.int 0, q1, q2, q3])), (ag, .inr (0, [.int 0, a1])), (yd, .inr (7, [.int 0, .int 0, y2, y3, y4, y5, y6, y7, y8, y9, y10]))] H := hP
  try dsimp only at hw_12
  obtain rfl : r_10 = (53586382504 : Int64) := hw_12.trans (by decide)
  refine lv_lstore_n (lv' := [(1, .long 53586382504), (3, .int 0), (0, .ref h0)]) hx hb dX8_digest_69 rfl hl (by decide) rfl (fun ls hl => ?_)
  refine lv_aload_n hx hb dX8_digest_70 rfl (lv_at hl 2 rfl) ?_
  refine lv_lload_n hx hb dX8_digest_71 rfl (lv_at hl 0 rfl) ?_
  have hPc := hP.sub (ws' := [(h0, .inr (8, [f0, f1, .int 0, f3, .ref cg, f5, f6, f7, .ref pl, f9, .int 0, f11, .ref ag, .ref yd, f14]))]) [0] rfl
  have hDc := hD.sub (ws' := [(h0, .inr (8, [f0, f1, .int 0, f3, .ref cg, f5, f6, f7, .ref pl, f9, .int 0, f11, .ref ag, .ref yd, f14]))]) [0] (by decide) rfl
  have hFc := xFree hS hA
  refine va_calll (va_runV (As := [.long 53586382504]) (rest := []) ⟨hx, hb, hml, hown, hts⟩ (x0_mixedSlots l g H.size h0 f0 f1 (.int 0) f3 (.ref cg) f5 f6 f7 (.ref pl) f9 f11 (.ref ag) (.ref yd) f14 53586382504) (cwV 1 hts gX8_digest_X8_mixedSlots rfl rfl rfl (by decide +kernel) ⟨Nat.le_of_ble_eq_true rfl, Nat.le_of_ble_eq_true rfl⟩) ⟨xB.blind, va_recv hK hPc (ci := 8) (q0 := 0) rfl rfl, fun U9 hU9 hW9 => ⟨rfl, xB.mk hPc hK hDc hU9 hW9⟩⟩ rfl rfl hl.1 rfl (lv_room (Nat.le_of_ble_eq_true rfl)) dX8_digest_72 ⟨Nat.le_of_ble_eq_true rfl, Nat.le_of_ble_eq_true rfl⟩) hS (fun q _ h => hFc q h) hFc (fun r_13 u_14 t H1 locs ht hvm hw_15 hB hz1 hk1 hS => ?_)
  have hP := xSame hP hk1
  generalize H1 = H at hP hS ⊢
  have hP : va_P (xD g) vwCl [(h0, .inr (8, [f0, f1, .int 0, f3, .ref cg, f5, f6, f7, .ref pl, f9, .int 0, f11, .ref ag, .ref yd, f14])), (cg, .inr (2, [.int 0, c1, c2, c3, c4, c5])), (pl, .inr (4, [.int 0, q1, q2, q3])), (ag, .inr (0, [.int 0, a1])), (yd, .inr (7, [.int 0, .int 0, y2, y3, y4, y5, y6, y7, y8, y9, y10]))] H := hP
  try dsimp only at hw_15
  obtain rfl : r_13 = (53586382504 : Int64) := hw_15.trans (by decide)
  refine lv_lstore_n (lv' := [(1, .long 53586382504), (3, .int 0), (0, .ref h0)]) hx hb dX8_digest_75 rfl hl (by decide) rfl (fun ls hl => ?_)
  refine lv_aload_n hx hb dX8_digest_76 rfl (lv_at hl 2 rfl) ?_
  refine lv_lload_n hx hb dX8_digest_77 rfl (lv_at hl 0 rfl) ?_
  have hPc := hP.sub (ws' := [(h0, .inr (8, [f0, f1, .int 0, f3, .ref cg, f5, f6, f7, .ref pl, f9, .int 0, f11, .ref ag, .ref yd, f14])), (ag, .inr (0, [.int 0, a1]))]) [0, 3] rfl
  have hDc := hD.sub (ws' := [(h0, .inr (8, [f0, f1, .int 0, f3, .ref cg, f5, f6, f7, .ref pl, f9, .int 0, f11, .ref ag, .ref yd, f14])), (ag, .inr (0, [.int 0, a1]))]) [0, 3] (by decide) rfl
  have hFc := xFree hS hA
  refine va_calll (va_runV (As := [.long 53586382504]) (rest := []) ⟨hx, hb, hml, hown, hts⟩ (x0_mixedAgenda l g H.size h0 ag f0 f1 (.int 0) f3 (.ref cg) f5 f6 f7 (.ref pl) f9 (.int 0) f11 (.ref yd) f14 a1 53586382504) (cwV 1 hts gX8_digest_X8_mixedAgenda rfl rfl rfl (by decide +kernel) ⟨Nat.le_of_ble_eq_true rfl, Nat.le_of_ble_eq_true rfl⟩) ⟨xB.blind, va_recv hK hPc (ci := 8) (q0 := 0) rfl rfl, fun U9 hU9 hW9 => ⟨rfl, xB.mk hPc hK hDc hU9 hW9⟩⟩ rfl rfl hl.1 rfl (lv_room (Nat.le_of_ble_eq_true rfl)) dX8_digest_78 ⟨Nat.le_of_ble_eq_true rfl, Nat.le_of_ble_eq_true rfl⟩) hS (fun q _ h => hFc q h) hFc (fun r_16 u_17 t H1 locs ht hvm hw_18 hB hz1 hk1 hS => ?_)
  have hP := xSame hP hk1
  generalize H1 = H at hP hS ⊢
  have hP : va_P (xD g) vwCl [(h0, .inr (8, [f0, f1, .int 0, f3, .ref cg, f5, f6, f7, .ref pl, f9, .int 0, f11, .ref ag, .ref yd, f14])), (cg, .inr (2, [.int 0, c1, c2, c3, c4, c5])), (pl, .inr (4, [.int 0, q1, q2, q3])), (ag, .inr (0, [.int 0, a1])), (yd, .inr (7, [.int 0, .int 0, y2, y3, y4, y5, y6, y7, y8, y9, y10]))] H := hP
  try dsimp only at hw_18
  obtain rfl : r_16 = (1661177857624 : Int64) := hw_18.trans (by decide)
  refine lv_lstore_n (lv' := [(1, .long 1661177857624), (3, .int 0), (0, .ref h0)]) hx hb dX8_digest_81 rfl hl (by decide) rfl (fun ls hl => ?_)
  refine lv_aload_n hx hb dX8_digest_82 rfl (lv_at hl 2 rfl) ?_
  refine lv_lload_n hx hb dX8_digest_83 rfl (lv_at hl 0 rfl) ?_
  have hPc := hP.sub (ws' := [(h0, .inr (8, [f0, f1, .int 0, f3, .ref cg, f5, f6, f7, .ref pl, f9, .int 0, f11, .ref ag, .ref yd, f14])), (cg, .inr (2, [.int 0, c1, c2, c3, c4, c5])), (yd, .inr (7, [.int 0, .int 0, y2, y3, y4, y5, y6, y7, y8, y9, y10]))]) [0, 1, 4] rfl
  have hDc := hD.sub (ws' := [(h0, .inr (8, [f0, f1, .int 0, f3, .ref cg, f5, f6, f7, .ref pl, f9, .int 0, f11, .ref ag, .ref yd, f14])), (cg, .inr (2, [.int 0, c1, c2, c3, c4, c5])), (yd, .inr (7, [.int 0, .int 0, y2, y3, y4, y5, y6, y7, y8, y9, y10]))]) [0, 1, 4] (by decide) rfl
  have hFc := xFree hS hA
  refine va_calll (va_runV (As := [.long 1661177857624]) (rest := []) ⟨hx, hb, hml, hown, hts⟩ (x0_mixedYard l g H.size h0 cg yd f0 f1 (.int 0) f3 f5 f6 f7 (.ref pl) f9 (.int 0) f11 (.ref ag) f14 c1 c2 c3 c4 c5 y2 y3 y4 y5 y6 y7 y8 y9 y10 1661177857624) (cwV 1 hts gX8_digest_X8_mixedYard rfl rfl rfl (by decide +kernel) ⟨Nat.le_of_ble_eq_true rfl, Nat.le_of_ble_eq_true rfl⟩) ⟨xB.blind, va_recv hK hPc (ci := 8) (q0 := 0) rfl rfl, fun U9 hU9 hW9 => ⟨rfl, xB.mk hPc hK hDc hU9 hW9⟩⟩ rfl rfl hl.1 rfl (lv_room (Nat.le_of_ble_eq_true rfl)) dX8_digest_84 ⟨Nat.le_of_ble_eq_true rfl, Nat.le_of_ble_eq_true rfl⟩) hS (fun q _ h => hFc q h) hFc (fun r_19 u_20 t H1 locs ht hvm hw_21 hB hz1 hk1 hS => ?_)
  have hP := xSame hP hk1
  generalize H1 = H at hP hS ⊢
  have hP : va_P (xD g) vwCl [(h0, .inr (8, [f0, f1, .int 0, f3, .ref cg, f5, f6, f7, .ref pl, f9, .int 0, f11, .ref ag, .ref yd, f14])), (cg, .inr (2, [.int 0, c1, c2, c3, c4, c5])), (pl, .inr (4, [.int 0, q1, q2, q3])), (ag, .inr (0, [.int 0, a1])), (yd, .inr (7, [.int 0, .int 0, y2, y3, y4, y5, y6, y7, y8, y9, y10]))] H := hP
  try dsimp only at hw_21
  obtain rfl : r_19 = (1596391921176664 : Int64) := hw_21.trans (by decide)
  exact W.lret (v := 1596391921176664) hx hb hr (fun t ht hW => ⟨⟨1596391921176664, (), rfl, rfl, trivial⟩, hS.F ht⟩) hS.2.2 dX8_digest_87
