theorem dX8_vessels_0 : decode cX8_vessels 0 = .ok (.aload_n 0, 1) := by decide +kernel
theorem dX8_vessels_1 : decode cX8_vessels 1 = .ok (.getfield 95, 3) := by decide +kernel
theorem dX8_vessels_4 : decode cX8_vessels 4 = .ok (.ireturn, 1) := by decide +kernel
set_option maxHeartbeats 4000000 in
set_option maxRecDepth 100000 in
theorem x_vessels (l : Launch) (g : xG) (sz : Nat) (h0 : Nat) (f0 : Value) (f1 : Value) (f3 : Value) (f4 : Value) (f5 : Value) (f6 : Value) (f7 : Value) (f8 : Value) (f9 : Value) (f10 : Value) (f11 : Value) (f12 : Value) (f13 : Value) (f14 : Value) (vc : Int32)  : Met l yX8_vessels wsX8_vessels ({ frames := 0, cells := 0, slots := 0, locals := 0 }) (va_Pc [.ref h0] (fun U => xB g [(h0, .inr (8, [f0, f1, .int vc, f3, f4, f5, f6, f7, f8, f9, f10, f11, f12, f13, f14]))] sz U)) (va_Qi (fun (r : Int32) (u : Unit) => r = vc) (fun _ _ => True) (va_A [] sz)) 0 0 (va_A [] sz) := by
  refine Met.ofW (cc := cX8_vessels) (maxL := 1) (ret := (some .int)) (by decide) rfl ?_
  intro p e s m args below meth c s₁ B hml hv
  obtain ⟨rfl, ⟨hsz, hP, hK, hD0⟩⟩ := hv
  have hx := B.exec
  have hb := B.bytes
  have hr := B.returns
  have hts := atoms_spec (ws := wsX8_vessels) B.pre
  have hown : s.vm.findClass RX8 = some m.cls := findClass_of_methodNamed B.named
  have hlocks := B.notSynchronized
  subst hsz
  have hD := hD0
  generalize hAe : va_A [] s.heap.size = A
  have hA : ∀ q : Nat, s.heap.size ≤ q → A q := fun q h => by rw [← hAe]; exact Or.inr h
  have hS : va_S A s.heap s.heap [] := va_S.rf
  have hl := lv_entry ([.ref h0]) (n := 1) (Nat.le_of_ble_eq_true rfl)
  rw [lg_entry_eq]
  generalize (lg_sl ([.ref h0]) ++ List.replicate (1 - (lg_sl ([.ref h0])).length) Slot.unset).toArray = ls at hl ⊢
  have hl : lv_has ls 1 [(0, .ref h0)] := hl
  have hFX8 : ∀ w ∈ u_ws RX8 TX8 15, w ∈ wsX8_vessels := by decide +kernel
  refine lv_aload_n hx hb dX8_vessels_0 rfl (lv_at hl 0 rfl) ?_
  refine va_get (D := xD g) (ci := 8) (v := .int vc) (C := RX8) (T := TX8) (N := 15) hx hb hts hFX8 hown hK hP 0 rfl rfl 2 (by decide) (hts (.fieldLink RX8 95 "Stevedore" "vesselCount" "I") (by decide +kernel)) (fun _ h9 => h9) rfl dX8_vessels_1 ?_
  exact W.iret (v := vc) hx hb hr (fun t ht hW => ⟨⟨vc, (), rfl, rfl, trivial⟩, hS.F ht⟩) hS.2.2 dX8_vessels_4
theorem dX8_containers_0 : decode cX8_containers 0 = .ok (.aload_n 0, 1) := by decide +kernel
theorem dX8_containers_1 : decode cX8_containers 1 = .ok (.getfield 26, 3) := by decide +kernel
theorem dX8_containers_4 : decode cX8_containers 4 = .ok (.getfield 129, 3) := by decide +kernel
theorem dX8_containers_7 : decode cX8_containers 7 = .ok (.ireturn, 1) := by decide +kernel
set_option maxHeartbeats 4000000 in
set_option maxRecDepth 100000 in
theorem x_containers (l : Launch) (g : xG) (sz : Nat) (h0 : Nat) (cg : Nat) (f0 : Value) (f1 : Value) (f2 : Value) (f3 : Value) (f5 : Value) (f6 : Value) (f7 : Value) (f8 : Value) (f9 : Value) (f10 : Value) (f11 : Value) (f12 : Value) (f13 : Value) (f14 : Value) (c1 : Value) (c2 : Value) (c3 : Value) (c4 : Value) (c5 : Value) (cc : Int32)  : Met l yX8_containers wsX8_containers ({ frames := 0, cells := 0, slots := 0, locals := 0 }) (va_Pc [.ref h0] (fun U => xB g [(h0, .inr (8, [f0, f1, f2, f3, .ref cg, f5, f6, f7, f8, f9, f10, f11, f12, f13, f14])), (cg, .inr (2, [.int cc, c1, c2, c3, c4, c5]))] sz U)) (va_Qi (fun (r : Int32) (u : Unit) => r = cc) (fun _ _ => True) (va_A [] sz)) 0 0 (va_A [] sz) := by
  refine Met.ofW (cc := cX8_containers) (maxL := 1) (ret := (some .int)) (by decide) rfl ?_
  intro p e s m args below meth c s₁ B hml hv
  obtain ⟨rfl, ⟨hsz, hP, hK, hD0⟩⟩ := hv
  have hx := B.exec
  have hb := B.bytes
  have hr := B.returns
  have hts := atoms_spec (ws := wsX8_containers) B.pre
  have hown : s.vm.findClass RX8 = some m.cls := findClass_of_methodNamed B.named
  have hlocks := B.notSynchronized
  subst hsz
  have hD := hD0
  generalize hAe : va_A [] s.heap.size = A
  have hA : ∀ q : Nat, s.heap.size ≤ q → A q := fun q h => by rw [← hAe]; exact Or.inr h
  have hS : va_S A s.heap s.heap [] := va_S.rf
  have hl := lv_entry ([.ref h0]) (n := 1) (Nat.le_of_ble_eq_true rfl)
  rw [lg_entry_eq]
  generalize (lg_sl ([.ref h0]) ++ List.replicate (1 - (lg_sl ([.ref h0])).length) Slot.unset).toArray = ls at hl ⊢
  have hl : lv_has ls 1 [(0, .ref h0)] := hl
  have hFX2 : ∀ w ∈ u_ws RX2 TX2 6, w ∈ wsX8_containers := by decide +kernel
  have hFX8 : ∀ w ∈ u_ws RX8 TX8 15, w ∈ wsX8_containers := by decide +kernel
  refine lv_aload_n hx hb dX8_containers_0 rfl (lv_at hl 0 rfl) ?_
  refine va_get (D := xD g) (ci := 8) (v := .ref cg) (C := RX8) (T := TX8) (N := 15) hx hb hts hFX8 hown hK hP 0 rfl rfl 4 (by decide) (hts (.fieldLink RX8 26 "Stevedore" "cargo" "LStevedore$Cargo;") (by decide +kernel)) (fun _ h9 => h9) rfl dX8_containers_1 ?_
  refine va_get (D := xD g) (ci := 2) (v := .int cc) (C := RX2) (T := TX2) (N := 6) hx hb hts hFX2 hown hK hP 1 rfl rfl 0 (by decide) (hts (.fieldLink RX8 129 "Stevedore$Cargo" "count" "I") (by decide +kernel)) (fun _ h9 => h9) rfl dX8_containers_4 ?_
  exact W.iret (v := cc) hx hb hr (fun t ht hW => ⟨⟨cc, (), rfl, rfl, trivial⟩, hS.F ht⟩) hS.2.2 dX8_containers_7
theorem dX8_stacks_0 : decode cX8_stacks 0 = .ok (.aload_n 0, 1) := by decide +kernel
theorem dX8_stacks_1 : decode cX8_stacks 1 = .ok (.getfield 81, 3) := by decide +kernel
theorem dX8_stacks_4 : decode cX8_stacks 4 = .ok (.getfield 162, 3) := by decide +kernel
theorem dX8_stacks_7 : decode cX8_stacks 7 = .ok (.ireturn, 1) := by decide +kernel
set_option maxHeartbeats 4000000 in
set_option maxRecDepth 100000 in
theorem x_stacks (l : Launch) (g : xG) (sz : Nat) (h0 : Nat) (yd : Nat) (f0 : Value) (f1 : Value) (f2 : Value) (f3 : Value) (f4 : Value) (f5 : Value) (f6 : Value) (f7 : Value) (f8 : Value) (f9 : Value) (f10 : Value) (f11 : Value) (f12 : Value) (f14 : Value) (y1 : Value) (y2 : Value) (y3 : Value) (y4 : Value) (y5 : Value) (y6 : Value) (y7 : Value) (y8 : Value) (y9 : Value) (y10 : Value) (sc : Int32)  : Met l yX8_stacks wsX8_stacks ({ frames := 0, cells := 0, slots := 0, locals := 0 }) (va_Pc [.ref h0] (fun U => xB g [(h0, .inr (8, [f0, f1, f2, f3, f4, f5, f6, f7, f8, f9, f10, f11, f12, .ref yd, f14])), (yd, .inr (7, [.int sc, y1, y2, y3, y4, y5, y6, y7, y8, y9, y10]))] sz U)) (va_Qi (fun (r : Int32) (u : Unit) => r = sc) (fun _ _ => True) (va_A [] sz)) 0 0 (va_A [] sz) := by
  refine Met.ofW (cc := cX8_stacks) (maxL := 1) (ret := (some .int)) (by decide) rfl ?_
  intro p e s m args below meth c s₁ B hml hv
  obtain ⟨rfl, ⟨hsz, hP, hK, hD0⟩⟩ := hv
  have hx := B.exec
  have hb := B.bytes
  have hr := B.returns
  have hts := atoms_spec (ws := wsX8_stacks) B.pre
  have hown : s.vm.findClass RX8 = some m.cls := findClass_of_methodNamed B.named
  have hlocks := B.notSynchronized
  subst hsz
  have hD := hD0
  generalize hAe : va_A [] s.heap.size = A
  have hA : ∀ q : Nat, s.heap.size ≤ q → A q := fun q h => by rw [← hAe]; exact Or.inr h
  have hS : va_S A s.heap s.heap [] := va_S.rf
  have hl := lv_entry ([.ref h0]) (n := 1) (Nat.le_of_ble_eq_true rfl)
  rw [lg_entry_eq]
  generalize (lg_sl ([.ref h0]) ++ List.replicate (1 - (lg_sl ([.ref h0])).length) Slot.unset).toArray = ls at hl ⊢
  have hl : lv_has ls 1 [(0, .ref h0)] := hl
  have hFX7 : ∀ w ∈ u_ws RX7 TX7 11, w ∈ wsX8_stacks := by decide +kernel
  have hFX8 : ∀ w ∈ u_ws RX8 TX8 15, w ∈ wsX8_stacks := by decide +kernel
  refine lv_aload_n hx hb dX8_stacks_0 rfl (lv_at hl 0 rfl) ?_
  refine va_get (D := xD g) (ci := 8) (v := .ref yd) (C := RX8) (T := TX8) (N := 15) hx hb hts hFX8 hown hK hP 0 rfl rfl 13 (by decide) (hts (.fieldLink RX8 81 "Stevedore" "yard" "LStevedore$Yard;") (by decide +kernel)) (fun _ h9 => h9) rfl dX8_stacks_1 ?_
  refine va_get (D := xD g) (ci := 7) (v := .int sc) (C := RX7) (T := TX7) (N := 11) hx hb hts hFX7 hown hK hP 1 rfl rfl 0 (by decide) (hts (.fieldLink RX8 162 "Stevedore$Yard" "stackCount" "I") (by decide +kernel)) (fun _ h9 => h9) rfl dX8_stacks_4 ?_
  exact W.iret (v := sc) hx hb hr (fun t ht hW => ⟨⟨sc, (), rfl, rfl, trivial⟩, hS.F ht⟩) hS.2.2 dX8_stacks_7
theorem dX8_events_0 : decode cX8_events 0 = .ok (.aload_n 0, 1) := by decide +kernel
theorem dX8_events_1 : decode cX8_events 1 = .ok (.getfield 74, 3) := by decide +kernel
theorem dX8_events_4 : decode cX8_events 4 = .ok (.getfield 278, 3) := by decide +kernel
theorem dX8_events_7 : decode cX8_events 7 = .ok (.ireturn, 1) := by decide +kernel
set_option maxHeartbeats 4000000 in
set_option maxRecDepth 100000 in
theorem x_events (l : Launch) (g : xG) (sz : Nat) (h0 : Nat) (ag : Nat) (f0 : Value) (f1 : Value) (f2 : Value) (f3 : Value) (f4 : Value) (f5 : Value) (f6 : Value) (f7 : Value) (f8 : Value) (f9 : Value) (f10 : Value) (f11 : Value) (f13 : Value) (f14 : Value) (a1 : Value) (ac : Int32)  : Met l yX8_events wsX8_events ({ frames := 0, cells := 0, slots := 0, locals := 0 }) (va_Pc [.ref h0] (fun U => xB g [(h0, .inr (8, [f0, f1, f2, f3, f4, f5, f6, f7, f8, f9, f10, f11, .ref ag, f13, f14])), (ag, .inr (0, [.int ac, a1]))] sz U)) (va_Qi (fun (r : Int32) (u : Unit) => r = ac) (fun _ _ => True) (va_A [] sz)) 0 0 (va_A [] sz) := by
  refine Met.ofW (cc := cX8_events) (maxL := 1) (ret := (some .int)) (by decide) rfl ?_
  intro p e s m args below meth c s₁ B hml hv
  obtain ⟨rfl, ⟨hsz, hP, hK, hD0⟩⟩ := hv
  have hx := B.exec
  have hb := B.bytes
  have hr := B.returns
  have hts := atoms_spec (ws := wsX8_events) B.pre
  have hown : s.vm.findClass RX8 = some m.cls := findClass_of_methodNamed B.named
  have hlocks := B.notSynchronized
  subst hsz
  have hD := hD0
  generalize hAe : va_A [] s.heap.size = A
  have hA : ∀ q : Nat, s.heap.size ≤ q → A q := fun q h => by rw [← hAe]; exact Or.inr h
  have hS : va_S A s.heap s.heap [] := va_S.rf
  have hl := lv_entry ([.ref h0]) (n := 1) (Nat.le_of_ble_eq_true rfl)
  rw [lg_entry_eq]
  generalize (lg_sl ([.ref h0]) ++ List.replicate (1 - (lg_sl ([.ref h0])).length) Slot.unset).toArray = ls at hl ⊢
  have hl : lv_has ls 1 [(0, .ref h0)] := hl
  have hFX0 : ∀ w ∈ u_ws RX0 TX0 2, w ∈ wsX8_events := by decide +kernel
  have hFX8 : ∀ w ∈ u_ws RX8 TX8 15, w ∈ wsX8_events := by decide +kernel
  refine lv_aload_n hx hb dX8_events_0 rfl (lv_at hl 0 rfl) ?_
  refine va_get (D := xD g) (ci := 8) (v := .ref ag) (C := RX8) (T := TX8) (N := 15) hx hb hts hFX8 hown hK hP 0 rfl rfl 12 (by decide) (hts (.fieldLink RX8 74 "Stevedore" "agenda" "LStevedore$Agenda;") (by decide +kernel)) (fun _ h9 => h9) rfl dX8_events_1 ?_
  refine va_get (D := xD g) (ci := 0) (v := .int ac) (C := RX0) (T := TX0) (N := 2) hx hb hts hFX0 hown hK hP 1 rfl rfl 0 (by decide) (hts (.fieldLink RX8 278 "Stevedore$Agenda" "count" "I") (by decide +kernel)) (fun _ h9 => h9) rfl dX8_events_4 ?_
  exact W.iret (v := ac) hx hb hr (fun t ht hW => ⟨⟨ac, (), rfl, rfl, trivial⟩, hS.F ht⟩) hS.2.2 dX8_events_7
theorem dX8_reshuffles_0 : decode cX8_reshuffles 0 = .ok (.aload_n 0, 1) := by decide +kernel
theorem dX8_reshuffles_1 : decode cX8_reshuffles 1 = .ok (.getfield 81, 3) := by decide +kernel
theorem dX8_reshuffles_4 : decode cX8_reshuffles 4 = .ok (.getfield 319, 3) := by decide +kernel
theorem dX8_reshuffles_7 : decode cX8_reshuffles 7 = .ok (.ireturn, 1) := by decide +kernel
set_option maxHeartbeats 4000000 in
set_option maxRecDepth 100000 in
theorem x_reshuffles (l : Launch) (g : xG) (sz : Nat) (h0 : Nat) (yd : Nat) (f0 : Value) (f1 : Value) (f2 : Value) (f3 : Value) (f4 : Value) (f5 : Value) (f6 : Value) (f7 : Value) (f8 : Value) (f9 : Value) (f10 : Value) (f11 : Value) (f12 : Value) (f14 : Value) (y0 : Value) (y2 : Value) (y3 : Value) (y4 : Value) (y5 : Value) (y6 : Value) (y7 : Value) (y8 : Value) (y9 : Value) (y10 : Value) (rc : Int32)  : Met l yX8_reshuffles wsX8_reshuffles ({ frames := 0, cells := 0, slots := 0, locals := 0 }) (va_Pc [.ref h0] (fun U => xB g [(h0, .inr (8, [f0, f1, f2, f3, f4, f5, f6, f7, f8, f9, f10, f11, f12, .ref yd, f14])), (yd, .inr (7, [y0, .int rc, y2, y3, y4, y5, y6, y7, y8, y9, y10]))] sz U)) (va_Qi (fun (r : Int32) (u : Unit) => r = rc) (fun _ _ => True) (va_A [] sz)) 0 0 (va_A [] sz) := by
  refine Met.ofW (cc := cX8_reshuffles) (maxL := 1) (ret := (some .int)) (by decide) rfl ?_
  intro p e s m args below meth c s₁ B hml hv
  obtain ⟨rfl, ⟨hsz, hP, hK, hD0⟩⟩ := hv
  have hx := B.exec
  have hb := B.bytes
  have hr := B.returns
  have hts := atoms_spec (ws := wsX8_reshuffles) B.pre
  have hown : s.vm.findClass RX8 = some m.cls := findClass_of_methodNamed B.named
  have hlocks := B.notSynchronized
  subst hsz
  have hD := hD0
  generalize hAe : va_A [] s.heap.size = A
  have hA : ∀ q : Nat, s.heap.size ≤ q → A q := fun q h => by rw [← hAe]; exact Or.inr h
  have hS : va_S A s.heap s.heap [] := va_S.rf
  have hl := lv_entry ([.ref h0]) (n := 1) (Nat.le_of_ble_eq_true rfl)
  rw [lg_entry_eq]
  generalize (lg_sl ([.ref h0]) ++ List.replicate (1 - (lg_sl ([.ref h0])).length) Slot.unset).toArray = ls at hl ⊢
  have hl : lv_has ls 1 [(0, .ref h0)] := hl
  have hFX7 : ∀ w ∈ u_ws RX7 TX7 11, w ∈ wsX8_reshuffles := by decide +kernel
  have hFX8 : ∀ w ∈ u_ws RX8 TX8 15, w ∈ wsX8_reshuffles := by decide +kernel
  refine lv_aload_n hx hb dX8_reshuffles_0 rfl (lv_at hl 0 rfl) ?_
  refine va_get (D := xD g) (ci := 8) (v := .ref yd) (C := RX8) (T := TX8) (N := 15) hx hb hts hFX8 hown hK hP 0 rfl rfl 13 (by decide) (hts (.fieldLink RX8 81 "Stevedore" "yard" "LStevedore$Yard;") (by decide +kernel)) (fun _ h9 => h9) rfl dX8_reshuffles_1 ?_
  refine va_get (D := xD g) (ci := 7) (v := .int rc) (C := RX7) (T := TX7) (N := 11) hx hb hts hFX7 hown hK hP 1 rfl rfl 1 (by decide) (hts (.fieldLink RX8 319 "Stevedore$Yard" "reshuffleCount" "I") (by decide +kernel)) (fun _ h9 => h9) rfl dX8_reshuffles_4 ?_
  exact W.iret (v := rc) hx hb hr (fun t ht hW => ⟨⟨rc, (), rfl, rfl, trivial⟩, hS.F ht⟩) hS.2.2 dX8_reshuffles_7
theorem dX8_isPlanned_0 : decode cX8_isPlanned 0 = .ok (.aload_n 0, 1) := by decide +kernel
theorem dX8_isPlanned_1 : decode cX8_isPlanned 1 = .ok (.getfield 57, 3) := by decide +kernel
theorem dX8_isPlanned_4 : decode cX8_isPlanned 4 = .ok (.getfield 218, 3) := by decide +kernel
theorem dX8_isPlanned_7 : decode cX8_isPlanned 7 = .ok (.ireturn, 1) := by decide +kernel
set_option maxHeartbeats 4000000 in
set_option maxRecDepth 100000 in
theorem x0_isPlanned (l : Launch) (g : xG) (sz : Nat) (h0 : Nat) (pl : Nat) (f0 : Value) (f1 : Value) (f2 : Value) (f3 : Value) (f4 : Value) (f5 : Value) (f6 : Value) (f7 : Value) (f9 : Value) (f10 : Value) (f11 : Value) (f12 : Value) (f13 : Value) (f14 : Value) (q1 : Value) (q2 : Value) (q3 : Value)  : Met l yX8_isPlanned wsX8_isPlanned ({ frames := 0, cells := 0, slots := 0, locals := 0 }) (va_Pc [.ref h0] (fun U => xB g [(h0, .inr (8, [f0, f1, f2, f3, f4, f5, f6, f7, .ref pl, f9, f10, f11, f12, f13, f14])), (pl, .inr (4, [.int 0, q1, q2, q3]))] sz U)) (va_Qi (fun (r : Int32) (u : Unit) => r = 0) (fun _ _ => True) (va_A [] sz)) 0 0 (va_A [] sz) := by
  refine Met.ofW (cc := cX8_isPlanned) (maxL := 1) (ret := (some .boolean)) (by decide) rfl ?_
  intro p e s m args below meth c s₁ B hml hv
  obtain ⟨rfl, ⟨hsz, hP, hK, hD0⟩⟩ := hv
  have hx := B.exec
  have hb := B.bytes
  have hr := B.returns
  have hts := atoms_spec (ws := wsX8_isPlanned) B.pre
  have hown : s.vm.findClass RX8 = some m.cls := findClass_of_methodNamed B.named
  have hlocks := B.notSynchronized
  subst hsz
  have hD := hD0
  generalize hAe : va_A [] s.heap.size = A
  have hA : ∀ q : Nat, s.heap.size ≤ q → A q := fun q h => by rw [← hAe]; exact Or.inr h
  have hS : va_S A s.heap s.heap [] := va_S.rf
  have hl := lv_entry ([.ref h0]) (n := 1) (Nat.le_of_ble_eq_true rfl)
  rw [lg_entry_eq]
  generalize (lg_sl ([.ref h0]) ++ List.replicate (1 - (lg_sl ([.ref h0])).length) Slot.unset).toArray = ls at hl ⊢
  have hl : lv_has ls 1 [(0, .ref h0)] := hl
  have hFX4 : ∀ w ∈ u_ws RX4 TX4 4, w ∈ wsX8_isPlanned := by decide +kernel
  have hFX8 : ∀ w ∈ u_ws RX8 TX8 15, w ∈ wsX8_isPlanned := by decide +kernel
  refine lv_aload_n hx hb dX8_isPlanned_0 rfl (lv_at hl 0 rfl) ?_
  refine va_get (D := xD g) (ci := 8) (v := .ref pl) (C := RX8) (T := TX8) (N := 15) hx hb hts hFX8 hown hK hP 0 rfl rfl 8 (by decide) (hts (.fieldLink RX8 57 "Stevedore" "plan" "LStevedore$Plan;") (by decide +kernel)) (fun _ h9 => h9) rfl dX8_isPlanned_1 ?_
  refine va_get (D := xD g) (ci := 4) (v := .int 0) (C := RX4) (T := TX4) (N := 4) hx hb hts hFX4 hown hK hP 1 rfl rfl 0 (by decide) (hts (.fieldLink RX8 218 "Stevedore$Plan" "isMade" "Z") (by decide +kernel)) (fun _ h9 => h9) rfl dX8_isPlanned_4 ?_
  exact W.zret (v := 0) hx hb hr (by rfl) (fun t ht hW => ⟨⟨0, (), rfl, rfl, trivial⟩, hS.F ht⟩) hS.2.2 dX8_isPlanned_7
theorem dX7_countBlocking_0 : decode cX7_countBlocking 0 = .ok (.iconst 0, 1) := by decide +kernel
theorem dX7_countBlocking_1 : decode cX7_countBlocking 1 = .ok (.istore_n 1, 1) := by decide +kernel
theorem dX7_countBlocking_2 : decode cX7_countBlocking 2 = .ok (.iconst 0, 1) := by decide +kernel
theorem dX7_countBlocking_3 : decode cX7_countBlocking 3 = .ok (.istore_n 2, 1) := by decide +kernel
theorem dX7_countBlocking_4 : decode cX7_countBlocking 4 = .ok (.iload_n 2, 1) := by decide +kernel
theorem dX7_countBlocking_5 : decode cX7_countBlocking 5 = .ok (.aload_n 0, 1) := by decide +kernel
theorem dX7_countBlocking_6 : decode cX7_countBlocking 6 = .ok (.getfield 51, 3) := by decide +kernel
theorem dX7_countBlocking_9 : decode cX7_countBlocking 9 = .ok (.if_icmp .ge 39, 3) := by decide +kernel
theorem dX7_countBlocking_48 : decode cX7_countBlocking 48 = .ok (.iload_n 1, 1) := by decide +kernel
theorem dX7_countBlocking_49 : decode cX7_countBlocking 49 = .ok (.ireturn, 1) := by decide +kernel
set_option maxHeartbeats 4000000 in
set_option maxRecDepth 100000 in
theorem x0_countBlocking (l : Launch) (g : xG) (sz : Nat) (yd : Nat) (y1 : Value) (y2 : Value) (y3 : Value) (y4 : Value) (y5 : Value) (y6 : Value) (y7 : Value) (y8 : Value) (y9 : Value) (y10 : Value)  : Met l yX7_countBlocking wsX7_countBlocking ({ frames := 0, cells := 0, slots := 0, locals := 0 }) (va_Pc [.ref yd] (fun U => xB g [(yd, .inr (7, [.int 0, y1, y2, y3, y4, y5, y6, y7, y8, y9, y10]))] sz U)) (va_Qi (fun (r : Int32) (u : Unit) => r = 0) (fun _ _ => True) (va_A [] sz)) 0 0 (va_A [] sz) := by
  refine Met.ofW (cc := cX7_countBlocking) (maxL := 4) (ret := (some .int)) (by decide) rfl ?_
  intro p e s m args below meth c s₁ B hml hv
  obtain ⟨rfl, ⟨hsz, hP, hK, hD0⟩⟩ := hv
  have hx := B.exec
  have hb := B.bytes
  have hr := B.returns
  have hts := atoms_spec (ws := wsX7_countBlocking) B.pre
  have hown : s.vm.findClass RX7 = some m.cls := findClass_of_methodNamed B.named
  have hlocks := B.notSynchronized
  subst hsz
  have hD := hD0
  generalize hAe : va_A [] s.heap.size = A
  have hA : ∀ q : Nat, s.heap.size ≤ q → A q := fun q h => by rw [← hAe]; exact Or.inr h
  have hS : va_S A s.heap s.heap [] := va_S.rf
  have hl := lv_entry ([.ref yd]) (n := 4) (Nat.le_of_ble_eq_true rfl)
  rw [lg_entry_eq]
  generalize (lg_sl ([.ref yd]) ++ List.replicate (4 - (lg_sl ([.ref yd])).length) Slot.unset).toArray = ls at hl ⊢
  have hl : lv_has ls 4 [(0, .ref yd)] := hl
  have hFX7 : ∀ w ∈ u_ws RX7 TX7 11, w ∈ wsX7_countBlocking := by decide +kernel
  refine lv_iconst (v := 0) hx hb dX7_countBlocking_0 (by decide) ?_
  refine lv_istore_n (lv' := [(1, .int 0), (0, .ref yd)]) hx hb dX7_countBlocking_1 rfl hl (by decide) rfl (fun ls hl => ?_)
  refine lv_iconst (v := 0) hx hb dX7_countBlocking_2 (by decide) ?_
  refine lv_istore_n (lv' := [(2, .int 0), (1, .int 0), (0, .ref yd)]) hx hb dX7_countBlocking_3 rfl hl (by decide) rfl (fun ls hl => ?_)
  refine lv_iload_n hx hb dX7_countBlocking_4 rfl (lv_at hl 0 rfl) ?_
  refine lv_aload_n hx hb dX7_countBlocking_5 rfl (lv_at hl 2 rfl) ?_
  refine va_get (D := xD g) (ci := 7) (v := .int 0) (C := RX7) (T := TX7) (N := 11) hx hb hts hFX7 hown hK hP 0 rfl rfl 0 (by decide) (hts (.fieldLink RX7 51 "Stevedore$Yard" "stackCount" "I") (by decide +kernel)) (fun _ h9 => h9) rfl dX7_countBlocking_6 ?_
  refine lv_icmp_ge (tgt := 48) hx hb dX7_countBlocking_9 (by decide) (fun _ => ?_) (fun c0 => absurd (by decide) c0)
  refine lv_iload_n hx hb dX7_countBlocking_48 rfl (lv_at hl 1 rfl) ?_
  exact W.iret (v := 0) hx hb hr (fun t ht hW => ⟨⟨0, (), rfl, rfl, trivial⟩, hS.F ht⟩) hS.2.2 dX7_countBlocking_49
theorem dX8_blocking_0 : decode cX8_blocking 0 = .ok (.aload_n 0, 1) := by decide +kernel
theorem dX8_blocking_1 : decode cX8_blocking 1 = .ok (.getfield 81, 3) := by decide +kernel
theorem dX8_blocking_4 : decode cX8_blocking 4 = .ok (.invokevirtual 322, 3) := by decide +kernel
set_option maxRecDepth 20000 in
theorem ggX8_blocking_X7_countBlocking : GoodIn wsX8_blocking wsX7_countBlocking := goodIn_r _ [6, 7, 8, 9, 10, 11, 5, 12, 13, 14, 15, 16, 17, 18, 19, 20, 21, 22, 38, 39, 40, 41, 42, 43, 44, 45, 46, 47, 48] rfl (by decide +kernel)
set_option maxRecDepth 20000 in
theorem gX8_blocking_X7_countBlocking : GoodIn wsX8_blocking (wsV RX8 322 RX7 yX7_countBlocking wsX7_countBlocking) := goodIn_app (goodIn_of _ (by decide +kernel)) ggX8_blocking_X7_countBlocking
theorem dX8_blocking_7 : decode cX8_blocking 7 = .ok (.ireturn, 1) := by decide +kernel
set_option maxHeartbeats 4000000 in
set_option maxRecDepth 100000 in
theorem x0_blocking (l : Launch) (g : xG) (sz : Nat) (h0 : Nat) (yd : Nat) (f0 : Value) (f1 : Value) (f2 : Value) (f3 : Value) (f4 : Value) (f5 : Value) (f6 : Value) (f7 : Value) (f8 : Value) (f9 : Value) (f10 : Value) (f11 : Value) (f12 : Value) (f14 : Value) (y1 : Value) (y2 : Value) (y3 : Value) (y4 : Value) (y5 : Value) (y6 : Value) (y7 : Value) (y8 : Value) (y9 : Value) (y10 : Value)  : Met l yX8_blocking wsX8_blocking ({ frames := 1, cells := 0, slots := 0, locals := 30 }) (va_Pc [.ref h0] (fun U => xB g [(h0, .inr (8, [f0, f1, f2, f3, f4, f5, f6, f7, f8, f9, f10, f11, f12, .ref yd, f14])), (yd, .inr (7, [.int 0, y1, y2, y3, y4, y5, y6, y7, y8, y9, y10]))] sz U)) (va_Qi (fun (r : Int32) (u : Unit) => r = 0) (fun _ _ => True) (va_A [] sz)) 0 0 (va_A [] sz) := by
  refine Met.ofW (cc := cX8_blocking) (maxL := 1) (ret := (some .int)) (by decide) rfl ?_
  intro p e s m args below meth c s₁ B hml hv
  obtain ⟨rfl, ⟨hsz, hP, hK, hD0⟩⟩ := hv
  have hx := B.exec
  have hb := B.bytes
  have hr := B.returns
  have hts := atoms_spec (ws := wsX8_blocking) B.pre
  have hown : s.vm.findClass RX8 = some m.cls := findClass_of_methodNamed B.named
  have hlocks := B.notSynchronized
  subst hsz
  have hD := hD0
  generalize hAe : va_A [] s.heap.size = A
  have hA : ∀ q : Nat, s.heap.size ≤ q → A q := fun q h => by rw [← hAe]; exact Or.inr h
  have hS : va_S A s.heap s.heap [] := va_S.rf
  have hl := lv_entry ([.ref h0]) (n := 1) (Nat.le_of_ble_eq_true rfl)
  rw [lg_entry_eq]
  generalize (lg_sl ([.ref h0]) ++ List.replicate (1 - (lg_sl ([.ref h0])).length) Slot.unset).toArray = ls at hl ⊢
  have hl : lv_has ls 1 [(0, .ref h0)] := hl
  have hFX8 : ∀ w ∈ u_ws RX8 TX8 15, w ∈ wsX8_blocking := by decide +kernel
  refine lv_aload_n hx hb dX8_blocking_0 rfl (lv_at hl 0 rfl) ?_
  refine va_get (D := xD g) (ci := 8) (v := .ref yd) (C := RX8) (T := TX8) (N := 15) hx hb hts hFX8 hown hK hP 0 rfl rfl 13 (by decide) (hts (.fieldLink RX8 81 "Stevedore" "yard" "LStevedore$Yard;") (by decide +kernel)) (fun _ h9 => h9) rfl dX8_blocking_1 ?_
  have hPc := hP.sub (ws' := [(yd, .inr (7, [.int 0, y1, y2, y3, y4, y5, y6, y7, y8, y9, y10]))]) [1] rfl
  have hDc := hD.sub (ws' := [(yd, .inr (7, [.int 0, y1, y2, y3, y4, y5, y6, y7, y8, y9, y10]))]) [1] (by decide) rfl
  have hFc := xFree hS hA
  refine va_calli (va_runV (As := []) (rest := []) ⟨hx, hb, hml, hown, hts⟩ (x0_countBlocking l g s.heap.size yd y1 y2 y3 y4 y5 y6 y7 y8 y9 y10) (cwV 0 hts gX8_blocking_X7_countBlocking rfl rfl rfl (by decide +kernel) ⟨Nat.le_of_ble_eq_true rfl, Nat.le_of_ble_eq_true rfl⟩) ⟨xB.blind, va_recv hK hPc (ci := 7) (q0 := 0) rfl rfl, fun U9 hU9 hW9 => ⟨rfl, xB.mk hPc hK hDc hU9 hW9⟩⟩ rfl rfl hl.1 rfl (lv_room (Nat.le_of_ble_eq_true rfl)) dX8_blocking_4 ⟨Nat.le_of_ble_eq_true rfl, Nat.le_of_ble_eq_true rfl⟩) hS (fun q _ h => hFc q h) hFc (fun r_1 u_2 t H1 locs ht hvm hw_3 hB hz1 hk1 hS => ?_)
  have hP := xSame hP hk1
  generalize H1 = H at hP hS ⊢
  have hP : va_P (xD g) vwCl [(h0, .inr (8, [f0, f1, f2, f3, f4, f5, f6, f7, f8, f9, f10, f11, f12, .ref yd, f14])), (yd, .inr (7, [.int 0, y1, y2, y3, y4, y5, y6, y7, y8, y9, y10]))] H := hP
  try dsimp only at hw_3
  obtain rfl := hw_3
  exact W.iret (v := 0) hx hb hr (fun t ht hW => ⟨⟨0, (), rfl, rfl, trivial⟩, hS.F ht⟩) hS.2.2 dX8_blocking_7
theorem dX7_makeHelpingMove_0 : decode cX7_makeHelpingMove 0 = .ok (.iconst 0, 1) := by decide +kernel
theorem dX7_makeHelpingMove_1 : decode cX7_makeHelpingMove 1 = .ok (.istore_n 1, 1) := by decide +kernel
theorem dX7_makeHelpingMove_2 : decode cX7_makeHelpingMove 2 = .ok (.iload_n 1, 1) := by decide +kernel
theorem dX7_makeHelpingMove_3 : decode cX7_makeHelpingMove 3 = .ok (.aload_n 0, 1) := by decide +kernel
theorem dX7_makeHelpingMove_4 : decode cX7_makeHelpingMove 4 = .ok (.getfield 51, 3) := by decide +kernel
theorem dX7_makeHelpingMove_7 : decode cX7_makeHelpingMove 7 = .ok (.if_icmp .ge 62, 3) := by decide +kernel
theorem dX7_makeHelpingMove_69 : decode cX7_makeHelpingMove 69 = .ok (.iconst 0, 1) := by decide +kernel
theorem dX7_makeHelpingMove_70 : decode cX7_makeHelpingMove 70 = .ok (.ireturn, 1) := by decide +kernel
set_option maxHeartbeats 4000000 in
set_option maxRecDepth 100000 in
theorem x0_makeHelpingMove (l : Launch) (g : xG) (sz : Nat) (yd : Nat) (y1 : Value) (y2 : Value) (y3 : Value) (y4 : Value) (y5 : Value) (y6 : Value) (y7 : Value) (y8 : Value) (y9 : Value) (y10 : Value)  : Met l yX7_makeHelpingMove wsX7_makeHelpingMove ({ frames := 0, cells := 0, slots := 0, locals := 0 }) (va_Pc [.ref yd] (fun U => xB g [(yd, .inr (7, [.int 0, y1, y2, y3, y4, y5, y6, y7, y8, y9, y10]))] sz U)) (va_Qi (fun (r : Int32) (u : Unit) => r = 0) (fun _ _ => True) (va_A [] sz)) 0 0 (va_A [] sz) := by
  refine Met.ofW (cc := cX7_makeHelpingMove) (maxL := 3) (ret := (some .boolean)) (by decide) rfl ?_
  intro p e s m args below meth c s₁ B hml hv
  obtain ⟨rfl, ⟨hsz, hP, hK, hD0⟩⟩ := hv
  have hx := B.exec
  have hb := B.bytes
  have hr := B.returns
  have hts := atoms_spec (ws := wsX7_makeHelpingMove) B.pre
  have hown : s.vm.findClass RX7 = some m.cls := findClass_of_methodNamed B.named
  have hlocks := B.notSynchronized
  subst hsz
  have hD := hD0
  generalize hAe : va_A [] s.heap.size = A
  have hA : ∀ q : Nat, s.heap.size ≤ q → A q := fun q h => by rw [← hAe]; exact Or.inr h
  have hS : va_S A s.heap s.heap [] := va_S.rf
  have hl := lv_entry ([.ref yd]) (n := 3) (Nat.le_of_ble_eq_true rfl)
  rw [lg_entry_eq]
  generalize (lg_sl ([.ref yd]) ++ List.replicate (3 - (lg_sl ([.ref yd])).length) Slot.unset).toArray = ls at hl ⊢
  have hl : lv_has ls 3 [(0, .ref yd)] := hl
  have hFX7 : ∀ w ∈ u_ws RX7 TX7 11, w ∈ wsX7_makeHelpingMove := by decide +kernel
  refine lv_iconst (v := 0) hx hb dX7_makeHelpingMove_0 (by decide) ?_
  refine lv_istore_n (lv' := [(1, .int 0), (0, .ref yd)]) hx hb dX7_makeHelpingMove_1 rfl hl (by decide) rfl (fun ls hl => ?_)
  refine lv_iload_n hx hb dX7_makeHelpingMove_2 rfl (lv_at hl 0 rfl) ?_
  refine lv_aload_n hx hb dX7_makeHelpingMove_3 rfl (lv_at hl 1 rfl) ?_
  refine va_get (D := xD g) (ci := 7) (v := .int 0) (C := RX7) (T := TX7) (N := 11) hx hb hts hFX7 hown hK hP 0 rfl rfl 0 (by decide) (hts (.fieldLink RX7 51 "Stevedore$Yard" "stackCount" "I") (by decide +kernel)) (fun _ h9 => h9) rfl dX7_makeHelpingMove_4 ?_
  refine lv_icmp_ge (tgt := 69) hx hb dX7_makeHelpingMove_7 (by decide) (fun _ => ?_) (fun c0 => absurd (by decide) c0)
  refine lv_iconst (v := 0) hx hb dX7_makeHelpingMove_69 (by decide) ?_
  exact W.zret (v := 0) hx hb hr (by rfl) (fun t ht hW => ⟨⟨0, (), rfl, rfl, trivial⟩, hS.F ht⟩) hS.2.2 dX7_makeHelpingMove_70
theorem dX7_tidyUp_0 : decode cX7_tidyUp 0 = .ok (.iconst 0, 1) := by decide +kernel
theorem dX7_tidyUp_1 : decode cX7_tidyUp 1 = .ok (.istore_n 2, 1) := by decide +kernel
theorem dX7_tidyUp_2 : decode cX7_tidyUp 2 = .ok (.iload_n 2, 1) := by decide +kernel
theorem dX7_tidyUp_3 : decode cX7_tidyUp 3 = .ok (.iload_n 1, 1) := by decide +kernel
theorem dX7_tidyUp_4 : decode cX7_tidyUp 4 = .ok (.if_icmp .ge 22, 3) := by decide +kernel
theorem dX7_tidyUp_26 : decode cX7_tidyUp 26 = .ok (.aload_n 0, 1) := by decide +kernel
theorem dX7_tidyUp_27 : decode cX7_tidyUp 27 = .ok (.dup, 1) := by decide +kernel
theorem dX7_tidyUp_28 : decode cX7_tidyUp 28 = .ok (.getfield 44, 3) := by decide +kernel
theorem dX7_tidyUp_31 : decode cX7_tidyUp 31 = .ok (.iload_n 2, 1) := by decide +kernel
theorem dX7_tidyUp_32 : decode cX7_tidyUp 32 = .ok (.iadd, 1) := by decide +kernel
theorem dX7_tidyUp_33 : decode cX7_tidyUp 33 = .ok (.putfield 44, 3) := by decide +kernel
theorem dX7_tidyUp_36 : decode cX7_tidyUp 36 = .ok (.iload_n 2, 1) := by decide +kernel
theorem dX7_tidyUp_37 : decode cX7_tidyUp 37 = .ok (.ireturn, 1) := by decide +kernel
theorem dX7_tidyUp_7 : decode cX7_tidyUp 7 = .ok (.iload_n 2, 1) := by decide +kernel
theorem dX7_tidyUp_8 : decode cX7_tidyUp 8 = .ok (.bipush 24, 2) := by decide +kernel
theorem dX7_tidyUp_10 : decode cX7_tidyUp 10 = .ok (.if_icmp .ge 16, 3) := by decide +kernel
theorem dX7_tidyUp_13 : decode cX7_tidyUp 13 = .ok (.aload_n 0, 1) := by decide +kernel
theorem dX7_tidyUp_14 : decode cX7_tidyUp 14 = .ok (.invokevirtual 122, 3) := by decide +kernel
set_option maxRecDepth 20000 in
theorem ggX7_tidyUp_X7_makeHelpingMove : GoodIn wsX7_tidyUp wsX7_makeHelpingMove := goodIn_r _ [6, 7, 8, 9, 10, 11, 5, 12, 13, 14, 15, 16, 17, 18, 19, 20, 21, 22, 23, 24, 25, 26, 27, 28, 29, 30, 31, 32, 33, 34, 35, 36, 37, 38, 39, 40, 41, 42, 43, 44, 45, 46, 47, 48, 49, 50, 51, 52, 53, 54, 55, 56] rfl (by decide +kernel)
set_option maxRecDepth 20000 in
theorem gX7_tidyUp_X7_makeHelpingMove : GoodIn wsX7_tidyUp (wsV RX7 122 RX7 yX7_makeHelpingMove wsX7_makeHelpingMove) := goodIn_app (goodIn_of _ (by decide +kernel)) ggX7_tidyUp_X7_makeHelpingMove
theorem dX7_tidyUp_17 : decode cX7_tidyUp 17 = .ok (.ifCond .eq 9, 3) := by decide +kernel
set_option maxHeartbeats 4000000 in
set_option maxRecDepth 100000 in
theorem x0_tidyUp (l : Launch) (g : xG) (sz : Nat) (yd : Nat) (y2 : Value) (y3 : Value) (y4 : Value) (y5 : Value) (y6 : Value) (y7 : Value) (y8 : Value) (y9 : Value) (y10 : Value) (rc : Int32) (p0 : Int32)  : Met l yX7_tidyUp wsX7_tidyUp ({ frames := 1, cells := 0, slots := 0, locals := 30 }) (va_Pc [.ref yd, .int p0] (fun U => xB g [(yd, .inr (7, [.int 0, .int rc, y2, y3, y4, y5, y6, y7, y8, y9, y10]))] sz U)) (va_Qi (fun (r : Int32) (u : Unit) => r = 0) (fun _ _ => True) (va_A [(yd, .inr (7, [.int 0, .int rc, y2, y3, y4, y5, y6, y7, y8, y9, y10]))] sz)) 0 0 (va_A [(yd, .inr (7, [.int 0, .int rc, y2, y3, y4, y5, y6, y7, y8, y9, y10]))] sz) := by
  refine Met.ofW (cc := cX7_tidyUp) (maxL := 3) (ret := (some .int)) (by decide) rfl ?_
  intro p e s m args below meth c s₁ B hml hv
  obtain ⟨rfl, ⟨hsz, hP, hK, hD0⟩⟩ := hv
  have hx := B.exec
  have hb := B.bytes
  have hr := B.returns
  have hts := atoms_spec (ws := wsX7_tidyUp) B.pre
  have hown : s.vm.findClass RX7 = some m.cls := findClass_of_methodNamed B.named
  have hlocks := B.notSynchronized
  subst hsz
  have hD := hD0.self (sz := s.heap.size)
  generalize hAe : va_A [(yd, .inr (7, [.int 0, .int rc, y2, y3, y4, y5, y6, y7, y8, y9, y10]))] s.heap.size = A at hD ⊢
  have hA : ∀ q : Nat, s.heap.size ≤ q → A q := fun q h => by rw [← hAe]; exact Or.inr h
  have hS : va_S A s.heap s.heap [] := va_S.rf
  have hl := lv_entry ([.ref yd, .int p0]) (n := 3) (Nat.le_of_ble_eq_true rfl)
  rw [lg_entry_eq]
  generalize (lg_sl ([.ref yd, .int p0]) ++ List.replicate (3 - (lg_sl ([.ref yd, .int p0])).length) Slot.unset).toArray = ls at hl ⊢
  have hl : lv_has ls 3 [(0, .ref yd), (1, .int p0)] := hl
  have hFX7 : ∀ w ∈ u_ws RX7 TX7 11, w ∈ wsX7_tidyUp := by decide +kernel
  refine lv_iconst (v := 0) hx hb dX7_tidyUp_0 (by decide) ?_
  refine lv_istore_n (lv' := [(2, .int 0), (0, .ref yd), (1, .int p0)]) hx hb dX7_tidyUp_1 rfl hl (by decide) rfl (fun ls hl => ?_)
  refine lv_iload_n hx hb dX7_tidyUp_2 rfl (lv_at hl 0 rfl) ?_
  refine lv_iload_n hx hb dX7_tidyUp_3 rfl (lv_at hl 2 rfl) ?_
  refine lv_icmp_ge (tgt := 26) hx hb dX7_tidyUp_4 (by decide) (fun c_1 => ?_) (fun c_1 => ?_)
  · refine lv_aload_n hx hb dX7_tidyUp_26 rfl (lv_at hl 1 rfl) ?_
    refine lv_dup hx hb dX7_tidyUp_27 rfl ?_
    refine va_get (D := xD g) (ci := 7) (v := .int rc) (C := RX7) (T := TX7) (N := 11) hx hb hts hFX7 hown hK hP 0 rfl rfl 1 (by decide) (hts (.fieldLink RX7 44 "Stevedore$Yard" "reshuffleCount" "I") (by decide +kernel)) (fun _ h9 => h9) rfl dX7_tidyUp_28 ?_
    refine lv_iload_n hx hb dX7_tidyUp_31 rfl (lv_at hl 0 rfl) ?_
    refine lv_iadd hx hb dX7_tidyUp_32 ?_
    refine lv_topi (fun v_2 ev_2 => ?_)
    refine va_put (D := xD g) (ci := 7) (v := .int v_2) (ty := .int) (C := RX7) (T := TX7) (N := 11) hx hb hts hFX7 tyX7 tyX7_ok nmX7 hown hK hP hD hS 0 rfl rfl 1 (by decide) (hts (.fieldLink RX7 44 "Stevedore$Yard" "reshuffleCount" "I") (by decide +kernel)) (fun _ h9 => h9) rfl (by decide +kernel) rfl rfl (Nat.le_of_ble_eq_true rfl) dX7_tidyUp_33 (fun H locs hP hD hS => ?_)
    have hP : va_P (xD g) vwCl [(yd, .inr (7, [.int 0, .int v_2, y2, y3, y4, y5, y6, y7, y8, y9, y10]))] H := hP
    have hD : va_D A [(yd, .inr (7, [.int 0, .int v_2, y2, y3, y4, y5, y6, y7, y8, y9, y10]))] := hD
    refine lv_iload_n hx hb dX7_tidyUp_36 rfl (lv_at hl 0 rfl) ?_
    exact W.iret (v := 0) hx hb hr (fun t ht hW => ⟨⟨0, (), rfl, rfl, trivial⟩, hS.F ht⟩) hS.2.2 dX7_tidyUp_37
  · refine lv_iload_n hx hb dX7_tidyUp_7 rfl (lv_at hl 0 rfl) ?_
    refine lv_bipush (v := 24) hx hb dX7_tidyUp_8 (by decide) ?_
    refine lv_icmp_ge (tgt := 26) hx hb dX7_tidyUp_10 (by decide) (fun c0 => absurd c0 (by decide)) (fun _ => ?_)
    refine lv_aload_n hx hb dX7_tidyUp_13 rfl (lv_at hl 1 rfl) ?_
    have hPc := hP.sub (ws' := [(yd, .inr (7, [.int 0, .int rc, y2, y3, y4, y5, y6, y7, y8, y9, y10]))]) [0] rfl
    have hDc := hD.sub (ws' := [(yd, .inr (7, [.int 0, .int rc, y2, y3, y4, y5, y6, y7, y8, y9, y10]))]) [0] (by decide) rfl
    have hFc := xFree hS hA
    refine va_calli (va_runV (As := []) (rest := []) ⟨hx, hb, hml, hown, hts⟩ (x0_makeHelpingMove l g s.heap.size yd (.int rc) y2 y3 y4 y5 y6 y7 y8 y9 y10) (cwV 0 hts gX7_tidyUp_X7_makeHelpingMove rfl rfl rfl (by decide +kernel) ⟨Nat.le_of_ble_eq_true rfl, Nat.le_of_ble_eq_true rfl⟩) ⟨xB.blind, va_recv hK hPc (ci := 7) (q0 := 0) rfl rfl, fun U9 hU9 hW9 => ⟨rfl, xB.mk hPc hK hDc hU9 hW9⟩⟩ rfl rfl hl.1 rfl (lv_room (Nat.le_of_ble_eq_true rfl)) dX7_tidyUp_14 ⟨Nat.le_of_ble_eq_true rfl, Nat.le_of_ble_eq_true rfl⟩) hS (fun q _ h => hFc q h) hFc (fun r_3 u_4 t H1 locs ht hvm hw_5 hB hz1 hk1 hS => ?_)
    have hP := xSame hP hk1
    generalize H1 = H at hP hS ⊢
    have hP : va_P (xD g) vwCl [(yd, .inr (7, [.int 0, .int rc, y2, y3, y4, y5, y6, y7, y8, y9, y10]))] H := hP
    have hD : va_D A [(yd, .inr (7, [.int 0, .int rc, y2, y3, y4, y5, y6, y7, y8, y9, y10]))] := hD
    try dsimp only at hw_5
    obtain rfl := hw_5
    refine lv_if_eq (tgt := 26) hx hb dX7_tidyUp_17 (by decide) (fun _ => ?_) (fun c0 => absurd (by decide) c0)
    refine lv_aload_n hx hb dX7_tidyUp_26 rfl (lv_at hl 1 rfl) ?_
    refine lv_dup hx hb dX7_tidyUp_27 rfl ?_
    refine va_get (D := xD g) (ci := 7) (v := .int rc) (C := RX7) (T := TX7) (N := 11) hx hb hts hFX7 hown hK hP 0 rfl rfl 1 (by decide) (hts (.fieldLink RX7 44 "Stevedore$Yard" "reshuffleCount" "I") (by decide +kernel)) (fun _ h9 => h9) rfl dX7_tidyUp_28 ?_
    refine lv_iload_n hx hb dX7_tidyUp_31 rfl (lv_at hl 0 rfl) ?_
    refine lv_iadd hx hb dX7_tidyUp_32 ?_
    refine lv_topi (fun v_6 ev_6 => ?_)
    refine va_put (D := xD g) (ci := 7) (v := .int v_6) (ty := .int) (C := RX7) (T := TX7) (N := 11) hx hb hts hFX7 tyX7 tyX7_ok nmX7 hown hK hP hD hS 0 rfl rfl 1 (by decide) (hts (.fieldLink RX7 44 "Stevedore$Yard" "reshuffleCount" "I") (by decide +kernel)) (fun _ h9 => h9) rfl (by decide +kernel) rfl rfl (Nat.le_of_ble_eq_true rfl) dX7_tidyUp_33 (fun H locs hP hD hS => ?_)
    have hP : va_P (xD g) vwCl [(yd, .inr (7, [.int 0, .int v_6, y2, y3, y4, y5, y6, y7, y8, y9, y10]))] H := hP
    have hD : va_D A [(yd, .inr (7, [.int 0, .int v_6, y2, y3, y4, y5, y6, y7, y8, y9, y10]))] := hD
    refine lv_iload_n hx hb dX7_tidyUp_36 rfl (lv_at hl 0 rfl) ?_
    exact W.iret (v := 0) hx hb hr (fun t ht hW => ⟨⟨0, (), rfl, rfl, trivial⟩, hS.F ht⟩) hS.2.2 dX7_tidyUp_37
theorem dX8_tidy_0 : decode cX8_tidy 0 = .ok (.iload_n 1, 1) := by decide +kernel
theorem dX8_tidy_1 : decode cX8_tidy 1 = .ok (.invokestatic 291, 3) := by decide +kernel
set_option maxRecDepth 20000 in
theorem ggX8_tidy_X8_needNotNegative : GoodIn wsX8_tidy wsX8_needNotNegative := goodIn_ca (goodIn_r _ [5, 6, 7] rfl (by decide +kernel)) (goodIn_sub (fun _ h => List.mem_cons_of_mem _ (List.mem_append_right _ h)) (by decide +kernel))
set_option maxRecDepth 20000 in
theorem gX8_tidy_X8_needNotNegative : GoodIn wsX8_tidy (va_wsS RX8 291 yX8_needNotNegative wsX8_needNotNegative) := goodIn_app (goodIn_of _ (by decide +kernel)) ggX8_tidy_X8_needNotNegative
theorem dX8_tidy_4 : decode cX8_tidy 4 = .ok (.aload_n 0, 1) := by decide +kernel
theorem dX8_tidy_5 : decode cX8_tidy 5 = .ok (.getfield 81, 3) := by decide +kernel
theorem dX8_tidy_8 : decode cX8_tidy 8 = .ok (.iload_n 1, 1) := by decide +kernel
theorem dX8_tidy_9 : decode cX8_tidy 9 = .ok (.invokevirtual 328, 3) := by decide +kernel
set_option maxRecDepth 20000 in
theorem ggX8_tidy_X7_tidyUp : GoodIn wsX8_tidy wsX7_tidyUp := goodIn_r _ [12, 13, 14, 15, 16, 11, 17, 18, 19, 20, 21, 22, 23, 24, 25, 26, 27, 28, 29, 30, 31, 32, 33, 34, 35, 36, 37, 38, 39, 40, 41, 42, 43, 44, 45, 46, 47, 48, 49, 50, 51, 52, 53, 54, 55, 56, 72, 73, 74, 75, 76, 77, 78, 79, 80, 81, 82] rfl (by decide +kernel)
set_option maxRecDepth 20000 in
theorem gX8_tidy_X7_tidyUp : GoodIn wsX8_tidy (wsV RX8 328 RX7 yX7_tidyUp wsX7_tidyUp) := goodIn_app (goodIn_of _ (by decide +kernel)) ggX8_tidy_X7_tidyUp
theorem dX8_tidy_12 : decode cX8_tidy 12 = .ok (.ireturn, 1) := by decide +kernel
set_option maxHeartbeats 4000000 in
set_option maxRecDepth 100000 in
theorem x0_tidy (l : Launch) (hfl : l.stackTraces = false) (g : xG) (sz : Nat) (h0 : Nat) (yd : Nat) (f0 : Value) (f1 : Value) (f2 : Value) (f3 : Value) (f4 : Value) (f5 : Value) (f6 : Value) (f7 : Value) (f8 : Value) (f9 : Value) (f10 : Value) (f11 : Value) (f12 : Value) (f14 : Value) (y2 : Value) (y3 : Value) (y4 : Value) (y5 : Value) (y6 : Value) (y7 : Value) (y8 : Value) (y9 : Value) (y10 : Value) (rc : Int32) (p0 : Int32)  : vx_Met l yX8_tidy wsX8_tidy ({ frames := 8, cells := 1, slots := 6, locals := 185 }) (va_Pc [.ref h0, .int p0] (fun U => xB g [(h0, .inr (8, [f0, f1, f2, f3, f4, f5, f6, f7, f8, f9, f10, f11, f12, .ref yd, f14])), (yd, .inr (7, [.int 0, .int rc, y2, y3, y4, y5, y6, y7, y8, y9, y10]))] sz U ∧ xU (va_A [(h0, .inr (8, [f0, f1, f2, f3, f4, f5, f6, f7, f8, f9, f10, f11, f12, .ref yd, f14])), (yd, .inr (7, [.int 0, .int rc, y2, y3, y4, y5, y6, y7, y8, y9, y10]))] sz) U)) (va_Qi (fun (r : Int32) (u : Unit) => r = 0 ∧ ¬ p0 < 0) (fun _ _ => True) (va_A [(h0, .inr (8, [f0, f1, f2, f3, f4, f5, f6, f7, f8, f9, f10, f11, f12, .ref yd, f14])), (yd, .inr (7, [.int 0, .int rc, y2, y3, y4, y5, y6, y7, y8, y9, y10]))] sz)) (vx_X (fun _ : Unit => True) (fun E _ _ => (E = "java/lang/IllegalArgumentException" ∧ p0 < 0)) (va_A [(h0, .inr (8, [f0, f1, f2, f3, f4, f5, f6, f7, f8, f9, f10, f11, f12, .ref yd, f14])), (yd, .inr (7, [.int 0, .int rc, y2, y3, y4, y5, y6, y7, y8, y9, y10]))] sz)) 1 6 (va_A [(h0, .inr (8, [f0, f1, f2, f3, f4, f5, f6, f7, f8, f9, f10, f11, f12, .ref yd, f14])), (yd, .inr (7, [.int 0, .int rc, y2, y3, y4, y5, y6, y7, y8, y9, y10]))] sz) := by
  refine vx_ofW (cc := cX8_tidy) (maxL := 2) (ret := (some .int)) (by decide) rfl ?_
  intro p e s m args below meth c s₁ B hml htab hv
  obtain ⟨rfl, ⟨hsz, hP, hK, hD0⟩, hU⟩ := hv
  have hx := B.exec
  have hb := B.bytes
  have hr := B.returns
  have hts := atoms_spec (ws := wsX8_tidy) B.pre
  have hown : s.vm.findClass RX8 = some m.cls := findClass_of_methodNamed B.named
  have hlocks := B.notSynchronized
  subst hsz
  have hD := hD0.self (sz := s.heap.size)
  generalize hAe : va_A [(h0, .inr (8, [f0, f1, f2, f3, f4, f5, f6, f7, f8, f9, f10, f11, f12, .ref yd, f14])), (yd, .inr (7, [.int 0, .int rc, y2, y3, y4, y5, y6, y7, y8, y9, y10]))] s.heap.size = A at hD hU ⊢
  have hA : ∀ q : Nat, s.heap.size ≤ q → A q := fun q h => by rw [← hAe]; exact Or.inr h
  have hS : va_S A s.heap s.heap [] := va_S.rf
  have hl := lv_entry ([.ref h0, .int p0]) (n := 2) (Nat.le_of_ble_eq_true rfl)
  rw [lg_entry_eq]
  generalize (lg_sl ([.ref h0, .int p0]) ++ List.replicate (2 - (lg_sl ([.ref h0, .int p0])).length) Slot.unset).toArray = ls at hl ⊢
  have hl : lv_has ls 2 [(0, .ref h0), (1, .int p0)] := hl
  have hFX8 : ∀ w ∈ u_ws RX8 TX8 15, w ∈ wsX8_tidy := by decide +kernel
  refine lv_iload_n hx hb dX8_tidy_0 rfl (lv_at hl 1 rfl) ?_
  have hPc := hP.sub (ws' := []) [] rfl
  have hDc := hD.sub (ws' := []) [] (by decide) rfl
  have hFc := xFree hS hA
  refine vx_callv (vx_runS (As := [.int p0]) (rest := []) ⟨hx, hb, hml, hown, hts⟩ (x_needNotNegative l hfl g s.heap.size p0) (va_cwS 1 hts gX8_tidy_X8_needNotNegative rfl rfl rfl (by decide +kernel) ⟨Nat.le_of_ble_eq_true rfl, Nat.le_of_ble_eq_true rfl⟩) ⟨xBU.blind, fun U9 hU9 hW9 => ⟨rfl, xB.mk hPc hK hDc hU9 hW9, hU.call hS hFc hU9 hW9⟩⟩ rfl rfl hl.1 rfl (lv_room (Nat.le_of_ble_eq_true rfl)) dX8_tidy_1 ⟨Nat.le_of_ble_eq_true rfl, Nat.le_of_ble_eq_true rfl⟩) hS (fun q _ h => hFc q h) hFc (fun q _ h => hFc q h) (fun E ce q9 ux t H1 locs1 ht hvm hpx hB hz1 hk1 hS hce hcv hcl => ?_) (fun u_2 t H1 locs ht hvm hw_3 hB hz1 hk1 hS => ?_)
  · obtain ⟨rfl, hB⟩ := hB
    refine vx_out (fun x hx => (htab x hx).elim) hlocks hce hcv hcl (fun t9 ht9 hal9 => ⟨(), trivial, ⟨rfl, by first | trivial | exact hB | (rcases hB with h | h <;> simp only [h, true_or, or_true]; done) | simp_all | omega⟩, hS.F ht9⟩) hS.2.2 (Nat.le_of_ble_eq_true rfl) (Nat.le_of_ble_eq_true rfl)
  · have hP := xSame hP hk1
    generalize H1 = H at hP hS ⊢
    have hP : va_P (xD g) vwCl [(h0, .inr (8, [f0, f1, f2, f3, f4, f5, f6, f7, f8, f9, f10, f11, f12, .ref yd, f14])), (yd, .inr (7, [.int 0, .int rc, y2, y3, y4, y5, y6, y7, y8, y9, y10]))] H := hP
    have hD : va_D A [(h0, .inr (8, [f0, f1, f2, f3, f4, f5, f6, f7, f8, f9, f10, f11, f12, .ref yd, f14])), (yd, .inr (7, [.int 0, .int rc, y2, y3, y4, y5, y6, y7, y8, y9, y10]))] := hD
    refine W.widen (k := 1) (n := 6) (by omega) (by omega) ?_
    try dsimp only at hw_3
    refine lv_aload_n hx hb dX8_tidy_4 rfl (lv_at hl 0 rfl) ?_
    refine va_get (D := xD g) (ci := 8) (v := .ref yd) (C := RX8) (T := TX8) (N := 15) hx hb hts hFX8 hown hK hP 0 rfl rfl 13 (by decide) (hts (.fieldLink RX8 81 "Stevedore" "yard" "LStevedore$Yard;") (by decide +kernel)) (fun _ h9 => h9) rfl dX8_tidy_5 ?_
    refine lv_iload_n hx hb dX8_tidy_8 rfl (lv_at hl 1 rfl) ?_
    have hPc := hP.sub (ws' := [(yd, .inr (7, [.int 0, .int rc, y2, y3, y4, y5, y6, y7, y8, y9, y10]))]) [1] rfl
    have hDc := hD.sub (ws' := [(yd, .inr (7, [.int 0, .int rc, y2, y3, y4, y5, y6, y7, y8, y9, y10]))]) [1] (by decide) rfl
    have hFc := va_free (wc := [(yd, .inr (7, [.int 0, .int rc, y2, y3, y4, y5, y6, y7, y8, y9, y10]))]) hD hS hA [1] rfl
    refine va_calli (va_runV (As := [.int p0]) (rest := []) ⟨hx, hb, hml, hown, hts⟩ (x0_tidyUp l g H.size yd y2 y3 y4 y5 y6 y7 y8 y9 y10 rc p0) (cwV 1 hts gX8_tidy_X7_tidyUp rfl rfl rfl (by decide +kernel) ⟨Nat.le_of_ble_eq_true rfl, Nat.le_of_ble_eq_true rfl⟩) ⟨xB.blind, va_recv hK hPc (ci := 7) (q0 := 0) rfl rfl, fun U9 hU9 hW9 => ⟨rfl, xB.mk hPc hK hDc hU9 hW9⟩⟩ rfl rfl hl.1 rfl (lv_room (Nat.le_of_ble_eq_true rfl)) dX8_tidy_9 ⟨Nat.le_of_ble_eq_true rfl, Nat.le_of_ble_eq_true rfl⟩) hS (fun q _ h => hFc q h) hFc (fun r_4 u_5 t H1 locs ht hvm hw_6 hB hz1 hk1 hS => ?_)
    obtain ⟨hP, hD⟩ := xJoin0 (wr := [(h0, .inr (8, [f0, f1, f2, f3, f4, f5, f6, f7, f8, f9, f10, f11, f12, .ref yd, f14]))]) hP hD [1] [0] rfl rfl (by decide) (by decide) hk1 hFc
    generalize H1 = H at hP hS ⊢
    have hP : va_P (xD g) vwCl [(h0, .inr (8, [f0, f1, f2, f3, f4, f5, f6, f7, f8, f9, f10, f11, f12, .ref yd, f14]))] H := hP
    have hD : va_D A [(h0, .inr (8, [f0, f1, f2, f3, f4, f5, f6, f7, f8, f9, f10, f11, f12, .ref yd, f14]))] := hD
    try dsimp only at hw_6
    obtain rfl := hw_6
    refine vx_ret ?_
    exact W.iret (v := 0) hx hb hr (fun t ht hW => ⟨⟨0, (), rfl, ⟨rfl, by assumption⟩, trivial⟩, hS.F ht⟩) hS.2.2 dX8_tidy_12
theorem dX8_meanWait_0 : decode cX8_meanWait 0 = .ok (.aload_n 0, 1) := by decide +kernel
theorem dX8_meanWait_1 : decode cX8_meanWait 1 = .ok (.getfield 57, 3) := by decide +kernel
theorem dX8_meanWait_4 : decode cX8_meanWait 4 = .ok (.getfield 218, 3) := by decide +kernel
theorem dX8_meanWait_7 : decode cX8_meanWait 7 = .ok (.ifCond .eq 10, 3) := by decide +kernel
theorem dX8_meanWait_17 : decode cX8_meanWait 17 = .ok (.dconst 0, 1) := by decide +kernel
theorem dX8_meanWait_18 : decode cX8_meanWait 18 = .ok (.dreturn, 1) := by decide +kernel
set_option maxHeartbeats 4000000 in
set_option maxRecDepth 100000 in
theorem x0_meanWait (l : Launch) (g : xG) (sz : Nat) (h0 : Nat) (pl : Nat) (f0 : Value) (f1 : Value) (f2 : Value) (f3 : Value) (f4 : Value) (f5 : Value) (f6 : Value) (f7 : Value) (f9 : Value) (f10 : Value) (f11 : Value) (f12 : Value) (f13 : Value) (f14 : Value) (q1 : Value) (q2 : Value) (q3 : Value)  : Met l yX8_meanWait wsX8_meanWait ({ frames := 0, cells := 0, slots := 0, locals := 0 }) (va_Pc [.ref h0] (fun U => xB g [(h0, .inr (8, [f0, f1, f2, f3, f4, f5, f6, f7, .ref pl, f9, f10, f11, f12, f13, f14])), (pl, .inr (4, [.int 0, q1, q2, q3]))] sz U)) (va_Qd (fun (r : UInt64) (u : Unit) => r = 0) (fun _ _ => True) (va_A [] sz)) 0 0 (va_A [] sz) := by
  refine Met.ofW (cc := cX8_meanWait) (maxL := 3) (ret := (some .double)) (by decide) rfl ?_
  intro p e s m args below meth c s₁ B hml hv
  obtain ⟨rfl, ⟨hsz, hP, hK, hD0⟩⟩ := hv
  have hx := B.exec
  have hb := B.bytes
  have hr := B.returns
  have hts := atoms_spec (ws := wsX8_meanWait) B.pre
  have hown : s.vm.findClass RX8 = some m.cls := findClass_of_methodNamed B.named
  have hlocks := B.notSynchronized
  subst hsz
  have hD := hD0
  generalize hAe : va_A [] s.heap.size = A
  have hA : ∀ q : Nat, s.heap.size ≤ q → A q := fun q h => by rw [← hAe]; exact Or.inr h
  have hS : va_S A s.heap s.heap [] := va_S.rf
  have hl := lv_entry ([.ref h0]) (n := 3) (Nat.le_of_ble_eq_true rfl)
  rw [lg_entry_eq]
  generalize (lg_sl ([.ref h0]) ++ List.replicate (3 - (lg_sl ([.ref h0])).length) Slot.unset).toArray = ls at hl ⊢
  have hl : lv_has ls 3 [(0, .ref h0)] := hl
  have hFX4 : ∀ w ∈ u_ws RX4 TX4 4, w ∈ wsX8_meanWait := by decide +kernel
  have hFX8 : ∀ w ∈ u_ws RX8 TX8 15, w ∈ wsX8_meanWait := by decide +kernel
  refine lv_aload_n hx hb dX8_meanWait_0 rfl (lv_at hl 0 rfl) ?_
  refine va_get (D := xD g) (ci := 8) (v := .ref pl) (C := RX8) (T := TX8) (N := 15) hx hb hts hFX8 hown hK hP 0 rfl rfl 8 (by decide) (hts (.fieldLink RX8 57 "Stevedore" "plan" "LStevedore$Plan;") (by decide +kernel)) (fun _ h9 => h9) rfl dX8_meanWait_1 ?_
  refine va_get (D := xD g) (ci := 4) (v := .int 0) (C := RX4) (T := TX4) (N := 4) hx hb hts hFX4 hown hK hP 1 rfl rfl 0 (by decide) (hts (.fieldLink RX8 218 "Stevedore$Plan" "isMade" "Z") (by decide +kernel)) (fun _ h9 => h9) rfl dX8_meanWait_4 ?_
  refine lv_if_eq (tgt := 17) hx hb dX8_meanWait_7 (by decide) (fun _ => ?_) (fun c0 => absurd (by decide) c0)
  refine lv_dconst0 hx hb dX8_meanWait_17 ?_
  exact W.dret (v := 0) hx hb hr (fun t ht hW => ⟨⟨0, (), rfl, rfl, trivial⟩, hS.F ht⟩) hS.2.2 dX8_meanWait_18
