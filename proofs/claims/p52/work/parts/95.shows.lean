theorem dX8_events_0 : decode cX8_events 0 = .ok (.aload_n 0, 1) := by decide +kernel
theorem dX8_events_1 : decode cX8_events 1 = .ok (.getfield 74, 3) := by decide +kernel
theorem dX8_events_4 : decode cX8_events 4 = .ok (.getfield 278, 3) := by decide +kernel
theorem dX8_events_7 : decode cX8_events 7 = .ok (.ireturn, 1) := by decide +kernel
set_option maxHeartbeats 4000000 in
set_option maxRecDepth 100000 in
theorem t_events (l : Launch) (g : xG) (sz : Nat) (st : Nat) (ag : Nat) (cnt : Nat) (s0 : Value) (s1 : Value) (s2 : Value) (s3 : Value) (s4 : Value) (s5 : Value) (s6 : Value) (s7 : Value) (s8 : Value) (s9 : Value) (s10 : Value) (s11 : Value) (s13 : Value) (s14 : Value) (g1 : Value)  : Met l yX8_events wsX8_events ({ frames := 0, cells := 0, slots := 0, locals := 0 }) (va_Pc [.ref st] (fun U => xB g [(st, .inr (8, [s0, s1, s2, s3, s4, s5, s6, s7, s8, s9, s10, s11, .ref ag, s13, s14])), (ag, .inr (0, [.int (nI cnt), g1]))] sz U)) (va_Qi (fun (r : Int32) (_ : Unit) => r = nI cnt) (fun (_ : Unit) (_ : State) => True) (va_A [] sz)) 0 0 (va_A [] sz) := by
  refine Met.ofW (cc := cX8_events) (maxL := 1) (ret := (some .int)) (by decide) rfl ?_
  intro p e s m args below meth c s₁ B hml hv
  obtain ⟨rfl, hsz, hP, hK, hD0⟩ := hv
  have hx := B.exec
  have hb := B.bytes
  have hr := B.returns
  have hts := atoms_spec (ws := wsX8_events) B.pre
  have hown : s.vm.findClass RX8 = some m.cls := findClass_of_methodNamed B.named
  have hlocks := B.notSynchronized
  subst hsz
  have hD := hD0
  generalize hAe : va_A [] s.heap.size = A
  have hA : ∀ q : Nat, s.heap.size ≤ q → A q := fun q h => by rw [← hAe]; exact Or.inr h
  have hS : va_S A s.heap s.heap [] := va_S.rf
  have hl := lv_entry ([.ref st]) (n := 1) (Nat.le_of_ble_eq_true rfl)
  rw [lg_entry_eq]
  generalize (lg_sl ([.ref st]) ++ List.replicate (1 - (lg_sl ([.ref st])).length) Slot.unset).toArray = ls at hl ⊢
  have hl : lv_has ls 1 [(0, .ref st)] := hl
  have hFX0 : ∀ w ∈ u_ws RX0 TX0 2, w ∈ wsX8_events := by decide +kernel
  have hFX8 : ∀ w ∈ u_ws RX8 TX8 15, w ∈ wsX8_events := by decide +kernel
  refine lv_aload_n hx hb dX8_events_0 rfl (lv_at hl 0 rfl) ?_
  refine va_get (D := xD g) (ci := 8) (v := .ref ag) (C := RX8) (T := TX8) (N := 15) hx hb hts hFX8 hown hK hP 0 rfl rfl 12 (by decide) (hts (.fieldLink RX8 74 "Stevedore" "agenda" "LStevedore$Agenda;") (by decide +kernel)) (fun _ h9 => h9) rfl dX8_events_1 ?_
  refine va_get (D := xD g) (ci := 0) (v := .int (nI cnt)) (C := RX0) (T := TX0) (N := 2) hx hb hts hFX0 hown hK hP 1 rfl rfl 0 (by decide) (hts (.fieldLink RX8 278 "Stevedore$Agenda" "count" "I") (by decide +kernel)) (fun _ h9 => h9) rfl dX8_events_4 ?_
  exact W.iret (v := nI cnt) hx hb hr (fun t ht hW => ⟨⟨nI cnt, (), rfl, (by first | trivial | rfl | assumption | omega), trivial⟩, hS.F ht⟩) hS.2.2 dX8_events_7
theorem dX8_timeOf_0 : decode cX8_timeOf 0 = .ok (.aload_n 0, 1) := by decide +kernel
theorem dX8_timeOf_1 : decode cX8_timeOf 1 = .ok (.iload_n 1, 1) := by decide +kernel
theorem dX8_timeOf_2 : decode cX8_timeOf 2 = .ok (.invokevirtual 279, 3) := by decide +kernel
set_option maxRecDepth 20000 in
theorem ggX8_timeOf_X8_needEvent : GoodIn wsX8_timeOf wsX8_needEvent := goodIn_ca (goodIn_r _ [6, 7, 8, 1, 9, 16, 17, 18, 19, 20, 21, 22, 23, 24, 25, 26, 27, 28, 29, 30, 31, 32] rfl (by decide +kernel)) (goodIn_sub (fun _ h => List.mem_cons_of_mem _ (List.mem_append_right _ h)) (by decide +kernel))
set_option maxRecDepth 20000 in
theorem gX8_timeOf_X8_needEvent : GoodIn wsX8_timeOf (wsV RX8 279 RX8 yX8_needEvent wsX8_needEvent) := goodIn_app (goodIn_of _ (by decide +kernel)) ggX8_timeOf_X8_needEvent
theorem dX8_timeOf_5 : decode cX8_timeOf 5 = .ok (.aload_n 0, 1) := by decide +kernel
theorem dX8_timeOf_6 : decode cX8_timeOf 6 = .ok (.getfield 74, 3) := by decide +kernel
theorem dX8_timeOf_9 : decode cX8_timeOf 9 = .ok (.iload_n 1, 1) := by decide +kernel
theorem dX8_timeOf_10 : decode cX8_timeOf 10 = .ok (.invokevirtual 282, 3) := by decide +kernel
set_option maxRecDepth 20000 in
theorem ggX8_timeOf_X0_time : GoodIn wsX8_timeOf wsX0_time := goodIn_r _ [14, 15, 31, 32] rfl (by decide +kernel)
set_option maxRecDepth 20000 in
theorem gX8_timeOf_X0_time : GoodIn wsX8_timeOf (wsV RX8 282 RX0 yX0_time wsX0_time) := goodIn_app (goodIn_of _ (by decide +kernel)) ggX8_timeOf_X0_time
theorem dX8_timeOf_13 : decode cX8_timeOf 13 = .ok (.ireturn, 1) := by decide +kernel
set_option maxHeartbeats 4000000 in
set_option maxRecDepth 100000 in
theorem t_timeOf (l : Launch) (g : xG) (sz : Nat) (st : Nat) (ag : Nat) (ky : Nat) (cnt : Nat) (en : Nat) (s0 : Value) (s1 : Value) (s2 : Value) (s3 : Value) (s4 : Value) (s5 : Value) (s6 : Value) (s7 : Value) (s8 : Value) (s9 : Value) (s10 : Value) (s11 : Value) (s13 : Value) (s14 : Value) (kf : Nat → Nat)  (hen : en < cnt) (hcn : cnt ≤ 48) (b_kf : ∀ j, kf j ≤ 100000000) : Met l yX8_timeOf wsX8_timeOf ({ frames := 1, cells := 0, slots := 0, locals := 21 }) (va_Pc [.ref st, .int (nI en)] (fun U => xB g [(st, .inr (8, [s0, s1, s2, s3, s4, s5, s6, s7, s8, s9, s10, s11, .ref ag, s13, s14])), (ag, .inr (0, [.int (nI cnt), .ref ky])), (ky, .inl (xI g, 48, .inl (fun j => nI (kf j))))] sz U)) (va_Qi (fun (r : Int32) (_ : Unit) => r = nI (kf en / 128)) (fun (_ : Unit) (_ : State) => True) (va_A [] sz)) 0 0 (va_A [] sz) := by
  refine Met.ofW (cc := cX8_timeOf) (maxL := 2) (ret := (some .int)) (by decide) rfl ?_
  intro p e s m args below meth c s₁ B hml hv
  obtain ⟨rfl, hsz, hP, hK, hD0⟩ := hv
  have hx := B.exec
  have hb := B.bytes
  have hr := B.returns
  have hts := atoms_spec (ws := wsX8_timeOf) B.pre
  have hown : s.vm.findClass RX8 = some m.cls := findClass_of_methodNamed B.named
  have hlocks := B.notSynchronized
  subst hsz
  have hD := hD0
  generalize hAe : va_A [] s.heap.size = A
  have hA : ∀ q : Nat, s.heap.size ≤ q → A q := fun q h => by rw [← hAe]; exact Or.inr h
  have hS : va_S A s.heap s.heap [] := va_S.rf
  have hl := lv_entry ([.ref st, .int (nI en)]) (n := 2) (Nat.le_of_ble_eq_true rfl)
  rw [lg_entry_eq]
  generalize (lg_sl ([.ref st, .int (nI en)]) ++ List.replicate (2 - (lg_sl ([.ref st, .int (nI en)])).length) Slot.unset).toArray = ls at hl ⊢
  have hl : lv_has ls 2 [(0, .ref st), (1, .int (nI en))] := hl
  have hFX8 : ∀ w ∈ u_ws RX8 TX8 15, w ∈ wsX8_timeOf := by decide +kernel
  refine lv_aload_n hx hb dX8_timeOf_0 rfl (lv_at hl 0 rfl) ?_
  refine lv_iload_n hx hb dX8_timeOf_1 rfl (lv_at hl 1 rfl) ?_
  have hPc := hP.sub (ws' := [(st, .inr (8, [s0, s1, s2, s3, s4, s5, s6, s7, s8, s9, s10, s11, .ref ag, s13, s14])), (ag, .inr (0, [.int (nI cnt), .ref ky]))]) [0, 1] rfl
  have hDc := hD.sub (ws' := [(st, .inr (8, [s0, s1, s2, s3, s4, s5, s6, s7, s8, s9, s10, s11, .ref ag, s13, s14])), (ag, .inr (0, [.int (nI cnt), .ref ky]))]) [0, 1] (by decide) rfl
  have hFc := xFree hS hA
  refine va_callv (va_runV (As := [.int (nI en)]) (rest := []) ⟨hx, hb, hml, hown, hts⟩ (n_event l g s.heap.size st ag cnt en s0 s1 s2 s3 s4 s5 s6 s7 s8 s9 s10 s11 s13 s14 (.ref ky) (by first | assumption | omega) (by first | assumption | omega)) (cwV 1 hts gX8_timeOf_X8_needEvent rfl rfl rfl (by decide +kernel) ⟨Nat.le_of_ble_eq_true rfl, Nat.le_of_ble_eq_true rfl⟩) ⟨xB.blind, va_recv hK hPc (ci := 8) (q0 := 0) rfl rfl, fun U9 hU9 hW9 => ⟨rfl, xB.mk hPc hK hDc hU9 hW9⟩⟩ rfl rfl hl.1 rfl (lv_room (Nat.le_of_ble_eq_true rfl)) dX8_timeOf_2 ⟨Nat.le_of_ble_eq_true rfl, Nat.le_of_ble_eq_true rfl⟩) hS (fun q _ h => hFc q h) hFc (fun _ t H1 locs ht hvm hw_2 hB hz1 hk1 hS => ?_)
  have hP := xSame hP hk1
  generalize H1 = H at hP hS ⊢
  have hP : va_P (xD g) vwCl [(st, .inr (8, [s0, s1, s2, s3, s4, s5, s6, s7, s8, s9, s10, s11, .ref ag, s13, s14])), (ag, .inr (0, [.int (nI cnt), .ref ky])), (ky, .inl (xI g, 48, .inl (fun j => nI (kf j))))] H := hP
  have hD : va_D (fun _ => True) [(st, .inr (8, [s0, s1, s2, s3, s4, s5, s6, s7, s8, s9, s10, s11, .ref ag, s13, s14])), (ag, .inr (0, [.int (nI cnt), .ref ky])), (ky, .inl (xI g, 48, .inl (fun j => nI (kf j))))] := hD
  try dsimp only at hw_2
  refine lv_aload_n hx hb dX8_timeOf_5 rfl (lv_at hl 0 rfl) ?_
  refine va_get (D := xD g) (ci := 8) (v := .ref ag) (C := RX8) (T := TX8) (N := 15) hx hb hts hFX8 hown hK hP 0 rfl rfl 12 (by decide) (hts (.fieldLink RX8 74 "Stevedore" "agenda" "LStevedore$Agenda;") (by decide +kernel)) (fun _ h9 => h9) rfl dX8_timeOf_6 ?_
  refine lv_iload_n hx hb dX8_timeOf_9 rfl (lv_at hl 1 rfl) ?_
  have hPc := hP.sub (ws' := [(ag, .inr (0, [.int (nI cnt), .ref ky])), (ky, .inl (xI g, 48, .inl (fun j => nI (kf j))))]) [1, 2] rfl
  have hDc := hD.sub (ws' := [(ag, .inr (0, [.int (nI cnt), .ref ky])), (ky, .inl (xI g, 48, .inl (fun j => nI (kf j))))]) [1, 2] (by decide) rfl
  have hFc := xFree hS hA
  refine va_calli (va_runV (As := [.int (nI en)]) (rest := []) ⟨hx, hb, hml, hown, hts⟩ (a_time l g H.size ag ky en (.int (nI cnt)) kf (by first | assumption | omega) b_kf) (cwV 1 hts gX8_timeOf_X0_time rfl rfl rfl (by decide +kernel) ⟨Nat.le_of_ble_eq_true rfl, Nat.le_of_ble_eq_true rfl⟩) ⟨xB.blind, va_recv hK hPc (ci := 0) (q0 := 0) rfl rfl, fun U9 hU9 hW9 => ⟨rfl, xB.mk hPc hK hDc hU9 hW9⟩⟩ rfl rfl hl.1 rfl (lv_room (Nat.le_of_ble_eq_true rfl)) dX8_timeOf_10 ⟨Nat.le_of_ble_eq_true rfl, Nat.le_of_ble_eq_true rfl⟩) hS (fun q _ h => hFc q h) hFc (fun r_3 _ t H1 locs ht hvm hw_4 hB hz1 hk1 hS => ?_)
  have hP := xSame hP hk1
  generalize H1 = H at hP hS ⊢
  have hP : va_P (xD g) vwCl [(st, .inr (8, [s0, s1, s2, s3, s4, s5, s6, s7, s8, s9, s10, s11, .ref ag, s13, s14])), (ag, .inr (0, [.int (nI cnt), .ref ky])), (ky, .inl (xI g, 48, .inl (fun j => nI (kf j))))] H := hP
  have hD : va_D (fun _ => True) [(st, .inr (8, [s0, s1, s2, s3, s4, s5, s6, s7, s8, s9, s10, s11, .ref ag, s13, s14])), (ag, .inr (0, [.int (nI cnt), .ref ky])), (ky, .inl (xI g, 48, .inl (fun j => nI (kf j))))] := hD
  try dsimp only at hw_4
  obtain rfl : r_3 = nI (kf en / 128) := hw_4
  exact W.iret (v := nI (kf en / 128)) hx hb hr (fun t ht hW => ⟨⟨nI (kf en / 128), (), rfl, (by first | trivial | rfl | assumption | omega), trivial⟩, hS.F ht⟩) hS.2.2 dX8_timeOf_13
theorem dX8_kindOf_0 : decode cX8_kindOf 0 = .ok (.aload_n 0, 1) := by decide +kernel
theorem dX8_kindOf_1 : decode cX8_kindOf 1 = .ok (.iload_n 1, 1) := by decide +kernel
theorem dX8_kindOf_2 : decode cX8_kindOf 2 = .ok (.invokevirtual 279, 3) := by decide +kernel
set_option maxRecDepth 20000 in
theorem ggX8_kindOf_X8_needEvent : GoodIn wsX8_kindOf wsX8_needEvent := goodIn_ca (goodIn_r _ [6, 7, 8, 1, 9, 16, 17, 18, 19, 20, 21, 22, 23, 24, 25, 26, 27, 28, 29, 30, 31, 32] rfl (by decide +kernel)) (goodIn_sub (fun _ h => List.mem_cons_of_mem _ (List.mem_append_right _ h)) (by decide +kernel))
set_option maxRecDepth 20000 in
theorem gX8_kindOf_X8_needEvent : GoodIn wsX8_kindOf (wsV RX8 279 RX8 yX8_needEvent wsX8_needEvent) := goodIn_app (goodIn_of _ (by decide +kernel)) ggX8_kindOf_X8_needEvent
theorem dX8_kindOf_5 : decode cX8_kindOf 5 = .ok (.aload_n 0, 1) := by decide +kernel
theorem dX8_kindOf_6 : decode cX8_kindOf 6 = .ok (.getfield 74, 3) := by decide +kernel
theorem dX8_kindOf_9 : decode cX8_kindOf 9 = .ok (.iload_n 1, 1) := by decide +kernel
theorem dX8_kindOf_10 : decode cX8_kindOf 10 = .ok (.invokevirtual 285, 3) := by decide +kernel
set_option maxRecDepth 20000 in
theorem ggX8_kindOf_X0_kind : GoodIn wsX8_kindOf wsX0_kind := goodIn_r _ [14, 15, 31, 32] rfl (by decide +kernel)
set_option maxRecDepth 20000 in
theorem gX8_kindOf_X0_kind : GoodIn wsX8_kindOf (wsV RX8 285 RX0 yX0_kind wsX0_kind) := goodIn_app (goodIn_of _ (by decide +kernel)) ggX8_kindOf_X0_kind
theorem dX8_kindOf_13 : decode cX8_kindOf 13 = .ok (.ireturn, 1) := by decide +kernel
set_option maxHeartbeats 4000000 in
set_option maxRecDepth 100000 in
theorem t_kindOf (l : Launch) (g : xG) (sz : Nat) (st : Nat) (ag : Nat) (ky : Nat) (cnt : Nat) (en : Nat) (s0 : Value) (s1 : Value) (s2 : Value) (s3 : Value) (s4 : Value) (s5 : Value) (s6 : Value) (s7 : Value) (s8 : Value) (s9 : Value) (s10 : Value) (s11 : Value) (s13 : Value) (s14 : Value) (kf : Nat → Nat)  (hen : en < cnt) (hcn : cnt ≤ 48) (b_kf : ∀ j, kf j ≤ 100000000) : Met l yX8_kindOf wsX8_kindOf ({ frames := 1, cells := 0, slots := 0, locals := 21 }) (va_Pc [.ref st, .int (nI en)] (fun U => xB g [(st, .inr (8, [s0, s1, s2, s3, s4, s5, s6, s7, s8, s9, s10, s11, .ref ag, s13, s14])), (ag, .inr (0, [.int (nI cnt), .ref ky])), (ky, .inl (xI g, 48, .inl (fun j => nI (kf j))))] sz U)) (va_Qi (fun (r : Int32) (_ : Unit) => r = nI (eK kf en)) (fun (_ : Unit) (_ : State) => True) (va_A [] sz)) 0 0 (va_A [] sz) := by
  refine Met.ofW (cc := cX8_kindOf) (maxL := 2) (ret := (some .int)) (by decide) rfl ?_
  intro p e s m args below meth c s₁ B hml hv
  obtain ⟨rfl, hsz, hP, hK, hD0⟩ := hv
  have hx := B.exec
  have hb := B.bytes
  have hr := B.returns
  have hts := atoms_spec (ws := wsX8_kindOf) B.pre
  have hown : s.vm.findClass RX8 = some m.cls := findClass_of_methodNamed B.named
  have hlocks := B.notSynchronized
  subst hsz
  have hD := hD0
  generalize hAe : va_A [] s.heap.size = A
  have hA : ∀ q : Nat, s.heap.size ≤ q → A q := fun q h => by rw [← hAe]; exact Or.inr h
  have hS : va_S A s.heap s.heap [] := va_S.rf
  have hl := lv_entry ([.ref st, .int (nI en)]) (n := 2) (Nat.le_of_ble_eq_true rfl)
  rw [lg_entry_eq]
  generalize (lg_sl ([.ref st, .int (nI en)]) ++ List.replicate (2 - (lg_sl ([.ref st, .int (nI en)])).length) Slot.unset).toArray = ls at hl ⊢
  have hl : lv_has ls 2 [(0, .ref st), (1, .int (nI en))] := hl
  have hFX8 : ∀ w ∈ u_ws RX8 TX8 15, w ∈ wsX8_kindOf := by decide +kernel
  refine lv_aload_n hx hb dX8_kindOf_0 rfl (lv_at hl 0 rfl) ?_
  refine lv_iload_n hx hb dX8_kindOf_1 rfl (lv_at hl 1 rfl) ?_
  have hPc := hP.sub (ws' := [(st, .inr (8, [s0, s1, s2, s3, s4, s5, s6, s7, s8, s9, s10, s11, .ref ag, s13, s14])), (ag, .inr (0, [.int (nI cnt), .ref ky]))]) [0, 1] rfl
  have hDc := hD.sub (ws' := [(st, .inr (8, [s0, s1, s2, s3, s4, s5, s6, s7, s8, s9, s10, s11, .ref ag, s13, s14])), (ag, .inr (0, [.int (nI cnt), .ref ky]))]) [0, 1] (by decide) rfl
  have hFc := xFree hS hA
  refine va_callv (va_runV (As := [.int (nI en)]) (rest := []) ⟨hx, hb, hml, hown, hts⟩ (n_event l g s.heap.size st ag cnt en s0 s1 s2 s3 s4 s5 s6 s7 s8 s9 s10 s11 s13 s14 (.ref ky) (by first | assumption | omega) (by first | assumption | omega)) (cwV 1 hts gX8_kindOf_X8_needEvent rfl rfl rfl (by decide +kernel) ⟨Nat.le_of_ble_eq_true rfl, Nat.le_of_ble_eq_true rfl⟩) ⟨xB.blind, va_recv hK hPc (ci := 8) (q0 := 0) rfl rfl, fun U9 hU9 hW9 => ⟨rfl, xB.mk hPc hK hDc hU9 hW9⟩⟩ rfl rfl hl.1 rfl (lv_room (Nat.le_of_ble_eq_true rfl)) dX8_kindOf_2 ⟨Nat.le_of_ble_eq_true rfl, Nat.le_of_ble_eq_true rfl⟩) hS (fun q _ h => hFc q h) hFc (fun _ t H1 locs ht hvm hw_2 hB hz1 hk1 hS => ?_)
  have hP := xSame hP hk1
  generalize H1 = H at hP hS ⊢
  have hP : va_P (xD g) vwCl [(st, .inr (8, [s0, s1, s2, s3, s4, s5, s6, s7, s8, s9, s10, s11, .ref ag, s13, s14])), (ag, .inr (0, [.int (nI cnt), .ref ky])), (ky, .inl (xI g, 48, .inl (fun j => nI (kf j))))] H := hP
  have hD : va_D (fun _ => True) [(st, .inr (8, [s0, s1, s2, s3, s4, s5, s6, s7, s8, s9, s10, s11, .ref ag, s13, s14])), (ag, .inr (0, [.int (nI cnt), .ref ky])), (ky, .inl (xI g, 48, .inl (fun j => nI (kf j))))] := hD
  try dsimp only at hw_2
  refine lv_aload_n hx hb dX8_kindOf_5 rfl (lv_at hl 0 rfl) ?_
  refine va_get (D := xD g) (ci := 8) (v := .ref ag) (C := RX8) (T := TX8) (N := 15) hx hb hts hFX8 hown hK hP 0 rfl rfl 12 (by decide) (hts (.fieldLink RX8 74 "Stevedore" "agenda" "LStevedore$Agenda;") (by decide +kernel)) (fun _ h9 => h9) rfl dX8_kindOf_6 ?_
  refine lv_iload_n hx hb dX8_kindOf_9 rfl (lv_at hl 1 rfl) ?_
  have hPc := hP.sub (ws' := [(ag, .inr (0, [.int (nI cnt), .ref ky])), (ky, .inl (xI g, 48, .inl (fun j => nI (kf j))))]) [1, 2] rfl
  have hDc := hD.sub (ws' := [(ag, .inr (0, [.int (nI cnt), .ref ky])), (ky, .inl (xI g, 48, .inl (fun j => nI (kf j))))]) [1, 2] (by decide) rfl
  have hFc := xFree hS hA
  refine va_calli (va_runV (As := [.int (nI en)]) (rest := []) ⟨hx, hb, hml, hown, hts⟩ (a_kind l g H.size ag ky en (.int (nI cnt)) kf (by first | assumption | omega) b_kf) (cwV 1 hts gX8_kindOf_X0_kind rfl rfl rfl (by decide +kernel) ⟨Nat.le_of_ble_eq_true rfl, Nat.le_of_ble_eq_true rfl⟩) ⟨xB.blind, va_recv hK hPc (ci := 0) (q0 := 0) rfl rfl, fun U9 hU9 hW9 => ⟨rfl, xB.mk hPc hK hDc hU9 hW9⟩⟩ rfl rfl hl.1 rfl (lv_room (Nat.le_of_ble_eq_true rfl)) dX8_kindOf_10 ⟨Nat.le_of_ble_eq_true rfl, Nat.le_of_ble_eq_true rfl⟩) hS (fun q _ h => hFc q h) hFc (fun r_3 _ t H1 locs ht hvm hw_4 hB hz1 hk1 hS => ?_)
  have hP := xSame hP hk1
  generalize H1 = H at hP hS ⊢
  have hP : va_P (xD g) vwCl [(st, .inr (8, [s0, s1, s2, s3, s4, s5, s6, s7, s8, s9, s10, s11, .ref ag, s13, s14])), (ag, .inr (0, [.int (nI cnt), .ref ky])), (ky, .inl (xI g, 48, .inl (fun j => nI (kf j))))] H := hP
  have hD : va_D (fun _ => True) [(st, .inr (8, [s0, s1, s2, s3, s4, s5, s6, s7, s8, s9, s10, s11, .ref ag, s13, s14])), (ag, .inr (0, [.int (nI cnt), .ref ky])), (ky, .inl (xI g, 48, .inl (fun j => nI (kf j))))] := hD
  try dsimp only at hw_4
  obtain rfl : r_3 = nI (eK kf en) := hw_4
  exact W.iret (v := nI (eK kf en)) hx hb hr (fun t ht hW => ⟨⟨nI (eK kf en), (), rfl, (by first | trivial | rfl | assumption | omega), trivial⟩, hS.F ht⟩) hS.2.2 dX8_kindOf_13
theorem dX8_containerOf_0 : decode cX8_containerOf 0 = .ok (.aload_n 0, 1) := by decide +kernel
theorem dX8_containerOf_1 : decode cX8_containerOf 1 = .ok (.iload_n 1, 1) := by decide +kernel
theorem dX8_containerOf_2 : decode cX8_containerOf 2 = .ok (.invokevirtual 279, 3) := by decide +kernel
set_option maxRecDepth 20000 in
theorem ggX8_containerOf_X8_needEvent : GoodIn wsX8_containerOf wsX8_needEvent := goodIn_ca (goodIn_r _ [6, 7, 8, 1, 9, 16, 17, 18, 19, 20, 21, 22, 23, 24, 25, 26, 27, 28, 29, 30, 31, 32] rfl (by decide +kernel)) (goodIn_sub (fun _ h => List.mem_cons_of_mem _ (List.mem_append_right _ h)) (by decide +kernel))
set_option maxRecDepth 20000 in
theorem gX8_containerOf_X8_needEvent : GoodIn wsX8_containerOf (wsV RX8 279 RX8 yX8_needEvent wsX8_needEvent) := goodIn_app (goodIn_of _ (by decide +kernel)) ggX8_containerOf_X8_needEvent
theorem dX8_containerOf_5 : decode cX8_containerOf 5 = .ok (.aload_n 0, 1) := by decide +kernel
theorem dX8_containerOf_6 : decode cX8_containerOf 6 = .ok (.getfield 74, 3) := by decide +kernel
theorem dX8_containerOf_9 : decode cX8_containerOf 9 = .ok (.iload_n 1, 1) := by decide +kernel
theorem dX8_containerOf_10 : decode cX8_containerOf 10 = .ok (.invokevirtual 288, 3) := by decide +kernel
set_option maxRecDepth 20000 in
theorem ggX8_containerOf_X0_container : GoodIn wsX8_containerOf wsX0_container := goodIn_r _ [14, 15, 31, 32] rfl (by decide +kernel)
set_option maxRecDepth 20000 in
theorem gX8_containerOf_X0_container : GoodIn wsX8_containerOf (wsV RX8 288 RX0 yX0_container wsX0_container) := goodIn_app (goodIn_of _ (by decide +kernel)) ggX8_containerOf_X0_container
theorem dX8_containerOf_13 : decode cX8_containerOf 13 = .ok (.ireturn, 1) := by decide +kernel
set_option maxHeartbeats 4000000 in
set_option maxRecDepth 100000 in
theorem t_containerOf (l : Launch) (g : xG) (sz : Nat) (st : Nat) (ag : Nat) (ky : Nat) (cnt : Nat) (en : Nat) (s0 : Value) (s1 : Value) (s2 : Value) (s3 : Value) (s4 : Value) (s5 : Value) (s6 : Value) (s7 : Value) (s8 : Value) (s9 : Value) (s10 : Value) (s11 : Value) (s13 : Value) (s14 : Value) (kf : Nat → Nat)  (hen : en < cnt) (hcn : cnt ≤ 48) (b_kf : ∀ j, kf j ≤ 100000000) : Met l yX8_containerOf wsX8_containerOf ({ frames := 1, cells := 0, slots := 0, locals := 21 }) (va_Pc [.ref st, .int (nI en)] (fun U => xB g [(st, .inr (8, [s0, s1, s2, s3, s4, s5, s6, s7, s8, s9, s10, s11, .ref ag, s13, s14])), (ag, .inr (0, [.int (nI cnt), .ref ky])), (ky, .inl (xI g, 48, .inl (fun j => nI (kf j))))] sz U)) (va_Qi (fun (r : Int32) (_ : Unit) => r = nI (eC kf en)) (fun (_ : Unit) (_ : State) => True) (va_A [] sz)) 0 0 (va_A [] sz) := by
  refine Met.ofW (cc := cX8_containerOf) (maxL := 2) (ret := (some .int)) (by decide) rfl ?_
  intro p e s m args below meth c s₁ B hml hv
  obtain ⟨rfl, hsz, hP, hK, hD0⟩ := hv
  have hx := B.exec
  have hb := B.bytes
  have hr := B.returns
  have hts := atoms_spec (ws := wsX8_containerOf) B.pre
  have hown : s.vm.findClass RX8 = some m.cls := findClass_of_methodNamed B.named
  have hlocks := B.notSynchronized
  subst hsz
  have hD := hD0
  generalize hAe : va_A [] s.heap.size = A
  have hA : ∀ q : Nat, s.heap.size ≤ q → A q := fun q h => by rw [← hAe]; exact Or.inr h
  have hS : va_S A s.heap s.heap [] := va_S.rf
  have hl := lv_entry ([.ref st, .int (nI en)]) (n := 2) (Nat.le_of_ble_eq_true rfl)
  rw [lg_entry_eq]
  generalize (lg_sl ([.ref st, .int (nI en)]) ++ List.replicate (2 - (lg_sl ([.ref st, .int (nI en)])).length) Slot.unset).toArray = ls at hl ⊢
  have hl : lv_has ls 2 [(0, .ref st), (1, .int (nI en))] := hl
  have hFX8 : ∀ w ∈ u_ws RX8 TX8 15, w ∈ wsX8_containerOf := by decide +kernel
  refine lv_aload_n hx hb dX8_containerOf_0 rfl (lv_at hl 0 rfl) ?_
  refine lv_iload_n hx hb dX8_containerOf_1 rfl (lv_at hl 1 rfl) ?_
  have hPc := hP.sub (ws' := [(st, .inr (8, [s0, s1, s2, s3, s4, s5, s6, s7, s8, s9, s10, s11, .ref ag, s13, s14])), (ag, .inr (0, [.int (nI cnt), .ref ky]))]) [0, 1] rfl
  have hDc := hD.sub (ws' := [(st, .inr (8, [s0, s1, s2, s3, s4, s5, s6, s7, s8, s9, s10, s11, .ref ag, s13, s14])), (ag, .inr (0, [.int (nI cnt), .ref ky]))]) [0, 1] (by decide) rfl
  have hFc := xFree hS hA
  refine va_callv (va_runV (As := [.int (nI en)]) (rest := []) ⟨hx, hb, hml, hown, hts⟩ (n_event l g s.heap.size st ag cnt en s0 s1 s2 s3 s4 s5 s6 s7 s8 s9 s10 s11 s13 s14 (.ref ky) (by first | assumption | omega) (by first | assumption | omega)) (cwV 1 hts gX8_containerOf_X8_needEvent rfl rfl rfl (by decide +kernel) ⟨Nat.le_of_ble_eq_true rfl, Nat.le_of_ble_eq_true rfl⟩) ⟨xB.blind, va_recv hK hPc (ci := 8) (q0 := 0) rfl rfl, fun U9 hU9 hW9 => ⟨rfl, xB.mk hPc hK hDc hU9 hW9⟩⟩ rfl rfl hl.1 rfl (lv_room (Nat.le_of_ble_eq_true rfl)) dX8_containerOf_2 ⟨Nat.le_of_ble_eq_true rfl, Nat.le_of_ble_eq_true rfl⟩) hS (fun q _ h => hFc q h) hFc (fun _ t H1 locs ht hvm hw_2 hB hz1 hk1 hS => ?_)
  have hP := xSame hP hk1
  generalize H1 = H at hP hS ⊢
  have hP : va_P (xD g) vwCl [(st, .inr (8, [s0, s1, s2, s3, s4, s5, s6, s7, s8, s9, s10, s11, .ref ag, s13, s14])), (ag, .inr (0, [.int (nI cnt), .ref ky])), (ky, .inl (xI g, 48, .inl (fun j => nI (kf j))))] H := hP
  have hD : va_D (fun _ => True) [(st, .inr (8, [s0, s1, s2, s3, s4, s5, s6, s7, s8, s9, s10, s11, .ref ag, s13, s14])), (ag, .inr (0, [.int (nI cnt), .ref ky])), (ky, .inl (xI g, 48, .inl (fun j => nI (kf j))))] := hD
  try dsimp only at hw_2
  refine lv_aload_n hx hb dX8_containerOf_5 rfl (lv_at hl 0 rfl) ?_
  refine va_get (D := xD g) (ci := 8) (v := .ref ag) (C := RX8) (T := TX8) (N := 15) hx hb hts hFX8 hown hK hP 0 rfl rfl 12 (by decide) (hts (.fieldLink RX8 74 "Stevedore" "agenda" "LStevedore$Agenda;") (by decide +kernel)) (fun _ h9 => h9) rfl dX8_containerOf_6 ?_
  refine lv_iload_n hx hb dX8_containerOf_9 rfl (lv_at hl 1 rfl) ?_
  have hPc := hP.sub (ws' := [(ag, .inr (0, [.int (nI cnt), .ref ky])), (ky, .inl (xI g, 48, .inl (fun j => nI (kf j))))]) [1, 2] rfl
  have hDc := hD.sub (ws' := [(ag, .inr (0, [.int (nI cnt), .ref ky])), (ky, .inl (xI g, 48, .inl (fun j => nI (kf j))))]) [1, 2] (by decide) rfl
  have hFc := xFree hS hA
  refine va_calli (va_runV (As := [.int (nI en)]) (rest := []) ⟨hx, hb, hml, hown, hts⟩ (a_container l g H.size ag ky en (.int (nI cnt)) kf (by first | assumption | omega) b_kf) (cwV 1 hts gX8_containerOf_X0_container rfl rfl rfl (by decide +kernel) ⟨Nat.le_of_ble_eq_true rfl, Nat.le_of_ble_eq_true rfl⟩) ⟨xB.blind, va_recv hK hPc (ci := 0) (q0 := 0) rfl rfl, fun U9 hU9 hW9 => ⟨rfl, xB.mk hPc hK hDc hU9 hW9⟩⟩ rfl rfl hl.1 rfl (lv_room (Nat.le_of_ble_eq_true rfl)) dX8_containerOf_10 ⟨Nat.le_of_ble_eq_true rfl, Nat.le_of_ble_eq_true rfl⟩) hS (fun q _ h => hFc q h) hFc (fun r_3 _ t H1 locs ht hvm hw_4 hB hz1 hk1 hS => ?_)
  have hP := xSame hP hk1
  generalize H1 = H at hP hS ⊢
  have hP : va_P (xD g) vwCl [(st, .inr (8, [s0, s1, s2, s3, s4, s5, s6, s7, s8, s9, s10, s11, .ref ag, s13, s14])), (ag, .inr (0, [.int (nI cnt), .ref ky])), (ky, .inl (xI g, 48, .inl (fun j => nI (kf j))))] H := hP
  have hD : va_D (fun _ => True) [(st, .inr (8, [s0, s1, s2, s3, s4, s5, s6, s7, s8, s9, s10, s11, .ref ag, s13, s14])), (ag, .inr (0, [.int (nI cnt), .ref ky])), (ky, .inl (xI g, 48, .inl (fun j => nI (kf j))))] := hD
  try dsimp only at hw_4
  obtain rfl : r_3 = nI (eC kf en) := hw_4
  exact W.iret (v := nI (eC kf en)) hx hb hr (fun t ht hW => ⟨⟨nI (eC kf en), (), rfl, (by first | trivial | rfl | assumption | omega), trivial⟩, hS.F ht⟩) hS.2.2 dX8_containerOf_13
theorem dX8_containers_0 : decode cX8_containers 0 = .ok (.aload_n 0, 1) := by decide +kernel
theorem dX8_containers_1 : decode cX8_containers 1 = .ok (.getfield 26, 3) := by decide +kernel
theorem dX8_containers_4 : decode cX8_containers 4 = .ok (.getfield 129, 3) := by decide +kernel
theorem dX8_containers_7 : decode cX8_containers 7 = .ok (.ireturn, 1) := by decide +kernel
set_option maxHeartbeats 4000000 in
set_option maxRecDepth 100000 in
theorem t_containers (l : Launch) (g : xG) (sz : Nat) (st : Nat) (ca : Nat) (n : Nat) (s0 : Value) (s1 : Value) (s2 : Value) (s3 : Value) (s5 : Value) (s6 : Value) (s7 : Value) (s8 : Value) (s9 : Value) (s10 : Value) (s11 : Value) (s12 : Value) (s13 : Value) (s14 : Value) (c1 : Value) (c2 : Value) (c3 : Value) (c4 : Value) (c5 : Value)  : Met l yX8_containers wsX8_containers ({ frames := 0, cells := 0, slots := 0, locals := 0 }) (va_Pc [.ref st] (fun U => xB g [(st, .inr (8, [s0, s1, s2, s3, .ref ca, s5, s6, s7, s8, s9, s10, s11, s12, s13, s14])), (ca, .inr (2, [.int (nI n), c1, c2, c3, c4, c5]))] sz U)) (va_Qi (fun (r : Int32) (_ : Unit) => r = nI n) (fun (_ : Unit) (_ : State) => True) (va_A [] sz)) 0 0 (va_A [] sz) := by
  refine Met.ofW (cc := cX8_containers) (maxL := 1) (ret := (some .int)) (by decide) rfl ?_
  intro p e s m args below meth c s₁ B hml hv
  obtain ⟨rfl, hsz, hP, hK, hD0⟩ := hv
  have hx := B.exec
  have hb := B.bytes
  have hr := B.returns
  have hts := atoms_spec (ws := wsX8_containers) B.pre
  have hown : s.vm.findClass RX8 = some m.cls := findClass_of_methodNamed B.named
  have hlocks := B.notSynchronized
  subst hsz
  have hD := hD0
  generalize hAe : va_A [] s.heap.size = A
  have hA : ∀ q : Nat, s.heap.size ≤ q → A q := fun q h => by rw [← hAe]; exact Or.inr h
  have hS : va_S A s.heap s.heap [] := va_S.rf
  have hl := lv_entry ([.ref st]) (n := 1) (Nat.le_of_ble_eq_true rfl)
  rw [lg_entry_eq]
  generalize (lg_sl ([.ref st]) ++ List.replicate (1 - (lg_sl ([.ref st])).length) Slot.unset).toArray = ls at hl ⊢
  have hl : lv_has ls 1 [(0, .ref st)] := hl
  have hFX2 : ∀ w ∈ u_ws RX2 TX2 6, w ∈ wsX8_containers := by decide +kernel
  have hFX8 : ∀ w ∈ u_ws RX8 TX8 15, w ∈ wsX8_containers := by decide +kernel
  refine lv_aload_n hx hb dX8_containers_0 rfl (lv_at hl 0 rfl) ?_
  refine va_get (D := xD g) (ci := 8) (v := .ref ca) (C := RX8) (T := TX8) (N := 15) hx hb hts hFX8 hown hK hP 0 rfl rfl 4 (by decide) (hts (.fieldLink RX8 26 "Stevedore" "cargo" "LStevedore$Cargo;") (by decide +kernel)) (fun _ h9 => h9) rfl dX8_containers_1 ?_
  refine va_get (D := xD g) (ci := 2) (v := .int (nI n)) (C := RX2) (T := TX2) (N := 6) hx hb hts hFX2 hown hK hP 1 rfl rfl 0 (by decide) (hts (.fieldLink RX8 129 "Stevedore$Cargo" "count" "I") (by decide +kernel)) (fun _ h9 => h9) rfl dX8_containers_4 ?_
  exact W.iret (v := nI n) hx hb hr (fun t ht hW => ⟨⟨nI n, (), rfl, (by first | trivial | rfl | assumption | omega), trivial⟩, hS.F ht⟩) hS.2.2 dX8_containers_7
theorem dX8_stacks_0 : decode cX8_stacks 0 = .ok (.aload_n 0, 1) := by decide +kernel
theorem dX8_stacks_1 : decode cX8_stacks 1 = .ok (.getfield 81, 3) := by decide +kernel
theorem dX8_stacks_4 : decode cX8_stacks 4 = .ok (.getfield 162, 3) := by decide +kernel
theorem dX8_stacks_7 : decode cX8_stacks 7 = .ok (.ireturn, 1) := by decide +kernel
set_option maxHeartbeats 4000000 in
set_option maxRecDepth 100000 in
theorem t_stacks (l : Launch) (g : xG) (sz : Nat) (st : Nat) (ya : Nat) (sc : Nat) (s0 : Value) (s1 : Value) (s2 : Value) (s3 : Value) (s4 : Value) (s5 : Value) (s6 : Value) (s7 : Value) (s8 : Value) (s9 : Value) (s10 : Value) (s11 : Value) (s12 : Value) (s14 : Value) (y1 : Value) (y2 : Value) (y3 : Value) (y4 : Value) (y5 : Value) (y6 : Value) (y7 : Value) (y8 : Value) (y9 : Value) (y10 : Value)  : Met l yX8_stacks wsX8_stacks ({ frames := 0, cells := 0, slots := 0, locals := 0 }) (va_Pc [.ref st] (fun U => xB g [(st, .inr (8, [s0, s1, s2, s3, s4, s5, s6, s7, s8, s9, s10, s11, s12, .ref ya, s14])), (ya, .inr (7, [.int (nI sc), y1, y2, y3, y4, y5, y6, y7, y8, y9, y10]))] sz U)) (va_Qi (fun (r : Int32) (_ : Unit) => r = nI sc) (fun (_ : Unit) (_ : State) => True) (va_A [] sz)) 0 0 (va_A [] sz) := by
  refine Met.ofW (cc := cX8_stacks) (maxL := 1) (ret := (some .int)) (by decide) rfl ?_
  intro p e s m args below meth c s₁ B hml hv
  obtain ⟨rfl, hsz, hP, hK, hD0⟩ := hv
  have hx := B.exec
  have hb := B.bytes
  have hr := B.returns
  have hts := atoms_spec (ws := wsX8_stacks) B.pre
  have hown : s.vm.findClass RX8 = some m.cls := findClass_of_methodNamed B.named
  have hlocks := B.notSynchronized
  subst hsz
  have hD := hD0
  generalize hAe : va_A [] s.heap.size = A
  have hA : ∀ q : Nat, s.heap.size ≤ q → A q := fun q h => by rw [← hAe]; exact Or.inr h
  have hS : va_S A s.heap s.heap [] := va_S.rf
  have hl := lv_entry ([.ref st]) (n := 1) (Nat.le_of_ble_eq_true rfl)
  rw [lg_entry_eq]
  generalize (lg_sl ([.ref st]) ++ List.replicate (1 - (lg_sl ([.ref st])).length) Slot.unset).toArray = ls at hl ⊢
  have hl : lv_has ls 1 [(0, .ref st)] := hl
  have hFX7 : ∀ w ∈ u_ws RX7 TX7 11, w ∈ wsX8_stacks := by decide +kernel
  have hFX8 : ∀ w ∈ u_ws RX8 TX8 15, w ∈ wsX8_stacks := by decide +kernel
  refine lv_aload_n hx hb dX8_stacks_0 rfl (lv_at hl 0 rfl) ?_
  refine va_get (D := xD g) (ci := 8) (v := .ref ya) (C := RX8) (T := TX8) (N := 15) hx hb hts hFX8 hown hK hP 0 rfl rfl 13 (by decide) (hts (.fieldLink RX8 81 "Stevedore" "yard" "LStevedore$Yard;") (by decide +kernel)) (fun _ h9 => h9) rfl dX8_stacks_1 ?_
  refine va_get (D := xD g) (ci := 7) (v := .int (nI sc)) (C := RX7) (T := TX7) (N := 11) hx hb hts hFX7 hown hK hP 1 rfl rfl 0 (by decide) (hts (.fieldLink RX8 162 "Stevedore$Yard" "stackCount" "I") (by decide +kernel)) (fun _ h9 => h9) rfl dX8_stacks_4 ?_
  exact W.iret (v := nI sc) hx hb hr (fun t ht hW => ⟨⟨nI sc, (), rfl, (by first | trivial | rfl | assumption | omega), trivial⟩, hS.F ht⟩) hS.2.2 dX8_stacks_7
theorem dX8_reshuffles_0 : decode cX8_reshuffles 0 = .ok (.aload_n 0, 1) := by decide +kernel
theorem dX8_reshuffles_1 : decode cX8_reshuffles 1 = .ok (.getfield 81, 3) := by decide +kernel
theorem dX8_reshuffles_4 : decode cX8_reshuffles 4 = .ok (.getfield 319, 3) := by decide +kernel
theorem dX8_reshuffles_7 : decode cX8_reshuffles 7 = .ok (.ireturn, 1) := by decide +kernel
set_option maxHeartbeats 4000000 in
set_option maxRecDepth 100000 in
theorem t_reshuffles (l : Launch) (g : xG) (sz : Nat) (st : Nat) (ya : Nat) (rs : Nat) (s0 : Value) (s1 : Value) (s2 : Value) (s3 : Value) (s4 : Value) (s5 : Value) (s6 : Value) (s7 : Value) (s8 : Value) (s9 : Value) (s10 : Value) (s11 : Value) (s12 : Value) (s14 : Value) (y0 : Value) (y2 : Value) (y3 : Value) (y4 : Value) (y5 : Value) (y6 : Value) (y7 : Value) (y8 : Value) (y9 : Value) (y10 : Value)  : Met l yX8_reshuffles wsX8_reshuffles ({ frames := 0, cells := 0, slots := 0, locals := 0 }) (va_Pc [.ref st] (fun U => xB g [(st, .inr (8, [s0, s1, s2, s3, s4, s5, s6, s7, s8, s9, s10, s11, s12, .ref ya, s14])), (ya, .inr (7, [y0, .int (nI rs), y2, y3, y4, y5, y6, y7, y8, y9, y10]))] sz U)) (va_Qi (fun (r : Int32) (_ : Unit) => r = nI rs) (fun (_ : Unit) (_ : State) => True) (va_A [] sz)) 0 0 (va_A [] sz) := by
  refine Met.ofW (cc := cX8_reshuffles) (maxL := 1) (ret := (some .int)) (by decide) rfl ?_
  intro p e s m args below meth c s₁ B hml hv
  obtain ⟨rfl, hsz, hP, hK, hD0⟩ := hv
  have hx := B.exec
  have hb := B.bytes
  have hr := B.returns
  have hts := atoms_spec (ws := wsX8_reshuffles) B.pre
  have hown : s.vm.findClass RX8 = some m.cls := findClass_of_methodNamed B.named
  have hlocks := B.notSynchronized
  subst hsz
  have hD := hD0
  generalize hAe : va_A [] s.heap.size = A
  have hA : ∀ q : Nat, s.heap.size ≤ q → A q := fun q h => by rw [← hAe]; exact Or.inr h
  have hS : va_S A s.heap s.heap [] := va_S.rf
  have hl := lv_entry ([.ref st]) (n := 1) (Nat.le_of_ble_eq_true rfl)
  rw [lg_entry_eq]
  generalize (lg_sl ([.ref st]) ++ List.replicate (1 - (lg_sl ([.ref st])).length) Slot.unset).toArray = ls at hl ⊢
  have hl : lv_has ls 1 [(0, .ref st)] := hl
  have hFX7 : ∀ w ∈ u_ws RX7 TX7 11, w ∈ wsX8_reshuffles := by decide +kernel
  have hFX8 : ∀ w ∈ u_ws RX8 TX8 15, w ∈ wsX8_reshuffles := by decide +kernel
  refine lv_aload_n hx hb dX8_reshuffles_0 rfl (lv_at hl 0 rfl) ?_
  refine va_get (D := xD g) (ci := 8) (v := .ref ya) (C := RX8) (T := TX8) (N := 15) hx hb hts hFX8 hown hK hP 0 rfl rfl 13 (by decide) (hts (.fieldLink RX8 81 "Stevedore" "yard" "LStevedore$Yard;") (by decide +kernel)) (fun _ h9 => h9) rfl dX8_reshuffles_1 ?_
  refine va_get (D := xD g) (ci := 7) (v := .int (nI rs)) (C := RX7) (T := TX7) (N := 11) hx hb hts hFX7 hown hK hP 1 rfl rfl 1 (by decide) (hts (.fieldLink RX8 319 "Stevedore$Yard" "reshuffleCount" "I") (by decide +kernel)) (fun _ h9 => h9) rfl dX8_reshuffles_4 ?_
  exact W.iret (v := nI rs) hx hb hr (fun t ht hW => ⟨⟨nI rs, (), rfl, (by first | trivial | rfl | assumption | omega), trivial⟩, hS.F ht⟩) hS.2.2 dX8_reshuffles_7
theorem dX8_stateOf_0 : decode cX8_stateOf 0 = .ok (.aload_n 0, 1) := by decide +kernel
theorem dX8_stateOf_1 : decode cX8_stateOf 1 = .ok (.iload_n 1, 1) := by decide +kernel
theorem dX8_stateOf_2 : decode cX8_stateOf 2 = .ok (.invokevirtual 153, 3) := by decide +kernel
set_option maxRecDepth 20000 in
theorem ggX8_stateOf_X8_needContainer : GoodIn wsX8_stateOf wsX8_needContainer := goodIn_ca (goodIn_r _ [7, 8, 9, 10, 11, 12, 13, 14, 15, 16, 17, 18, 19, 20, 21, 22, 23, 24, 25, 26, 38, 39, 40, 41, 42, 43] rfl (by decide +kernel)) (goodIn_sub (fun _ h => List.mem_cons_of_mem _ (List.mem_append_right _ h)) (by decide +kernel))
set_option maxRecDepth 20000 in
theorem gX8_stateOf_X8_needContainer : GoodIn wsX8_stateOf (wsV RX8 153 RX8 yX8_needContainer wsX8_needContainer) := goodIn_app (goodIn_of _ (by decide +kernel)) ggX8_stateOf_X8_needContainer
theorem dX8_stateOf_5 : decode cX8_stateOf 5 = .ok (.aload_n 0, 1) := by decide +kernel
theorem dX8_stateOf_6 : decode cX8_stateOf 6 = .ok (.getfield 81, 3) := by decide +kernel
theorem dX8_stateOf_9 : decode cX8_stateOf 9 = .ok (.getfield 301, 3) := by decide +kernel
theorem dX8_stateOf_12 : decode cX8_stateOf 12 = .ok (.iload_n 1, 1) := by decide +kernel
theorem dX8_stateOf_13 : decode cX8_stateOf 13 = .ok (.iaload, 1) := by decide +kernel
theorem dX8_stateOf_14 : decode cX8_stateOf 14 = .ok (.ireturn, 1) := by decide +kernel
set_option maxHeartbeats 4000000 in
set_option maxRecDepth 100000 in
theorem t_stateOf (l : Launch) (g : xG) (sz : Nat) (st : Nat) (ca : Nat) (ya : Nat) (sa : Nat) (n : Nat) (c_ : Nat) (s0 : Value) (s1 : Value) (s2 : Value) (s3 : Value) (s5 : Value) (s6 : Value) (s7 : Value) (s8 : Value) (s9 : Value) (s10 : Value) (s11 : Value) (s12 : Value) (s14 : Value) (c1 : Value) (c2 : Value) (c3 : Value) (c4 : Value) (c5 : Value) (y0 : Value) (y1 : Value) (y2 : Value) (y3 : Value) (y4 : Value) (y5 : Value) (y6 : Value) (y7 : Value) (y9 : Value) (y10 : Value) (stt : Nat → Int)  (hc : c_ < n) (hn : n ≤ 24) (b_stt : ∀ j, 0 ≤ stt j ∧ stt j ≤ 4) : Met l yX8_stateOf wsX8_stateOf ({ frames := 1, cells := 0, slots := 0, locals := 21 }) (va_Pc [.ref st, .int (nI c_)] (fun U => xB g [(st, .inr (8, [s0, s1, s2, s3, .ref ca, s5, s6, s7, s8, s9, s10, s11, s12, .ref ya, s14])), (ca, .inr (2, [.int (nI n), c1, c2, c3, c4, c5])), (ya, .inr (7, [y0, y1, y2, y3, y4, y5, y6, y7, .ref sa, y9, y10])), (sa, .inl (xI g, 24, .inl (fun j => iI (stt j))))] sz U)) (va_Qi (fun (r : Int32) (_ : Unit) => r = iI (stt c_)) (fun (_ : Unit) (_ : State) => True) (va_A [] sz)) 0 0 (va_A [] sz) := by
  refine Met.ofW (cc := cX8_stateOf) (maxL := 2) (ret := (some .int)) (by decide) rfl ?_
  intro p e s m args below meth c s₁ B hml hv
  obtain ⟨rfl, hsz, hP, hK, hD0⟩ := hv
  have hx := B.exec
  have hb := B.bytes
  have hr := B.returns
  have hts := atoms_spec (ws := wsX8_stateOf) B.pre
  have hown : s.vm.findClass RX8 = some m.cls := findClass_of_methodNamed B.named
  have hlocks := B.notSynchronized
  subst hsz
  have hD := hD0
  generalize hAe : va_A [] s.heap.size = A
  have hA : ∀ q : Nat, s.heap.size ≤ q → A q := fun q h => by rw [← hAe]; exact Or.inr h
  have hS : va_S A s.heap s.heap [] := va_S.rf
  have hl := lv_entry ([.ref st, .int (nI c_)]) (n := 2) (Nat.le_of_ble_eq_true rfl)
  rw [lg_entry_eq]
  generalize (lg_sl ([.ref st, .int (nI c_)]) ++ List.replicate (2 - (lg_sl ([.ref st, .int (nI c_)])).length) Slot.unset).toArray = ls at hl ⊢
  have hl : lv_has ls 2 [(0, .ref st), (1, .int (nI c_))] := hl
  have hFX7 : ∀ w ∈ u_ws RX7 TX7 11, w ∈ wsX8_stateOf := by decide +kernel
  have hFX8 : ∀ w ∈ u_ws RX8 TX8 15, w ∈ wsX8_stateOf := by decide +kernel
  refine lv_aload_n hx hb dX8_stateOf_0 rfl (lv_at hl 0 rfl) ?_
  refine lv_iload_n hx hb dX8_stateOf_1 rfl (lv_at hl 1 rfl) ?_
  have hPc := hP.sub (ws' := [(st, .inr (8, [s0, s1, s2, s3, .ref ca, s5, s6, s7, s8, s9, s10, s11, s12, .ref ya, s14])), (ca, .inr (2, [.int (nI n), c1, c2, c3, c4, c5]))]) [0, 1] rfl
  have hDc := hD.sub (ws' := [(st, .inr (8, [s0, s1, s2, s3, .ref ca, s5, s6, s7, s8, s9, s10, s11, s12, .ref ya, s14])), (ca, .inr (2, [.int (nI n), c1, c2, c3, c4, c5]))]) [0, 1] (by decide) rfl
  have hFc := xFree hS hA
  refine va_callv (va_runV (As := [.int (nI c_)]) (rest := []) ⟨hx, hb, hml, hown, hts⟩ (n_container l g s.heap.size st ca n c_ s0 s1 s2 s3 s5 s6 s7 s8 s9 s10 s11 s12 (.ref ya) s14 c1 c2 c3 c4 c5 (by first | assumption | omega) (by first | assumption | omega)) (cwV 1 hts gX8_stateOf_X8_needContainer rfl rfl rfl (by decide +kernel) ⟨Nat.le_of_ble_eq_true rfl, Nat.le_of_ble_eq_true rfl⟩) ⟨xB.blind, va_recv hK hPc (ci := 8) (q0 := 0) rfl rfl, fun U9 hU9 hW9 => ⟨rfl, xB.mk hPc hK hDc hU9 hW9⟩⟩ rfl rfl hl.1 rfl (lv_room (Nat.le_of_ble_eq_true rfl)) dX8_stateOf_2 ⟨Nat.le_of_ble_eq_true rfl, Nat.le_of_ble_eq_true rfl⟩) hS (fun q _ h => hFc q h) hFc (fun _ t H1 locs ht hvm hw_2 hB hz1 hk1 hS => ?_)
  have hP := xSame hP hk1
  generalize H1 = H at hP hS ⊢
  have hP : va_P (xD g) vwCl [(st, .inr (8, [s0, s1, s2, s3, .ref ca, s5, s6, s7, s8, s9, s10, s11, s12, .ref ya, s14])), (ca, .inr (2, [.int (nI n), c1, c2, c3, c4, c5])), (ya, .inr (7, [y0, y1, y2, y3, y4, y5, y6, y7, .ref sa, y9, y10])), (sa, .inl (xI g, 24, .inl (fun j => iI (stt j))))] H := hP
  have hD : va_D (fun _ => True) [(st, .inr (8, [s0, s1, s2, s3, .ref ca, s5, s6, s7, s8, s9, s10, s11, s12, .ref ya, s14])), (ca, .inr (2, [.int (nI n), c1, c2, c3, c4, c5])), (ya, .inr (7, [y0, y1, y2, y3, y4, y5, y6, y7, .ref sa, y9, y10])), (sa, .inl (xI g, 24, .inl (fun j => iI (stt j))))] := hD
  try dsimp only at hw_2
  refine lv_aload_n hx hb dX8_stateOf_5 rfl (lv_at hl 0 rfl) ?_
  refine va_get (D := xD g) (ci := 8) (v := .ref ya) (C := RX8) (T := TX8) (N := 15) hx hb hts hFX8 hown hK hP 0 rfl rfl 13 (by decide) (hts (.fieldLink RX8 81 "Stevedore" "yard" "LStevedore$Yard;") (by decide +kernel)) (fun _ h9 => h9) rfl dX8_stateOf_6 ?_
  refine va_get (D := xD g) (ci := 7) (v := .ref sa) (C := RX7) (T := TX7) (N := 11) hx hb hts hFX7 hown hK hP 2 rfl rfl 8 (by decide) (hts (.fieldLink RX8 301 "Stevedore$Yard" "state" "[I") (by decide +kernel)) (fun _ h9 => h9) rfl dX8_stateOf_9 ?_
  refine lv_iload_n hx hb dX8_stateOf_12 rfl (lv_at hl 1 rfl) ?_
  refine va_iald hx hb hK hP 3 0 rfl rfl (vp_in_nI (by omega) (by omega)) dX8_stateOf_13 ?_
  refine lv_topi (fun v_3 ev => ?_)
  obtain rfl : v_3 = iI (stt c_) := ev.trans (congrArg (fun q9 => iI (stt q9)) (nI_clamp (by omega)))
  have b_4 := b_stt c_
  exact W.iret (v := iI (stt c_)) hx hb hr (fun t ht hW => ⟨⟨iI (stt c_), (), rfl, (by first | trivial | rfl | assumption | omega), trivial⟩, hS.F ht⟩) hS.2.2 dX8_stateOf_14
theorem dX8_stackOf_0 : decode cX8_stackOf 0 = .ok (.aload_n 0, 1) := by decide +kernel
theorem dX8_stackOf_1 : decode cX8_stackOf 1 = .ok (.iload_n 1, 1) := by decide +kernel
theorem dX8_stackOf_2 : decode cX8_stackOf 2 = .ok (.invokevirtual 153, 3) := by decide +kernel
set_option maxRecDepth 20000 in
theorem ggX8_stackOf_X8_needContainer : GoodIn wsX8_stackOf wsX8_needContainer := goodIn_ca (goodIn_r _ [7, 8, 9, 10, 11, 12, 13, 14, 15, 16, 17, 18, 19, 20, 21, 22, 23, 24, 25, 26, 38, 39, 40, 41, 42, 43] rfl (by decide +kernel)) (goodIn_sub (fun _ h => List.mem_cons_of_mem _ (List.mem_append_right _ h)) (by decide +kernel))
set_option maxRecDepth 20000 in
theorem gX8_stackOf_X8_needContainer : GoodIn wsX8_stackOf (wsV RX8 153 RX8 yX8_needContainer wsX8_needContainer) := goodIn_app (goodIn_of _ (by decide +kernel)) ggX8_stackOf_X8_needContainer
theorem dX8_stackOf_5 : decode cX8_stackOf 5 = .ok (.aload_n 0, 1) := by decide +kernel
theorem dX8_stackOf_6 : decode cX8_stackOf 6 = .ok (.getfield 81, 3) := by decide +kernel
theorem dX8_stackOf_9 : decode cX8_stackOf 9 = .ok (.getfield 304, 3) := by decide +kernel
theorem dX8_stackOf_12 : decode cX8_stackOf 12 = .ok (.iload_n 1, 1) := by decide +kernel
theorem dX8_stackOf_13 : decode cX8_stackOf 13 = .ok (.iaload, 1) := by decide +kernel
theorem dX8_stackOf_14 : decode cX8_stackOf 14 = .ok (.ireturn, 1) := by decide +kernel
set_option maxHeartbeats 4000000 in
set_option maxRecDepth 100000 in
theorem t_stackOf (l : Launch) (g : xG) (sz : Nat) (st : Nat) (ca : Nat) (ya : Nat) (so2 : Nat) (n : Nat) (c_ : Nat) (s0 : Value) (s1 : Value) (s2 : Value) (s3 : Value) (s5 : Value) (s6 : Value) (s7 : Value) (s8 : Value) (s9 : Value) (s10 : Value) (s11 : Value) (s12 : Value) (s14 : Value) (c1 : Value) (c2 : Value) (c3 : Value) (c4 : Value) (c5 : Value) (y0 : Value) (y1 : Value) (y2 : Value) (y3 : Value) (y4 : Value) (y5 : Value) (y6 : Value) (y7 : Value) (y8 : Value) (y10 : Value) (oo : Nat → Int)  (hc : c_ < n) (hn : n ≤ 24) (b_oo : ∀ j, (-1) ≤ oo j ∧ oo j ≤ 11) : Met l yX8_stackOf wsX8_stackOf ({ frames := 1, cells := 0, slots := 0, locals := 21 }) (va_Pc [.ref st, .int (nI c_)] (fun U => xB g [(st, .inr (8, [s0, s1, s2, s3, .ref ca, s5, s6, s7, s8, s9, s10, s11, s12, .ref ya, s14])), (ca, .inr (2, [.int (nI n), c1, c2, c3, c4, c5])), (ya, .inr (7, [y0, y1, y2, y3, y4, y5, y6, y7, y8, .ref so2, y10])), (so2, .inl (xI g, 24, .inl (fun j => iI (oo j))))] sz U)) (va_Qi (fun (r : Int32) (_ : Unit) => r = iI (oo c_)) (fun (_ : Unit) (_ : State) => True) (va_A [] sz)) 0 0 (va_A [] sz) := by
  refine Met.ofW (cc := cX8_stackOf) (maxL := 2) (ret := (some .int)) (by decide) rfl ?_
  intro p e s m args below meth c s₁ B hml hv
  obtain ⟨rfl, hsz, hP, hK, hD0⟩ := hv
  have hx := B.exec
  have hb := B.bytes
  have hr := B.returns
  have hts := atoms_spec (ws := wsX8_stackOf) B.pre
  have hown : s.vm.findClass RX8 = some m.cls := findClass_of_methodNamed B.named
  have hlocks := B.notSynchronized
  subst hsz
  have hD := hD0
  generalize hAe : va_A [] s.heap.size = A
  have hA : ∀ q : Nat, s.heap.size ≤ q → A q := fun q h => by rw [← hAe]; exact Or.inr h
  have hS : va_S A s.heap s.heap [] := va_S.rf
  have hl := lv_entry ([.ref st, .int (nI c_)]) (n := 2) (Nat.le_of_ble_eq_true rfl)
  rw [lg_entry_eq]
  generalize (lg_sl ([.ref st, .int (nI c_)]) ++ List.replicate (2 - (lg_sl ([.ref st, .int (nI c_)])).length) Slot.unset).toArray = ls at hl ⊢
  have hl : lv_has ls 2 [(0, .ref st), (1, .int (nI c_))] := hl
  have hFX7 : ∀ w ∈ u_ws RX7 TX7 11, w ∈ wsX8_stackOf := by decide +kernel
  have hFX8 : ∀ w ∈ u_ws RX8 TX8 15, w ∈ wsX8_stackOf := by decide +kernel
  refine lv_aload_n hx hb dX8_stackOf_0 rfl (lv_at hl 0 rfl) ?_
  refine lv_iload_n hx hb dX8_stackOf_1 rfl (lv_at hl 1 rfl) ?_
  have hPc := hP.sub (ws' := [(st, .inr (8, [s0, s1, s2, s3, .ref ca, s5, s6, s7, s8, s9, s10, s11, s12, .ref ya, s14])), (ca, .inr (2, [.int (nI n), c1, c2, c3, c4, c5]))]) [0, 1] rfl
  have hDc := hD.sub (ws' := [(st, .inr (8, [s0, s1, s2, s3, .ref ca, s5, s6, s7, s8, s9, s10, s11, s12, .ref ya, s14])), (ca, .inr (2, [.int (nI n), c1, c2, c3, c4, c5]))]) [0, 1] (by decide) rfl
  have hFc := xFree hS hA
  refine va_callv (va_runV (As := [.int (nI c_)]) (rest := []) ⟨hx, hb, hml, hown, hts⟩ (n_container l g s.heap.size st ca n c_ s0 s1 s2 s3 s5 s6 s7 s8 s9 s10 s11 s12 (.ref ya) s14 c1 c2 c3 c4 c5 (by first | assumption | omega) (by first | assumption | omega)) (cwV 1 hts gX8_stackOf_X8_needContainer rfl rfl rfl (by decide +kernel) ⟨Nat.le_of_ble_eq_true rfl, Nat.le_of_ble_eq_true rfl⟩) ⟨xB.blind, va_recv hK hPc (ci := 8) (q0 := 0) rfl rfl, fun U9 hU9 hW9 => ⟨rfl, xB.mk hPc hK hDc hU9 hW9⟩⟩ rfl rfl hl.1 rfl (lv_room (Nat.le_of_ble_eq_true rfl)) dX8_stackOf_2 ⟨Nat.le_of_ble_eq_true rfl, Nat.le_of_ble_eq_true rfl⟩) hS (fun q _ h => hFc q h) hFc (fun _ t H1 locs ht hvm hw_2 hB hz1 hk1 hS => ?_)
  have hP := xSame hP hk1
  generalize H1 = H at hP hS ⊢
  have hP : va_P (xD g) vwCl [(st, .inr (8, [s0, s1, s2, s3, .ref ca, s5, s6, s7, s8, s9, s10, s11, s12, .ref ya, s14])), (ca, .inr (2, [.int (nI n), c1, c2, c3, c4, c5])), (ya, .inr (7, [y0, y1, y2, y3, y4, y5, y6, y7, y8, .ref so2, y10])), (so2, .inl (xI g, 24, .inl (fun j => iI (oo j))))] H := hP
  have hD : va_D (fun _ => True) [(st, .inr (8, [s0, s1, s2, s3, .ref ca, s5, s6, s7, s8, s9, s10, s11, s12, .ref ya, s14])), (ca, .inr (2, [.int (nI n), c1, c2, c3, c4, c5])), (ya, .inr (7, [y0, y1, y2, y3, y4, y5, y6, y7, y8, .ref so2, y10])), (so2, .inl (xI g, 24, .inl (fun j => iI (oo j))))] := hD
  try dsimp only at hw_2
  refine lv_aload_n hx hb dX8_stackOf_5 rfl (lv_at hl 0 rfl) ?_
  refine va_get (D := xD g) (ci := 8) (v := .ref ya) (C := RX8) (T := TX8) (N := 15) hx hb hts hFX8 hown hK hP 0 rfl rfl 13 (by decide) (hts (.fieldLink RX8 81 "Stevedore" "yard" "LStevedore$Yard;") (by decide +kernel)) (fun _ h9 => h9) rfl dX8_stackOf_6 ?_
  refine va_get (D := xD g) (ci := 7) (v := .ref so2) (C := RX7) (T := TX7) (N := 11) hx hb hts hFX7 hown hK hP 2 rfl rfl 9 (by decide) (hts (.fieldLink RX8 304 "Stevedore$Yard" "stackOfContainer" "[I") (by decide +kernel)) (fun _ h9 => h9) rfl dX8_stackOf_9 ?_
  refine lv_iload_n hx hb dX8_stackOf_12 rfl (lv_at hl 1 rfl) ?_
  refine va_iald hx hb hK hP 3 0 rfl rfl (vp_in_nI (by omega) (by omega)) dX8_stackOf_13 ?_
  refine lv_topi (fun v_3 ev => ?_)
  obtain rfl : v_3 = iI (oo c_) := ev.trans (congrArg (fun q9 => iI (oo q9)) (nI_clamp (by omega)))
  have b_4 := b_oo c_
  exact W.iret (v := iI (oo c_)) hx hb hr (fun t ht hW => ⟨⟨iI (oo c_), (), rfl, (by first | trivial | rfl | assumption | omega), trivial⟩, hS.F ht⟩) hS.2.2 dX8_stackOf_14
theorem dX8_heightOf_0 : decode cX8_heightOf 0 = .ok (.aload_n 0, 1) := by decide +kernel
theorem dX8_heightOf_1 : decode cX8_heightOf 1 = .ok (.iload_n 1, 1) := by decide +kernel
theorem dX8_heightOf_2 : decode cX8_heightOf 2 = .ok (.invokevirtual 307, 3) := by decide +kernel
set_option maxRecDepth 20000 in
theorem ggX8_heightOf_X8_needStack : GoodIn wsX8_heightOf wsX8_needStack := goodIn_ca (goodIn_r _ [7, 8, 9, 1, 10, 11, 12, 13, 14, 15, 16, 17, 18, 19, 20, 21, 22, 23, 24, 25, 26, 27, 28, 29, 30, 31, 32, 33, 34, 35, 36] rfl (by decide +kernel)) (goodIn_sub (fun _ h => List.mem_cons_of_mem _ (List.mem_append_right _ h)) (by decide +kernel))
set_option maxRecDepth 20000 in
theorem gX8_heightOf_X8_needStack : GoodIn wsX8_heightOf (wsV RX8 307 RX8 yX8_needStack wsX8_needStack) := goodIn_app (goodIn_of _ (by decide +kernel)) ggX8_heightOf_X8_needStack
theorem dX8_heightOf_5 : decode cX8_heightOf 5 = .ok (.aload_n 0, 1) := by decide +kernel
theorem dX8_heightOf_6 : decode cX8_heightOf 6 = .ok (.getfield 81, 3) := by decide +kernel
theorem dX8_heightOf_9 : decode cX8_heightOf 9 = .ok (.getfield 310, 3) := by decide +kernel
theorem dX8_heightOf_12 : decode cX8_heightOf 12 = .ok (.iload_n 1, 1) := by decide +kernel
theorem dX8_heightOf_13 : decode cX8_heightOf 13 = .ok (.iaload, 1) := by decide +kernel
theorem dX8_heightOf_14 : decode cX8_heightOf 14 = .ok (.ireturn, 1) := by decide +kernel
set_option maxHeartbeats 4000000 in
set_option maxRecDepth 100000 in
theorem t_heightOf (l : Launch) (g : xG) (sz : Nat) (st : Nat) (ya : Nat) (he : Nat) (sc : Nat) (t_ : Nat) (s0 : Value) (s1 : Value) (s2 : Value) (s3 : Value) (s4 : Value) (s5 : Value) (s6 : Value) (s7 : Value) (s8 : Value) (s9 : Value) (s10 : Value) (s11 : Value) (s12 : Value) (s14 : Value) (y1 : Value) (y2 : Value) (y3 : Value) (y5 : Value) (y6 : Value) (y7 : Value) (y8 : Value) (y9 : Value) (y10 : Value) (hgt : Nat → Nat)  (ht : t_ < sc) (hsc : sc ≤ 12) (b_hgt : ∀ j, hgt j ≤ 5) : Met l yX8_heightOf wsX8_heightOf ({ frames := 1, cells := 0, slots := 0, locals := 21 }) (va_Pc [.ref st, .int (nI t_)] (fun U => xB g [(st, .inr (8, [s0, s1, s2, s3, s4, s5, s6, s7, s8, s9, s10, s11, s12, .ref ya, s14])), (ya, .inr (7, [.int (nI sc), y1, y2, y3, .ref he, y5, y6, y7, y8, y9, y10])), (he, .inl (xI g, 12, .inl (fun j => nI (hgt j))))] sz U)) (va_Qi (fun (r : Int32) (_ : Unit) => r = nI (hgt t_)) (fun (_ : Unit) (_ : State) => True) (va_A [] sz)) 0 0 (va_A [] sz) := by
  refine Met.ofW (cc := cX8_heightOf) (maxL := 2) (ret := (some .int)) (by decide) rfl ?_
  intro p e s m args below meth c s₁ B hml hv
  obtain ⟨rfl, hsz, hP, hK, hD0⟩ := hv
  have hx := B.exec
  have hb := B.bytes
  have hr := B.returns
  have hts := atoms_spec (ws := wsX8_heightOf) B.pre
  have hown : s.vm.findClass RX8 = some m.cls := findClass_of_methodNamed B.named
  have hlocks := B.notSynchronized
  subst hsz
  have hD := hD0
  generalize hAe : va_A [] s.heap.size = A
  have hA : ∀ q : Nat, s.heap.size ≤ q → A q := fun q h => by rw [← hAe]; exact Or.inr h
  have hS : va_S A s.heap s.heap [] := va_S.rf
  have hl := lv_entry ([.ref st, .int (nI t_)]) (n := 2) (Nat.le_of_ble_eq_true rfl)
  rw [lg_entry_eq]
  generalize (lg_sl ([.ref st, .int (nI t_)]) ++ List.replicate (2 - (lg_sl ([.ref st, .int (nI t_)])).length) Slot.unset).toArray = ls at hl ⊢
  have hl : lv_has ls 2 [(0, .ref st), (1, .int (nI t_))] := hl
  have hFX7 : ∀ w ∈ u_ws RX7 TX7 11, w ∈ wsX8_heightOf := by decide +kernel
  have hFX8 : ∀ w ∈ u_ws RX8 TX8 15, w ∈ wsX8_heightOf := by decide +kernel
  refine lv_aload_n hx hb dX8_heightOf_0 rfl (lv_at hl 0 rfl) ?_
  refine lv_iload_n hx hb dX8_heightOf_1 rfl (lv_at hl 1 rfl) ?_
  have hPc := hP.sub (ws' := [(st, .inr (8, [s0, s1, s2, s3, s4, s5, s6, s7, s8, s9, s10, s11, s12, .ref ya, s14])), (ya, .inr (7, [.int (nI sc), y1, y2, y3, .ref he, y5, y6, y7, y8, y9, y10]))]) [0, 1] rfl
  have hDc := hD.sub (ws' := [(st, .inr (8, [s0, s1, s2, s3, s4, s5, s6, s7, s8, s9, s10, s11, s12, .ref ya, s14])), (ya, .inr (7, [.int (nI sc), y1, y2, y3, .ref he, y5, y6, y7, y8, y9, y10]))]) [0, 1] (by decide) rfl
  have hFc := xFree hS hA
  refine va_callv (va_runV (As := [.int (nI t_)]) (rest := []) ⟨hx, hb, hml, hown, hts⟩ (n_stack l g s.heap.size st ya sc t_ s0 s1 s2 s3 s4 s5 s6 s7 s8 s9 s10 s11 s12 s14 y1 y2 y3 (.ref he) y5 y6 y7 y8 y9 y10 (by first | assumption | omega) (by first | assumption | omega)) (cwV 1 hts gX8_heightOf_X8_needStack rfl rfl rfl (by decide +kernel) ⟨Nat.le_of_ble_eq_true rfl, Nat.le_of_ble_eq_true rfl⟩) ⟨xB.blind, va_recv hK hPc (ci := 8) (q0 := 0) rfl rfl, fun U9 hU9 hW9 => ⟨rfl, xB.mk hPc hK hDc hU9 hW9⟩⟩ rfl rfl hl.1 rfl (lv_room (Nat.le_of_ble_eq_true rfl)) dX8_heightOf_2 ⟨Nat.le_of_ble_eq_true rfl, Nat.le_of_ble_eq_true rfl⟩) hS (fun q _ h => hFc q h) hFc (fun _ t H1 locs ht hvm hw_2 hB hz1 hk1 hS => ?_)
  have hP := xSame hP hk1
  generalize H1 = H at hP hS ⊢
  have hP : va_P (xD g) vwCl [(st, .inr (8, [s0, s1, s2, s3, s4, s5, s6, s7, s8, s9, s10, s11, s12, .ref ya, s14])), (ya, .inr (7, [.int (nI sc), y1, y2, y3, .ref he, y5, y6, y7, y8, y9, y10])), (he, .inl (xI g, 12, .inl (fun j => nI (hgt j))))] H := hP
  have hD : va_D (fun _ => True) [(st, .inr (8, [s0, s1, s2, s3, s4, s5, s6, s7, s8, s9, s10, s11, s12, .ref ya, s14])), (ya, .inr (7, [.int (nI sc), y1, y2, y3, .ref he, y5, y6, y7, y8, y9, y10])), (he, .inl (xI g, 12, .inl (fun j => nI (hgt j))))] := hD
  try dsimp only at hw_2
  refine lv_aload_n hx hb dX8_heightOf_5 rfl (lv_at hl 0 rfl) ?_
  refine va_get (D := xD g) (ci := 8) (v := .ref ya) (C := RX8) (T := TX8) (N := 15) hx hb hts hFX8 hown hK hP 0 rfl rfl 13 (by decide) (hts (.fieldLink RX8 81 "Stevedore" "yard" "LStevedore$Yard;") (by decide +kernel)) (fun _ h9 => h9) rfl dX8_heightOf_6 ?_
  refine va_get (D := xD g) (ci := 7) (v := .ref he) (C := RX7) (T := TX7) (N := 11) hx hb hts hFX7 hown hK hP 1 rfl rfl 4 (by decide) (hts (.fieldLink RX8 310 "Stevedore$Yard" "height" "[I") (by decide +kernel)) (fun _ h9 => h9) rfl dX8_heightOf_9 ?_
  refine lv_iload_n hx hb dX8_heightOf_12 rfl (lv_at hl 1 rfl) ?_
  refine va_iald hx hb hK hP 2 0 rfl rfl (vp_in_nI (by omega) (by omega)) dX8_heightOf_13 ?_
  refine lv_topi (fun v_3 ev => ?_)
  obtain rfl : v_3 = nI (hgt t_) := ev.trans (congrArg (fun q9 => nI (hgt q9)) (nI_clamp (by omega)))
  have b_4 := b_hgt t_
  exact W.iret (v := nI (hgt t_)) hx hb hr (fun t ht hW => ⟨⟨nI (hgt t_), (), rfl, (by first | trivial | rfl | assumption | omega), trivial⟩, hS.F ht⟩) hS.2.2 dX8_heightOf_14
theorem dX8_containerAt_0 : decode cX8_containerAt 0 = .ok (.aload_n 0, 1) := by decide +kernel
theorem dX8_containerAt_1 : decode cX8_containerAt 1 = .ok (.iload_n 1, 1) := by decide +kernel
theorem dX8_containerAt_2 : decode cX8_containerAt 2 = .ok (.invokevirtual 307, 3) := by decide +kernel
set_option maxRecDepth 20000 in
theorem ggX8_containerAt_X8_needStack : GoodIn wsX8_containerAt wsX8_needStack := goodIn_ca (goodIn_r _ [10, 1, 2, 3, 11, 12, 13, 14, 15, 16, 17, 18, 19, 20, 21, 22, 23, 24, 25, 26, 27, 28, 29, 30, 31, 32, 33, 34, 35, 36, 37] rfl (by decide +kernel)) (goodIn_sub (fun _ h => List.mem_cons_of_mem _ (List.mem_append_right _ h)) (by decide +kernel))
set_option maxRecDepth 20000 in
theorem gX8_containerAt_X8_needStack : GoodIn wsX8_containerAt (wsV RX8 307 RX8 yX8_needStack wsX8_needStack) := goodIn_app (goodIn_of _ (by decide +kernel)) ggX8_containerAt_X8_needStack
theorem dX8_containerAt_5 : decode cX8_containerAt 5 = .ok (.iload_n 2, 1) := by decide +kernel
theorem dX8_containerAt_6 : decode cX8_containerAt 6 = .ok (.ifCond .lt 16, 3) := by decide +kernel
theorem dX8_containerAt_9 : decode cX8_containerAt 9 = .ok (.iload_n 2, 1) := by decide +kernel
theorem dX8_containerAt_10 : decode cX8_containerAt 10 = .ok (.aload_n 0, 1) := by decide +kernel
theorem dX8_containerAt_11 : decode cX8_containerAt 11 = .ok (.getfield 81, 3) := by decide +kernel
theorem dX8_containerAt_14 : decode cX8_containerAt 14 = .ok (.getfield 310, 3) := by decide +kernel
theorem dX8_containerAt_17 : decode cX8_containerAt 17 = .ok (.iload_n 1, 1) := by decide +kernel
theorem dX8_containerAt_18 : decode cX8_containerAt 18 = .ok (.iaload, 1) := by decide +kernel
theorem dX8_containerAt_19 : decode cX8_containerAt 19 = .ok (.if_icmp .lt 14, 3) := by decide +kernel
theorem dX8_containerAt_33 : decode cX8_containerAt 33 = .ok (.aload_n 0, 1) := by decide +kernel
theorem dX8_containerAt_34 : decode cX8_containerAt 34 = .ok (.getfield 81, 3) := by decide +kernel
theorem dX8_containerAt_37 : decode cX8_containerAt 37 = .ok (.getfield 315, 3) := by decide +kernel
theorem dX8_containerAt_40 : decode cX8_containerAt 40 = .ok (.iload_n 1, 1) := by decide +kernel
theorem dX8_containerAt_41 : decode cX8_containerAt 41 = .ok (.aaload, 1) := by decide +kernel
theorem dX8_containerAt_42 : decode cX8_containerAt 42 = .ok (.iload_n 2, 1) := by decide +kernel
theorem dX8_containerAt_43 : decode cX8_containerAt 43 = .ok (.iaload, 1) := by decide +kernel
theorem dX8_containerAt_44 : decode cX8_containerAt 44 = .ok (.ireturn, 1) := by decide +kernel
set_option maxHeartbeats 4000000 in
set_option maxRecDepth 100000 in
theorem t_containerAt (l : Launch) (g : xG) (sz : Nat) (st : Nat) (ya : Nat) (he : Nat) (so : Nat) (sc : Nat) (t_ : Nat) (l_ : Nat) (rr : Nat → Nat) (s0 : Value) (s1 : Value) (s2 : Value) (s3 : Value) (s4 : Value) (s5 : Value) (s6 : Value) (s7 : Value) (s8 : Value) (s9 : Value) (s10 : Value) (s11 : Value) (s12 : Value) (s14 : Value) (y1 : Value) (y2 : Value) (y3 : Value) (y6 : Value) (y7 : Value) (y8 : Value) (y9 : Value) (y10 : Value) (hgt : Nat → Nat) (sd : Nat → Nat → Nat)  (ht : t_ < sc) (hsc : sc ≤ 12) (hlx : l_ < hgt t_) (b_hgt : ∀ j, hgt j ≤ 5) (b_sd : ∀ i j, sd i j ≤ 23) : Met l yX8_containerAt wsX8_containerAt ({ frames := 1, cells := 0, slots := 0, locals := 21 }) (va_Pc [.ref st, .int (nI t_), .int (nI l_)] (fun U => xB g ([(st, .inr (8, [s0, s1, s2, s3, s4, s5, s6, s7, s8, s9, s10, s11, s12, .ref ya, s14])), (ya, .inr (7, [.int (nI sc), y1, y2, y3, .ref he, .ref so, y6, y7, y8, y9, y10])), (he, .inl (xI g, 12, .inl (fun j => nI (hgt j)))), (so, .inl (xM g, 12, .inr (.inr (.inr (.inr (fun i => if i < 12 then some (rr i) else none))))))] ++ (xRN (xI g) 12 5 rr sd ++ [])) sz U)) (va_Qi (fun (r : Int32) (_ : Unit) => r = nI (sd t_ l_)) (fun (_ : Unit) (_ : State) => True) (va_A [] sz)) 0 0 (va_A [] sz) := by
  refine Met.ofW (cc := cX8_containerAt) (maxL := 3) (ret := (some .int)) (by decide) rfl ?_
  intro p e s m args below meth c s₁ B hml hv
  obtain ⟨rfl, hsz, hP, hK, hD0⟩ := hv
  have hx := B.exec
  have hb := B.bytes
  have hr := B.returns
  have hts := atoms_spec (ws := wsX8_containerAt) B.pre
  have hown : s.vm.findClass RX8 = some m.cls := findClass_of_methodNamed B.named
  have hlocks := B.notSynchronized
  subst hsz
  have hD := hD0
  generalize hAe : va_A [] s.heap.size = A
  have hA : ∀ q : Nat, s.heap.size ≤ q → A q := fun q h => by rw [← hAe]; exact Or.inr h
  have hS : va_S A s.heap s.heap [] := va_S.rf
  have hl := lv_entry ([.ref st, .int (nI t_), .int (nI l_)]) (n := 3) (Nat.le_of_ble_eq_true rfl)
  rw [lg_entry_eq]
  generalize (lg_sl ([.ref st, .int (nI t_), .int (nI l_)]) ++ List.replicate (3 - (lg_sl ([.ref st, .int (nI t_), .int (nI l_)])).length) Slot.unset).toArray = ls at hl ⊢
  have hl : lv_has ls 3 [(0, .ref st), (1, .int (nI t_)), (2, .int (nI l_))] := hl
  have hFX7 : ∀ w ∈ u_ws RX7 TX7 11, w ∈ wsX8_containerAt := by decide +kernel
  have hFX8 : ∀ w ∈ u_ws RX8 TX8 15, w ∈ wsX8_containerAt := by decide +kernel
  refine lv_aload_n hx hb dX8_containerAt_0 rfl (lv_at hl 0 rfl) ?_
  refine lv_iload_n hx hb dX8_containerAt_1 rfl (lv_at hl 1 rfl) ?_
  have hPc := hP.sub (ws' := [(st, .inr (8, [s0, s1, s2, s3, s4, s5, s6, s7, s8, s9, s10, s11, s12, .ref ya, s14])), (ya, .inr (7, [.int (nI sc), y1, y2, y3, .ref he, .ref so, y6, y7, y8, y9, y10]))]) [0, 1] rfl
  have hDc := hD.sub (ws' := [(st, .inr (8, [s0, s1, s2, s3, s4, s5, s6, s7, s8, s9, s10, s11, s12, .ref ya, s14])), (ya, .inr (7, [.int (nI sc), y1, y2, y3, .ref he, .ref so, y6, y7, y8, y9, y10]))]) [0, 1] (by decide) rfl
  have hFc := xFree hS hA
  refine va_callv (va_runV (As := [.int (nI t_)]) (rest := []) ⟨hx, hb, hml, hown, hts⟩ (n_stack l g s.heap.size st ya sc t_ s0 s1 s2 s3 s4 s5 s6 s7 s8 s9 s10 s11 s12 s14 y1 y2 y3 (.ref he) (.ref so) y6 y7 y8 y9 y10 (by first | assumption | omega) (by first | assumption | omega)) (cwV 1 hts gX8_containerAt_X8_needStack rfl rfl rfl (by decide +kernel) ⟨Nat.le_of_ble_eq_true rfl, Nat.le_of_ble_eq_true rfl⟩) ⟨xB.blind, va_recv hK hPc (ci := 8) (q0 := 0) rfl rfl, fun U9 hU9 hW9 => ⟨rfl, xB.mk hPc hK hDc hU9 hW9⟩⟩ rfl rfl hl.1 rfl (lv_room (Nat.le_of_ble_eq_true rfl)) dX8_containerAt_2 ⟨Nat.le_of_ble_eq_true rfl, Nat.le_of_ble_eq_true rfl⟩) hS (fun q _ h => hFc q h) hFc (fun _ t H1 locs ht hvm hw_2 hB hz1 hk1 hS => ?_)
  have hP := xSame hP hk1
  generalize H1 = H at hP hS ⊢
  have hP : va_P (xD g) vwCl ([(st, .inr (8, [s0, s1, s2, s3, s4, s5, s6, s7, s8, s9, s10, s11, s12, .ref ya, s14])), (ya, .inr (7, [.int (nI sc), y1, y2, y3, .ref he, .ref so, y6, y7, y8, y9, y10])), (he, .inl (xI g, 12, .inl (fun j => nI (hgt j)))), (so, .inl (xM g, 12, .inr (.inr (.inr (.inr (fun i => if i < 12 then some (rr i) else none))))))] ++ (xRN (xI g) 12 5 rr sd ++ [])) H := hP
  have hD : va_D (fun _ => True) ([(st, .inr (8, [s0, s1, s2, s3, s4, s5, s6, s7, s8, s9, s10, s11, s12, .ref ya, s14])), (ya, .inr (7, [.int (nI sc), y1, y2, y3, .ref he, .ref so, y6, y7, y8, y9, y10])), (he, .inl (xI g, 12, .inl (fun j => nI (hgt j)))), (so, .inl (xM g, 12, .inr (.inr (.inr (.inr (fun i => if i < 12 then some (rr i) else none))))))] ++ (xRN (xI g) 12 5 rr sd ++ [])) := hD
  try dsimp only at hw_2
  have hbt := b_hgt t_
  refine lv_iload_n hx hb dX8_containerAt_5 rfl (lv_at hl 2 rfl) ?_
  refine lv_if_lt (tgt := 22) hx hb dX8_containerAt_6 (by decide) (fun c_3 => ?_) (fun c_3 => ?_)
  · have nc_3 := (nI_ltI (a := l_) (b := 0) (by omega) (by omega)).mp c_3
    (exfalso; omega)
  · have nc_3 := mt (nI_ltI (a := l_) (b := 0) (by omega) (by omega)).mpr c_3
    refine lv_iload_n hx hb dX8_containerAt_9 rfl (lv_at hl 2 rfl) ?_
    refine lv_aload_n hx hb dX8_containerAt_10 rfl (lv_at hl 0 rfl) ?_
    refine va_get (D := xD g) (ci := 8) (v := .ref ya) (C := RX8) (T := TX8) (N := 15) hx hb hts hFX8 hown hK hP 0 rfl rfl 13 (by decide) (hts (.fieldLink RX8 81 "Stevedore" "yard" "LStevedore$Yard;") (by decide +kernel)) (fun _ h9 => h9) rfl dX8_containerAt_11 ?_
    refine va_get (D := xD g) (ci := 7) (v := .ref he) (C := RX7) (T := TX7) (N := 11) hx hb hts hFX7 hown hK hP 1 rfl rfl 4 (by decide) (hts (.fieldLink RX8 310 "Stevedore$Yard" "height" "[I") (by decide +kernel)) (fun _ h9 => h9) rfl dX8_containerAt_14 ?_
    refine lv_iload_n hx hb dX8_containerAt_17 rfl (lv_at hl 1 rfl) ?_
    refine va_iald hx hb hK hP 2 0 rfl rfl (vp_in_nI (by omega) (by omega)) dX8_containerAt_18 ?_
    refine lv_topi (fun v_4 ev => ?_)
    obtain rfl : v_4 = nI (hgt t_) := ev.trans (congrArg (fun q9 => nI (hgt q9)) (nI_clamp (by omega)))
    have b_5 := b_hgt t_
    refine lv_icmp_lt (tgt := 33) hx hb dX8_containerAt_19 (by decide) (fun c_6 => ?_) (fun c_6 => ?_)
    · have nc_6 := (nI_ltI (a := l_) (b := hgt t_) (by omega) (by omega)).mp c_6
      refine lv_aload_n hx hb dX8_containerAt_33 rfl (lv_at hl 0 rfl) ?_
      refine va_get (D := xD g) (ci := 8) (v := .ref ya) (C := RX8) (T := TX8) (N := 15) hx hb hts hFX8 hown hK hP 0 rfl rfl 13 (by decide) (hts (.fieldLink RX8 81 "Stevedore" "yard" "LStevedore$Yard;") (by decide +kernel)) (fun _ h9 => h9) rfl dX8_containerAt_34 ?_
      refine va_get (D := xD g) (ci := 7) (v := .ref so) (C := RX7) (T := TX7) (N := 11) hx hb hts hFX7 hown hK hP 1 rfl rfl 5 (by decide) (hts (.fieldLink RX8 315 "Stevedore$Yard" "standing" "[[I") (by decide +kernel)) (fun _ h9 => h9) rfl dX8_containerAt_37 ?_
      refine lv_iload_n hx hb dX8_containerAt_40 rfl (lv_at hl 1 rfl) ?_
      refine xAldM hx hb hK hP 3 3 rfl rfl (vp_in_nI (by omega) (by omega)) dX8_containerAt_41 ?_
      refine W.eq (g2 := F0 m 42 ls (.ref (rr t_) :: [])) (congrArg (fun q9 => F0 m 42 ls (q9 :: [])) (xRow (n := 12) (k := t_) (nI_clamp (by omega)) (by omega))) ?_
      refine lv_iload_n hx hb dX8_containerAt_42 rfl (lv_at hl 2 rfl) ?_
      refine va_iald hx hb hK hP _ 0 (xR_ap (X := [(st, .inr (8, [s0, s1, s2, s3, s4, s5, s6, s7, s8, s9, s10, s11, s12, .ref ya, s14])), (ya, .inr (7, [.int (nI sc), y1, y2, y3, .ref he, .ref so, y6, y7, y8, y9, y10])), (he, .inl (xI g, 12, .inl (fun j => nI (hgt j)))), (so, .inl (xM g, 12, .inr (.inr (.inr (.inr (fun i => if i < 12 then some (rr i) else none))))))]) (xR_get0 (i := t_) (by omega))) rfl (vp_in_nI (by omega) (by omega)) dX8_containerAt_43 ?_
      refine lv_topi (fun v_7 ev => ?_)
      obtain rfl : v_7 = nI (sd t_ l_) := ev.trans (congrArg (fun q9 => nI (sd t_ q9)) (nI_clamp (by omega)))
      have b_8 := b_sd t_ l_
      exact W.iret (v := nI (sd t_ l_)) hx hb hr (fun t ht hW => ⟨⟨nI (sd t_ l_), (), rfl, (by first | trivial | rfl | assumption | omega), trivial⟩, hS.F ht⟩) hS.2.2 dX8_containerAt_44
    · have nc_6 := mt (nI_ltI (a := l_) (b := hgt t_) (by omega) (by omega)).mpr c_6
      (exfalso; omega)
theorem dX8_blocking_0 : decode cX8_blocking 0 = .ok (.aload_n 0, 1) := by decide +kernel
theorem dX8_blocking_1 : decode cX8_blocking 1 = .ok (.getfield 81, 3) := by decide +kernel
theorem dX8_blocking_4 : decode cX8_blocking 4 = .ok (.invokevirtual 322, 3) := by decide +kernel
set_option maxRecDepth 20000 in
theorem ggX8_blocking_X7_countBlocking : GoodIn wsX8_blocking wsX7_countBlocking := goodIn_r _ [6, 7, 8, 9, 10, 11, 5, 12, 13, 14, 15, 16, 17, 18, 19, 20, 21, 22, 38, 39, 40, 41, 42, 43, 44, 45, 46, 47, 48] rfl (by decide +kernel)
set_option maxRecDepth 20000 in
theorem gX8_blocking_X7_countBlocking : GoodIn wsX8_blocking (wsV RX8 322 RX7 yX7_countBlocking wsX7_countBlocking) := goodIn_app (goodIn_of _ (by decide +kernel)) ggX8_blocking_X7_countBlocking
theorem dX8_blocking_7 : decode cX8_blocking 7 = .ok (.ireturn, 1) := by decide +kernel
set_option maxHeartbeats 4000000 in
set_option maxRecDepth 100000 in
theorem t_blocking (l : Launch) (g : xG) (sz : Nat) (st : Nat) (ya : Nat) (he : Nat) (so : Nat) (le : Nat) (sc : Nat) (rr : Nat → Nat) (s0 : Value) (s1 : Value) (s2 : Value) (s3 : Value) (s4 : Value) (s5 : Value) (s6 : Value) (s7 : Value) (s8 : Value) (s9 : Value) (s10 : Value) (s11 : Value) (s12 : Value) (s14 : Value) (y1 : Value) (y2 : Value) (y3 : Value) (y6 : Value) (y8 : Value) (y9 : Value) (y10 : Value) (hgt : Nat → Nat) (sd : Nat → Nat → Nat) (lv : Nat → Int)  (hsc : sc ≤ 12) (b_hgt : ∀ j, hgt j ≤ 5) (b_sd : ∀ i j, sd i j ≤ 23) (b_lv : ∀ j, 0 ≤ lv j ∧ lv j ≤ 1000000) : Met l yX8_blocking wsX8_blocking ({ frames := 4, cells := 0, slots := 0, locals := 93 }) (va_Pc [.ref st] (fun U => xB g ([(st, .inr (8, [s0, s1, s2, s3, s4, s5, s6, s7, s8, s9, s10, s11, s12, .ref ya, s14])), (ya, .inr (7, [.int (nI sc), y1, y2, y3, .ref he, .ref so, y6, .ref le, y8, y9, y10])), (he, .inl (xI g, 12, .inl (fun j => nI (hgt j)))), (so, .inl (xM g, 12, .inr (.inr (.inr (.inr (fun i => if i < 12 then some (rr i) else none))))))] ++ (xRN (xI g) 12 5 rr sd ++ [(le, .inl (xI g, 24, .inl (fun j => iI (lv j))))])) sz U)) (va_Qi (fun (r : Int32) (_ : Unit) => r = nI (yBl lv hgt sd sc)) (fun (_ : Unit) (_ : State) => True) (va_A [] sz)) 0 0 (va_A [] sz) := by
  refine Met.ofW (cc := cX8_blocking) (maxL := 1) (ret := (some .int)) (by decide) rfl ?_
  intro p e s m args below meth c s₁ B hml hv
  obtain ⟨rfl, hsz, hP, hK, hD0⟩ := hv
  have hx := B.exec
  have hb := B.bytes
  have hr := B.returns
  have hts := atoms_spec (ws := wsX8_blocking) B.pre
  have hown : s.vm.findClass RX8 = some m.cls := findClass_of_methodNamed B.named
  have hlocks := B.notSynchronized
  subst hsz
  have hD := hD0
  generalize hAe : va_A [] s.heap.size = A
  have hA : ∀ q : Nat, s.heap.size ≤ q → A q := fun q h => by rw [← hAe]; exact Or.inr h
  have hS : va_S A s.heap s.heap [] := va_S.rf
  have hl := lv_entry ([.ref st]) (n := 1) (Nat.le_of_ble_eq_true rfl)
  rw [lg_entry_eq]
  generalize (lg_sl ([.ref st]) ++ List.replicate (1 - (lg_sl ([.ref st])).length) Slot.unset).toArray = ls at hl ⊢
  have hl : lv_has ls 1 [(0, .ref st)] := hl
  have hFX8 : ∀ w ∈ u_ws RX8 TX8 15, w ∈ wsX8_blocking := by decide +kernel
  refine lv_aload_n hx hb dX8_blocking_0 rfl (lv_at hl 0 rfl) ?_
  refine va_get (D := xD g) (ci := 8) (v := .ref ya) (C := RX8) (T := TX8) (N := 15) hx hb hts hFX8 hown hK hP 0 rfl rfl 13 (by decide) (hts (.fieldLink RX8 81 "Stevedore" "yard" "LStevedore$Yard;") (by decide +kernel)) (fun _ h9 => h9) rfl dX8_blocking_1 ?_
  have hPc := hP.sub (ws' := ([(ya, .inr (7, [.int (nI sc), y1, y2, y3, .ref he, .ref so, y6, .ref le, y8, y9, y10])), (he, .inl (xI g, 12, .inl (fun j => nI (hgt j)))), (so, .inl (xM g, 12, .inr (.inr (.inr (.inr (fun i => if i < 12 then some (rr i) else none))))))] ++ (xRN (xI g) 12 5 rr sd ++ [(le, .inl (xI g, 24, .inl (fun j => iI (lv j))))]))) [1, 2, 3, 4, 5, 6, 7, 8, 9, 10, 11, 12, 13, 14, 15, 16] rfl
  have hDc := hD.sub (ws' := ([(ya, .inr (7, [.int (nI sc), y1, y2, y3, .ref he, .ref so, y6, .ref le, y8, y9, y10])), (he, .inl (xI g, 12, .inl (fun j => nI (hgt j)))), (so, .inl (xM g, 12, .inr (.inr (.inr (.inr (fun i => if i < 12 then some (rr i) else none))))))] ++ (xRN (xI g) 12 5 rr sd ++ [(le, .inl (xI g, 24, .inl (fun j => iI (lv j))))]))) [1, 2, 3, 4, 5, 6, 7, 8, 9, 10, 11, 12, 13, 14, 15, 16] (by decide) rfl
  have hFc := xFree hS hA
  refine va_calli (va_runV (As := []) (rest := []) ⟨hx, hb, hml, hown, hts⟩ (y_countBlocking l g s.heap.size ya he so le sc rr y1 y2 y3 y6 y8 y9 y10 hgt sd lv (by first | assumption | omega) b_hgt b_sd b_lv) (cwV 0 hts gX8_blocking_X7_countBlocking rfl rfl rfl (by decide +kernel) ⟨Nat.le_of_ble_eq_true rfl, Nat.le_of_ble_eq_true rfl⟩) ⟨xB.blind, va_recv hK hPc (ci := 7) (q0 := 0) rfl rfl, fun U9 hU9 hW9 => ⟨rfl, xB.mk hPc hK hDc hU9 hW9⟩⟩ rfl rfl hl.1 rfl (lv_room (Nat.le_of_ble_eq_true rfl)) dX8_blocking_4 ⟨Nat.le_of_ble_eq_true rfl, Nat.le_of_ble_eq_true rfl⟩) hS (fun q _ h => hFc q h) hFc (fun r_1 _ t H1 locs ht hvm hw_2 hB hz1 hk1 hS => ?_)
  have hP := xSame hP hk1
  generalize H1 = H at hP hS ⊢
  have hP : va_P (xD g) vwCl ([(st, .inr (8, [s0, s1, s2, s3, s4, s5, s6, s7, s8, s9, s10, s11, s12, .ref ya, s14])), (ya, .inr (7, [.int (nI sc), y1, y2, y3, .ref he, .ref so, y6, .ref le, y8, y9, y10])), (he, .inl (xI g, 12, .inl (fun j => nI (hgt j)))), (so, .inl (xM g, 12, .inr (.inr (.inr (.inr (fun i => if i < 12 then some (rr i) else none))))))] ++ (xRN (xI g) 12 5 rr sd ++ [(le, .inl (xI g, 24, .inl (fun j => iI (lv j))))])) H := hP
  have hD : va_D (fun _ => True) ([(st, .inr (8, [s0, s1, s2, s3, s4, s5, s6, s7, s8, s9, s10, s11, s12, .ref ya, s14])), (ya, .inr (7, [.int (nI sc), y1, y2, y3, .ref he, .ref so, y6, .ref le, y8, y9, y10])), (he, .inl (xI g, 12, .inl (fun j => nI (hgt j)))), (so, .inl (xM g, 12, .inr (.inr (.inr (.inr (fun i => if i < 12 then some (rr i) else none))))))] ++ (xRN (xI g) 12 5 rr sd ++ [(le, .inl (xI g, 24, .inl (fun j => iI (lv j))))])) := hD
  try dsimp only at hw_2
  obtain rfl : r_1 = nI (yBl lv hgt sd sc) := hw_2
  exact W.iret (v := nI (yBl lv hgt sd sc)) hx hb hr (fun t ht hW => ⟨⟨nI (yBl lv hgt sd sc), (), rfl, (by first | trivial | rfl | assumption | omega), trivial⟩, hS.F ht⟩) hS.2.2 dX8_blocking_7
