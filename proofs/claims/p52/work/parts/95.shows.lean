theorem dX8_events_0 : decode cX8_events 0 = .ok (.aload_n 0, 1) := by decide +kernel
theorem dX8_events_1 : decode cX8_events 1 = .ok (.getfield 74, 3) := by decide +kernel
theorem dX8_events_4 : decode cX8_events 4 = .ok (.getfield 278, 3) := by decide +kernel
theorem dX8_events_7 : decode cX8_events 7 = .ok (.ireturn, 1) := by decide +kernel
set_option maxHeartbeats 4000000 in
set_option maxRecDepth 100000 in
theorem t_events (l : Launch) (g : xG) (sz : Nat) (st : Nat) (ag : Nat) (cnt : Nat) (s0 : Value) (s1 : Value) (s2 : Value) (s3 : Value) (s4 : Value) (s5 : Value) (s6 : Value) (s7 : Value) (s8 : Value) (s9 : Value) (s10 : Value) (s11 : Value) (s13 : Value) (s14 : Value) (g1 : Value)  : Met l yX8_events wsX8_events ({ frames := 0, cells := 0, slots := 0, locals := 0 }) (va_Pc [.ref st] (fun U => xB g [(st, .inr (8, [s0, s1, s2, s3, s4, s5, s6, s7, s8, s9, s10, s11, .ref ag, s13, s14])), (ag, .inr (0, [.int (nI cnt), g1]))] sz U)) (va_Qi (fun (r : Int32) (_ : Unit) => r = nI cnt) (fun (_ : Unit) (_ : State) => True) (va_A [] sz)) 0 0 (va_A [] sz) := by
  refine Met.ofW (cc := cX8_events) (maxL := 1) (ret := (some .int)) (by decide) rfl ?_
  intro p e s m args below meth c s₁ B hml hv
  obtain ⟨rfl, hsz, hP, hK, hD0⟩ := hv
  have hx := B.exec
  have hb := B.bytes
  have hr := B.returns
  have hts := atoms_spec (ws := wsX8_events) B.pre
  have hown : s.vm.findClass RX8 = some m.cls := findClass_of_methodNamed B.named
  have hlocks := B.notSynchronized
  subst hsz
  have hD := hD0
  generalize hAe : va_A [] s.heap.size = A
  have hA : ∀ q : Nat, s.heap.size ≤ q → A q := fun q h => by rw [← hAe]; exact Or.inr h
  have hS : va_S A s.heap s.heap [] := va_S.rf
  have hl := lv_entry ([.ref st]) (n := 1) (Nat.le_of_ble_eq_true rfl)
  rw [lg_entry_eq]
  generalize (lg_sl ([.ref st]) ++ List.replicate (1 - (lg_sl ([.ref st])).length) Slot.unset).toArray = ls at hl ⊢
  have hl : lv_has ls 1 [(0, .ref st)] := hl
  have hFX0 : ∀ w ∈ u_ws RX0 TX0 2, w ∈ wsX8_events := by decide +kernel
  have hFX8 : ∀ w ∈ u_ws RX8 TX8 15, w ∈ wsX8_events := by decide +kernel
  refine lv_aload_n hx hb dX8_events_0 rfl (lv_at hl 0 rfl) ?_
  refine va_get (D := xD g) (ci := 8) (v := .ref ag) (C := RX8) (T := TX8) (N := 15) hx hb hts hFX8 hown hK hP 0 rfl rfl 12 (by decide) (hts (.fieldLink RX8 74 "Stevedore" "agenda" "LStevedore$Agenda;") (by decide +kernel)) (fun _ h9 => h9) rfl dX8_events_1 ?_
  refine va_get (D := xD g) (ci := 0) (v := .int (nI cnt)) (C := RX0) (T := TX0) (N := 2) hx hb hts hFX0 hown hK hP 1 rfl rfl 0 (by decide) (hts (.fieldLink RX8 278 "Stevedore$Agenda" "count" "I") (by decide +kernel)) (fun _ h9 => h9) rfl dX8_events_4 ?_
  exact W.iret (v := nI cnt) hx hb hr (fun t ht hW => ⟨⟨nI cnt, (), rfl, (by first | trivial | rfl | assumption | omega), trivial⟩, hS.F ht⟩) hS.2.2 dX8_events_7
theorem dX8_timeOf_0 : decode cX8_timeOf 0 = .ok (.aload_n 0, 1) := by decide +kernel
theorem dX8_timeOf_1 : decode cX8_timeOf 1 = .ok (.iload_n 1, 1) := by decide +kernel
theorem dX8_timeOf_2 : decode cX8_timeOf 2 = .ok (.invokevirtual 279, 3) := by decide +kernel
set_option maxRecDepth 20000 in
theorem ggX8_timeOf_X8_needEvent : GoodIn wsX8_timeOf wsX8_needEvent := goodIn_ca (goodIn_r _ [6, 7, 8, 1, 9, 16, 17, 18, 19, 20, 21, 22, 23, 24, 25, 26, 27, 28, 29, 30, 31, 32] rfl (by decide +kernel)) (goodIn_sub (fun _ h => List.mem_cons_of_mem _ (List.mem_append_right _ h)) (by decide +kernel))
set_option maxRecDepth 20000 in
theorem gX8_timeOf_X8_needEvent : GoodIn wsX8_timeOf (wsV RX8 279 RX8 yX8_needEvent wsX8_needEvent) := goodIn_app (goodIn_of _ (by decide +kernel)) ggX8_timeOf_X8_needEvent
theorem dX8_timeOf_5 : decode cX8_timeOf 5 = .ok (.aload_n 0, 1) := by decide +kernel
theorem dX8_timeOf_6 : decode cX8_timeOf 6 = .ok (.getfield 74, 3) := by decide +kernel
theorem dX8_timeOf_9 : decode cX8_timeOf 9 = .ok (.iload_n 1, 1) := by decide +kernel
theorem dX8_timeOf_10 : decode cX8_timeOf 10 = .ok (.invokevirtual 282, 3) := by decide +kernel
set_option maxRecDepth 20000 in
theorem ggX8_timeOf_X0_time : GoodIn wsX8_timeOf wsX0_time := goodIn_r _ [14, 15, 31, 32] rfl (by decide +kernel)
set_option maxRecDepth 20000 in
theorem gX8_timeOf_X0_time : GoodIn wsX8_timeOf (wsV RX8 282 RX0 yX0_time wsX0_time) := goodIn_app (goodIn_of _ (by decide +kernel)) ggX8_timeOf_X0_time
theorem dX8_timeOf_13 : decode cX8_timeOf 13 = .ok (.ireturn, 1) := by decide +kernel
set_option maxHeartbeats 4000000 in
set_option maxRecDepth 100000 in
theorem t_timeOf (l : Launch) (g : xG) (sz : Nat) (st : Nat) (ag : Nat) (ky : Nat) (cnt : Nat) (en : Nat) (s0 : Value) (s1 : Value) (s2 : Value) (s3 : Value) (s4 : Value) (s5 : Value) (s6 : Value) (s7 : Value) (s8 : Value) (s9 : Value) (s10 : Value) (s11 : Value) (s13 : Value) (s14 : Value) (kf : Nat → Nat)  (hen : en < cnt) (hcn : cnt ≤ 48) (b_kf : ∀ j, kf j ≤ 100000000) : Met l yX8_timeOf wsX8_timeOf ({ frames := 1, cells := 0, slots := 0, locals := 21 }) (va_Pc [.ref st, .int (nI en)] (fun U => xB g [(st, .inr (8, [s0, s1, s2, s3, s4, s5, s6, s7, s8, s9, s10, s11, .ref ag, s13, s14])), (ag, .inr (0, [.int (nI cnt), .ref ky])), (ky, .inl (xI g, 48, .inl (fun j => nI (kf j))))] sz U)) (va_Qi (fun (r : Int32) (_ : Unit) => r = nI (kf en / 128)) (fun (_ : Unit) (_ : State) => True) (va_A [] sz)) 0 0 (va_A [] sz) := by
  refine Met.ofW (cc := cX8_timeOf) (maxL := 2) (ret := (some .int)) (by decide) rfl ?_
  intro p e s m args below meth c s₁ B hml hv
  obtain ⟨rfl, hsz, hP, hK, hD0⟩ := hv
  have hx := B.exec
  have hb := B.bytes
  have hr := B.returns
  have hts := atoms_spec (ws := wsX8_timeOf) B.pre
  have hown : s.vm.findClass RX8 = some m.cls := findClass_of_methodNamed B.named
  have hlocks := B.notSynchronized
  subst hsz
  have hD := hD0
  generalize hAe : va_A [] s.heap.size = A
  have hA : ∀ q : Nat, s.heap.size ≤ q → A q := fun q h => by rw [← hAe]; exact Or.inr h
  have hS : va_S A s.heap s.heap [] := va_S.rf
  have hl := lv_entry ([.ref st, .int (nI en)]) (n := 2) (Nat.le_of_ble_eq_true rfl)
  rw [lg_entry_eq]
  generalize (lg_sl ([.ref st, .int (nI en)]) ++ List.replicate (2 - (lg_sl ([.ref st, .int (nI en)])).length) Slot.unset).toArray = ls at hl ⊢
  have hl : lv_has ls 2 [(0, .ref st), (1, .int (nI en))] := hl
  have hFX8 : ∀ w ∈ u_ws RX8 TX8 15, w ∈ wsX8_timeOf := by decide +kernel
  refine lv_aload_n hx hb dX8_timeOf_0 rfl (lv_at hl 0 rfl) ?_
  refine lv_iload_n hx hb dX8_timeOf_1 rfl (lv_at hl 1 rfl) ?_
  have hPc := hP.sub (ws' := [(st, .inr (8, [s0, s1, s2, s3, s4, s5, s6, s7, s8, s9, s10, s11, .ref ag, s13, s14])), (ag, .inr (0, [.int (nI cnt), .ref ky]))]) [0, 1] rfl
  have hDc := hD.sub (ws' := [(st, .inr (8, [s0, s1, s2, s3, s4, s5, s6, s7, s8, s9, s10, s11, .ref ag, s13, s14])), (ag, .inr (0, [.int (nI cnt), .ref ky]))]) [0, 1] (by decide) rfl
  have hFc := xFree hS hA
  refine va_callv (va_runV (As := [.int (nI en)]) (rest := []) ⟨hx, hb, hml, hown, hts⟩ (n_event l g s.heap.size st ag cnt en s0 s1 s2 s3 s4 s5 s6 s7 s8 s9 s10 s11 s13 s14 (.ref ky) (by first | assumption | omega) (by first | assumption | omega)) (cwV 1 hts gX8_timeOf_X8_needEvent rfl rfl rfl (by decide +kernel) ⟨Nat.le_of_ble_eq_true rfl, Nat.le_of_ble_eq_true rfl⟩) ⟨xB.blind, va_recv hK hPc (ci := 8) (q0 := 0) rfl rfl, fun U9 hU9 hW9 => ⟨rfl, xB.mk hPc hK hDc hU9 hW9⟩⟩ rfl rfl hl.1 rfl (lv_room (Nat.le_of_ble_eq_true rfl)) dX8_timeOf_2 ⟨Nat.le_of_ble_eq_true rfl, Nat.le_of_ble_eq_true rfl⟩) hS (fun q _ h => hFc q h) hFc (fun _ t H1 locs ht hvm hw_2 hB hz1 hk1 hS => ?_)
  have hP := xSame hP hk1
  generalize H1 = H at hP hS ⊢
  have hP : va_P (xD g) vwCl [(st, .inr (8, [s0, s1, s2, s3, s4, s5, s6, s7, s8, s9, s10, s11, .ref ag, s13, s14])), (ag, .inr (0, [.int (nI cnt), .ref ky])), (ky, .inl (xI g, 48, .inl (fun j => nI (kf j))))] H := hP
  have hD : va_D (fun _ => True) [(st, .inr (8, [s0, s1, s2, s3, s4, s5, s6, s7, s8, s9, s10, s11, .ref ag, s13, s14])), (ag, .inr (0, [.int (nI cnt), .ref ky])), (ky, .inl (xI g, 48, .inl (fun j => nI (kf j))))] := hD
  try dsimp only at hw_2
  refine lv_aload_n hx hb dX8_timeOf_5 rfl (lv_at hl 0 rfl) ?_
  refine va_get (D := xD g) (ci := 8) (v := .ref ag) (C := RX8) (T := TX8) (N := 15) hx hb hts hFX8 hown hK hP 0 rfl rfl 12 (by decide) (hts (.fieldLink RX8 74 "Stevedore" "agenda" "LStevedore$Agenda;") (by decide +kernel)) (fun _ h9 => h9) rfl dX8_timeOf_6 ?_
  refine lv_iload_n hx hb dX8_timeOf_9 rfl (lv_at hl 1 rfl) ?_
  have hPc := hP.sub (ws' := [(ag, .inr (0, [.int (nI cnt), .ref ky])), (ky, .inl (xI g, 48, .inl (fun j => nI (kf j))))]) [1, 2] rfl
  have hDc := hD.sub (ws' := [(ag, .inr (0, [.int (nI cnt), .ref ky])), (ky, .inl (xI g, 48, .inl (fun j => nI (kf j))))]) [1, 2] (by decide) rfl
  have hFc := xFree hS hA
  refine va_calli (va_runV (As := [.int (nI en)]) (rest := []) ⟨hx, hb, hml, hown, hts⟩ (a_time l g H.size ag ky en (.int (nI cnt)) kf (by first | assumption | omega) b_kf) (cwV 1 hts gX8_timeOf_X0_time rfl rfl rfl (by decide +kernel) ⟨Nat.le_of_ble_eq_true rfl, Nat.le_of_ble_eq_true rfl⟩) ⟨xB.blind, va_recv hK hPc (ci := 0) (q0 := 0) rfl rfl, fun U9 hU9 hW9 => ⟨rfl, xB.mk hPc hK hDc hU9 hW9⟩⟩ rfl rfl hl.1 rfl (lv_room (Nat.le_of_ble_eq_true rfl)) dX8_timeOf_10 ⟨Nat.le_of_ble_eq_true rfl, Nat.le_of_ble_eq_true rfl⟩) hS (fun q _ h => hFc q h) hFc (fun r_3 _ t H1 locs ht hvm hw_4 hB hz1 hk1 hS => ?_)
  have hP := xSame hP hk1
  generalize H1 = H at hP hS ⊢
  have hP : va_P (xD g) vwCl [(st, .inr (8, [s0, s1, s2, s3, s4, s5, s6, s7, s8, s9, s10, s11, .ref ag, s13, s14])), (ag, .inr (0, [.int (nI cnt), .ref ky])), (ky, .inl (xI g, 48, .inl (fun j => nI (kf j))))] H := hP
  have hD : va_D (fun _ => True) [(st, .inr (8, [s0, s1, s2, s3, s4, s5, s6, s7, s8, s9, s10, s11, .ref ag, s13, s14])), (ag, .inr (0, [.int (nI cnt), .ref ky])), (ky, .inl (xI g, 48, .inl (fun j => nI (kf j))))] := hD
  try dsimp only at hw_4
  obtain rfl : r_3 = nI (kf en / 128) := hw_4
  exact W.iret (v := nI (kf en / 128)) hx hb hr (fun t ht hW => ⟨⟨nI (kf en / 128), (), rfl, (by first | trivial | rfl | assumption | omega), trivial⟩, hS.F ht⟩) hS.2.2 dX8_timeOf_13
theorem dX8_kindOf_0 : decode cX8_kindOf 0 = .ok (.aload_n 0, 1) := by decide +kernel
theorem dX8_kindOf_1 : decode cX8_kindOf 1 = .ok (.iload_n 1, 1) := by decide +kernel
theorem dX8_kindOf_2 : decode cX8_kindOf 2 = .ok (.invokevirtual 279, 3) := by decide +kernel
set_option maxRecDepth 20000 in
theorem ggX8_kindOf_X8_needEvent : GoodIn wsX8_kindOf wsX8_needEvent := goodIn_ca (goodIn_r _ [6, 7, 8, 1, 9, 16, 17, 18, 19, 20, 21, 22, 23, 24, 25, 26, 27, 28, 29, 30, 31, 32] rfl (by decide +kernel)) (goodIn_sub (fun _ h => List.mem_cons_of_mem _ (List.mem_append_right _ h)) (by decide +kernel))
set_option maxRecDepth 20000 in
theorem gX8_kindOf_X8_needEvent : GoodIn wsX8_kindOf (wsV RX8 279 RX8 yX8_needEvent wsX8_needEvent) := goodIn_app (goodIn_of _ (by decide +kernel)) ggX8_kindOf_X8_needEvent
theorem dX8_kindOf_5 : decode cX8_kindOf 5 = .ok (.aload_n 0, 1) := by decide +kernel
theorem dX8_kindOf_6 : decode cX8_kindOf 6 = .ok (.getfield 74, 3) := by decide +kernel
theorem dX8_kindOf_9 : decode cX8_kindOf 9 = .ok (.iload_n 1, 1) := by decide +kernel
theorem dX8_kindOf_10 : decode cX8_kindOf 10 = .ok (.invokevirtual 285, 3) := by decide +kernel
set_option maxRecDepth 20000 in
theorem ggX8_kindOf_X0_kind : GoodIn wsX8_kindOf wsX0_kind := goodIn_r _ [14, 15, 31, 32] rfl (by decide +kernel)
set_option maxRecDepth 20000 in
theorem gX8_kindOf_X0_kind : GoodIn wsX8_kindOf (wsV RX8 285 RX0 yX0_kind wsX0_kind) := goodIn_app (goodIn_of _ (by decide +kernel)) ggX8_kindOf_X0_kind
theorem dX8_kindOf_13 : decode cX8_kindOf 13 = .ok (.ireturn, 1) := by decide +kernel
set_option maxHeartbeats 4000000 in
set_option maxRecDepth 100000 in
theorem t_kindOf (l : Launch) (g : xG) (sz : Nat) (st : Nat) (ag : Nat) (ky : Nat) (cnt : Nat) (en : Nat) (s0 : Value) (s1 : Value) (s2 : Value) (s3 : Value) (s4 : Value) (s5 : Value) (s6 : Value) (s7 : Value) (s8 : Value) (s9 : Value) (s10 : Value) (s11 : Value) (s13 : Value) (s14 : Value) (kf : Nat → Nat)  (hen : en < cnt) (hcn : cnt ≤ 48) (b_kf : ∀ j, kf j ≤ 100000000) : Met l yX8_kindOf wsX8_kindOf ({ frames := 1, cells := 0, slots := 0, locals := 21 }) (va_Pc [.ref st, .int (nI en)] (fun U => xB g [(st, .inr (8, [s0, s1, s2, s3, s4, s5, s6, s7, s8, s9, s10, s11, .ref ag, s13, s14])), (ag, .inr (0, [.int (nI cnt), .ref ky])), (ky, .inl (xI g, 48, .inl (fun j => nI (kf j))))] sz U)) (va_Qi (fun (r : Int32) (_ : Unit) => r = nI (eK kf en)) (fun (_ : Unit) (_ : State) => True) (va_A [] sz)) 0 0 (va_A [] sz) := by
  refine Met.ofW (cc := cX8_kindOf) (maxL := 2) (ret := (some .int)) (by decide) rfl ?_
  intro p e s m args below meth c s₁ B hml hv
  obtain ⟨rfl, hsz, hP, hK, hD0⟩ := hv
  have hx := B.exec
  have hb := B.bytes
  have hr := B.returns
  have hts := atoms_spec (ws := wsX8_kindOf) B.pre
  have hown : s.vm.findClass RX8 = some m.cls := findClass_of_methodNamed B.named
  have hlocks := B.notSynchronized
  subst hsz
  have hD := hD0
  generalize hAe : va_A [] s.heap.size = A
  have hA : ∀ q : Nat, s.heap.size ≤ q → A q := fun q h => by rw [← hAe]; exact Or.inr h
  have hS : va_S A s.heap s.heap [] := va_S.rf
  have hl := lv_entry ([.ref st, .int (nI en)]) (n := 2) (Nat.le_of_ble_eq_true rfl)
  rw [lg_entry_eq]
  generalize (lg_sl ([.ref st, .int (nI en)]) ++ List.replicate (2 - (lg_sl ([.ref st, .int (nI en)])).length) Slot.unset).toArray = ls at hl ⊢
  have hl : lv_has ls 2 [(0, .ref st), (1, .int (nI en))] := hl
  have hFX8 : ∀ w ∈ u_ws RX8 TX8 15, w ∈ wsX8_kindOf := by decide +kernel
  refine lv_aload_n hx hb dX8_kindOf_0 rfl (lv_at hl 0 rfl) ?_
  refine lv_iload_n hx hb dX8_kindOf_1 rfl (lv_at hl 1 rfl) ?_
  have hPc := hP.sub (ws' := [(st, .inr (8, [s0, s1, s2, s3, s4, s5, s6, s7, s8, s9, s10, s11, .ref ag, s13, s14])), (ag, .inr (0, [.int (nI cnt), .ref ky]))]) [0, 1] rfl
  have hDc := hD.sub (ws' := [(st, .inr (8, [s0, s1, s2, s3, s4, s5, s6, s7, s8, s9, s10, s11, .ref ag, s13, s14])), (ag, .inr (0, [.int (nI cnt), .ref ky]))]) [0, 1] (by decide) rfl
  have hFc := xFree hS hA
  refine va_callv (va_runV (As := [.int (nI en)]) (rest := []) ⟨hx, hb, hml, hown, hts⟩ (n_event l g s.heap.size st ag cnt en s0 s1 s2 s3 s4 s5 s6 s7 s8 s9 s10 s11 s13 s14 (.ref ky) (by first | assumption | omega) (by first | assumption | omega)) (cwV 1 hts gX8_kindOf_X8_needEvent rfl rfl rfl (by decide +kernel) ⟨Nat.le_of_ble_eq_true rfl, Nat.le_of_ble_eq_true rfl⟩) ⟨xB.blind, va_recv hK hPc (ci := 8) (q0 := 0) rfl rfl, fun U9 hU9 hW9 => ⟨rfl, xB.mk hPc hK hDc hU9 hW9⟩⟩ rfl rfl hl.1 rfl (lv_room (Nat.le_of_ble_eq_true rfl)) dX8_kindOf_2 ⟨Nat.le_of_ble_eq_true rfl, Nat.le_of_ble_eq_true rfl⟩) hS (fun q _ h => hFc q h) hFc (fun _ t H1 locs ht hvm hw_2 hB hz1 hk1 hS => ?_)
  have hP := xSame hP hk1
  generalize H1 = H at hP hS ⊢
  have hP : va_P (xD g) vwCl [(st, .inr (8, [s0, s1, s2, s3, s4, s5, s6, s7, s8, s9, s10, s11, .ref ag, s13, s14])), (ag, .inr (0, [.int (nI cnt), .ref ky])), (ky, .inl (xI g, 48, .inl (fun j => nI (kf j))))] H := hP
  have hD : va_D (fun _ => True) [(st, .inr (8, [s0, s1, s2, s3, s4, s5, s6, s7, s8, s9, s10, s11, .ref ag, s13, s14])), (ag, .inr (0, [.int (nI cnt), .ref ky])), (ky, .inl (xI g, 48, .inl (fun j => nI (kf j))))] := hD
  try dsimp only at hw_2
  refine lv_aload_n hx hb dX8_kindOf_5 rfl (lv_at hl 0 rfl) ?_
  refine va_get (D := xD g) (ci := 8) (v := .ref ag) (C := RX8) (T := TX8) (N := 15) hx hb hts hFX8 hown hK hP 0 rfl rfl 12 (by decide) (hts (.fieldLink RX8 74 "Stevedore" "agenda" "LStevedore$Agenda;") (by decide +kernel)) (fun _ h9 => h9) rfl dX8_kindOf_6 ?_
  refine lv_iload_n hx hb dX8_kindOf_9 rfl (lv_at hl 1 rfl) ?_
  have hPc := hP.sub (ws' := [(ag, .inr (0, [.int (nI cnt), .ref ky])), (ky, .inl (xI g, 48, .inl (fun j => nI (kf j))))]) [1, 2] rfl
  have hDc := hD.sub (ws' := [(ag, .inr (0, [.int (nI cnt), .ref ky])), (ky, .inl (xI g, 48, .inl (fun j => nI (kf j))))]) [1, 2] (by decide) rfl
  have hFc := xFree hS hA
  refine va_calli (va_runV (As := [.int (nI en)]) (rest := []) ⟨hx, hb, hml, hown, hts⟩ (a_kind l g H.size ag ky en (.int (nI cnt)) kf (by first | assumption | omega) b_kf) (cwV 1 hts gX8_kindOf_X0_kind rfl rfl rfl (by decide +kernel) ⟨Nat.le_of_ble_eq_true rfl, Nat.le_of_ble_eq_true rfl⟩) ⟨xB.blind, va_recv hK hPc (ci := 0) (q0 := 0) rfl rfl, fun U9 hU9 hW9 => ⟨rfl, xB.mk hPc hK hDc hU9 hW9⟩⟩ rfl rfl hl.1 rfl (lv_room (Nat.le_of_ble_eq_true rfl)) dX8_kindOf_10 ⟨Nat.le_of_ble_eq_true rfl, Nat.le_of_ble_eq_true rfl⟩) hS (fun q _ h => hFc q h) hFc (fun r_3 _ t H1 locs ht hvm hw_4 hB hz1 hk1 hS => ?_)
  have hP := xSame hP hk1
  generalize H1 = H at hP hS ⊢
  have hP : va_P (xD g) vwCl [(st, .inr (8, [s0, s1, s2, s3, s4, s5, s6, s7, s8, s9, s10, s11, .ref ag, s13, s14])), (ag, .inr (0, [.int (nI cnt), .ref ky])), (ky, .inl (xI g, 48, .inl (fun j => nI (kf j))))] H := hP
  have hD : va_D (fun _ => True) [(st, .inr (8, [s0, s1, s2, s3, s4, s5, s6, s7, s8, s9, s10, s11, .ref ag, s13, s14])), (ag, .inr (0, [.int (nI cnt), .ref ky])), (ky, .inl (xI g, 48, .inl (fun j => nI (kf j))))] := hD
  try dsimp only at hw_4
  obtain rfl : r_3 = nI (eK kf en) := hw_4
  exact W.iret (v := nI (eK kf en)) hx hb hr (fun t ht hW => ⟨⟨nI (eK kf en), (), rfl, (by first | trivial | rfl | assumption | omega), trivial⟩, hS.F ht⟩) hS.2.2 dX8_kindOf_13
theorem dX8_containerOf_0 : decode cX8_containerOf 0 = .ok (.aload_n 0, 1) := by decide +kernel
theorem dX8_containerOf_1 : decode cX8_containerOf 1 = .ok (.iload_n 1, 1) := by decide +kernel
theorem dX8_containerOf_2 : decode cX8_containerOf 2 = .ok (.invokevirtual 279, 3) := by decide +kernel
set_option maxRecDepth 20000 in
theorem ggX8_containerOf_X8_needEvent : GoodIn wsX8_containerOf wsX8_needEvent := goodIn_ca (goodIn_r _ [6, 7, 8, 1, 9, 16, 17, 18, 19, 20, 21, 22, 23, 24, 25, 26, 27, 28, 29, 30, 31, 32] rfl (by decide +kernel)) (goodIn_sub (fun _ h => List.mem_cons_of_mem _ (List.mem_append_right _ h)) (by decide +kernel))
set_option maxRecDepth 20000 in
theorem gX8_containerOf_X8_needEvent : GoodIn wsX8_containerOf (wsV RX8 279 RX8 yX8_needEvent wsX8_needEvent) := goodIn_app (goodIn_of _ (by decide +kernel)) ggX8_containerOf_X8_needEvent
theorem dX8_containerOf_5 : decode cX8_containerOf 5 = .ok (.aload_n 0, 1) := by decide +kernel
theorem dX8_containerOf_6 : decode cX8_containerOf 6 = .ok (.getfield 74, 3) := by decide +kernel
theorem dX8_containerOf_9 : decode cX8_containerOf 9 = .ok (.iload_n 1, 1) := by decide +kernel
theorem dX8_containerOf_10 : decode cX8_containerOf 10 = .ok (.invokevirtual 288, 3) := by decide +kernel
set_option maxRecDepth 20000 in
theorem ggX8_containerOf_X0_container : GoodIn wsX8_containerOf wsX0_container := goodIn_r _ [14, 15, 31, 32] rfl (by decide +kernel)
set_option maxRecDepth 20000 in
theorem gX8_containerOf_X0_container : GoodIn wsX8_containerOf (wsV RX8 288 RX0 yX0_container wsX0_container) := goodIn_app (goodIn_of _ (by decide +kernel)) ggX8_containerOf_X0_container
theorem dX8_containerOf_13 : decode cX8_containerOf 13 = .ok (.ireturn, 1) := by decide +kernel
set_option maxHeartbeats 4000000 in
set_option maxRecDepth 100000 in
theorem t_containerOf (l : Launch) (g : xG) (sz : Nat) (st : Nat) (ag : Nat) (ky : Nat) (cnt : Nat) (en : Nat) (s0 : Value) (s1 : Value) (s2 : Value) (s3 : Value) (s4 : Value) (s5 : Value) (s6 : Value) (s7 : Value) (s8 : Value) (s9 : Value) (s10 : Value) (s11 : Value) (s13 : Value) (s14 : Value) (kf : Nat → Nat)  (hen : en < cnt) (hcn : cnt ≤ 48) (b_kf : ∀ j, kf j ≤ 100000000) : Met l yX8_containerOf wsX8_containerOf ({ frames := 1, cells := 0, slots := 0, locals := 21 }) (va_Pc [.ref st, .int (nI en)] (fun U => xB g [(st, .inr (8, [s0, s1, s2, s3, s4, s5, s6, s7, s8, s9, s10, s11, .ref ag, s13, s14])), (ag, .inr (0, [.int (nI cnt), .ref ky])), (ky, .inl (xI g, 48, .inl (fun j => nI (kf j))))] sz U)) (va_Qi (fun (r : Int32) (_ : Unit) => r = nI (eC kf en)) (fun (_ : Unit) (_ : State) => True) (va_A [] sz)) 0 0 (va_A [] sz) := by
  refine Met.ofW (cc := cX8_containerOf) (maxL := 2) (ret := (some .int)) (by decide) rfl ?_
  intro p e s m args below meth c s₁ B hml hv
  obtain ⟨rfl, hsz, hP, hK, hD0⟩ := hv
  have hx := B.exec
  have hb := B.bytes
  have hr := B.returns
  have hts := atoms_spec (ws := wsX8_containerOf) B.pre
  have hown : s.vm.findClass RX8 = some m.cls := findClass_of_methodNamed B.named
  have hlocks := B.notSynchronized
  subst hsz
  have hD := hD0
  generalize hAe : va_A [] s.heap.size = A
  have hA : ∀ q : Nat, s.heap.size ≤ q → A q := fun q h => by rw [← hAe]; exact Or.inr h
  have hS : va_S A s.heap s.heap [] := va_S.rf
  have hl := lv_entry ([.ref st, .int (nI en)]) (n := 2) (Nat.le_of_ble_eq_true rfl)
  rw [lg_entry_eq]
  generalize (lg_sl ([.ref st, .int (nI en)]) ++ List.replicate (2 - (lg_sl ([.ref st, .int (nI en)])).length) Slot.unset).toArray = ls at hl ⊢
  have hl : lv_has ls 2 [(0, .ref st), (1, .int (nI en))] := hl
  have hFX8 : ∀ w ∈ u_ws RX8 TX8 15, w ∈ wsX8_containerOf := by decide +kernel
  refine lv_aload_n hx hb dX8_containerOf_0 rfl (lv_at hl 0 rfl) ?_
  refine lv_iload_n hx hb dX8_containerOf_1 rfl (lv_at hl 1 rfl) ?_
  have hPc := hP.sub (ws' := [(st, .inr (8, [s0, s1, s2, s3, s4, s5, s6, s7, s8, s9, s10, s11, .ref ag, s13, s14])), (ag, .inr (0, [.int (nI cnt), .ref ky]))]) [0, 1] rfl
  have hDc := hD.sub (ws' := [(st, .inr (8, [s0, s1, s2, s3, s4, s5, s6, s7, s8, s9, s10, s11, .ref ag, s13, s14])), (ag, .inr (0, [.int (nI cnt), .ref ky]))]) [0, 1] (by decide) rfl
  have hFc := xFree hS hA
  refine va_callv (va_runV (As := [.int (nI en)]) (rest := []) ⟨hx, hb, hml, hown, hts⟩ (n_event l g s.heap.size st ag cnt en s0 s1 s2 s3 s4 s5 s6 s7 s8 s9 s10 s11 s13 s14 (.ref ky) (by first | assumption | omega) (by first | assumption | omega)) (cwV 1 hts gX8_containerOf_X8_needEvent rfl rfl rfl (by decide +kernel) ⟨Nat.le_of_ble_eq_true rfl, Nat.le_of_ble_eq_true rfl⟩) ⟨xB.blind, va_recv hK hPc (ci := 8) (q0 := 0) rfl rfl, fun U9 hU9 hW9 => ⟨rfl, xB.mk hPc hK hDc hU9 hW9⟩⟩ rfl rfl hl.1 rfl (lv_room (Nat.le_of_ble_eq_true rfl)) dX8_containerOf_2 ⟨Nat.le_of_ble_eq_true rfl, Nat.le_of_ble_eq_true rfl⟩) hS (fun q _ h => hFc q h) hFc (fun _ t H1 locs ht hvm hw_2 hB hz1 hk1 hS => ?_)
  have hP := xSame hP hk1
  generalize H1 = H at hP hS ⊢
  have hP : va_P (xD g) vwCl [(st, .inr (8, [s0, s1, s2, s3, s4, s5, s6, s7, s8, s9, s10, s11, .ref ag, s13, s14])), (ag, .inr (0, [.int (nI cnt), .ref ky])), (ky, .inl (xI g, 48, .inl (fun j => nI (kf j))))] H := hP
  have hD : va_D (fun _ => True) [(st, .inr (8, [s0, s1, s2, s3, s4, s5, s6, s7, s8, s9, s10, s11, .ref ag, s13, s14])), (ag, .inr (0, [.int (nI cnt), .ref ky])), (ky, .inl (xI g, 48, .inl (fun j => nI (kf j))))] := hD
  try dsimp only at hw_2
  refine lv_aload_n hx hb dX8_containerOf_5 rfl (lv_at hl 0 rfl) ?_
  refine va_get (D := xD g) (ci := 8) (v := .ref ag) (C := RX8) (T := TX8) (N := 15) hx hb hts hFX8 hown hK hP 0 rfl rfl 12 (by decide) (hts (.fieldLink RX8 74 "Stevedore" "agenda" "LStevedore$Agenda;") (by decide +kernel)) (fun _ h9 => h9) rfl dX8_containerOf_6 ?_
  refine lv_iload_n hx hb dX8_containerOf_9 rfl (lv_at hl 1 rfl) ?_
  have hPc := hP.sub (ws' := [(ag, .inr (0, [.int (nI cnt), .ref ky])), (ky, .inl (xI g, 48, .inl (fun j => nI (kf j))))]) [1, 2] rfl
  have hDc := hD.sub (ws' := [(ag, .inr (0, [.int (nI cnt), .ref ky])), (ky, .inl (xI g, 48, .inl (fun j => nI (kf j))))]) [1, 2] (by decide) rfl
  have hFc := xFree hS hA
  refine va_calli (va_runV (As := [.int (nI en)]) (rest := []) ⟨hx, hb, hml, hown, hts⟩ (a_container l g H.size ag ky en (.int (nI cnt)) kf (by first | assumption | omega) b_kf) (cwV 1 hts gX8_containerOf_X0_container rfl rfl rfl (by decide +kernel) ⟨Nat.le_of_ble_eq_true rfl, Nat.le_of_ble_eq_true rfl⟩) ⟨xB.blind, va_recv hK hPc (ci := 0) (q0 := 0) rfl rfl, fun U9 hU9 hW9 => ⟨rfl, xB.mk hPc hK hDc hU9 hW9⟩⟩ rfl rfl hl.1 rfl (lv_room (Nat.le_of_ble_eq_true rfl)) dX8_containerOf_10 ⟨Nat.le_of_ble_eq_true rfl, Nat.le_of_ble_eq_true rfl⟩) hS (fun q _ h => hFc q h) hFc (fun r_3 _ t H1 locs ht hvm hw_4 hB hz1 hk1 hS => ?_)
  have hP := xSame hP hk1
  generalize H1 = H at hP hS ⊢
  have hP : va_P (xD g) vwCl [(st, .inr (8, [s0, s1, s2, s3, s4, s5, s6, s7, s8, s9, s10, s11, .ref ag, s13, s14])), (ag, .inr (0, [.int (nI cnt), .ref ky])), (ky, .inl (xI g, 48, .inl (fun j => nI (kf j))))] H := hP
  have hD : va_D (fun _ => True) [(st, .inr (8, [s0, s1, s2, s3, s4, s5, s6, s7, s8, s9, s10, s11, .ref ag, s13, s14])), (ag, .inr (0, [.int (nI cnt), .ref ky])), (ky, .inl (xI g, 48, .inl (fun j => nI (kf j))))] := hD
  try dsimp only at hw_4
  obtain rfl : r_3 = nI (eC kf en) := hw_4
  exact W.iret (v := nI (eC kf en)) hx hb hr (fun t ht hW => ⟨⟨nI (eC kf en), (), rfl, (by first | trivial | rfl | assumption | omega), trivial⟩, hS.F ht⟩) hS.2.2 dX8_containerOf_13
theorem dX8_containers_0 : decode cX8_containers 0 = .ok (.aload_n 0, 1) := by decide +kernel
theorem dX8_containers_1 : decode cX8_containers 1 = .ok (.getfield 26, 3) := by decide +kernel
theorem dX8_containers_4 : decode cX8_containers 4 = .ok (.getfield 129, 3) := by decide +kernel
theorem dX8_containers_7 : decode cX8_containers 7 = .ok (.ireturn, 1) := by decide +kernel
set_option maxHeartbeats 4000000 in
set_option maxRecDepth 100000 in
theorem t_containers (l : Launch) (g : xG) (sz : Nat) (st : Nat) (ca : Nat) (n : Nat) (s0 : Value) (s1 : Value) (s2 : Value) (s3 : Value) (s5 : Value) (s6 : Value) (s7 : Value) (s8 : Value) (s9 : Value) (s10 : Value) (s11 : Value) (s12 : Value) (s13 : Value) (s14 : Value) (c1 : Value) (c2 : Value) (c3 : Value) (c4 : Value) (c5 : Value)  : Met l yX8_containers wsX8_containers ({ frames := 0, cells := 0, slots := 0, locals := 0 }) (va_Pc [.ref st] (fun U => xB g [(st, .inr (8, [s0, s1, s2, s3, .ref ca, s5, s6, s7, s8, s9, s10, s11, s12, s13, s14])), (ca, .inr (2, [.int (nI n), c1, c2, c3, c4, c5]))] sz U)) (va_Qi (fun (r : Int32) (_ : Unit) => r = nI n) (fun (_ : Unit) (_ : State) => True) (va_A [] sz)) 0 0 (va_A [] sz) := by
  refine Met.ofW (cc := cX8_containers) (maxL := 1) (ret := (some .int)) (by decide) rfl ?_
  intro p e s m args below meth c s₁ B hml hv
  obtain ⟨rfl, hsz, hP, hK, hD0⟩ := hv
  have hx := B.exec
  have hb := B.bytes
  have hr := B.returns
  have hts := atoms_spec (ws := wsX8_containers) B.pre
  have hown : s.vm.findClass RX8 = some m.cls := findClass_of_methodNamed B.named
  have hlocks := B.notSynchronized
  subst hsz
  have hD := hD0
  generalize hAe : va_A [] s.heap.size = A
  have hA : ∀ q : Nat, s.heap.size ≤ q → A q := fun q h => by rw [← hAe]; exact Or.inr h
  have hS : va_S A s.heap s.heap [] := va_S.rf
  have hl := lv_entry ([.ref st]) (n := 1) (Nat.le_of_ble_eq_true rfl)
  rw [lg_entry_eq]
  generalize (lg_sl ([.ref st]) ++ List.replicate (1 - (lg_sl ([.ref st])).length) Slot.unset).toArray = ls at hl ⊢
  have hl : lv_has ls 1 [(0, .ref st)] := hl
  have hFX2 : ∀ w ∈ u_ws RX2 TX2 6, w ∈ wsX8_containers := by decide +kernel
  have hFX8 : ∀ w ∈ u_ws RX8 TX8 15, w ∈ wsX8_containers := by decide +kernel
  refine lv_aload_n hx hb dX8_containers_0 rfl (lv_at hl 0 rfl) ?_
  refine va_get (D := xD g) (ci := 8) (v := .ref ca) (C := RX8) (T := TX8) (N := 15) hx hb hts hFX8 hown hK hP 0 rfl rfl 4 (by decide) (hts (.fieldLink RX8 26 "Stevedore" "cargo" "LStevedore$Cargo;") (by decide +kernel)) (fun _ h9 => h9) rfl dX8_containers_1 ?_
  refine va_get (D := xD g) (ci := 2) (v := .int (nI n)) (C := RX2) (T := TX2) (N := 6) hx hb hts hFX2 hown hK hP 1 rfl rfl 0 (by decide) (hts (.fieldLink RX8 129 "Stevedore$Cargo" "count" "I") (by decide +kernel)) (fun _ h9 => h9) rfl dX8_containers_4 ?_
  exact W.iret (v := nI n) hx hb hr (fun t ht hW => ⟨⟨nI n, (), rfl, (by first | trivial | rfl | assumption | omega), trivial⟩, hS.F ht⟩) hS.2.2 dX8_containers_7
theorem dX8_stacks_0 : decode cX8_stacks 0 = .ok (.aload_n 0, 1) := by decide +kernel
theorem dX8_stacks_1 : decode cX8_stacks 1 = .ok (.getfield 81, 3) := by decide +kernel
theorem dX8_stacks_4 : decode cX8_stacks 4 = .ok (.getfield 162, 3) := by decide +kernel
theorem dX8_stacks_7 : decode cX8_stacks 7 = .ok (.ireturn, 1) := by decide +kernel
set_option maxHeartbeats 4000000 in
set_option maxRecDepth 100000 in
theorem t_stacks (l : Launch) (g : xG) (sz : Nat) (st : Nat) (ya : Nat) (sc : Nat) (s0 : Value) (s1 : Value) (s2 : Value) (s3 : Value) (s4 : Value) (s5 : Value) (s6 : Value) (s7 : Value) (s8 : Value) (s9 : Value) (s10 : Value) (s11 : Value) (s12 : Value) (s14 : Value) (y1 : Value) (y2 : Value) (y3 : Value) (y4 : Value) (y5 : Value) (y6 : Value) (y7 : Value) (y8 : Value) (y9 : Value) (y10 : Value)  : Met l yX8_stacks wsX8_stacks ({ frames := 0, cells := 0, slots := 0, locals := 0 }) (va_Pc [.ref st] (fun U => xB g [(st, .inr (8, [s0, s1, s2, s3, s4, s5, s6, s7, s8, s9, s10, s11, s12, .ref ya, s14])), (ya, .inr (7, [.int (nI sc), y1, y2, y3, y4, y5, y6, y7, y8, y9, y10]))] sz U)) (va_Qi (fun (r : Int32) (_ : Unit) => r = nI sc) (fun (_ : Unit) (_ : State) => True) (va_A [] sz)) 0 0 (va_A [] sz) := by
  refine Met.ofW (cc := cX8_stacks) (maxL := 1) (ret := (some .int)) (by decide) rfl ?_
  intro p e s m args below meth c s₁ B hml hv
  obtain ⟨rfl, hsz, hP, hK, hD0⟩ := hv
  have hx := B.exec
  have hb := B.bytes
  have hr := B.returns
  have hts := atoms_spec (ws := wsX8_stacks) B.pre
  have hown : s.vm.findClass RX8 = some m.cls := findClass_of_methodNamed B.named
  have hlocks := B.notSynchronized
  subst hsz
  have hD := hD0
  generalize hAe : va_A [] s.heap.size = A
  have hA : ∀ q : Nat, s.heap.size ≤ q → A q := fun q h => by rw [← hAe]; exact Or.inr h
  have hS : va_S A s.heap s.heap [] := va_S.rf
  have hl := lv_entry ([.ref st]) (n := 1) (Nat.le_of_ble_eq_true rfl)
  rw [lg_entry_eq]
  generalize (lg_sl ([.ref st]) ++ List.replicate (1 - (lg_sl ([.ref st])).length) Slot.unset).toArray = ls at hl ⊢
  have hl : lv_has ls 1 [(0, .ref st)] := hl
  have hFX7 : ∀ w ∈ u_ws RX7 TX7 11, w ∈ wsX8_stacks := by decide +kernel
  have hFX8 : ∀ w ∈ u_ws RX8 TX8 15, w ∈ wsX8_stacks := by decide +kernel
  refine lv_aload_n hx hb dX8_stacks_0 rfl (lv_at hl 0 rfl) ?_
  refine va_get (D := xD g) (ci := 8) (v := .ref ya) (C := RX8) (T := TX8) (N := 15) hx hb hts hFX8 hown hK hP 0 rfl rfl 13 (by decide) (hts (.fieldLink RX8 81 "Stevedore" "yard" "LStevedore$Yard;") (by decide +kernel)) (fun _ h9 => h9) rfl dX8_stacks_1 ?_
  refine va_get (D := xD g) (ci := 7) (v := .int (nI sc)) (C := RX7) (T := TX7) (N := 11) hx hb hts hFX7 hown hK hP 1 rfl rfl 0 (by decide) (hts (.fieldLink RX8 162 "Stevedore$Yard" "stackCount" "I") (by decide +kernel)) (fun _ h9 => h9) rfl dX8_stacks_4 ?_
  exact W.iret (v := nI sc) hx hb hr (fun t ht hW => ⟨⟨nI sc, (), rfl, (by first | trivial | rfl | assumption | omega), trivial⟩, hS.F ht⟩) hS.2.2 dX8_stacks_7
theorem dX8_reshuffles_0 : decode cX8_reshuffles 0 = .ok (.aload_n 0, 1) := by decide +kernel
theorem dX8_reshuffles_1 : decode cX8_reshuffles 1 = .ok (.getfield 81, 3) := by decide +kernel
theorem dX8_reshuffles_4 : decode cX8_reshuffles 4 = .ok (.getfield 319, 3) := by decide +kernel
theorem dX8_reshuffles_7 : decode cX8_reshuffles 7 = .ok (.ireturn, 1) := by decide +kernel
set_option maxHeartbeats 4000000 in
set_option maxRecDepth 100000 in
theorem t_reshuffles (l : Launch) (g : xG) (sz : Nat) (st : Nat) (ya : Nat) (rs : Nat) (s0 : Value) (s1 : Value) (s2 : Value) (s3 : Value) (s4 : Value) (s5 : Value) (s6 : Value) (s7 : Value) (s8 : Value) (s9 : Value) (s10 : Value) (s11 : Value) (s12 : Value) (s14 : Value) (y0 : Value) (y2 : Value) (y3 : Value) (y4 : Value) (y5 : Value) (y6 : Value) (y7 : Value) (y8 : Value) (y9 : Value) (y10 : Value)  : Met l yX8_reshuffles wsX8_reshuffles ({ frames := 0, cells := 0, slots := 0, locals := 0 }) (va_Pc [.ref st] (fun U => xB g [(st, .inr (8, [s0, s1, s2, s3, s4, s5, s6, s7, s8, s9, s10, s11, s12, .ref ya, s14])), (ya, .inr (7, [y0, .int (nI rs), y2, y3, y4, y5, y6, y7, y8, y9, y10]))] sz U)) (va_Qi (fun (r : Int32) (_ : Unit) => r = nI rs) (fun (_ : Unit) (_ : State) => True) (va_A [] sz)) 0 0 (va_A [] sz) := by
  refine Met.ofW (cc := cX8_reshuffles) (maxL := 1) (ret := (some .int)) (by decide) rfl ?_
  intro p e s m args below meth c s₁ B hml hv
  obtain ⟨rfl, hsz, hP, hK, hD0⟩ := hv
  have hx := B.exec
  have hb := B.bytes
  have hr := B.returns
  have hts := atoms_spec (ws := wsX8_reshuffles) B.pre
  have hown : s.vm.findClass RX8 = some m.cls := findClass_of_methodNamed B.named
  have hlocks := B.notSynchronized
  subst hsz
  have hD := hD0
  generalize hAe : va_A [] s.heap.size = A
  have hA : ∀ q : Nat, s.heap.size ≤ q → A q := fun q h => by rw [← hAe]; exact Or.inr h
  have hS : va_S A s.heap s.heap [] := va_S.rf
  have hl := lv_entry ([.ref st]) (n := 1) (Nat.le_of_ble_eq_true rfl)
  rw [lg_entry_eq]
  generalize (lg_sl ([.ref st]) ++ List.replicate (1 - (lg_sl ([.ref st])).length) Slot.unset).toArray = ls at hl ⊢
  have hl : lv_has ls 1 [(0, .ref st)] := hl
  have hFX7 : ∀ w ∈ u_ws RX7 TX7 11, w ∈ wsX8_reshuffles := by decide +kernel
  have hFX8 : ∀ w ∈ u_ws RX8 TX8 15, w ∈ wsX8_reshuffles := by decide +kernel
  refine lv_aload_n hx hb dX8_reshuffles_0 rfl (lv_at hl 0 rfl) ?_
  refine va_get (D := xD g) (ci := 8) (v := .ref ya) (C := RX8) (T := TX8) (N := 15) hx hb hts hFX8 hown hK hP 0 rfl rfl 13 (by decide) (hts (.fieldLink RX8 81 "Stevedore" "yard" "LStevedore$Yard;") (by decide +kernel)) (fun _ h9 => h9) rfl dX8_reshuffles_1 ?_
  refine va_get (D := xD g) (ci := 7) (v := .int (nI rs)) (C := RX7) (T := TX7) (N := 11) hx hb hts hFX7 hown hK hP 1 rfl rfl 1 (by decide) (hts (.fieldLink RX8 319 "Stevedore$Yard" "reshuffleCount" "I") (by decide +kernel)) (fun _ h9 => h9) rfl dX8_reshuffles_4 ?_
  exact W.iret (v := nI rs) hx hb hr (fun t ht hW => ⟨⟨nI rs, (), rfl, (by first | trivial | rfl | assumption | omega), trivial⟩, hS.F ht⟩) hS.2.2 dX8_reshuffles_7
theorem dX8_stateOf_0 : decode cX8_stateOf 0 = .ok (.aload_n 0, 1) := by decide +kernel
theorem dX8_stateOf_1 : decode cX8_stateOf 1 = .ok (.iload_n 1, 1) := by decide +kernel
theorem dX8_stateOf_2 : decode cX8_stateOf 2 = .ok (.invokevirtual 153, 3) := by decide +kernel
set_option maxRecDepth 20000 in
theorem ggX8_stateOf_X8_needContainer : GoodIn wsX8_stateOf wsX8_needContainer := goodIn_ca (goodIn_r _ [7, 8, 9, 10, 11, 12, 13, 14, 15, 16, 17, 18, 19, 20, 21, 22, 23, 24, 25, 26, 38, 39, 40, 41, 42, 43] rfl (by decide +kernel)) (goodIn_sub (fun _ h => List.mem_cons_of_mem _ (List.mem_append_right _ h)) (by decide +kernel))
set_option maxRecDepth 20000 in
theorem gX8_stateOf_X8_needContainer : GoodIn wsX8_stateOf (wsV RX8 153 RX8 yX8_needContainer wsX8_needContainer) := goodIn_app (goodIn_of _ (by decide +kernel)) ggX8_stateOf_X8_needContainer
theorem dX8_stateOf_5 : decode cX8_stateOf 5 = .ok (.aload_n 0, 1) := by decide +kernel
theorem dX8_stateOf_6 : decode cX8_stateOf 6 = .ok (.getfield 81, 3) := by decide +kernel
theorem dX8_stateOf_9 : decode cX8_stateOf 9 = .ok (.getfield 301, 3) := by decide +kernel
theorem dX8_stateOf_12 : decode cX8_stateOf 12 = .ok (.iload_n 1, 1) := by decide +kernel
theorem dX8_stateOf_13 : decode cX8_stateOf 13 = .ok (.iaload, 1) := by decide +kernel
theorem dX8_stateOf_14 : decode cX8_stateOf 14 = .ok (.ireturn, 1) := by decide +kernel
set_option maxHeartbeats 4000000 in
set_option maxRecDepth 100000 in
theorem t_stateOf (l : Launch) (g : xG) (sz : Nat) (st : Nat) (ca : Nat) (ya : Nat) (sa : Nat) (n : Nat) (c_ : Nat) (s0 : Value) (s1 : Value) (s2 : Value) (s3 : Value) (s5 : Value) (s6 : Value) (s7 : Value) (s8 : Value) (s9 : Value) (s10 : Value) (s11 : Value) (s12 : Value) (s14 : Value) (c1 : Value) (c2 : Value) (c3 : Value) (c4 : Value) (c5 : Value) (y0 : Value) (y1 : Value) (y2 : Value) (y3 : Value) (y4 : Value) (y5 : Value) (y6 : Value) (y7 : Value) (y9 : Value) (y10 : Value) (stt : Nat → Int)  (hc : c_ < n) (hn : n ≤ 24) (b_stt : ∀ j, 0 ≤ stt j ∧ stt j ≤ 4) : Met l yX8_stateOf wsX8_stateOf ({ frames := 1, cells := 0, slots := 0, locals := 21 }) (va_Pc [.ref st, .int (nI c_)] (fun U => xB g [(st, .inr (8, [s0, s1, s2, s3, .ref ca, s5, s6, s7, s8, s9, s10, s11, s12, .ref ya, s14])), (ca, .inr (2, [.int (nI n), c1, c2, c3, c4, c5])), (ya, .inr (7, [y0, y1, y2, y3, y4, y5, y6, y7, .ref sa, y9, y10])), (sa, .inl (xI g, 24, .inl (fun j => iI (stt j))))] sz U)) (va_Qi (fun (r : Int32) (_ : Unit) => r = iI (stt c_)) (fun (_ : Unit) (_ : State) => True) (va_A [] sz)) 0 0 (va_A [] sz) := by
  refine Met.ofW (cc := cX8_stateOf) (maxL := 2) (ret := (some .int)) (by decide) rfl ?_
  intro p e s m args below meth c s₁ B hml hv
  obtain ⟨rfl, hsz, hP, hK, hD0⟩ := hv
  have hx := B.exec
  have hb := B.bytes
  have hr := B.returns
  have hts := atoms_spec (ws := wsX8_stateOf) B.pre
  have hown : s.vm.findClass RX8 = some m.cls := findClass_of_methodNamed B.named
  have hlocks := B.notSynchronized
  subst hsz
  have hD := hD0
  generalize hAe : va_A [] s.heap.size = A
  have hA : ∀ q : Nat, s.heap.size ≤ q → A q := fun q h => by rw [← hAe]; exact Or.inr h
  have hS : va_S A s.heap s.heap [] := va_S.rf
  have hl := lv_entry ([.ref st, .int (nI c_)]) (n := 2) (Nat.le_of_ble_eq_true rfl)
  rw [lg_entry_eq]
  generalize (lg_sl ([.ref st, .int (nI c_)]) ++ List.replicate (2 - (lg_sl ([.ref st, .int (nI c_)])).length) Slot.unset).toArray = ls at hl ⊢
  have hl : lv_has ls 2 [(0, .ref st), (1, .int (nI c_))] := hl
  have hFX7 : ∀ w ∈ u_ws RX7 TX7 11, w ∈ wsX8_stateOf := by decide +kernel
  have hFX8 : ∀ w ∈ u_ws RX8 TX8 15, w ∈ wsX8_stateOf := by decide +kernel
  refine lv_aload_n hx hb dX8_stateOf_0 rfl (lv_at hl 0 rfl) ?_
  refine lv_iload_n hx hb dX8_stateOf_1 rfl (lv_at hl 1 rfl) ?_
  have hPc := hP.sub (ws' := [(st, .inr (8, [s0, s1, s2, s3, .ref ca, s5, s6, s7, s8, s9, s10, s11, s12, .ref ya, s14])), (ca, .inr (2, [.int (nI n), c1, c2, c3, c4, c5]))]) [0, 1] rfl
  have hDc := hD.sub (ws' := [(st, .inr (8, [s0, s1, s2, s3, .ref ca, s5, s6, s7, s8, s9, s10, s11, s12, .ref ya, s14])), (ca, .inr (2, [.int (nI n), c1, c2, c3, c4, c5]))]) [0, 1] (by decide) rfl
  have hFc := xFree hS hA
  refine va_callv (va_runV (As := [.int (nI c_)]) (rest := []) ⟨hx, hb, hml, hown, hts⟩ (n_container l g s.heap.size st ca n c_ s0 s1 s2 s3 s5 s6 s7 s8 s9 s10 s11 s12 (.ref ya) s14 c1 c2 c3 c4 c5 (by first | assumption | omega) (by first | assumption | omega)) (cwV 1 hts gX8_stateOf_X8_needContainer rfl rfl rfl (by decide +kernel) ⟨Nat.le_of_ble_eq_true rfl, Nat.le_of_ble_eq_true rfl⟩) ⟨xB.blind, va_recv hK hPc (ci := 8) (q0 := 0) rfl rfl, fun U9 hU9 hW9 => ⟨rfl, xB.mk hPc hK hDc hU9 hW9⟩⟩ rfl rfl hl.1 rfl (lv_room (Nat.le_of_ble_eq_true rfl)) dX8_stateOf_2 ⟨Nat.le_of_ble_eq_true rfl, Nat.le_of_ble_eq_true rfl⟩) hS (fun q _ h => hFc q h) hFc (fun _ t H1 locs ht hvm hw_2 hB hz1 hk1 hS => ?_)
  have hP := xSame hP hk1
  generalize H1 = H at hP hS ⊢
  have hP : va_P (xD g) vwCl [(st, .inr (8, [s0, s1, s2, s3, .ref ca, s5, s6, s7, s8, s9, s10, s11, s12, .ref ya, s14])), (ca, .inr (2, [.int (nI n), c1, c2, c3, c4, c5])), (ya, .inr (7, [y0, y1, y2, y3, y4, y5, y6, y7, .ref sa, y9, y10])), (sa, .inl (xI g, 24, .inl (fun j => iI (stt j))))] H := hP
  have hD : va_D (fun _ => True) [(st, .inr (8, [s0, s1, s2, s3, .ref ca, s5, s6, s7, s8, s9, s10, s11, s12, .ref ya, s14])), (ca, .inr (2, [.int (nI n), c1, c2, c3, c4, c5])), (ya, .inr (7, [y0, y1, y2, y3, y4, y5, y6, y7, .ref sa, y9, y10])), (sa, .inl (xI g, 24, .inl (fun j => iI (stt j))))] := hD
  try dsimp only at hw_2
  refine lv_aload_n hx hb dX8_stateOf_5 rfl (lv_at hl 0 rfl) ?_
  refine va_get (D := xD g) (ci := 8) (v := .ref ya) (C := RX8) (T := TX8) (N := 15) hx hb hts hFX8 hown hK hP 0 rfl rfl 13 (by decide) (hts (.fieldLink RX8 81 "Stevedore" "yard" "LStevedore$Yard;") (by decide +kernel)) (fun _ h9 => h9) rfl dX8_stateOf_6 ?_
  refine va_get (D := xD g) (ci := 7) (v := .ref sa) (C := RX7) (T := TX7) (N := 11) hx hb hts hFX7 hown hK hP 2 rfl rfl 8 (by decide) (hts (.fieldLink RX8 301 "Stevedore$Yard" "state" "[I") (by decide +kernel)) (fun _ h9 => h9) rfl dX8_stateOf_9 ?_
  refine lv_iload_n hx hb dX8_stateOf_12 rfl (lv_at hl 1 rfl) ?_
  refine va_iald hx hb hK hP 3 0 rfl rfl (vp_in_nI (by omega) (by omega)) dX8_stateOf_13 ?_
  refine lv_topi (fun v_3 ev => ?_)
  obtain rfl : v_3 = iI (stt c_) := ev.trans (congrArg (fun q9 => iI (stt q9)) (nI_clamp (by omega)))
  have b_4 := b_stt c_
  exact W.iret (v := iI (stt c_)) hx hb hr (fun t ht hW => ⟨⟨iI (stt c_), (), rfl, (by first | trivial | rfl | assumption | omega), trivial⟩, hS.F ht⟩) hS.2.2 dX8_stateOf_14
theorem dX8_stackOf_0 : decode cX8_stackOf 0 = .ok (.aload_n 0, 1) := by decide +kernel
theorem dX8_stackOf_1 : decode cX8_stackOf 1 = .ok (.iload_n 1, 1) := by decide +kernel
theorem dX8_stackOf_2 : decode cX8_stackOf 2 = .ok (.invokevirtual 153, 3) := by decide +kernel
set_option maxRecDepth 20000 in
theorem ggX8_stackOf_X8_needContainer : GoodIn wsX8_stackOf wsX8_needContainer := goodIn_ca (goodIn_r _ [7, 8, 9, 10, 11, 12, 13, 14, 15, 16, 17, 18, 19, 20, 21, 22, 23, 24, 25, 26, 38, 39, 40, 41, 42, 43] rfl (by decide +kernel)) (goodIn_sub (fun _ h => List.mem_cons_of_mem _ (List.mem_append_right _ h)) (by decide +kernel))
set_option maxRecDepth 20000 in
theorem gX8_stackOf_X8_needContainer : GoodIn wsX8_stackOf (wsV RX8 153 RX8 yX8_needContainer wsX8_needContainer) := goodIn_app (goodIn_of _ (by decide +kernel)) ggX8_stackOf_X8_needContainer
theorem dX8_stackOf_5 : decode cX8_stackOf 5 = .ok (.aload_n 0, 1) := by decide +kernel
theorem dX8_stackOf_6 : decode cX8_stackOf 6 = .ok (.getfield 81, 3) := by decide +kernel
theorem dX8_stackOf_9 : decode cX8_stackOf 9 = .ok (.getfield 304, 3) := by decide +kernel
theorem dX8_stackOf_12 : decode cX8_stackOf 12 = .ok (.iload_n 1, 1) := by decide +kernel
theorem dX8_stackOf_13 : decode cX8_stackOf 13 = .ok (.iaload, 1) := by decide +kernel
theorem dX8_stackOf_14 : decode cX8_stackOf 14 = .ok (.ireturn, 1) := by decide +kernel
set_option maxHeartbeats 4000000 in
set_option maxRecDepth 100000 in
theorem t_stackOf (l : Launch) (g : xG) (sz : Nat) (st : Nat) (ca : Nat) (ya : Nat) (so2 : Nat) (n : Nat) (c_ : Nat) (s0 : Value) (s1 : Value) (s2 : Value) (s3 : Value) (s5 : Value) (s6 : Value) (s7 : Value) (s8 : Value) (s9 : Value) (s10 : Value) (s11 : Value) (s12 : Value) (s14 : Value) (c1 : Value) (c2 : Value) (c3 : Value) (c4 : Value) (c5 : Value) (y0 : Value) (y1 : Value) (y2 : Value) (y3 : Value) (y4 : Value) (y5 : Value) (y6 : Value) (y7 : Value) (y8 : Value) (y10 : Value) (oo : Nat → Int)  (hc : c_ < n) (hn : n ≤ 24) (b_oo : ∀ j, (-1) ≤ oo j ∧ oo j ≤ 11) : Met l yX8_stackOf wsX8_stackOf ({ frames := 1, cells := 0, slots := 0, locals := 21 }) (va_Pc [.ref st, .int (nI c_)] (fun U => xB g [(st, .inr (8, [s0, s1, s2, s3, .ref ca, s5, s6, s7, s8, s9, s10, s11, s12, .ref ya, s14])), (ca, .inr (2, [.int (nI n), c1, c2, c3, c4, c5])), (ya, .inr (7, [y0, y1, y2, y3, y4, y5, y6, y7, y8, .ref so2, y10])), (so2, .inl (xI g, 24, .inl (fun j => iI (oo j))))] sz U)) (va_Qi (fun (r : Int32) (_ : Unit) => r = iI (oo c_)) (fun (_ : Unit) (_ : State) => True) (va_A [] sz)) 0 0 (va_A [] sz) := by
  refine Met.ofW (cc := cX8_stackOf) (maxL := 2) (ret := (some .int)) (by decide) rfl ?_
  intro p e s m args below meth c s₁ B hml hv
  obtain ⟨rfl, hsz, hP, hK, hD0⟩ := hv
  have hx := B.exec
  have hb := B.bytes
  have hr := B.returns
  have hts := atoms_spec (ws := wsX8_stackOf) B.pre
  have hown : s.vm.findClass RX8 = some m.cls := findClass_of_methodNamed B.named
  have hlocks := B.notSynchronized
  subst hsz
  have hD := hD0
  generalize hAe : va_A [] s.heap.size = A
  have hA : ∀ q : Nat, s.heap.size ≤ q → A q := fun q h => by rw [← hAe]; exact Or.inr h
  have hS : va_S A s.heap s.heap [] := va_S.rf
  have hl := lv_entry ([.ref st, .int (nI c_)]) (n := 2) (Nat.le_of_ble_eq_true rfl)
  rw [lg_entry_eq]
  generalize (lg_sl ([.ref st, .int (nI c_)]) ++ List.replicate (2 - (lg_sl ([.ref st, .int (nI c_)])).length) Slot.unset).toArray = ls at hl ⊢
  have hl : lv_has ls 2 [(0, .ref st), (1, .int (nI c_))] := hl
  have hFX7 : ∀ w ∈ u_ws RX7 TX7 11, w ∈ wsX8_stackOf := by decide +kernel
  have hFX8 : ∀ w ∈ u_ws RX8 TX8 15, w ∈ wsX8_stackOf := by decide +kernel
  refine lv_aload_n hx hb dX8_stackOf_0 rfl (lv_at hl 0 rfl) ?_
  refine lv_iload_n hx hb dX8_stackOf_1 rfl (lv_at hl 1 rfl) ?_
  have hPc := hP.sub (ws' := [(st, .inr (8, [s0, s1, s2, s3, .ref ca, s5, s6, s7, s8, s9, s10, s11, s12, .ref ya, s14])), (ca, .inr (2, [.int (nI n), c1, c2, c3, c4, c5]))]) [0, 1] rfl
  have hDc := hD.sub (ws' := [(st, .inr (8, [s0, s1, s2, s3, .ref ca, s5, s6, s7, s8, s9, s10, s11, s12, .ref ya, s14])), (ca, .inr (2, [.int (nI n), c1, c2, c3, c4, c5]))]) [0, 1] (by decide) rfl
  have hFc := xFree hS hA
  refine va_callv (va_runV (As := [.int (nI c_)]) (rest := []) ⟨hx, hb, hml, hown, hts⟩ (n_container l g s.heap.size st ca n c_ s0 s1 s2 s3 s5 s6 s7 s8 s9 s10 s11 s12 (.ref ya) s14 c1 c2 c3 c4 c5 (by first | assumption | omega) (by first | assumption | omega)) (cwV 1 hts gX8_stackOf_X8_needContainer rfl rfl rfl (by decide +kernel) ⟨Nat.le_of_ble_eq_true rfl, Nat.le_of_ble_eq_true rfl⟩) ⟨xB.blind, va_recv hK hPc (ci := 8) (q0 := 0) rfl rfl, fun U9 hU9 hW9 => ⟨rfl, xB.mk hPc hK hDc hU9 hW9⟩⟩ rfl rfl hl.1 rfl (lv_room (Nat.le_of_ble_eq_true rfl)) dX8_stackOf_2 ⟨Nat.le_of_ble_eq_true rfl, Nat.le_of_ble_eq_true rfl⟩) hS (fun q _ h => hFc q h) hFc (fun _ t H1 locs ht hvm hw_2 hB hz1 hk1 hS => ?_)
  have hP := xSame hP hk1
  generalize H1 = H at hP hS ⊢
  have hP : va_P (xD g) vwCl [(st, .inr (8, [s0, s1, s2, s3, .ref ca, s5, s6, s7, s8, s9, s10, s11, s12, .ref ya, s14])), (ca, .inr (2, [.int (nI n), c1, c2, c3, c4, c5])), (ya, .inr (7, [y0, y1, y2, y3, y4, y5, y6, y7, y8, .ref so2, y10])), (so2, .inl (xI g, 24, .inl (fun j => iI (oo j))))] H := hP
  have hD : va_D (fun _ => True) [(st, .inr (8, [s0, s1, s2, s3, .ref ca, s5, s6, s7, s8, s9, s10, s11, s12, .ref ya, s14])), (ca, .inr (2, [.int (nI n), c1, c2, c3, c4, c5])), (ya, .inr (7, [y0, y1, y2, y3, y4, y5, y6, y7, y8, .ref so2, y10])), (so2, .inl (xI g, 24, .inl (fun j => iI (oo j))))] := hD
  try dsimp only at hw_2
  refine lv_aload_n hx hb dX8_stackOf_5 rfl (lv_at hl 0 rfl) ?_
  refine va_get (D := xD g) (ci := 8) (v := .ref ya) (C := RX8) (T := TX8) (N := 15) hx hb hts hFX8 hown hK hP 0 rfl rfl 13 (by decide) (hts (.fieldLink RX8 81 "Stevedore" "yard" "LStevedore$Yard;") (by decide +kernel)) (fun _ h9 => h9) rfl dX8_stackOf_6 ?_
  refine va_get (D := xD g) (ci := 7) (v := .ref so2) (C := RX7) (T := TX7) (N := 11) hx hb hts hFX7 hown hK hP 2 rfl rfl 9 (by decide) (hts (.fieldLink RX8 304 "Stevedore$Yard" "stackOfContainer" "[I") (by decide +kernel)) (fun _ h9 => h9) rfl dX8_stackOf_9 ?_
  refine lv_iload_n hx hb dX8_stackOf_12 rfl (lv_at hl 1 rfl) ?_
  refine va_iald hx hb hK hP 3 0 rfl rfl (vp_in_nI (by omega) (by omega)) dX8_stackOf_13 ?_
  refine lv_topi (fun v_3 ev => ?_)
  obtain rfl : v_3 = iI (oo c_) := ev.trans (congrArg (fun q9 => iI (oo q9)) (nI_clamp (by omega)))
  have b_4 := b_oo c_
  exact W.iret (v := iI (oo c_)) hx hb hr (fun t ht hW => ⟨⟨iI (oo c_), (), rfl, (by first | trivial | rfl | assumption | omega), trivial⟩, hS.F ht⟩) hS.2.2 dX8_stackOf_14
theorem dX8_heightOf_0 : decode cX8_heightOf 0 = .ok (.aload_n 0, 1) := by decide +kernel
theorem dX8_heightOf_1 : decode cX8_heightOf 1 = .ok (.iload_n 1, 1) := by decide +kernel
theorem dX8_heightOf_2 : decode cX8_heightOf 2 = .ok (.invokevirtual 307, 3) := by decide +kernel
set_option maxRecDepth 20000 in
theorem ggX8_heightOf_X8_needStack : GoodIn wsX8_heightOf wsX8_needStack := goodIn_ca (goodIn_r _ [7, 8, 9, 1, 10, 11, 12, 13, 14, 15, 16, 17, 18, 19, 20, 21, 22, 23, 24, 25, 26, 27, 28, 29, 30, 31, 32, 33, 34, 35, 36] rfl (by decide +kernel)) (goodIn_sub (fun _ h => List.mem_cons_of_mem _ (List.mem_append_right _ h)) (by decide +kernel))
set_option maxRecDepth 20000 in
theorem gX8_heightOf_X8_needStack : GoodIn wsX8_heightOf (wsV RX8 307 RX8 yX8_needStack wsX8_needStack) := goodIn_app (goodIn_of _ (by decide +kernel)) ggX8_heightOf_X8_needStack
theorem dX8_heightOf_5 : decode cX8_heightOf 5 = .ok (.aload_n 0, 1) := by decide +kernel
theorem dX8_heightOf_6 : decode cX8_heightOf 6 = .ok (.getfield 81, 3) := by decide +kernel
theorem dX8_heightOf_9 : decode cX8_heightOf 9 = .ok (.getfield 310, 3) := by decide +kernel
theorem dX8_heightOf_12 : decode cX8_heightOf 12 = .ok (.iload_n 1, 1) := by decide +kernel
theorem dX8_heightOf_13 : decode cX8_heightOf 13 = .ok (.iaload, 1) := by decide +kernel
theorem dX8_heightOf_14 : decode cX8_heightOf 14 = .ok (.ireturn, 1) := by decide +kernel
set_option maxHeartbeats 4000000 in
set_option maxRecDepth 100000 in
theorem t_heightOf (l : Launch) (g : xG) (sz : Nat) (st : Nat) (ya : Nat) (he : Nat) (sc : Nat) (t_ : Nat) (s0 : Value) (s1 : Value) (s2 : Value) (s3 : Value) (s4 : Value) (s5 : Value) (s6 : Value) (s7 : Value) (s8 : Value) (s9 : Value) (s10 : Value) (s11 : Value) (s12 : Value) (s14 : Value) (y1 : Value) (y2 : Value) (y3 : Value) (y5 : Value) (y6 : Value) (y7 : Value) (y8 : Value) (y9 : Value) (y10 : Value) (hgt : Nat → Nat)  (ht : t_ < sc) (hsc : sc ≤ 12) (b_hgt : ∀ j, hgt j ≤ 5) : Met l yX8_heightOf wsX8_heightOf ({ frames := 1, cells := 0, slots := 0, locals := 21 }) (va_Pc [.ref st, .int (nI t_)] (fun U => xB g [(st, .inr (8, [s0, s1, s2, s3, s4, s5, s6, s7, s8, s9, s10, s11, s12, .ref ya, s14])), (ya, .inr (7, [.int (nI sc), y1, y2, y3, .ref he, y5, y6, y7, y8, y9, y10])), (he, .inl (xI g, 12, .inl (fun j => nI (hgt j))))] sz U)) (va_Qi (fun (r : Int32) (_ : Unit) => r = nI (hgt t_)) (fun (_ : Unit) (_ : State) => True) (va_A [] sz)) 0 0 (va_A [] sz) := by
  refine Met.ofW (cc := cX8_heightOf) (maxL := 2) (ret := (some .int)) (by decide) rfl ?_
  intro p e s m args below meth c s₁ B hml hv
  obtain ⟨rfl, hsz, hP, hK, hD0⟩ := hv
  have hx := B.exec
  have hb := B.bytes
  have hr := B.returns
  have hts := atoms_spec (ws := wsX8_heightOf) B.pre
  have hown : s.vm.findClass RX8 = some m.cls := findClass_of_methodNamed B.named
  have hlocks := B.notSynchronized
  subst hsz
  have hD := hD0
  generalize hAe : va_A [] s.heap.size = A
  have hA : ∀ q : Nat, s.heap.size ≤ q → A q := fun q h => by rw [← hAe]; exact Or.inr h
  have hS : va_S A s.heap s.heap [] := va_S.rf
  have hl := lv_entry ([.ref st, .int (nI t_)]) (n := 2) (Nat.le_of_ble_eq_true rfl)
  rw [lg_entry_eq]
  generalize (lg_sl ([.ref st, .int (nI t_)]) ++ List.replicate (2 - (lg_sl ([.ref st, .int (nI t_)])).length) Slot.unset).toArray = ls at hl ⊢
  have hl : lv_has ls 2 [(0, .ref st), (1, .int (nI t_))] := hl
  have hFX7 : ∀ w ∈ u_ws RX7 TX7 11, w ∈ wsX8_heightOf := by decide +kernel
  have hFX8 : ∀ w ∈ u_ws RX8 TX8 15, w ∈ wsX8_heightOf := by decide +kernel
  refine lv_aload_n hx hb dX8_heightOf_0 rfl (lv_at hl 0 rfl) ?_
  refine lv_iload_n hx hb dX8_heightOf_1 rfl (lv_at hl 1 rfl) ?_
  have hPc := hP.sub (ws' := [(st, .inr (8, [s0, s1, s2, s3, s4, s5, s6, s7, s8, s9, s10, s11, s12, .ref ya, s14])), (ya, .inr (7, [.int (nI sc), y1, y2, y3, .ref he, y5, y6, y7, y8, y9, y10]))]) [0, 1] rfl
  have hDc := hD.sub (ws' := [(st, .inr (8, [s0, s1, s2, s3, s4, s5, s6, s7, s8, s9, s10, s11, s12, .ref ya, s14])), (ya, .inr (7, [.int (nI sc), y1, y2, y3, .ref he, y5, y6, y7, y8, y9, y10]))]) [0, 1] (by decide) rfl
  have hFc := xFree hS hA
  refine va_callv (va_runV (As := [.int (nI t_)]) (rest := []) ⟨hx, hb, hml, hown, hts⟩ (n_stack l g s.heap.size st ya sc t_ s0 s1 s2 s3 s4 s5 s6 s7 s8 s9 s10 s11 s12 s14 y1 y2 y3 (.ref he) y5 y6 y7 y8 y9 y10 (by first | assumption | omega) (by first | assumption | omega)) (cwV 1 hts gX8_heightOf_X8_needStack rfl rfl rfl (by decide +kernel) ⟨Nat.le_of_ble_eq_true rfl, Nat.le_of_ble_eq_true rfl⟩) ⟨xB.blind, va_recv hK hPc (ci := 8) (q0 := 0) rfl rfl, fun U9 hU9 hW9 => ⟨rfl, xB.mk hPc hK hDc hU9 hW9⟩⟩ rfl rfl hl.1 rfl (lv_room (Nat.le_of_ble_eq_true rfl)) dX8_heightOf_2 ⟨Nat.le_of_ble_eq_true rfl, Nat.le_of_ble_eq_true rfl⟩) hS (fun q _ h => hFc q h) hFc (fun _ t H1 locs ht hvm hw_2 hB hz1 hk1 hS => ?_)
  have hP := xSame hP hk1
  generalize H1 = H at hP hS ⊢
  have hP : va_P (xD g) vwCl [(st, .inr (8, [s0, s1, s2, s3, s4, s5, s6, s7, s8, s9, s10, s11, s12, .ref ya, s14])), (ya, .inr (7, [.int (nI sc), y1, y2, y3, .ref he, y5, y6, y7, y8, y9, y10])), (he, .inl (xI g, 12, .inl (fun j => nI (hgt j))))] H := hP
  have hD : va_D (fun _ => True) [(st, .inr (8, [s0, s1, s2, s3, s4, s5, s6, s7, s8, s9, s10, s11, s12, .ref ya, s14])), (ya, .inr (7, [.int (nI sc), y1, y2, y3, .ref he, y5, y6, y7, y8, y9, y10])), (he, .inl (xI g, 12, .inl (fun j => nI (hgt j))))] := hD
  try dsimp only at hw_2
  refine lv_aload_n hx hb dX8_heightOf_5 rfl (lv_at hl 0 rfl) ?_
  refine va_get (D := xD g) (ci := 8) (v := .ref ya) (C := RX8) (T := TX8) (N := 15) hx hb hts hFX8 hown hK hP 0 rfl rfl 13 (by decide) (hts (.fieldLink RX8 81 "Stevedore" "yard" "LStevedore$Yard;") (by decide +kernel)) (fun _ h9 => h9) rfl dX8_heightOf_6 ?_
  refine va_get (D := xD g) (ci := 7) (v := .ref he) (C := RX7) (T := TX7) (N := 11) hx hb hts hFX7 hown hK hP 1 rfl rfl 4 (by decide) (hts (.fieldLink RX8 310 "Stevedore$Yard" "height" "[I") (by decide +kernel)) (fun _ h9 => h9) rfl dX8_heightOf_9 ?_
  refine lv_iload_n hx hb dX8_heightOf_12 rfl (lv_at hl 1 rfl) ?_
  refine va_iald hx hb hK hP 2 0 rfl rfl (vp_in_nI (by omega) (by omega)) dX8_heightOf_13 ?_
  refine lv_topi (fun v_3 ev => ?_)
  obtain rfl : v_3 = nI (hgt t_) := ev.trans (congrArg (fun q9 => nI (hgt q9)) (nI_clamp (by omega)))
  have b_4 := b_hgt t_
  exact W.iret (v := nI (hgt t_)) hx hb hr (fun t ht hW => ⟨⟨nI (hgt t_), (), rfl, (by first | trivial | rfl | assumption | omega), trivial⟩, hS.F ht⟩) hS.2.2 dX8_heightOf_14
theorem dX8_containerAt_0 : decode cX8_containerAt 0 = .ok (.aload_n 0, 1) := by decide +kernel
theorem dX8_containerAt_1 : decode cX8_containerAt 1 = .ok (.iload_n 1, 1) := by decide +kernel
theorem dX8_containerAt_2 : decode cX8_containerAt 2 = .ok (.invokevirtual 307, 3) := by decide +kernel
set_option maxRecDepth 20000 in
theorem ggX8_containerAt_X8_needStack : GoodIn wsX8_containerAt wsX8_needStack := goodIn_ca (goodIn_r _ [10, 1, 2, 3, 11, 12, 13, 14, 15, 16, 17, 18, 19, 20, 21, 22, 23, 24, 25, 26, 27, 28, 29, 30, 31, 32, 33, 34, 35, 36, 37] rfl (by decide +kernel)) (goodIn_sub (fun _ h => List.mem_cons_of_mem _ (List.mem_append_right _ h)) (by decide +kernel))
set_option maxRecDepth 20000 in
theorem gX8_containerAt_X8_needStack : GoodIn wsX8_containerAt (wsV RX8 307 RX8 yX8_needStack wsX8_needStack) := goodIn_app (goodIn_of _ (by decide +kernel)) ggX8_containerAt_X8_needStack
theorem dX8_containerAt_5 : decode cX8_containerAt 5 = .ok (.iload_n 2, 1) := by decide +kernel
theorem dX8_containerAt_6 : decode cX8_containerAt 6 = .ok (.ifCond .lt 16, 3) := by decide +kernel
theorem dX8_containerAt_9 : decode cX8_containerAt 9 = .ok (.iload_n 2, 1) := by decide +kernel
theorem dX8_containerAt_10 : decode cX8_containerAt 10 = .ok (.aload_n 0, 1) := by decide +kernel
theorem dX8_containerAt_11 : decode cX8_containerAt 11 = .ok (.getfield 81, 3) := by decide +kernel
theorem dX8_containerAt_14 : decode cX8_containerAt 14 = .ok (.getfield 310, 3) := by decide +kernel
theorem dX8_containerAt_17 : decode cX8_containerAt 17 = .ok (.iload_n 1, 1) := by decide +kernel
theorem dX8_containerAt_18 : decode cX8_containerAt 18 = .ok (.iaload, 1) := by decide +kernel
theorem dX8_containerAt_19 : decode cX8_containerAt 19 = .ok (.if_icmp .lt 14, 3) := by decide +kernel
theorem dX8_containerAt_33 : decode cX8_containerAt 33 = .ok (.aload_n 0, 1) := by decide +kernel
theorem dX8_containerAt_34 : decode cX8_containerAt 34 = .ok (.getfield 81, 3) := by decide +kernel
theorem dX8_containerAt_37 : decode cX8_containerAt 37 = .ok (.getfield 315, 3) := by decide +kernel
theorem dX8_containerAt_40 : decode cX8_containerAt 40 = .ok (.iload_n 1, 1) := by decide +kernel
theorem dX8_containerAt_41 : decode cX8_containerAt 41 = .ok (.aaload, 1) := by decide +kernel
theorem dX8_containerAt_42 : decode cX8_containerAt 42 = .ok (.iload_n 2, 1) := by decide +kernel
theorem dX8_containerAt_43 : decode cX8_containerAt 43 = .ok (.iaload, 1) := by decide +kernel
theorem dX8_containerAt_44 : decode cX8_containerAt 44 = .ok (.ireturn, 1) := by decide +kernel
set_option maxHeartbeats 4000000 in
set_option maxRecDepth 100000 in
theorem t_containerAt (l : Launch) (g : xG) (sz : Nat) (st : Nat) (ya : Nat) (he : Nat) (so : Nat) (sc : Nat) (t_ : Nat) (l_ : Nat) (rr : Nat → Nat) (s0 : Value) (s1 : Value) (s2 : Value) (s3 : Value) (s4 : Value) (s5 : Value) (s6 : Value) (s7 : Value) (s8 : Value) (s9 : Value) (s10 : Value) (s11 : Value) (s12 : Value) (s14 : Value) (y1 : Value) (y2 : Value) (y3 : Value) (y6 : Value) (y7 : Value) (y8 : Value) (y9 : Value) (y10 : Value) (hgt : Nat → Nat) (sd : Nat → Nat → Nat)  (ht : t_ < sc) (hsc : sc ≤ 12) (hl : l_ < hgt t_) (b_hgt : ∀ j, hgt j ≤ 5) (b_sd : ∀ i j, sd i j ≤ 23) : Met l yX8_containerAt wsX8_containerAt ({ frames := 1, cells := 0, slots := 0, locals := 21 }) (va_Pc [.ref st, .int (nI t_), .int (nI l_)] (fun U => xB g ([(st, .inr (8, [s0, s1, s2, s3, s4, s5, s6, s7, s8, s9, s10, s11, s12, .ref ya, s14])), (ya, .inr (7, [.int (nI sc), y1, y2, y3, .ref he, .ref so, y6, y7, y8, y9, y10])), (he, .inl (xI g, 12, .inl (fun j => nI (hgt j)))), (so, .inl (xM g, 12, .inr (.inr (.inr (.inr (fun i => if i < 12 then some (rr i) else none))))))] ++ (xRN (xI g) 12 5 rr sd ++ [])) sz U)) (va_Qi (fun (r : Int32) (_ : Unit) => r = nI (sd t_ l_)) (fun (_ : Unit) (_ : State) => True) (va_A [] sz)) 0 0 (va_A [] sz) := by
  refine Met.ofW (cc := cX8_containerAt) (maxL := 3) (ret := (some .int)) (by decide) rfl ?_
  intro p e s m args below meth c s₁ B hml hv
  obtain ⟨rfl, hsz, hP, hK, hD0⟩ := hv
  have hx := B.exec
  have hb := B.bytes
  have hr := B.returns
  have hts := atoms_spec (ws := wsX8_containerAt) B.pre
  have hown : s.vm.findClass RX8 = some m.cls := findClass_of_methodNamed B.named
  have hlocks := B.notSynchronized
  subst hsz
  have hD := hD0
  generalize hAe : va_A [] s.heap.size = A
  have hA : ∀ q : Nat, s.heap.size ≤ q → A q := fun q h => by rw [← hAe]; exact Or.inr h
  have hS : va_S A s.heap s.heap [] := va_S.rf
  have hl := lv_entry ([.ref st, .int (nI t_), .int (nI l_)]) (n := 3) (Nat.le_of_ble_eq_true rfl)
  rw [lg_entry_eq]
  generalize (lg_sl ([.ref st, .int (nI t_), .int (nI l_)]) ++ List.replicate (3 - (lg_sl ([.ref st, .int (nI t_), .int (nI l_)])).length) Slot.unset).toArray = ls at hl ⊢
  have hl : lv_has ls 3 [(0, .ref st), (1, .int (nI t_)), (2, .int (nI l_))] := hl
  have hFX7 : ∀ w ∈ u_ws RX7 TX7 11, w ∈ wsX8_containerAt := by decide +kernel
  have hFX8 : ∀ w ∈ u_ws RX8 TX8 15, w ∈ wsX8_containerAt := by decide +kernel
  refine lv_aload_n hx hb dX8_containerAt_0 rfl (lv_at hl 0 rfl) ?_
  refine lv_iload_n hx hb dX8_containerAt_1 rfl (lv_at hl 1 rfl) ?_
  have hPc := hP.sub (ws' := [(st, .inr (8, [s0, s1, s2, s3, s4, s5, s6, s7, s8, s9, s10, s11, s12, .ref ya, s14])), (ya, .inr (7, [.int (nI sc), y1, y2, y3, .ref he, .ref so, y6, y7, y8, y9, y10]))]) [0, 1] rfl
  have hDc := hD.sub (ws' := [(st, .inr (8, [s0, s1, s2, s3, s4, s5, s6, s7, s8, s9, s10, s11, s12, .ref ya, s14])), (ya, .inr (7, [.int (nI sc), y1, y2, y3, .ref he, .ref so, y6, y7, y8, y9, y10]))]) [0, 1] (by decide) rfl
  have hFc := xFree hS hA
  refine va_callv (va_runV (As := [.int (nI t_)]) (rest := []) ⟨hx, hb, hml, hown, hts⟩ (n_stack l g s.heap.size st ya sc t_ s0 s1 s2 s3 s4 s5 s6 s7 s8 s9 s10 s11 s12 s14 y1 y2 y3 (.ref he) (.ref so) y6 y7 y8 y9 y10 (by first | assumption | omega) (by first | assumption | omega)) (cwV 1 hts gX8_containerAt_X8_needStack rfl rfl rfl (by decide +kernel) ⟨Nat.le_of_ble_eq_true rfl, Nat.le_of_ble_eq_true rfl⟩) ⟨xB.blind, va_recv hK hPc (ci := 8) (q0 := 0) rfl rfl, fun U9 hU9 hW9 => ⟨rfl, xB.mk hPc hK hDc hU9 hW9⟩⟩ rfl rfl hl.1 rfl (lv_room (Nat.le_of_ble_eq_true rfl)) dX8_containerAt_2 ⟨Nat.le_of_ble_eq_true rfl, Nat.le_of_ble_eq_true rfl⟩) hS (fun q _ h => hFc q h) hFc (fun _ t H1 locs ht hvm hw_2 hB hz1 hk1 hS => ?_)
  have hP := xSame hP hk1
  generalize H1 = H at hP hS ⊢
  have hP : va_P (xD g) vwCl ([(st, .inr (8, [s0, s1, s2, s3, s4, s5, s6, s7, s8, s9, s10, s11, s12, .ref ya, s14])), (ya, .inr (7, [.int (nI sc), y1, y2, y3, .ref he, .ref so, y6, y7, y8, y9, y10])), (he, .inl (xI g, 12, .inl (fun j => nI (hgt j)))), (so, .inl (xM g, 12, .inr (.inr (.inr (.inr (fun i => if i < 12 then some (rr i) else none))))))] ++ (xRN (xI g) 12 5 rr sd ++ [])) H := hP
  have hD : va_D (fun _ => True) ([(st, .inr (8, [s0, s1, s2, s3, s4, s5, s6, s7, s8, s9, s10, s11, s12, .ref ya, s14])), (ya, .inr (7, [.int (nI sc), y1, y2, y3, .ref he, .ref so, y6, y7, y8, y9, y10])), (he, .inl (xI g, 12, .inl (fun j => nI (hgt j)))), (so, .inl (xM g, 12, .inr (.inr (.inr (.inr (fun i => if i < 12 then some (rr i) else none))))))] ++ (xRN (xI g) 12 5 rr sd ++ [])) := hD
  try dsimp only at hw_2
  refine lv_iload_n hx hb dX8_containerAt_5 rfl (lv_at hl 2 rfl) ?_
  refine lv_if_lt (tgt := 22) hx hb dX8_containerAt_6 (by decide) (fun c_3 => ?_) (fun c_3 => ?_)
  · have nc_3 := (nI_ltI (a := l_) (b := 0) (by omega) (by omega)).mp c_3
    (exfalso; omega)
  · have nc_3 := mt (nI_ltI (a := l_) (b := 0) (by omega) (by omega)).mpr c_3
    refine lv_iload_n hx hb dX8_containerAt_9 rfl (lv_at hl 2 rfl) ?_
    refine lv_aload_n hx hb dX8_containerAt_10 rfl (lv_at hl 0 rfl) ?_
    refine va_get (D := xD g) (ci := 8) (v := .ref ya) (C := RX8) (T := TX8) (N := 15) hx hb hts hFX8 hown hK hP 0 rfl rfl 13 (by decide) (hts (.fieldLink RX8 81 "Stevedore" "yard" "LStevedore$Yard;") (by decide +kernel)) (fun _ h9 => h9) rfl dX8_containerAt_11 ?_
    refine va_get (D := xD g) (ci := 7) (v := .ref he) (C := RX7) (T := TX7) (N := 11) hx hb hts hFX7 hown hK hP 1 rfl rfl 4 (by decide) (hts (.fieldLink RX8 310 "Stevedore$Yard" "height" "[I") (by decide +kernel)) (fun _ h9 => h9) rfl dX8_containerAt_14 ?_
    refine lv_iload_n hx hb dX8_containerAt_17 rfl (lv_at hl 1 rfl) ?_
    refine va_iald hx hb hK hP 2 0 rfl rfl (vp_in_nI (by omega) (by omega)) dX8_containerAt_18 ?_
    refine lv_topi (fun v_4 ev => ?_)
    obtain rfl : v_4 = nI (hgt t_) := ev.trans (congrArg (fun q9 => nI (hgt q9)) (nI_clamp (by omega)))
    have b_5 := b_hgt t_
    refine lv_icmp_lt (tgt := 33) hx hb dX8_containerAt_19 (by decide) (fun c_6 => ?_) (fun c_6 => ?_)
    · have nc_6 := (nI_ltI (a := l_) (b := hgt t_) (by omega) (by omega)).mp c_6
      refine lv_aload_n hx hb dX8_containerAt_33 rfl (lv_at hl 0 rfl) ?_
      refine va_get (D := xD g) (ci := 8) (v := .ref ya) (C := RX8) (T := TX8) (N := 15) hx hb hts hFX8 hown hK hP 0 rfl rfl 13 (by decide) (hts (.fieldLink RX8 81 "Stevedore" "yard" "LStevedore$Yard;") (by decide +kernel)) (fun _ h9 => h9) rfl dX8_containerAt_34 ?_
      refine va_get (D := xD g) (ci := 7) (v := .ref so) (C := RX7) (T := TX7) (N := 11) hx hb hts hFX7 hown hK hP 1 rfl rfl 5 (by decide) (hts (.fieldLink RX8 315 "Stevedore$Yard" "standing" "[[I") (by decide +kernel)) (fun _ h9 => h9) rfl dX8_containerAt_37 ?_
      refine lv_iload_n hx hb dX8_containerAt_40 rfl (lv_at hl 1 rfl) ?_
      refine xAldM hx hb hK hP 3 3 rfl rfl (vp_in_nI (by omega) (by omega)) dX8_containerAt_41 ?_
      refine W.eq (g2 := F0 m 42 ls (.ref (rr t_) :: [])) (congrArg (fun q9 => F0 m 42 ls (q9 :: [])) (xRow (n := 12) (k := t_) (nI_clamp (by omega)) (by omega))) ?_
      refine lv_iload_n hx hb dX8_containerAt_42 rfl (lv_at hl 2 rfl) ?_
      refine va_iald hx hb hK hP _ 0 (xR_ap (X := [(st, .inr (8, [s0, s1, s2, s3, s4, s5, s6, s7, s8, s9, s10, s11, s12, .ref ya, s14])), (ya, .inr (7, [.int (nI sc), y1, y2, y3, .ref he, .ref so, y6, y7, y8, y9, y10])), (he, .inl (xI g, 12, .inl (fun j => nI (hgt j)))), (so, .inl (xM g, 12, .inr (.inr (.inr (.inr (fun i => if i < 12 then some (rr i) else none))))))]) (xR_get0 (i := t_) (by omega))) rfl (vp_in_nI (by omega) (by omega)) dX8_containerAt_43 ?_
      refine lv_topi (fun v_7 ev => ?_)
      obtain rfl : v_7 = nI (sd t_ l_) := ev.trans (congrArg (fun q9 => nI (sd t_ q9)) (nI_clamp (by omega)))
      have b_8 := b_sd t_ l_
      exact W.iret (v := nI (sd t_ l_)) hx hb hr (fun t ht hW => ⟨⟨nI (sd t_ l_), (), rfl, (by first | trivial | rfl | assumption | omega), trivial⟩, hS.F ht⟩) hS.2.2 dX8_containerAt_44
    · have nc_6 := mt (nI_ltI (a := l_) (b := hgt t_) (by omega) (by omega)).mpr c_6
      (exfalso; omega)
theorem dX8_blocking_0 : decode cX8_blocking 0 = .ok (.aload_n 0, 1) := by decide +kernel
theorem dX8_blocking_1 : decode cX8_blocking 1 = .ok (.getfield 81, 3) := by decide +kernel
theorem dX8_blocking_4 : decode cX8_blocking 4 = .ok (.invokevirtual 322, 3) := by decide +kernel
set_option maxRecDepth 20000 in
theorem ggX8_blocking_X7_countBlocking : GoodIn wsX8_blocking wsX7_countBlocking := goodIn_r _ [6, 7, 8, 9, 10, 11, 5, 12, 13, 14, 15, 16, 17, 18, 19, 20, 21, 22, 38, 39, 40, 41, 42, 43, 44, 45, 46, 47, 48] rfl (by decide +kernel)
set_option maxRecDepth 20000 in
theorem gX8_blocking_X7_countBlocking : GoodIn wsX8_blocking (wsV RX8 322 RX7 yX7_countBlocking wsX7_countBlocking) := goodIn_app (goodIn_of _ (by decide +kernel)) ggX8_blocking_X7_countBlocking
theorem dX8_blocking_7 : decode cX8_blocking 7 = .ok (.ireturn, 1) := by decide +kernel
set_option maxHeartbeats 4000000 in
set_option maxRecDepth 100000 in
theorem t_blocking (l : Launch) (g : xG) (sz : Nat) (st : Nat) (ya : Nat) (he : Nat) (so : Nat) (le : Nat) (sc : Nat) (rr : Nat → Nat) (s0 : Value) (s1 : Value) (s2 : Value) (s3 : Value) (s4 : Value) (s5 : Value) (s6 : Value) (s7 : Value) (s8 : Value) (s9 : Value) (s10 : Value) (s11 : Value) (s12 : Value) (s14 : Value) (y1 : Value) (y2 : Value) (y3 : Value) (y6 : Value) (y8 : Value) (y9 : Value) (y10 : Value) (hgt : Nat → Nat) (sd : Nat → Nat → Nat) (lv : Nat → Int)  (hsc : sc ≤ 12) (b_hgt : ∀ j, hgt j ≤ 5) (b_sd : ∀ i j, sd i j ≤ 23) (b_lv : ∀ j, 0 ≤ lv j ∧ lv j ≤ 1000000) : Met l yX8_blocking wsX8_blocking ({ frames := 4, cells := 0, slots := 0, locals := 93 }) (va_Pc [.ref st] (fun U => xB g ([(st, .inr (8, [s0, s1, s2, s3, s4, s5, s6, s7, s8, s9, s10, s11, s12, .ref ya, s14])), (ya, .inr (7, [.int (nI sc), y1, y2, y3, .ref he, .ref so, y6, .ref le, y8, y9, y10])), (he, .inl (xI g, 12, .inl (fun j => nI (hgt j)))), (so, .inl (xM g, 12, .inr (.inr (.inr (.inr (fun i => if i < 12 then some (rr i) else none))))))] ++ (xRN (xI g) 12 5 rr sd ++ [(le, .inl (xI g, 24, .inl (fun j => iI (lv j))))])) sz U)) (va_Qi (fun (r : Int32) (_ : Unit) => r = nI (yBl lv hgt sd sc)) (fun (_ : Unit) (_ : State) => True) (va_A [] sz)) 0 0 (va_A [] sz) := by
  refine Met.ofW (cc := cX8_blocking) (maxL := 1) (ret := (some .int)) (by decide) rfl ?_
  intro p e s m args below meth c s₁ B hml hv
  obtain ⟨rfl, hsz, hP, hK, hD0⟩ := hv
  have hx := B.exec
  have hb := B.bytes
  have hr := B.returns
  have hts := atoms_spec (ws := wsX8_blocking) B.pre
  have hown : s.vm.findClass RX8 = some m.cls := findClass_of_methodNamed B.named
  have hlocks := B.notSynchronized
  subst hsz
  have hD := hD0
  generalize hAe : va_A [] s.heap.size = A
  have hA : ∀ q : Nat, s.heap.size ≤ q → A q := fun q h => by rw [← hAe]; exact Or.inr h
  have hS : va_S A s.heap s.heap [] := va_S.rf
  have hl := lv_entry ([.ref st]) (n := 1) (Nat.le_of_ble_eq_true rfl)
  rw [lg_entry_eq]
  generalize (lg_sl ([.ref st]) ++ List.replicate (1 - (lg_sl ([.ref st])).length) Slot.unset).toArray = ls at hl ⊢
  have hl : lv_has ls 1 [(0, .ref st)] := hl
  have hFX8 : ∀ w ∈ u_ws RX8 TX8 15, w ∈ wsX8_blocking := by decide +kernel
  refine lv_aload_n hx hb dX8_blocking_0 rfl (lv_at hl 0 rfl) ?_
  refine va_get (D := xD g) (ci := 8) (v := .ref ya) (C := RX8) (T := TX8) (N := 15) hx hb hts hFX8 hown hK hP 0 rfl rfl 13 (by decide) (hts (.fieldLink RX8 81 "Stevedore" "yard" "LStevedore$Yard;") (by decide +kernel)) (fun _ h9 => h9) rfl dX8_blocking_1 ?_
  have hPc := hP.sub (ws' := ([(ya, .inr (7, [.int (nI sc), y1, y2, y3, .ref he, .ref so, y6, .ref le, y8, y9, y10])), (he, .inl (xI g, 12, .inl (fun j => nI (hgt j)))), (so, .inl (xM g, 12, .inr (.inr (.inr (.inr (fun i => if i < 12 then some (rr i) else none))))))] ++ (xRN (xI g) 12 5 rr sd ++ [(le, .inl (xI g, 24, .inl (fun j => iI (lv j))))]))) [1, 2, 3, 4, 5, 6, 7, 8, 9, 10, 11, 12, 13, 14, 15, 16] rfl
  have hDc := hD.sub (ws' := ([(ya, .inr (7, [.int (nI sc), y1, y2, y3, .ref he, .ref so, y6, .ref le, y8, y9, y10])), (he, .inl (xI g, 12, .inl (fun j => nI (hgt j)))), (so, .inl (xM g, 12, .inr (.inr (.inr (.inr (fun i => if i < 12 then some (rr i) else none))))))] ++ (xRN (xI g) 12 5 rr sd ++ [(le, .inl (xI g, 24, .inl (fun j => iI (lv j))))]))) [1, 2, 3, 4, 5, 6, 7, 8, 9, 10, 11, 12, 13, 14, 15, 16] (by decide) rfl
  have hFc := xFree hS hA
  refine va_calli (va_runV (As := []) (rest := []) ⟨hx, hb, hml, hown, hts⟩ (y_countBlocking l g s.heap.size ya he so le sc rr y1 y2 y3 y6 y8 y9 y10 hgt sd lv (by first | assumption | omega) b_hgt b_sd b_lv) (cwV 0 hts gX8_blocking_X7_countBlocking rfl rfl rfl (by decide +kernel) ⟨Nat.le_of_ble_eq_true rfl, Nat.le_of_ble_eq_true rfl⟩) ⟨xB.blind, va_recv hK hPc (ci := 7) (q0 := 0) rfl rfl, fun U9 hU9 hW9 => ⟨rfl, xB.mk hPc hK hDc hU9 hW9⟩⟩ rfl rfl hl.1 rfl (lv_room (Nat.le_of_ble_eq_true rfl)) dX8_blocking_4 ⟨Nat.le_of_ble_eq_true rfl, Nat.le_of_ble_eq_true rfl⟩) hS (fun q _ h => hFc q h) hFc (fun r_1 _ t H1 locs ht hvm hw_2 hB hz1 hk1 hS => ?_)
  have hP := xSame hP hk1
  generalize H1 = H at hP hS ⊢
  have hP : va_P (xD g) vwCl ([(st, .inr (8, [s0, s1, s2, s3, s4, s5, s6, s7, s8, s9, s10, s11, s12, .ref ya, s14])), (ya, .inr (7, [.int (nI sc), y1, y2, y3, .ref he, .ref so, y6, .ref le, y8, y9, y10])), (he, .inl (xI g, 12, .inl (fun j => nI (hgt j)))), (so, .inl (xM g, 12, .inr (.inr (.inr (.inr (fun i => if i < 12 then some (rr i) else none))))))] ++ (xRN (xI g) 12 5 rr sd ++ [(le, .inl (xI g, 24, .inl (fun j => iI (lv j))))])) H := hP
  have hD : va_D (fun _ => True) ([(st, .inr (8, [s0, s1, s2, s3, s4, s5, s6, s7, s8, s9, s10, s11, s12, .ref ya, s14])), (ya, .inr (7, [.int (nI sc), y1, y2, y3, .ref he, .ref so, y6, .ref le, y8, y9, y10])), (he, .inl (xI g, 12, .inl (fun j => nI (hgt j)))), (so, .inl (xM g, 12, .inr (.inr (.inr (.inr (fun i => if i < 12 then some (rr i) else none))))))] ++ (xRN (xI g) 12 5 rr sd ++ [(le, .inl (xI g, 24, .inl (fun j => iI (lv j))))])) := hD
  try dsimp only at hw_2
  obtain rfl : r_1 = nI (yBl lv hgt sd sc) := hw_2
  exact W.iret (v := nI (yBl lv hgt sd sc)) hx hb hr (fun t ht hW => ⟨⟨nI (yBl lv hgt sd sc), (), rfl, (by first | trivial | rfl | assumption | omega), trivial⟩, hS.F ht⟩) hS.2.2 dX8_blocking_7
theorem dX8_wouldTake_0 : decode cX8_wouldTake 0 = .ok (.aload_n 0, 1) := by decide +kernel
theorem dX8_wouldTake_1 : decode cX8_wouldTake 1 = .ok (.iload_n 1, 1) := by decide +kernel
theorem dX8_wouldTake_2 : decode cX8_wouldTake 2 = .ok (.invokevirtual 153, 3) := by decide +kernel
set_option maxRecDepth 20000 in
theorem ggX8_wouldTake_X8_needContainer : GoodIn wsX8_wouldTake wsX8_needContainer := goodIn_ca (goodIn_r _ [6, 7, 8, 9, 10, 68, 69, 70, 71, 72, 73, 74, 75, 76, 77, 78, 79, 80, 81, 82, 83, 84, 85, 86, 87, 88] rfl (by decide +kernel)) (goodIn_sub (fun _ h => List.mem_cons_of_mem _ (List.mem_append_right _ h)) (by decide +kernel))
set_option maxRecDepth 20000 in
theorem gX8_wouldTake_X8_needContainer : GoodIn wsX8_wouldTake (wsV RX8 153 RX8 yX8_needContainer wsX8_needContainer) := goodIn_app (goodIn_of _ (by decide +kernel)) ggX8_wouldTake_X8_needContainer
theorem dX8_wouldTake_5 : decode cX8_wouldTake 5 = .ok (.aload_n 0, 1) := by decide +kernel
theorem dX8_wouldTake_6 : decode cX8_wouldTake 6 = .ok (.getfield 81, 3) := by decide +kernel
theorem dX8_wouldTake_9 : decode cX8_wouldTake 9 = .ok (.iload_n 1, 1) := by decide +kernel
theorem dX8_wouldTake_10 : decode cX8_wouldTake 10 = .ok (.invokevirtual 325, 3) := by decide +kernel
set_option maxRecDepth 20000 in
theorem ggX8_wouldTake_X7_reshufflesToTake : GoodIn wsX8_wouldTake wsX7_reshufflesToTake := goodIn_r _ [15, 16, 17, 18, 19, 14, 20, 21, 22, 23, 24, 25, 26, 27, 28, 29, 30, 31, 32, 33, 34, 35, 36, 37, 38, 39, 40, 41, 42, 43, 44, 45, 46, 47, 48, 49, 50, 51, 52, 53, 54, 55, 56, 57, 58, 59, 60, 61, 62, 63, 64, 65, 66, 67, 89, 90, 91, 92, 93, 94, 95, 96, 97, 98, 99] rfl (by decide +kernel)
set_option maxRecDepth 20000 in
theorem gX8_wouldTake_X7_reshufflesToTake : GoodIn wsX8_wouldTake (wsV RX8 325 RX7 yX7_reshufflesToTake wsX7_reshufflesToTake) := goodIn_app (goodIn_of _ (by decide +kernel)) ggX8_wouldTake_X7_reshufflesToTake
theorem dX8_wouldTake_13 : decode cX8_wouldTake 13 = .ok (.ireturn, 1) := by decide +kernel
set_option maxHeartbeats 4000000 in
set_option maxRecDepth 100000 in
theorem t_wouldTake (l : Launch) (g : xG) (sz : Nat) (st : Nat) (ca : Nat) (ya : Nat) (li : Nat) (he : Nat) (so : Nat) (we : Nat) (le : Nat) (sa : Nat) (so2 : Nat) (wn : Nat) (sc : Nat) (c_ : Nat) (s9 : Nat) (n : Nat) (rr : Nat → Nat) (s0 : Value) (s1 : Value) (s2 : Value) (s3 : Value) (s5 : Value) (s6 : Value) (s7 : Value) (s8 : Value) (s9 : Value) (s10 : Value) (s11 : Value) (s12 : Value) (s14 : Value) (c1 : Value) (c2 : Value) (c3 : Value) (c4 : Value) (c5 : Value) (y1 : Value) (y2 : Value) (lim : Nat → Nat) (hgt : Nat → Nat) (sd : Nat → Nat → Nat) (wt : Nat → Int) (lv : Nat → Int) (stt : Nat → Int) (oo : Nat → Int) (wnt : Nat → Nat)  (hc : c_ < n) (hn : n ≤ 24) (hsc : sc ≤ 12) (hst : s9 < sc) (hsd1 : stt c_ = 1 ∨ stt c_ = 4) (hon : oo c_ = ((s9 : Nat) : Int)) (h09 : 0 < hgt s9) (htop : yTop hgt sd s9 = c_) (hok : yOk n sc lim (hgt, sd, oo) stt) (b_lim : ∀ j, lim j ≤ 5) (b_hgt : ∀ j, hgt j ≤ 5) (b_sd : ∀ i j, sd i j ≤ 23) (b_wt : ∀ j, 0 ≤ wt j ∧ wt j ≤ 1000) (b_lv : ∀ j, 0 ≤ lv j ∧ lv j ≤ 1000000) (b_stt : ∀ j, 0 ≤ stt j ∧ stt j ≤ 4) (b_oo : ∀ j, (-1) ≤ oo j ∧ oo j ≤ 11) (b_wnt : ∀ j, wnt j ≤ 11) : Met l yX8_wouldTake wsX8_wouldTake ({ frames := 5, cells := 0, slots := 0, locals := 120 }) (va_Pc [.ref st, .int (nI c_)] (fun U => xB g ([(st, .inr (8, [s0, s1, s2, s3, .ref ca, s5, s6, s7, s8, s9, s10, s11, s12, .ref ya, s14])), (ca, .inr (2, [.int (nI n), c1, c2, c3, c4, c5])), (ya, .inr (7, [.int (nI sc), y1, y2, .ref li, .ref he, .ref so, .ref we, .ref le, .ref sa, .ref so2, .ref wn])), (li, .inl (xI g, 12, .inl (fun j => nI (lim j)))), (he, .inl (xI g, 12, .inl (fun j => nI (hgt j)))), (so, .inl (xM g, 12, .inr (.inr (.inr (.inr (fun i => if i < 12 then some (rr i) else none))))))] ++ (xRN (xI g) 12 5 rr sd ++ [(we, .inl (xI g, 24, .inl (fun j => iI (wt j)))), (le, .inl (xI g, 24, .inl (fun j => iI (lv j)))), (sa, .inl (xI g, 24, .inl (fun j => iI (stt j)))), (so2, .inl (xI g, 24, .inl (fun j => iI (oo j)))), (wn, .inl (xI g, 5, .inl (fun j => nI (wnt j))))])) sz U)) (va_Qi (fun (r : Int32) (_ : Unit) => r = nI 0) (fun (_ : Unit) (t : State) => ∃ (wnt2 : Nat → Nat), (∀ j, wnt2 j ≤ 11) ∧ xE g ([(st, .inr (8, [s0, s1, s2, s3, .ref ca, s5, s6, s7, s8, s9, s10, s11, s12, .ref ya, s14])), (ca, .inr (2, [.int (nI n), c1, c2, c3, c4, c5])), (ya, .inr (7, [.int (nI sc), y1, y2, .ref li, .ref he, .ref so, .ref we, .ref le, .ref sa, .ref so2, .ref wn])), (li, .inl (xI g, 12, .inl (fun j => nI (lim j)))), (he, .inl (xI g, 12, .inl (fun j => nI (hgt j)))), (so, .inl (xM g, 12, .inr (.inr (.inr (.inr (fun i => if i < 12 then some (rr i) else none))))))] ++ (xRN (xI g) 12 5 rr sd ++ [(we, .inl (xI g, 24, .inl (fun j => iI (wt j)))), (le, .inl (xI g, 24, .inl (fun j => iI (lv j)))), (sa, .inl (xI g, 24, .inl (fun j => iI (stt j)))), (so2, .inl (xI g, 24, .inl (fun j => iI (oo j)))), (wn, .inl (xI g, 5, .inl (fun j => nI (wnt2 j))))])) (va_A ([(st, .inr (8, [s0, s1, s2, s3, .ref ca, s5, s6, s7, s8, s9, s10, s11, s12, .ref ya, s14])), (ca, .inr (2, [.int (nI n), c1, c2, c3, c4, c5])), (ya, .inr (7, [.int (nI sc), y1, y2, .ref li, .ref he, .ref so, .ref we, .ref le, .ref sa, .ref so2, .ref wn])), (li, .inl (xI g, 12, .inl (fun j => nI (lim j)))), (he, .inl (xI g, 12, .inl (fun j => nI (hgt j)))), (so, .inl (xM g, 12, .inr (.inr (.inr (.inr (fun i => if i < 12 then some (rr i) else none))))))] ++ (xRN (xI g) 12 5 rr sd ++ [(we, .inl (xI g, 24, .inl (fun j => iI (wt j)))), (le, .inl (xI g, 24, .inl (fun j => iI (lv j)))), (sa, .inl (xI g, 24, .inl (fun j => iI (stt j)))), (so2, .inl (xI g, 24, .inl (fun j => iI (oo j)))), (wn, .inl (xI g, 5, .inl (fun j => nI (wnt j))))])) sz) t) (va_A ([(st, .inr (8, [s0, s1, s2, s3, .ref ca, s5, s6, s7, s8, s9, s10, s11, s12, .ref ya, s14])), (ca, .inr (2, [.int (nI n), c1, c2, c3, c4, c5])), (ya, .inr (7, [.int (nI sc), y1, y2, .ref li, .ref he, .ref so, .ref we, .ref le, .ref sa, .ref so2, .ref wn])), (li, .inl (xI g, 12, .inl (fun j => nI (lim j)))), (he, .inl (xI g, 12, .inl (fun j => nI (hgt j)))), (so, .inl (xM g, 12, .inr (.inr (.inr (.inr (fun i => if i < 12 then some (rr i) else none))))))] ++ (xRN (xI g) 12 5 rr sd ++ [(we, .inl (xI g, 24, .inl (fun j => iI (wt j)))), (le, .inl (xI g, 24, .inl (fun j => iI (lv j)))), (sa, .inl (xI g, 24, .inl (fun j => iI (stt j)))), (so2, .inl (xI g, 24, .inl (fun j => iI (oo j)))), (wn, .inl (xI g, 5, .inl (fun j => nI (wnt j))))])) sz)) 0 0 (va_A ([(st, .inr (8, [s0, s1, s2, s3, .ref ca, s5, s6, s7, s8, s9, s10, s11, s12, .ref ya, s14])), (ca, .inr (2, [.int (nI n), c1, c2, c3, c4, c5])), (ya, .inr (7, [.int (nI sc), y1, y2, .ref li, .ref he, .ref so, .ref we, .ref le, .ref sa, .ref so2, .ref wn])), (li, .inl (xI g, 12, .inl (fun j => nI (lim j)))), (he, .inl (xI g, 12, .inl (fun j => nI (hgt j)))), (so, .inl (xM g, 12, .inr (.inr (.inr (.inr (fun i => if i < 12 then some (rr i) else none))))))] ++ (xRN (xI g) 12 5 rr sd ++ [(we, .inl (xI g, 24, .inl (fun j => iI (wt j)))), (le, .inl (xI g, 24, .inl (fun j => iI (lv j)))), (sa, .inl (xI g, 24, .inl (fun j => iI (stt j)))), (so2, .inl (xI g, 24, .inl (fun j => iI (oo j)))), (wn, .inl (xI g, 5, .inl (fun j => nI (wnt j))))])) sz) := by
  refine Met.ofW (cc := cX8_wouldTake) (maxL := 2) (ret := (some .int)) (by decide) rfl ?_
  intro p e s m args below meth c s₁ B hml hv
  obtain ⟨rfl, hsz, hP, hK, hD0⟩ := hv
  have hx := B.exec
  have hb := B.bytes
  have hr := B.returns
  have hts := atoms_spec (ws := wsX8_wouldTake) B.pre
  have hown : s.vm.findClass RX8 = some m.cls := findClass_of_methodNamed B.named
  have hlocks := B.notSynchronized
  subst hsz
  have hD := hD0.self (sz := s.heap.size)
  generalize hAe : va_A ([(st, .inr (8, [s0, s1, s2, s3, .ref ca, s5, s6, s7, s8, s9, s10, s11, s12, .ref ya, s14])), (ca, .inr (2, [.int (nI n), c1, c2, c3, c4, c5])), (ya, .inr (7, [.int (nI sc), y1, y2, .ref li, .ref he, .ref so, .ref we, .ref le, .ref sa, .ref so2, .ref wn])), (li, .inl (xI g, 12, .inl (fun j => nI (lim j)))), (he, .inl (xI g, 12, .inl (fun j => nI (hgt j)))), (so, .inl (xM g, 12, .inr (.inr (.inr (.inr (fun i => if i < 12 then some (rr i) else none))))))] ++ (xRN (xI g) 12 5 rr sd ++ [(we, .inl (xI g, 24, .inl (fun j => iI (wt j)))), (le, .inl (xI g, 24, .inl (fun j => iI (lv j)))), (sa, .inl (xI g, 24, .inl (fun j => iI (stt j)))), (so2, .inl (xI g, 24, .inl (fun j => iI (oo j)))), (wn, .inl (xI g, 5, .inl (fun j => nI (wnt j))))])) s.heap.size = A at hD ⊢
  have hA : ∀ q : Nat, s.heap.size ≤ q → A q := fun q h => by rw [← hAe]; exact Or.inr h
  have hS : va_S A s.heap s.heap [] := va_S.rf
  have hl := lv_entry ([.ref st, .int (nI c_)]) (n := 2) (Nat.le_of_ble_eq_true rfl)
  rw [lg_entry_eq]
  generalize (lg_sl ([.ref st, .int (nI c_)]) ++ List.replicate (2 - (lg_sl ([.ref st, .int (nI c_)])).length) Slot.unset).toArray = ls at hl ⊢
  have hl : lv_has ls 2 [(0, .ref st), (1, .int (nI c_))] := hl
  have hFX8 : ∀ w ∈ u_ws RX8 TX8 15, w ∈ wsX8_wouldTake := by decide +kernel
  refine lv_aload_n hx hb dX8_wouldTake_0 rfl (lv_at hl 0 rfl) ?_
  refine lv_iload_n hx hb dX8_wouldTake_1 rfl (lv_at hl 1 rfl) ?_
  have hPc := hP.sub (ws' := [(st, .inr (8, [s0, s1, s2, s3, .ref ca, s5, s6, s7, s8, s9, s10, s11, s12, .ref ya, s14])), (ca, .inr (2, [.int (nI n), c1, c2, c3, c4, c5]))]) [0, 1] rfl
  have hDc := hD.sub (ws' := [(st, .inr (8, [s0, s1, s2, s3, .ref ca, s5, s6, s7, s8, s9, s10, s11, s12, .ref ya, s14])), (ca, .inr (2, [.int (nI n), c1, c2, c3, c4, c5]))]) [0, 1] (by decide) rfl
  have hFc := xFree hS hA
  refine va_callv (va_runV (As := [.int (nI c_)]) (rest := []) ⟨hx, hb, hml, hown, hts⟩ (n_container l g s.heap.size st ca n c_ s0 s1 s2 s3 s5 s6 s7 s8 s9 s10 s11 s12 (.ref ya) s14 c1 c2 c3 c4 c5 (by first | assumption | omega) (by first | assumption | omega)) (cwV 1 hts gX8_wouldTake_X8_needContainer rfl rfl rfl (by decide +kernel) ⟨Nat.le_of_ble_eq_true rfl, Nat.le_of_ble_eq_true rfl⟩) ⟨xB.blind, va_recv hK hPc (ci := 8) (q0 := 0) rfl rfl, fun U9 hU9 hW9 => ⟨rfl, xB.mk hPc hK hDc hU9 hW9⟩⟩ rfl rfl hl.1 rfl (lv_room (Nat.le_of_ble_eq_true rfl)) dX8_wouldTake_2 ⟨Nat.le_of_ble_eq_true rfl, Nat.le_of_ble_eq_true rfl⟩) hS (fun q _ h => hFc q h) hFc (fun _ t H1 locs ht hvm hw_2 hB hz1 hk1 hS => ?_)
  have hP := xSame hP hk1
  generalize H1 = H at hP hS ⊢
  have hP : va_P (xD g) vwCl ([(st, .inr (8, [s0, s1, s2, s3, .ref ca, s5, s6, s7, s8, s9, s10, s11, s12, .ref ya, s14])), (ca, .inr (2, [.int (nI n), c1, c2, c3, c4, c5])), (ya, .inr (7, [.int (nI sc), y1, y2, .ref li, .ref he, .ref so, .ref we, .ref le, .ref sa, .ref so2, .ref wn])), (li, .inl (xI g, 12, .inl (fun j => nI (lim j)))), (he, .inl (xI g, 12, .inl (fun j => nI (hgt j)))), (so, .inl (xM g, 12, .inr (.inr (.inr (.inr (fun i => if i < 12 then some (rr i) else none))))))] ++ (xRN (xI g) 12 5 rr sd ++ [(we, .inl (xI g, 24, .inl (fun j => iI (wt j)))), (le, .inl (xI g, 24, .inl (fun j => iI (lv j)))), (sa, .inl (xI g, 24, .inl (fun j => iI (stt j)))), (so2, .inl (xI g, 24, .inl (fun j => iI (oo j)))), (wn, .inl (xI g, 5, .inl (fun j => nI (wnt j))))])) H := hP
  have hD : va_D A ([(st, .inr (8, [s0, s1, s2, s3, .ref ca, s5, s6, s7, s8, s9, s10, s11, s12, .ref ya, s14])), (ca, .inr (2, [.int (nI n), c1, c2, c3, c4, c5])), (ya, .inr (7, [.int (nI sc), y1, y2, .ref li, .ref he, .ref so, .ref we, .ref le, .ref sa, .ref so2, .ref wn])), (li, .inl (xI g, 12, .inl (fun j => nI (lim j)))), (he, .inl (xI g, 12, .inl (fun j => nI (hgt j)))), (so, .inl (xM g, 12, .inr (.inr (.inr (.inr (fun i => if i < 12 then some (rr i) else none))))))] ++ (xRN (xI g) 12 5 rr sd ++ [(we, .inl (xI g, 24, .inl (fun j => iI (wt j)))), (le, .inl (xI g, 24, .inl (fun j => iI (lv j)))), (sa, .inl (xI g, 24, .inl (fun j => iI (stt j)))), (so2, .inl (xI g, 24, .inl (fun j => iI (oo j)))), (wn, .inl (xI g, 5, .inl (fun j => nI (wnt j))))])) := hD
  try dsimp only at hw_2
  refine lv_aload_n hx hb dX8_wouldTake_5 rfl (lv_at hl 0 rfl) ?_
  refine va_get (D := xD g) (ci := 8) (v := .ref ya) (C := RX8) (T := TX8) (N := 15) hx hb hts hFX8 hown hK hP 0 rfl rfl 13 (by decide) (hts (.fieldLink RX8 81 "Stevedore" "yard" "LStevedore$Yard;") (by decide +kernel)) (fun _ h9 => h9) rfl dX8_wouldTake_6 ?_
  refine lv_iload_n hx hb dX8_wouldTake_9 rfl (lv_at hl 1 rfl) ?_
  have hPc := hP.sub (ws' := ([(ya, .inr (7, [.int (nI sc), y1, y2, .ref li, .ref he, .ref so, .ref we, .ref le, .ref sa, .ref so2, .ref wn])), (li, .inl (xI g, 12, .inl (fun j => nI (lim j)))), (he, .inl (xI g, 12, .inl (fun j => nI (hgt j)))), (so, .inl (xM g, 12, .inr (.inr (.inr (.inr (fun i => if i < 12 then some (rr i) else none))))))] ++ (xRN (xI g) 12 5 rr sd ++ [(we, .inl (xI g, 24, .inl (fun j => iI (wt j)))), (le, .inl (xI g, 24, .inl (fun j => iI (lv j)))), (sa, .inl (xI g, 24, .inl (fun j => iI (stt j)))), (so2, .inl (xI g, 24, .inl (fun j => iI (oo j)))), (wn, .inl (xI g, 5, .inl (fun j => nI (wnt j))))]))) [2, 3, 4, 5, 6, 7, 8, 9, 10, 11, 12, 13, 14, 15, 16, 17, 18, 19, 20, 21, 22] rfl
  have hDc := hD.sub (ws' := ([(ya, .inr (7, [.int (nI sc), y1, y2, .ref li, .ref he, .ref so, .ref we, .ref le, .ref sa, .ref so2, .ref wn])), (li, .inl (xI g, 12, .inl (fun j => nI (lim j)))), (he, .inl (xI g, 12, .inl (fun j => nI (hgt j)))), (so, .inl (xM g, 12, .inr (.inr (.inr (.inr (fun i => if i < 12 then some (rr i) else none))))))] ++ (xRN (xI g) 12 5 rr sd ++ [(we, .inl (xI g, 24, .inl (fun j => iI (wt j)))), (le, .inl (xI g, 24, .inl (fun j => iI (lv j)))), (sa, .inl (xI g, 24, .inl (fun j => iI (stt j)))), (so2, .inl (xI g, 24, .inl (fun j => iI (oo j)))), (wn, .inl (xI g, 5, .inl (fun j => nI (wnt j))))]))) [2, 3, 4, 5, 6, 7, 8, 9, 10, 11, 12, 13, 14, 15, 16, 17, 18, 19, 20, 21, 22] (by decide) rfl
  have hFc := va_free (wc := ([(ya, .inr (7, [.int (nI sc), y1, y2, .ref li, .ref he, .ref so, .ref we, .ref le, .ref sa, .ref so2, .ref wn])), (li, .inl (xI g, 12, .inl (fun j => nI (lim j)))), (he, .inl (xI g, 12, .inl (fun j => nI (hgt j)))), (so, .inl (xM g, 12, .inr (.inr (.inr (.inr (fun i => if i < 12 then some (rr i) else none))))))] ++ (xRN (xI g) 12 5 rr sd ++ [(we, .inl (xI g, 24, .inl (fun j => iI (wt j)))), (le, .inl (xI g, 24, .inl (fun j => iI (lv j)))), (sa, .inl (xI g, 24, .inl (fun j => iI (stt j)))), (so2, .inl (xI g, 24, .inl (fun j => iI (oo j)))), (wn, .inl (xI g, 5, .inl (fun j => nI (wnt j))))]))) hD hS hA [2, 3, 4, 5, 6, 7, 8, 9, 10, 11, 12, 13, 14, 15, 16, 17, 18, 19, 20, 21, 22] rfl
  refine va_calli (va_runV (As := [.int (nI c_)]) (rest := []) ⟨hx, hb, hml, hown, hts⟩ (y_reshufflesToTake l g H.size ya li he so we le sa so2 wn sc c_ s9 n rr y1 y2 .null lim hgt sd wt lv stt oo wnt (by first | assumption | omega) (by first | assumption | omega) (by first | assumption | omega) (by first | assumption | omega) (by first | assumption | omega) (by first | assumption | omega) (by first | assumption | omega) (by first | assumption | omega) b_lim b_hgt b_sd b_wt b_lv b_stt b_oo b_wnt) (cwV 1 hts gX8_wouldTake_X7_reshufflesToTake rfl rfl rfl (by decide +kernel) ⟨Nat.le_of_ble_eq_true rfl, Nat.le_of_ble_eq_true rfl⟩) ⟨xB.blind, va_recv hK hPc (ci := 7) (q0 := 0) rfl rfl, fun U9 hU9 hW9 => ⟨rfl, xB.mk hPc hK hDc hU9 hW9⟩⟩ rfl rfl hl.1 rfl (lv_room (Nat.le_of_ble_eq_true rfl)) dX8_wouldTake_10 ⟨Nat.le_of_ble_eq_true rfl, Nat.le_of_ble_eq_true rfl⟩) hS (fun q _ h => hFc q h) hFc (fun r_3 _ t H1 locs ht hvm hw_4 hB hz1 hk1 hS => ?_)
  obtain ⟨wnt2_5, hb_6, hP1, hK1, hD1⟩ := hB
  rw [ht] at hP1
  obtain ⟨hP, hD⟩ := va_join (wr := [(st, .inr (8, [s0, s1, s2, s3, .ref ca, s5, s6, s7, s8, s9, s10, s11, s12, .ref ya, s14])), (ca, .inr (2, [.int (nI n), c1, c2, c3, c4, c5]))]) (w1 := ([(ya, .inr (7, [.int (nI sc), y1, y2, .ref li, .ref he, .ref so, .ref we, .ref le, .ref sa, .ref so2, .ref wn])), (li, .inl (xI g, 12, .inl (fun j => nI (lim j)))), (he, .inl (xI g, 12, .inl (fun j => nI (hgt j)))), (so, .inl (xM g, 12, .inr (.inr (.inr (.inr (fun i => if i < 12 then some (rr i) else none))))))] ++ (xRN (xI g) 12 5 rr sd ++ [(we, .inl (xI g, 24, .inl (fun j => iI (wt j)))), (le, .inl (xI g, 24, .inl (fun j => iI (lv j)))), (sa, .inl (xI g, 24, .inl (fun j => iI (stt j)))), (so2, .inl (xI g, 24, .inl (fun j => iI (oo j)))), (wn, .inl (xI g, 5, .inl (fun j => nI (wnt2_5 j))))]))) hP hD [2, 3, 4, 5, 6, 7, 8, 9, 10, 11, 12, 13, 14, 15, 16, 17, 18, 19, 20, 21, 22] [0, 1] rfl rfl (by decide) (by decide) hk1 hFc hP1 hD1
  generalize H1 = H at hP hS ⊢
  have hP : va_P (xD g) vwCl ([(st, .inr (8, [s0, s1, s2, s3, .ref ca, s5, s6, s7, s8, s9, s10, s11, s12, .ref ya, s14])), (ca, .inr (2, [.int (nI n), c1, c2, c3, c4, c5])), (ya, .inr (7, [.int (nI sc), y1, y2, .ref li, .ref he, .ref so, .ref we, .ref le, .ref sa, .ref so2, .ref wn])), (li, .inl (xI g, 12, .inl (fun j => nI (lim j)))), (he, .inl (xI g, 12, .inl (fun j => nI (hgt j)))), (so, .inl (xM g, 12, .inr (.inr (.inr (.inr (fun i => if i < 12 then some (rr i) else none))))))] ++ (xRN (xI g) 12 5 rr sd ++ [(we, .inl (xI g, 24, .inl (fun j => iI (wt j)))), (le, .inl (xI g, 24, .inl (fun j => iI (lv j)))), (sa, .inl (xI g, 24, .inl (fun j => iI (stt j)))), (so2, .inl (xI g, 24, .inl (fun j => iI (oo j)))), (wn, .inl (xI g, 5, .inl (fun j => nI (wnt2_5 j))))])) H := hP
  have hD : va_D A ([(st, .inr (8, [s0, s1, s2, s3, .ref ca, s5, s6, s7, s8, s9, s10, s11, s12, .ref ya, s14])), (ca, .inr (2, [.int (nI n), c1, c2, c3, c4, c5])), (ya, .inr (7, [.int (nI sc), y1, y2, .ref li, .ref he, .ref so, .ref we, .ref le, .ref sa, .ref so2, .ref wn])), (li, .inl (xI g, 12, .inl (fun j => nI (lim j)))), (he, .inl (xI g, 12, .inl (fun j => nI (hgt j)))), (so, .inl (xM g, 12, .inr (.inr (.inr (.inr (fun i => if i < 12 then some (rr i) else none))))))] ++ (xRN (xI g) 12 5 rr sd ++ [(we, .inl (xI g, 24, .inl (fun j => iI (wt j)))), (le, .inl (xI g, 24, .inl (fun j => iI (lv j)))), (sa, .inl (xI g, 24, .inl (fun j => iI (stt j)))), (so2, .inl (xI g, 24, .inl (fun j => iI (oo j)))), (wn, .inl (xI g, 5, .inl (fun j => nI (wnt2_5 j))))])) := hD
  try dsimp only at hw_4
  obtain rfl : r_3 = nI 0 := hw_4
  have hP9 := hP
  have hD9 := hD
  exact W.iret (v := nI 0) hx hb hr (fun t ht hW => ⟨⟨nI 0, (), rfl, (by first | trivial | rfl | assumption | omega), ⟨wnt2_5, hb_6, by rw [ht]; exact hP9, va_K.moved hW.alike hK, hD9⟩⟩, hS.F ht⟩) hS.2.2 dX8_wouldTake_13
theorem dX8_tidy_0 : decode cX8_tidy 0 = .ok (.iload_n 1, 1) := by decide +kernel
theorem dX8_tidy_1 : decode cX8_tidy 1 = .ok (.invokestatic 291, 3) := by decide +kernel
set_option maxRecDepth 20000 in
theorem ggX8_tidy_X8_needNotNegative : GoodIn wsX8_tidy wsX8_needNotNegative := goodIn_ca (goodIn_r _ [5, 6, 7] rfl (by decide +kernel)) (goodIn_sub (fun _ h => List.mem_cons_of_mem _ (List.mem_append_right _ h)) (by decide +kernel))
set_option maxRecDepth 20000 in
theorem gX8_tidy_X8_needNotNegative : GoodIn wsX8_tidy (va_wsS RX8 291 yX8_needNotNegative wsX8_needNotNegative) := goodIn_app (goodIn_of _ (by decide +kernel)) ggX8_tidy_X8_needNotNegative
theorem dX8_tidy_4 : decode cX8_tidy 4 = .ok (.aload_n 0, 1) := by decide +kernel
theorem dX8_tidy_5 : decode cX8_tidy 5 = .ok (.getfield 81, 3) := by decide +kernel
theorem dX8_tidy_8 : decode cX8_tidy 8 = .ok (.iload_n 1, 1) := by decide +kernel
theorem dX8_tidy_9 : decode cX8_tidy 9 = .ok (.invokevirtual 328, 3) := by decide +kernel
set_option maxRecDepth 20000 in
theorem ggX8_tidy_X7_tidyUp : GoodIn wsX8_tidy wsX7_tidyUp := goodIn_r _ [12, 13, 14, 15, 16, 11, 17, 18, 19, 20, 21, 22, 23, 24, 25, 26, 27, 28, 29, 30, 31, 32, 33, 34, 35, 36, 37, 38, 39, 40, 41, 42, 43, 44, 45, 46, 47, 48, 49, 50, 51, 52, 53, 54, 55, 56, 72, 73, 74, 75, 76, 77, 78, 79, 80, 81, 82] rfl (by decide +kernel)
set_option maxRecDepth 20000 in
theorem gX8_tidy_X7_tidyUp : GoodIn wsX8_tidy (wsV RX8 328 RX7 yX7_tidyUp wsX7_tidyUp) := goodIn_app (goodIn_of _ (by decide +kernel)) ggX8_tidy_X7_tidyUp
theorem dX8_tidy_12 : decode cX8_tidy 12 = .ok (.ireturn, 1) := by decide +kernel
set_option maxHeartbeats 4000000 in
set_option maxRecDepth 100000 in
theorem t_tidy (l : Launch) (g : xG) (sz : Nat) (st : Nat) (ya : Nat) (li : Nat) (he : Nat) (so : Nat) (we : Nat) (le : Nat) (so2 : Nat) (sc : Nat) (rs : Nat) (mo : Nat) (n : Nat) (stt : Nat → Int) (rr : Nat → Nat) (s0 : Value) (s1 : Value) (s2 : Value) (s3 : Value) (s4 : Value) (s5 : Value) (s6 : Value) (s7 : Value) (s8 : Value) (s9 : Value) (s10 : Value) (s11 : Value) (s12 : Value) (s14 : Value) (y2 : Value) (y8 : Value) (y10 : Value) (lim : Nat → Nat) (hgt : Nat → Nat) (sd : Nat → Nat → Nat) (wt : Nat → Int) (lv : Nat → Int) (oo : Nat → Int)  (hsc : sc ≤ 12) (hmo : mo < 1000000) (hok : yOk n sc lim (hgt, sd, oo) stt) (b_lim : ∀ j, lim j ≤ 5) (b_hgt : ∀ j, hgt j ≤ 5) (b_sd : ∀ i j, sd i j ≤ 23) (b_wt : ∀ j, 0 ≤ wt j ∧ wt j ≤ 1000) (b_lv : ∀ j, 0 ≤ lv j ∧ lv j ≤ 1000000) (b_oo : ∀ j, (-1) ≤ oo j ∧ oo j ≤ 11) : Met l yX8_tidy wsX8_tidy ({ frames := 5, cells := 0, slots := 0, locals := 116 }) (va_Pc [.ref st, .int (nI mo)] (fun U => xB g ([(st, .inr (8, [s0, s1, s2, s3, s4, s5, s6, s7, s8, s9, s10, s11, s12, .ref ya, s14])), (ya, .inr (7, [.int (nI sc), .int (nI rs), y2, .ref li, .ref he, .ref so, .ref we, .ref le, y8, .ref so2, y10])), (li, .inl (xI g, 12, .inl (fun j => nI (lim j)))), (he, .inl (xI g, 12, .inl (fun j => nI (hgt j)))), (so, .inl (xM g, 12, .inr (.inr (.inr (.inr (fun i => if i < 12 then some (rr i) else none))))))] ++ (xRN (xI g) 12 5 rr sd ++ [(we, .inl (xI g, 24, .inl (fun j => iI (wt j)))), (le, .inl (xI g, 24, .inl (fun j => iI (lv j)))), (so2, .inl (xI g, 24, .inl (fun j => iI (oo j))))])) sz U)) (va_Qi (fun (r : Int32) (u : yS × Nat) => r = nI u.2) (fun (u : yS × Nat) (t : State) => (yOk n sc lim u.1 stt ∧ yBl lv u.1.1 u.1.2.1 sc + u.2 = yBl lv hgt sd sc ∧ (u.2 = 0 → u.1 = (hgt, sd, oo)) ∧ u.2 ≤ mo) ∧ (∀ j, u.1.1 j ≤ 5) ∧ (∀ i j, u.1.2.1 i j ≤ 23) ∧ (∀ j, (-1) ≤ u.1.2.2 j ∧ u.1.2.2 j ≤ 11) ∧ xE g ([(st, .inr (8, [s0, s1, s2, s3, s4, s5, s6, s7, s8, s9, s10, s11, s12, .ref ya, s14])), (ya, .inr (7, [.int (nI sc), .int (nI (rs + u.2)), y2, .ref li, .ref he, .ref so, .ref we, .ref le, y8, .ref so2, y10])), (li, .inl (xI g, 12, .inl (fun j => nI (lim j)))), (he, .inl (xI g, 12, .inl (fun j => nI (u.1.1 j)))), (so, .inl (xM g, 12, .inr (.inr (.inr (.inr (fun i => if i < 12 then some (rr i) else none))))))] ++ (xRN (xI g) 12 5 rr u.1.2.1 ++ [(we, .inl (xI g, 24, .inl (fun j => iI (wt j)))), (le, .inl (xI g, 24, .inl (fun j => iI (lv j)))), (so2, .inl (xI g, 24, .inl (fun j => iI (u.1.2.2 j))))])) (va_A ([(st, .inr (8, [s0, s1, s2, s3, s4, s5, s6, s7, s8, s9, s10, s11, s12, .ref ya, s14])), (ya, .inr (7, [.int (nI sc), .int (nI rs), y2, .ref li, .ref he, .ref so, .ref we, .ref le, y8, .ref so2, y10])), (li, .inl (xI g, 12, .inl (fun j => nI (lim j)))), (he, .inl (xI g, 12, .inl (fun j => nI (hgt j)))), (so, .inl (xM g, 12, .inr (.inr (.inr (.inr (fun i => if i < 12 then some (rr i) else none))))))] ++ (xRN (xI g) 12 5 rr sd ++ [(we, .inl (xI g, 24, .inl (fun j => iI (wt j)))), (le, .inl (xI g, 24, .inl (fun j => iI (lv j)))), (so2, .inl (xI g, 24, .inl (fun j => iI (oo j))))])) sz) t) (va_A ([(st, .inr (8, [s0, s1, s2, s3, s4, s5, s6, s7, s8, s9, s10, s11, s12, .ref ya, s14])), (ya, .inr (7, [.int (nI sc), .int (nI rs), y2, .ref li, .ref he, .ref so, .ref we, .ref le, y8, .ref so2, y10])), (li, .inl (xI g, 12, .inl (fun j => nI (lim j)))), (he, .inl (xI g, 12, .inl (fun j => nI (hgt j)))), (so, .inl (xM g, 12, .inr (.inr (.inr (.inr (fun i => if i < 12 then some (rr i) else none))))))] ++ (xRN (xI g) 12 5 rr sd ++ [(we, .inl (xI g, 24, .inl (fun j => iI (wt j)))), (le, .inl (xI g, 24, .inl (fun j => iI (lv j)))), (so2, .inl (xI g, 24, .inl (fun j => iI (oo j))))])) sz)) 0 0 (va_A ([(st, .inr (8, [s0, s1, s2, s3, s4, s5, s6, s7, s8, s9, s10, s11, s12, .ref ya, s14])), (ya, .inr (7, [.int (nI sc), .int (nI rs), y2, .ref li, .ref he, .ref so, .ref we, .ref le, y8, .ref so2, y10])), (li, .inl (xI g, 12, .inl (fun j => nI (lim j)))), (he, .inl (xI g, 12, .inl (fun j => nI (hgt j)))), (so, .inl (xM g, 12, .inr (.inr (.inr (.inr (fun i => if i < 12 then some (rr i) else none))))))] ++ (xRN (xI g) 12 5 rr sd ++ [(we, .inl (xI g, 24, .inl (fun j => iI (wt j)))), (le, .inl (xI g, 24, .inl (fun j => iI (lv j)))), (so2, .inl (xI g, 24, .inl (fun j => iI (oo j))))])) sz) := by
  refine Met.ofW (cc := cX8_tidy) (maxL := 2) (ret := (some .int)) (by decide) rfl ?_
  intro p e s m args below meth c s₁ B hml hv
  obtain ⟨rfl, hsz, hP, hK, hD0⟩ := hv
  have hx := B.exec
  have hb := B.bytes
  have hr := B.returns
  have hts := atoms_spec (ws := wsX8_tidy) B.pre
  have hown : s.vm.findClass RX8 = some m.cls := findClass_of_methodNamed B.named
  have hlocks := B.notSynchronized
  subst hsz
  have hD := hD0.self (sz := s.heap.size)
  generalize hAe : va_A ([(st, .inr (8, [s0, s1, s2, s3, s4, s5, s6, s7, s8, s9, s10, s11, s12, .ref ya, s14])), (ya, .inr (7, [.int (nI sc), .int (nI rs), y2, .ref li, .ref he, .ref so, .ref we, .ref le, y8, .ref so2, y10])), (li, .inl (xI g, 12, .inl (fun j => nI (lim j)))), (he, .inl (xI g, 12, .inl (fun j => nI (hgt j)))), (so, .inl (xM g, 12, .inr (.inr (.inr (.inr (fun i => if i < 12 then some (rr i) else none))))))] ++ (xRN (xI g) 12 5 rr sd ++ [(we, .inl (xI g, 24, .inl (fun j => iI (wt j)))), (le, .inl (xI g, 24, .inl (fun j => iI (lv j)))), (so2, .inl (xI g, 24, .inl (fun j => iI (oo j))))])) s.heap.size = A at hD ⊢
  have hA : ∀ q : Nat, s.heap.size ≤ q → A q := fun q h => by rw [← hAe]; exact Or.inr h
  have hS : va_S A s.heap s.heap [] := va_S.rf
  have hl := lv_entry ([.ref st, .int (nI mo)]) (n := 2) (Nat.le_of_ble_eq_true rfl)
  rw [lg_entry_eq]
  generalize (lg_sl ([.ref st, .int (nI mo)]) ++ List.replicate (2 - (lg_sl ([.ref st, .int (nI mo)])).length) Slot.unset).toArray = ls at hl ⊢
  have hl : lv_has ls 2 [(0, .ref st), (1, .int (nI mo))] := hl
  have hFX8 : ∀ w ∈ u_ws RX8 TX8 15, w ∈ wsX8_tidy := by decide +kernel
  refine lv_iload_n hx hb dX8_tidy_0 rfl (lv_at hl 1 rfl) ?_
  have hPc := hP.sub (ws' := []) [] rfl
  have hDc := hD.sub (ws' := []) [] (by decide) rfl
  have hFc := xFree hS hA
  refine va_callv (va_runS (As := [.int (nI mo)]) (rest := []) ⟨hx, hb, hml, hown, hts⟩ (n_notNegative l g s.heap.size ((mo : Nat) : Int) (by first | assumption | omega)) (va_cwS 1 hts gX8_tidy_X8_needNotNegative rfl rfl rfl (by decide +kernel) ⟨Nat.le_of_ble_eq_true rfl, Nat.le_of_ble_eq_true rfl⟩) ⟨xB.blind, fun U9 hU9 hW9 => ⟨rfl, xB.mk hPc hK hDc hU9 hW9⟩⟩ rfl rfl hl.1 rfl (lv_room (Nat.le_of_ble_eq_true rfl)) dX8_tidy_1 ⟨Nat.le_of_ble_eq_true rfl, Nat.le_of_ble_eq_true rfl⟩) hS (fun q _ h => hFc q h) hFc (fun _ t H1 locs ht hvm hw_2 hB hz1 hk1 hS => ?_)
  have hP := xSame hP hk1
  generalize H1 = H at hP hS ⊢
  have hP : va_P (xD g) vwCl ([(st, .inr (8, [s0, s1, s2, s3, s4, s5, s6, s7, s8, s9, s10, s11, s12, .ref ya, s14])), (ya, .inr (7, [.int (nI sc), .int (nI rs), y2, .ref li, .ref he, .ref so, .ref we, .ref le, y8, .ref so2, y10])), (li, .inl (xI g, 12, .inl (fun j => nI (lim j)))), (he, .inl (xI g, 12, .inl (fun j => nI (hgt j)))), (so, .inl (xM g, 12, .inr (.inr (.inr (.inr (fun i => if i < 12 then some (rr i) else none))))))] ++ (xRN (xI g) 12 5 rr sd ++ [(we, .inl (xI g, 24, .inl (fun j => iI (wt j)))), (le, .inl (xI g, 24, .inl (fun j => iI (lv j)))), (so2, .inl (xI g, 24, .inl (fun j => iI (oo j))))])) H := hP
  have hD : va_D A ([(st, .inr (8, [s0, s1, s2, s3, s4, s5, s6, s7, s8, s9, s10, s11, s12, .ref ya, s14])), (ya, .inr (7, [.int (nI sc), .int (nI rs), y2, .ref li, .ref he, .ref so, .ref we, .ref le, y8, .ref so2, y10])), (li, .inl (xI g, 12, .inl (fun j => nI (lim j)))), (he, .inl (xI g, 12, .inl (fun j => nI (hgt j)))), (so, .inl (xM g, 12, .inr (.inr (.inr (.inr (fun i => if i < 12 then some (rr i) else none))))))] ++ (xRN (xI g) 12 5 rr sd ++ [(we, .inl (xI g, 24, .inl (fun j => iI (wt j)))), (le, .inl (xI g, 24, .inl (fun j => iI (lv j)))), (so2, .inl (xI g, 24, .inl (fun j => iI (oo j))))])) := hD
  try dsimp only at hw_2
  refine lv_aload_n hx hb dX8_tidy_4 rfl (lv_at hl 0 rfl) ?_
  refine va_get (D := xD g) (ci := 8) (v := .ref ya) (C := RX8) (T := TX8) (N := 15) hx hb hts hFX8 hown hK hP 0 rfl rfl 13 (by decide) (hts (.fieldLink RX8 81 "Stevedore" "yard" "LStevedore$Yard;") (by decide +kernel)) (fun _ h9 => h9) rfl dX8_tidy_5 ?_
  refine lv_iload_n hx hb dX8_tidy_8 rfl (lv_at hl 1 rfl) ?_
  have hPc := hP.sub (ws' := ([(ya, .inr (7, [.int (nI sc), .int (nI rs), y2, .ref li, .ref he, .ref so, .ref we, .ref le, y8, .ref so2, y10])), (li, .inl (xI g, 12, .inl (fun j => nI (lim j)))), (he, .inl (xI g, 12, .inl (fun j => nI (hgt j)))), (so, .inl (xM g, 12, .inr (.inr (.inr (.inr (fun i => if i < 12 then some (rr i) else none))))))] ++ (xRN (xI g) 12 5 rr sd ++ [(we, .inl (xI g, 24, .inl (fun j => iI (wt j)))), (le, .inl (xI g, 24, .inl (fun j => iI (lv j)))), (so2, .inl (xI g, 24, .inl (fun j => iI (oo j))))]))) [1, 2, 3, 4, 5, 6, 7, 8, 9, 10, 11, 12, 13, 14, 15, 16, 17, 18, 19] rfl
  have hDc := hD.sub (ws' := ([(ya, .inr (7, [.int (nI sc), .int (nI rs), y2, .ref li, .ref he, .ref so, .ref we, .ref le, y8, .ref so2, y10])), (li, .inl (xI g, 12, .inl (fun j => nI (lim j)))), (he, .inl (xI g, 12, .inl (fun j => nI (hgt j)))), (so, .inl (xM g, 12, .inr (.inr (.inr (.inr (fun i => if i < 12 then some (rr i) else none))))))] ++ (xRN (xI g) 12 5 rr sd ++ [(we, .inl (xI g, 24, .inl (fun j => iI (wt j)))), (le, .inl (xI g, 24, .inl (fun j => iI (lv j)))), (so2, .inl (xI g, 24, .inl (fun j => iI (oo j))))]))) [1, 2, 3, 4, 5, 6, 7, 8, 9, 10, 11, 12, 13, 14, 15, 16, 17, 18, 19] (by decide) rfl
  have hFc := va_free (wc := ([(ya, .inr (7, [.int (nI sc), .int (nI rs), y2, .ref li, .ref he, .ref so, .ref we, .ref le, y8, .ref so2, y10])), (li, .inl (xI g, 12, .inl (fun j => nI (lim j)))), (he, .inl (xI g, 12, .inl (fun j => nI (hgt j)))), (so, .inl (xM g, 12, .inr (.inr (.inr (.inr (fun i => if i < 12 then some (rr i) else none))))))] ++ (xRN (xI g) 12 5 rr sd ++ [(we, .inl (xI g, 24, .inl (fun j => iI (wt j)))), (le, .inl (xI g, 24, .inl (fun j => iI (lv j)))), (so2, .inl (xI g, 24, .inl (fun j => iI (oo j))))]))) hD hS hA [1, 2, 3, 4, 5, 6, 7, 8, 9, 10, 11, 12, 13, 14, 15, 16, 17, 18, 19] rfl
  refine va_calli (va_runV (As := [.int (nI mo)]) (rest := []) ⟨hx, hb, hml, hown, hts⟩ (y_tidyUp l g H.size ya li he so we le so2 sc rs mo n stt rr y2 y8 y10 lim hgt sd wt lv oo (by first | assumption | omega) (by first | assumption | omega) (by first | assumption | omega) b_lim b_hgt b_sd b_wt b_lv b_oo) (cwV 1 hts gX8_tidy_X7_tidyUp rfl rfl rfl (by decide +kernel) ⟨Nat.le_of_ble_eq_true rfl, Nat.le_of_ble_eq_true rfl⟩) ⟨xB.blind, va_recv hK hPc (ci := 7) (q0 := 0) rfl rfl, fun U9 hU9 hW9 => ⟨rfl, xB.mk hPc hK hDc hU9 hW9⟩⟩ rfl rfl hl.1 rfl (lv_room (Nat.le_of_ble_eq_true rfl)) dX8_tidy_9 ⟨Nat.le_of_ble_eq_true rfl, Nat.le_of_ble_eq_true rfl⟩) hS (fun q _ h => hFc q h) hFc (fun r_3 u_5 t H1 locs ht hvm hw_4 hB hz1 hk1 hS => ?_)
  obtain ⟨hc_6, hb_7, hb_8, hb_9, hP1, hK1, hD1⟩ := hB
  rw [ht] at hP1
  obtain ⟨hP, hD⟩ := va_join (wr := [(st, .inr (8, [s0, s1, s2, s3, s4, s5, s6, s7, s8, s9, s10, s11, s12, .ref ya, s14]))]) (w1 := ([(ya, .inr (7, [.int (nI sc), .int (nI (rs + u_5.2)), y2, .ref li, .ref he, .ref so, .ref we, .ref le, y8, .ref so2, y10])), (li, .inl (xI g, 12, .inl (fun j => nI (lim j)))), (he, .inl (xI g, 12, .inl (fun j => nI (u_5.1.1 j)))), (so, .inl (xM g, 12, .inr (.inr (.inr (.inr (fun i => if i < 12 then some (rr i) else none))))))] ++ (xRN (xI g) 12 5 rr u_5.1.2.1 ++ [(we, .inl (xI g, 24, .inl (fun j => iI (wt j)))), (le, .inl (xI g, 24, .inl (fun j => iI (lv j)))), (so2, .inl (xI g, 24, .inl (fun j => iI (u_5.1.2.2 j))))]))) hP hD [1, 2, 3, 4, 5, 6, 7, 8, 9, 10, 11, 12, 13, 14, 15, 16, 17, 18, 19] [0] rfl rfl (by decide) (by decide) hk1 hFc hP1 hD1
  generalize H1 = H at hP hS ⊢
  have hP : va_P (xD g) vwCl ([(st, .inr (8, [s0, s1, s2, s3, s4, s5, s6, s7, s8, s9, s10, s11, s12, .ref ya, s14])), (ya, .inr (7, [.int (nI sc), .int (nI (rs + u_5.2)), y2, .ref li, .ref he, .ref so, .ref we, .ref le, y8, .ref so2, y10])), (li, .inl (xI g, 12, .inl (fun j => nI (lim j)))), (he, .inl (xI g, 12, .inl (fun j => nI (u_5.1.1 j)))), (so, .inl (xM g, 12, .inr (.inr (.inr (.inr (fun i => if i < 12 then some (rr i) else none))))))] ++ (xRN (xI g) 12 5 rr u_5.1.2.1 ++ [(we, .inl (xI g, 24, .inl (fun j => iI (wt j)))), (le, .inl (xI g, 24, .inl (fun j => iI (lv j)))), (so2, .inl (xI g, 24, .inl (fun j => iI (u_5.1.2.2 j))))])) H := hP
  have hD : va_D A ([(st, .inr (8, [s0, s1, s2, s3, s4, s5, s6, s7, s8, s9, s10, s11, s12, .ref ya, s14])), (ya, .inr (7, [.int (nI sc), .int (nI (rs + u_5.2)), y2, .ref li, .ref he, .ref so, .ref we, .ref le, y8, .ref so2, y10])), (li, .inl (xI g, 12, .inl (fun j => nI (lim j)))), (he, .inl (xI g, 12, .inl (fun j => nI (u_5.1.1 j)))), (so, .inl (xM g, 12, .inr (.inr (.inr (.inr (fun i => if i < 12 then some (rr i) else none))))))] ++ (xRN (xI g) 12 5 rr u_5.1.2.1 ++ [(we, .inl (xI g, 24, .inl (fun j => iI (wt j)))), (le, .inl (xI g, 24, .inl (fun j => iI (lv j)))), (so2, .inl (xI g, 24, .inl (fun j => iI (u_5.1.2.2 j))))])) := hD
  try dsimp only at hw_4
  have hP9 := hP
  have hD9 := hD
  exact W.iret (v := r_3) hx hb hr (fun t ht hW => ⟨⟨r_3, u_5, rfl, hw_4, ⟨hc_6, hb_7, hb_8, hb_9, by rw [ht]; exact hP9, va_K.moved hW.alike hK, hD9⟩⟩, hS.F ht⟩) hS.2.2 dX8_tidy_12
theorem dX8_work_0 : decode cX8_work 0 = .ok (.iload_n 1, 1) := by decide +kernel
theorem dX8_work_1 : decode cX8_work 1 = .ok (.invokestatic 291, 3) := by decide +kernel
set_option maxRecDepth 20000 in
theorem ggX8_work_X8_needNotNegative : GoodIn wsX8_work wsX8_needNotNegative := goodIn_ca (goodIn_r _ [7, 8, 9] rfl (by decide +kernel)) (goodIn_sub (fun _ h => List.mem_cons_of_mem _ (List.mem_append_left _ (List.mem_append_right _ h))) (by decide +kernel))
set_option maxRecDepth 20000 in
theorem gX8_work_X8_needNotNegative : GoodIn wsX8_work (va_wsS RX8 291 yX8_needNotNegative wsX8_needNotNegative) := goodIn_app (goodIn_of _ (by decide +kernel)) ggX8_work_X8_needNotNegative
theorem dX8_work_4 : decode cX8_work 4 = .ok (.aload_n 0, 1) := by decide +kernel
theorem dX8_work_5 : decode cX8_work 5 = .ok (.invokevirtual 274, 3) := by decide +kernel
set_option maxRecDepth 20000 in
theorem ggX8_work_X8_needSlots : GoodIn wsX8_work wsX8_needSlots := goodIn_ca (goodIn_r _ [13, 14, 15, 16, 95, 96, 97, 98, 99, 100, 101, 102, 103, 104, 105, 106, 107, 108, 109] rfl (by decide +kernel)) (goodIn_sub (fun _ h => List.mem_cons_of_mem _ (List.mem_append_right _ h)) (by decide +kernel))
set_option maxRecDepth 20000 in
theorem gX8_work_X8_needSlots : GoodIn wsX8_work (wsV RX8 274 RX8 yX8_needSlots wsX8_needSlots) := goodIn_app (goodIn_of _ (by decide +kernel)) ggX8_work_X8_needSlots
theorem dX8_work_8 : decode cX8_work 8 = .ok (.aload_n 0, 1) := by decide +kernel
theorem dX8_work_9 : decode cX8_work 9 = .ok (.getfield 81, 3) := by decide +kernel
theorem dX8_work_12 : decode cX8_work 12 = .ok (.aload_n 0, 1) := by decide +kernel
theorem dX8_work_13 : decode cX8_work 13 = .ok (.getfield 74, 3) := by decide +kernel
theorem dX8_work_16 : decode cX8_work 16 = .ok (.iload_n 1, 1) := by decide +kernel
theorem dX8_work_17 : decode cX8_work 17 = .ok (.invokevirtual 294, 3) := by decide +kernel
set_option maxRecDepth 20000 in
theorem ggX8_work_X7_workOff : GoodIn wsX8_work wsX7_workOff := goodIn_r _ [21, 22, 23, 24, 25, 26, 27, 28, 29, 30, 31, 32, 33, 34, 35, 36, 20, 37, 38, 39, 40, 41, 42, 43, 44, 45, 46, 47, 48, 49, 50, 51, 52, 53, 54, 55, 56, 57, 58, 59, 60, 61, 62, 63, 64, 65, 66, 67, 68, 69, 70, 71, 72, 73, 74, 75, 76, 77, 78, 79, 80, 81, 82, 83, 84, 85, 86, 87, 88, 89, 90, 91, 92, 93, 94, 110, 111, 112, 113, 114, 115, 116, 117, 118, 119, 120, 121, 122] rfl (by decide +kernel)
set_option maxRecDepth 20000 in
theorem gX8_work_X7_workOff : GoodIn wsX8_work (wsV RX8 294 RX7 yX7_workOff wsX7_workOff) := goodIn_app (goodIn_of _ (by decide +kernel)) ggX8_work_X7_workOff
theorem dX8_work_20 : decode cX8_work 20 = .ok (.aload_n 0, 1) := by decide +kernel
theorem dX8_work_21 : decode cX8_work 21 = .ok (.getfield 81, 3) := by decide +kernel
theorem dX8_work_24 : decode cX8_work 24 = .ok (.getfield 298, 3) := by decide +kernel
theorem dX8_work_27 : decode cX8_work 27 = .ok (.ireturn, 1) := by decide +kernel
set_option maxHeartbeats 4000000 in
set_option maxRecDepth 100000 in
theorem t_work (l : Launch) (g : xG) (sz : Nat) (st : Nat) (ya : Nat) (li : Nat) (he : Nat) (so : Nat) (we : Nat) (le : Nat) (sa : Nat) (so2 : Nat) (wn : Nat) (ag : Nat) (ky : Nat) (sc : Nat) (rs : Nat) (wo : Nat) (cnt : Nat) (mo : Nat) (n : Nat) (rr : Nat → Nat) (s0 : Value) (s1 : Value) (s2 : Value) (s3 : Value) (s4 : Value) (s5 : Value) (s6 : Value) (s7 : Value) (s8 : Value) (s9 : Value) (s11 : Value) (s14 : Value) (lim : Nat → Nat) (hgt : Nat → Nat) (sd : Nat → Nat → Nat) (wt : Nat → Int) (lv : Nat → Int) (stt : Nat → Int) (oo : Nat → Int) (wnt : Nat → Nat) (kf : Nat → Nat)  (hsc : sc ≤ 12) (hn : n ≤ 24) (hcnt : cnt ≤ 48) (hwo : wo ≤ cnt) (hmo : mo ≤ 1000000) (G : yAg n kf cnt) (hI : yInv n sc lim kf (((hgt, sd, oo), stt), rs) wo) (b_lim : ∀ j, lim j ≤ 5) (b_hgt : ∀ j, hgt j ≤ 5) (b_sd : ∀ i j, sd i j ≤ 23) (b_wt : ∀ j, 0 ≤ wt j ∧ wt j ≤ 1000) (b_lv : ∀ j, 0 ≤ lv j ∧ lv j ≤ 1000000) (b_stt : ∀ j, 0 ≤ stt j ∧ stt j ≤ 4) (b_oo : ∀ j, (-1) ≤ oo j ∧ oo j ≤ 11) (b_wnt : ∀ j, wnt j ≤ 11) (b_kf : ∀ j, kf j ≤ 100000000) : Met l yX8_work wsX8_work ({ frames := 6, cells := 0, slots := 0, locals := 145 }) (va_Pc [.ref st, .int (nI mo)] (fun U => xB g ([(st, .inr (8, [s0, s1, s2, s3, s4, s5, s6, s7, s8, s9, .int 1, s11, .ref ag, .ref ya, s14])), (ya, .inr (7, [.int (nI sc), .int (nI rs), .int (nI wo), .ref li, .ref he, .ref so, .ref we, .ref le, .ref sa, .ref so2, .ref wn])), (li, .inl (xI g, 12, .inl (fun j => nI (lim j)))), (he, .inl (xI g, 12, .inl (fun j => nI (hgt j)))), (so, .inl (xM g, 12, .inr (.inr (.inr (.inr (fun i => if i < 12 then some (rr i) else none))))))] ++ (xRN (xI g) 12 5 rr sd ++ [(we, .inl (xI g, 24, .inl (fun j => iI (wt j)))), (le, .inl (xI g, 24, .inl (fun j => iI (lv j)))), (sa, .inl (xI g, 24, .inl (fun j => iI (stt j)))), (so2, .inl (xI g, 24, .inl (fun j => iI (oo j)))), (wn, .inl (xI g, 5, .inl (fun j => nI (wnt j)))), (ag, .inr (0, [.int (nI cnt), .ref ky])), (ky, .inl (xI g, 48, .inl (fun j => nI (kf j))))])) sz U)) (va_Qi (fun (r : Int32) (u : Nat) => r = nI (wo + u)) (fun (u : Nat) (t : State) => ∃ (wnt2 : Nat → Nat), (u ≤ mo ∧ wo + u ≤ cnt ∧ (u = mo ∨ wo + u = cnt) ∧ yInv n sc lim kf (yRun sc lim wt lv kf wo (((hgt, sd, oo), stt), rs) u) (wo + u)) ∧ (∀ j, ((yRun sc lim wt lv kf wo (((hgt, sd, oo), stt), rs) u).1.1.1) j ≤ 5) ∧ (∀ i j, ((yRun sc lim wt lv kf wo (((hgt, sd, oo), stt), rs) u).1.1.2.1) i j ≤ 23) ∧ (∀ j, 0 ≤ ((yRun sc lim wt lv kf wo (((hgt, sd, oo), stt), rs) u).1.2) j ∧ ((yRun sc lim wt lv kf wo (((hgt, sd, oo), stt), rs) u).1.2) j ≤ 4) ∧ (∀ j, (-1) ≤ ((yRun sc lim wt lv kf wo (((hgt, sd, oo), stt), rs) u).1.1.2.2) j ∧ ((yRun sc lim wt lv kf wo (((hgt, sd, oo), stt), rs) u).1.1.2.2) j ≤ 11) ∧ (∀ j, wnt2 j ≤ 11) ∧ xE g ([(st, .inr (8, [s0, s1, s2, s3, s4, s5, s6, s7, s8, s9, .int 1, s11, .ref ag, .ref ya, s14])), (ya, .inr (7, [.int (nI sc), .int (nI ((yRun sc lim wt lv kf wo (((hgt, sd, oo), stt), rs) u).2)), .int (nI (wo + u)), .ref li, .ref he, .ref so, .ref we, .ref le, .ref sa, .ref so2, .ref wn])), (li, .inl (xI g, 12, .inl (fun j => nI (lim j)))), (he, .inl (xI g, 12, .inl (fun j => nI (((yRun sc lim wt lv kf wo (((hgt, sd, oo), stt), rs) u).1.1.1) j)))), (so, .inl (xM g, 12, .inr (.inr (.inr (.inr (fun i => if i < 12 then some (rr i) else none))))))] ++ (xRN (xI g) 12 5 rr ((yRun sc lim wt lv kf wo (((hgt, sd, oo), stt), rs) u).1.1.2.1) ++ [(we, .inl (xI g, 24, .inl (fun j => iI (wt j)))), (le, .inl (xI g, 24, .inl (fun j => iI (lv j)))), (sa, .inl (xI g, 24, .inl (fun j => iI (((yRun sc lim wt lv kf wo (((hgt, sd, oo), stt), rs) u).1.2) j)))), (so2, .inl (xI g, 24, .inl (fun j => iI (((yRun sc lim wt lv kf wo (((hgt, sd, oo), stt), rs) u).1.1.2.2) j)))), (wn, .inl (xI g, 5, .inl (fun j => nI (wnt2 j)))), (ag, .inr (0, [.int (nI cnt), .ref ky])), (ky, .inl (xI g, 48, .inl (fun j => nI (kf j))))])) (va_A ([(st, .inr (8, [s0, s1, s2, s3, s4, s5, s6, s7, s8, s9, .int 1, s11, .ref ag, .ref ya, s14])), (ya, .inr (7, [.int (nI sc), .int (nI rs), .int (nI wo), .ref li, .ref he, .ref so, .ref we, .ref le, .ref sa, .ref so2, .ref wn])), (li, .inl (xI g, 12, .inl (fun j => nI (lim j)))), (he, .inl (xI g, 12, .inl (fun j => nI (hgt j)))), (so, .inl (xM g, 12, .inr (.inr (.inr (.inr (fun i => if i < 12 then some (rr i) else none))))))] ++ (xRN (xI g) 12 5 rr sd ++ [(we, .inl (xI g, 24, .inl (fun j => iI (wt j)))), (le, .inl (xI g, 24, .inl (fun j => iI (lv j)))), (sa, .inl (xI g, 24, .inl (fun j => iI (stt j)))), (so2, .inl (xI g, 24, .inl (fun j => iI (oo j)))), (wn, .inl (xI g, 5, .inl (fun j => nI (wnt j)))), (ag, .inr (0, [.int (nI cnt), .ref ky])), (ky, .inl (xI g, 48, .inl (fun j => nI (kf j))))])) sz) t) (va_A ([(st, .inr (8, [s0, s1, s2, s3, s4, s5, s6, s7, s8, s9, .int 1, s11, .ref ag, .ref ya, s14])), (ya, .inr (7, [.int (nI sc), .int (nI rs), .int (nI wo), .ref li, .ref he, .ref so, .ref we, .ref le, .ref sa, .ref so2, .ref wn])), (li, .inl (xI g, 12, .inl (fun j => nI (lim j)))), (he, .inl (xI g, 12, .inl (fun j => nI (hgt j)))), (so, .inl (xM g, 12, .inr (.inr (.inr (.inr (fun i => if i < 12 then some (rr i) else none))))))] ++ (xRN (xI g) 12 5 rr sd ++ [(we, .inl (xI g, 24, .inl (fun j => iI (wt j)))), (le, .inl (xI g, 24, .inl (fun j => iI (lv j)))), (sa, .inl (xI g, 24, .inl (fun j => iI (stt j)))), (so2, .inl (xI g, 24, .inl (fun j => iI (oo j)))), (wn, .inl (xI g, 5, .inl (fun j => nI (wnt j)))), (ag, .inr (0, [.int (nI cnt), .ref ky])), (ky, .inl (xI g, 48, .inl (fun j => nI (kf j))))])) sz)) 0 0 (va_A ([(st, .inr (8, [s0, s1, s2, s3, s4, s5, s6, s7, s8, s9, .int 1, s11, .ref ag, .ref ya, s14])), (ya, .inr (7, [.int (nI sc), .int (nI rs), .int (nI wo), .ref li, .ref he, .ref so, .ref we, .ref le, .ref sa, .ref so2, .ref wn])), (li, .inl (xI g, 12, .inl (fun j => nI (lim j)))), (he, .inl (xI g, 12, .inl (fun j => nI (hgt j)))), (so, .inl (xM g, 12, .inr (.inr (.inr (.inr (fun i => if i < 12 then some (rr i) else none))))))] ++ (xRN (xI g) 12 5 rr sd ++ [(we, .inl (xI g, 24, .inl (fun j => iI (wt j)))), (le, .inl (xI g, 24, .inl (fun j => iI (lv j)))), (sa, .inl (xI g, 24, .inl (fun j => iI (stt j)))), (so2, .inl (xI g, 24, .inl (fun j => iI (oo j)))), (wn, .inl (xI g, 5, .inl (fun j => nI (wnt j)))), (ag, .inr (0, [.int (nI cnt), .ref ky])), (ky, .inl (xI g, 48, .inl (fun j => nI (kf j))))])) sz) := by
  refine Met.ofW (cc := cX8_work) (maxL := 2) (ret := (some .int)) (by decide) rfl ?_
  intro p e s m args below meth c s₁ B hml hv
  obtain ⟨rfl, hsz, hP, hK, hD0⟩ := hv
  have hx := B.exec
  have hb := B.bytes
  have hr := B.returns
  have hts := atoms_spec (ws := wsX8_work) B.pre
  have hown : s.vm.findClass RX8 = some m.cls := findClass_of_methodNamed B.named
  have hlocks := B.notSynchronized
  subst hsz
  have hD := hD0.self (sz := s.heap.size)
  generalize hAe : va_A ([(st, .inr (8, [s0, s1, s2, s3, s4, s5, s6, s7, s8, s9, .int 1, s11, .ref ag, .ref ya, s14])), (ya, .inr (7, [.int (nI sc), .int (nI rs), .int (nI wo), .ref li, .ref he, .ref so, .ref we, .ref le, .ref sa, .ref so2, .ref wn])), (li, .inl (xI g, 12, .inl (fun j => nI (lim j)))), (he, .inl (xI g, 12, .inl (fun j => nI (hgt j)))), (so, .inl (xM g, 12, .inr (.inr (.inr (.inr (fun i => if i < 12 then some (rr i) else none))))))] ++ (xRN (xI g) 12 5 rr sd ++ [(we, .inl (xI g, 24, .inl (fun j => iI (wt j)))), (le, .inl (xI g, 24, .inl (fun j => iI (lv j)))), (sa, .inl (xI g, 24, .inl (fun j => iI (stt j)))), (so2, .inl (xI g, 24, .inl (fun j => iI (oo j)))), (wn, .inl (xI g, 5, .inl (fun j => nI (wnt j)))), (ag, .inr (0, [.int (nI cnt), .ref ky])), (ky, .inl (xI g, 48, .inl (fun j => nI (kf j))))])) s.heap.size = A at hD ⊢
  have hA : ∀ q : Nat, s.heap.size ≤ q → A q := fun q h => by rw [← hAe]; exact Or.inr h
  have hS : va_S A s.heap s.heap [] := va_S.rf
  have hl := lv_entry ([.ref st, .int (nI mo)]) (n := 2) (Nat.le_of_ble_eq_true rfl)
  rw [lg_entry_eq]
  generalize (lg_sl ([.ref st, .int (nI mo)]) ++ List.replicate (2 - (lg_sl ([.ref st, .int (nI mo)])).length) Slot.unset).toArray = ls at hl ⊢
  have hl : lv_has ls 2 [(0, .ref st), (1, .int (nI mo))] := hl
  have hFX7 : ∀ w ∈ u_ws RX7 TX7 11, w ∈ wsX8_work := by decide +kernel
  have hFX8 : ∀ w ∈ u_ws RX8 TX8 15, w ∈ wsX8_work := by decide +kernel
  refine lv_iload_n hx hb dX8_work_0 rfl (lv_at hl 1 rfl) ?_
  have hPc := hP.sub (ws' := []) [] rfl
  have hDc := hD.sub (ws' := []) [] (by decide) rfl
  have hFc := xFree hS hA
  refine va_callv (va_runS (As := [.int (nI mo)]) (rest := []) ⟨hx, hb, hml, hown, hts⟩ (n_notNegative l g s.heap.size ((mo : Nat) : Int) (by first | assumption | omega)) (va_cwS 1 hts gX8_work_X8_needNotNegative rfl rfl rfl (by decide +kernel) ⟨Nat.le_of_ble_eq_true rfl, Nat.le_of_ble_eq_true rfl⟩) ⟨xB.blind, fun U9 hU9 hW9 => ⟨rfl, xB.mk hPc hK hDc hU9 hW9⟩⟩ rfl rfl hl.1 rfl (lv_room (Nat.le_of_ble_eq_true rfl)) dX8_work_1 ⟨Nat.le_of_ble_eq_true rfl, Nat.le_of_ble_eq_true rfl⟩) hS (fun q _ h => hFc q h) hFc (fun _ t H1 locs ht hvm hw_2 hB hz1 hk1 hS => ?_)
  have hP := xSame hP hk1
  generalize H1 = H at hP hS ⊢
  have hP : va_P (xD g) vwCl ([(st, .inr (8, [s0, s1, s2, s3, s4, s5, s6, s7, s8, s9, .int 1, s11, .ref ag, .ref ya, s14])), (ya, .inr (7, [.int (nI sc), .int (nI rs), .int (nI wo), .ref li, .ref he, .ref so, .ref we, .ref le, .ref sa, .ref so2, .ref wn])), (li, .inl (xI g, 12, .inl (fun j => nI (lim j)))), (he, .inl (xI g, 12, .inl (fun j => nI (hgt j)))), (so, .inl (xM g, 12, .inr (.inr (.inr (.inr (fun i => if i < 12 then some (rr i) else none))))))] ++ (xRN (xI g) 12 5 rr sd ++ [(we, .inl (xI g, 24, .inl (fun j => iI (wt j)))), (le, .inl (xI g, 24, .inl (fun j => iI (lv j)))), (sa, .inl (xI g, 24, .inl (fun j => iI (stt j)))), (so2, .inl (xI g, 24, .inl (fun j => iI (oo j)))), (wn, .inl (xI g, 5, .inl (fun j => nI (wnt j)))), (ag, .inr (0, [.int (nI cnt), .ref ky])), (ky, .inl (xI g, 48, .inl (fun j => nI (kf j))))])) H := hP
  have hD : va_D A ([(st, .inr (8, [s0, s1, s2, s3, s4, s5, s6, s7, s8, s9, .int 1, s11, .ref ag, .ref ya, s14])), (ya, .inr (7, [.int (nI sc), .int (nI rs), .int (nI wo), .ref li, .ref he, .ref so, .ref we, .ref le, .ref sa, .ref so2, .ref wn])), (li, .inl (xI g, 12, .inl (fun j => nI (lim j)))), (he, .inl (xI g, 12, .inl (fun j => nI (hgt j)))), (so, .inl (xM g, 12, .inr (.inr (.inr (.inr (fun i => if i < 12 then some (rr i) else none))))))] ++ (xRN (xI g) 12 5 rr sd ++ [(we, .inl (xI g, 24, .inl (fun j => iI (wt j)))), (le, .inl (xI g, 24, .inl (fun j => iI (lv j)))), (sa, .inl (xI g, 24, .inl (fun j => iI (stt j)))), (so2, .inl (xI g, 24, .inl (fun j => iI (oo j)))), (wn, .inl (xI g, 5, .inl (fun j => nI (wnt j)))), (ag, .inr (0, [.int (nI cnt), .ref ky])), (ky, .inl (xI g, 48, .inl (fun j => nI (kf j))))])) := hD
  try dsimp only at hw_2
  refine lv_aload_n hx hb dX8_work_4 rfl (lv_at hl 0 rfl) ?_
  have hPc := hP.sub (ws' := [(st, .inr (8, [s0, s1, s2, s3, s4, s5, s6, s7, s8, s9, .int 1, s11, .ref ag, .ref ya, s14]))]) [0] rfl
  have hDc := hD.sub (ws' := [(st, .inr (8, [s0, s1, s2, s3, s4, s5, s6, s7, s8, s9, .int 1, s11, .ref ag, .ref ya, s14]))]) [0] (by decide) rfl
  have hFc := xFree hS hA
  refine va_callv (va_runV (As := []) (rest := []) ⟨hx, hb, hml, hown, hts⟩ (n_slots l g H.size st s0 s1 s2 s3 s4 s5 s6 s7 s8 s9 s11 (.ref ag) (.ref ya) s14) (cwV 0 hts gX8_work_X8_needSlots rfl rfl rfl (by decide +kernel) ⟨Nat.le_of_ble_eq_true rfl, Nat.le_of_ble_eq_true rfl⟩) ⟨xB.blind, va_recv hK hPc (ci := 8) (q0 := 0) rfl rfl, fun U9 hU9 hW9 => ⟨rfl, xB.mk hPc hK hDc hU9 hW9⟩⟩ rfl rfl hl.1 rfl (lv_room (Nat.le_of_ble_eq_true rfl)) dX8_work_5 ⟨Nat.le_of_ble_eq_true rfl, Nat.le_of_ble_eq_true rfl⟩) hS (fun q _ h => hFc q h) hFc (fun _ t H1 locs ht hvm hw_4 hB hz1 hk1 hS => ?_)
  have hP := xSame hP hk1
  generalize H1 = H at hP hS ⊢
  have hP : va_P (xD g) vwCl ([(st, .inr (8, [s0, s1, s2, s3, s4, s5, s6, s7, s8, s9, .int 1, s11, .ref ag, .ref ya, s14])), (ya, .inr (7, [.int (nI sc), .int (nI rs), .int (nI wo), .ref li, .ref he, .ref so, .ref we, .ref le, .ref sa, .ref so2, .ref wn])), (li, .inl (xI g, 12, .inl (fun j => nI (lim j)))), (he, .inl (xI g, 12, .inl (fun j => nI (hgt j)))), (so, .inl (xM g, 12, .inr (.inr (.inr (.inr (fun i => if i < 12 then some (rr i) else none))))))] ++ (xRN (xI g) 12 5 rr sd ++ [(we, .inl (xI g, 24, .inl (fun j => iI (wt j)))), (le, .inl (xI g, 24, .inl (fun j => iI (lv j)))), (sa, .inl (xI g, 24, .inl (fun j => iI (stt j)))), (so2, .inl (xI g, 24, .inl (fun j => iI (oo j)))), (wn, .inl (xI g, 5, .inl (fun j => nI (wnt j)))), (ag, .inr (0, [.int (nI cnt), .ref ky])), (ky, .inl (xI g, 48, .inl (fun j => nI (kf j))))])) H := hP
  have hD : va_D A ([(st, .inr (8, [s0, s1, s2, s3, s4, s5, s6, s7, s8, s9, .int 1, s11, .ref ag, .ref ya, s14])), (ya, .inr (7, [.int (nI sc), .int (nI rs), .int (nI wo), .ref li, .ref he, .ref so, .ref we, .ref le, .ref sa, .ref so2, .ref wn])), (li, .inl (xI g, 12, .inl (fun j => nI (lim j)))), (he, .inl (xI g, 12, .inl (fun j => nI (hgt j)))), (so, .inl (xM g, 12, .inr (.inr (.inr (.inr (fun i => if i < 12 then some (rr i) else none))))))] ++ (xRN (xI g) 12 5 rr sd ++ [(we, .inl (xI g, 24, .inl (fun j => iI (wt j)))), (le, .inl (xI g, 24, .inl (fun j => iI (lv j)))), (sa, .inl (xI g, 24, .inl (fun j => iI (stt j)))), (so2, .inl (xI g, 24, .inl (fun j => iI (oo j)))), (wn, .inl (xI g, 5, .inl (fun j => nI (wnt j)))), (ag, .inr (0, [.int (nI cnt), .ref ky])), (ky, .inl (xI g, 48, .inl (fun j => nI (kf j))))])) := hD
  try dsimp only at hw_4
  refine lv_aload_n hx hb dX8_work_8 rfl (lv_at hl 0 rfl) ?_
  refine va_get (D := xD g) (ci := 8) (v := .ref ya) (C := RX8) (T := TX8) (N := 15) hx hb hts hFX8 hown hK hP 0 rfl rfl 13 (by decide) (hts (.fieldLink RX8 81 "Stevedore" "yard" "LStevedore$Yard;") (by decide +kernel)) (fun _ h9 => h9) rfl dX8_work_9 ?_
  refine lv_aload_n hx hb dX8_work_12 rfl (lv_at hl 0 rfl) ?_
  refine va_get (D := xD g) (ci := 8) (v := .ref ag) (C := RX8) (T := TX8) (N := 15) hx hb hts hFX8 hown hK hP 0 rfl rfl 12 (by decide) (hts (.fieldLink RX8 74 "Stevedore" "agenda" "LStevedore$Agenda;") (by decide +kernel)) (fun _ h9 => h9) rfl dX8_work_13 ?_
  refine lv_iload_n hx hb dX8_work_16 rfl (lv_at hl 1 rfl) ?_
  have hPc := hP.sub (ws' := ([(ya, .inr (7, [.int (nI sc), .int (nI rs), .int (nI wo), .ref li, .ref he, .ref so, .ref we, .ref le, .ref sa, .ref so2, .ref wn])), (li, .inl (xI g, 12, .inl (fun j => nI (lim j)))), (he, .inl (xI g, 12, .inl (fun j => nI (hgt j)))), (so, .inl (xM g, 12, .inr (.inr (.inr (.inr (fun i => if i < 12 then some (rr i) else none))))))] ++ (xRN (xI g) 12 5 rr sd ++ [(we, .inl (xI g, 24, .inl (fun j => iI (wt j)))), (le, .inl (xI g, 24, .inl (fun j => iI (lv j)))), (sa, .inl (xI g, 24, .inl (fun j => iI (stt j)))), (so2, .inl (xI g, 24, .inl (fun j => iI (oo j)))), (wn, .inl (xI g, 5, .inl (fun j => nI (wnt j)))), (ag, .inr (0, [.int (nI cnt), .ref ky])), (ky, .inl (xI g, 48, .inl (fun j => nI (kf j))))]))) [1, 2, 3, 4, 5, 6, 7, 8, 9, 10, 11, 12, 13, 14, 15, 16, 17, 18, 19, 20, 21, 22, 23] rfl
  have hDc := hD.sub (ws' := ([(ya, .inr (7, [.int (nI sc), .int (nI rs), .int (nI wo), .ref li, .ref he, .ref so, .ref we, .ref le, .ref sa, .ref so2, .ref wn])), (li, .inl (xI g, 12, .inl (fun j => nI (lim j)))), (he, .inl (xI g, 12, .inl (fun j => nI (hgt j)))), (so, .inl (xM g, 12, .inr (.inr (.inr (.inr (fun i => if i < 12 then some (rr i) else none))))))] ++ (xRN (xI g) 12 5 rr sd ++ [(we, .inl (xI g, 24, .inl (fun j => iI (wt j)))), (le, .inl (xI g, 24, .inl (fun j => iI (lv j)))), (sa, .inl (xI g, 24, .inl (fun j => iI (stt j)))), (so2, .inl (xI g, 24, .inl (fun j => iI (oo j)))), (wn, .inl (xI g, 5, .inl (fun j => nI (wnt j)))), (ag, .inr (0, [.int (nI cnt), .ref ky])), (ky, .inl (xI g, 48, .inl (fun j => nI (kf j))))]))) [1, 2, 3, 4, 5, 6, 7, 8, 9, 10, 11, 12, 13, 14, 15, 16, 17, 18, 19, 20, 21, 22, 23] (by decide) rfl
  have hFc := va_free (wc := ([(ya, .inr (7, [.int (nI sc), .int (nI rs), .int (nI wo), .ref li, .ref he, .ref so, .ref we, .ref le, .ref sa, .ref so2, .ref wn])), (li, .inl (xI g, 12, .inl (fun j => nI (lim j)))), (he, .inl (xI g, 12, .inl (fun j => nI (hgt j)))), (so, .inl (xM g, 12, .inr (.inr (.inr (.inr (fun i => if i < 12 then some (rr i) else none))))))] ++ (xRN (xI g) 12 5 rr sd ++ [(we, .inl (xI g, 24, .inl (fun j => iI (wt j)))), (le, .inl (xI g, 24, .inl (fun j => iI (lv j)))), (sa, .inl (xI g, 24, .inl (fun j => iI (stt j)))), (so2, .inl (xI g, 24, .inl (fun j => iI (oo j)))), (wn, .inl (xI g, 5, .inl (fun j => nI (wnt j)))), (ag, .inr (0, [.int (nI cnt), .ref ky])), (ky, .inl (xI g, 48, .inl (fun j => nI (kf j))))]))) hD hS hA [1, 2, 3, 4, 5, 6, 7, 8, 9, 10, 11, 12, 13, 14, 15, 16, 17, 18, 19, 20, 21, 22, 23] rfl
  refine va_callv (va_runV (As := [.ref ag, .int (nI mo)]) (rest := []) ⟨hx, hb, hml, hown, hts⟩ (y_workOff l g H.size ya li he so we le sa so2 wn ag ky sc rs wo cnt mo n rr lim hgt sd wt lv stt oo wnt kf (by first | assumption | omega) (by first | assumption | omega) (by first | assumption | omega) (by first | assumption | omega) (by first | assumption | omega) (by first | assumption | omega) (by first | assumption | omega) b_lim b_hgt b_sd b_wt b_lv b_stt b_oo b_wnt b_kf) (cwV 2 hts gX8_work_X7_workOff rfl rfl rfl (by decide +kernel) ⟨Nat.le_of_ble_eq_true rfl, Nat.le_of_ble_eq_true rfl⟩) ⟨xB.blind, va_recv hK hPc (ci := 7) (q0 := 0) rfl rfl, fun U9 hU9 hW9 => ⟨rfl, xB.mk hPc hK hDc hU9 hW9⟩⟩ rfl rfl hl.1 rfl (lv_room (Nat.le_of_ble_eq_true rfl)) dX8_work_17 ⟨Nat.le_of_ble_eq_true rfl, Nat.le_of_ble_eq_true rfl⟩) hS (fun q _ h => hFc q h) hFc (fun _ t H1 locs ht hvm hw_6 hB hz1 hk1 hS => ?_)
  obtain ⟨i9_7, wnt2_8, hc_9, hb_10, hb_11, hb_12, hb_13, hb_14, hP1, hK1, hD1⟩ := hB
  rw [ht] at hP1
  obtain ⟨hP, hD⟩ := va_join (wr := [(st, .inr (8, [s0, s1, s2, s3, s4, s5, s6, s7, s8, s9, .int 1, s11, .ref ag, .ref ya, s14]))]) (w1 := ([(ya, .inr (7, [.int (nI sc), .int (nI ((yRun sc lim wt lv kf wo (((hgt, sd, oo), stt), rs) i9_7).2)), .int (nI (wo + i9_7)), .ref li, .ref he, .ref so, .ref we, .ref le, .ref sa, .ref so2, .ref wn])), (li, .inl (xI g, 12, .inl (fun j => nI (lim j)))), (he, .inl (xI g, 12, .inl (fun j => nI (((yRun sc lim wt lv kf wo (((hgt, sd, oo), stt), rs) i9_7).1.1.1) j)))), (so, .inl (xM g, 12, .inr (.inr (.inr (.inr (fun i => if i < 12 then some (rr i) else none))))))] ++ (xRN (xI g) 12 5 rr ((yRun sc lim wt lv kf wo (((hgt, sd, oo), stt), rs) i9_7).1.1.2.1) ++ [(we, .inl (xI g, 24, .inl (fun j => iI (wt j)))), (le, .inl (xI g, 24, .inl (fun j => iI (lv j)))), (sa, .inl (xI g, 24, .inl (fun j => iI (((yRun sc lim wt lv kf wo (((hgt, sd, oo), stt), rs) i9_7).1.2) j)))), (so2, .inl (xI g, 24, .inl (fun j => iI (((yRun sc lim wt lv kf wo (((hgt, sd, oo), stt), rs) i9_7).1.1.2.2) j)))), (wn, .inl (xI g, 5, .inl (fun j => nI (wnt2_8 j)))), (ag, .inr (0, [.int (nI cnt), .ref ky])), (ky, .inl (xI g, 48, .inl (fun j => nI (kf j))))]))) hP hD [1, 2, 3, 4, 5, 6, 7, 8, 9, 10, 11, 12, 13, 14, 15, 16, 17, 18, 19, 20, 21, 22, 23] [0] rfl rfl (by decide) (by decide) hk1 hFc hP1 hD1
  generalize H1 = H at hP hS ⊢
  have hP : va_P (xD g) vwCl ([(st, .inr (8, [s0, s1, s2, s3, s4, s5, s6, s7, s8, s9, .int 1, s11, .ref ag, .ref ya, s14])), (ya, .inr (7, [.int (nI sc), .int (nI ((yRun sc lim wt lv kf wo (((hgt, sd, oo), stt), rs) i9_7).2)), .int (nI (wo + i9_7)), .ref li, .ref he, .ref so, .ref we, .ref le, .ref sa, .ref so2, .ref wn])), (li, .inl (xI g, 12, .inl (fun j => nI (lim j)))), (he, .inl (xI g, 12, .inl (fun j => nI (((yRun sc lim wt lv kf wo (((hgt, sd, oo), stt), rs) i9_7).1.1.1) j)))), (so, .inl (xM g, 12, .inr (.inr (.inr (.inr (fun i => if i < 12 then some (rr i) else none))))))] ++ (xRN (xI g) 12 5 rr ((yRun sc lim wt lv kf wo (((hgt, sd, oo), stt), rs) i9_7).1.1.2.1) ++ [(we, .inl (xI g, 24, .inl (fun j => iI (wt j)))), (le, .inl (xI g, 24, .inl (fun j => iI (lv j)))), (sa, .inl (xI g, 24, .inl (fun j => iI (((yRun sc lim wt lv kf wo (((hgt, sd, oo), stt), rs) i9_7).1.2) j)))), (so2, .inl (xI g, 24, .inl (fun j => iI (((yRun sc lim wt lv kf wo (((hgt, sd, oo), stt), rs) i9_7).1.1.2.2) j)))), (wn, .inl (xI g, 5, .inl (fun j => nI (wnt2_8 j)))), (ag, .inr (0, [.int (nI cnt), .ref ky])), (ky, .inl (xI g, 48, .inl (fun j => nI (kf j))))])) H := hP
  have hD : va_D A ([(st, .inr (8, [s0, s1, s2, s3, s4, s5, s6, s7, s8, s9, .int 1, s11, .ref ag, .ref ya, s14])), (ya, .inr (7, [.int (nI sc), .int (nI ((yRun sc lim wt lv kf wo (((hgt, sd, oo), stt), rs) i9_7).2)), .int (nI (wo + i9_7)), .ref li, .ref he, .ref so, .ref we, .ref le, .ref sa, .ref so2, .ref wn])), (li, .inl (xI g, 12, .inl (fun j => nI (lim j)))), (he, .inl (xI g, 12, .inl (fun j => nI (((yRun sc lim wt lv kf wo (((hgt, sd, oo), stt), rs) i9_7).1.1.1) j)))), (so, .inl (xM g, 12, .inr (.inr (.inr (.inr (fun i => if i < 12 then some (rr i) else none))))))] ++ (xRN (xI g) 12 5 rr ((yRun sc lim wt lv kf wo (((hgt, sd, oo), stt), rs) i9_7).1.1.2.1) ++ [(we, .inl (xI g, 24, .inl (fun j => iI (wt j)))), (le, .inl (xI g, 24, .inl (fun j => iI (lv j)))), (sa, .inl (xI g, 24, .inl (fun j => iI (((yRun sc lim wt lv kf wo (((hgt, sd, oo), stt), rs) i9_7).1.2) j)))), (so2, .inl (xI g, 24, .inl (fun j => iI (((yRun sc lim wt lv kf wo (((hgt, sd, oo), stt), rs) i9_7).1.1.2.2) j)))), (wn, .inl (xI g, 5, .inl (fun j => nI (wnt2_8 j)))), (ag, .inr (0, [.int (nI cnt), .ref ky])), (ky, .inl (xI g, 48, .inl (fun j => nI (kf j))))])) := hD
  try dsimp only at hw_6
  refine lv_aload_n hx hb dX8_work_20 rfl (lv_at hl 0 rfl) ?_
  refine va_get (D := xD g) (ci := 8) (v := .ref ya) (C := RX8) (T := TX8) (N := 15) hx hb hts hFX8 hown hK hP 0 rfl rfl 13 (by decide) (hts (.fieldLink RX8 81 "Stevedore" "yard" "LStevedore$Yard;") (by decide +kernel)) (fun _ h9 => h9) rfl dX8_work_21 ?_
  refine va_get (D := xD g) (ci := 7) (v := .int (nI (wo + i9_7))) (C := RX7) (T := TX7) (N := 11) hx hb hts hFX7 hown hK hP 1 rfl rfl 2 (by decide) (hts (.fieldLink RX8 298 "Stevedore$Yard" "workedOff" "I") (by decide +kernel)) (fun _ h9 => h9) rfl dX8_work_24 ?_
  have hP9 := hP
  have hD9 := hD
  exact W.iret (v := nI (wo + i9_7)) hx hb hr (fun t ht hW => ⟨⟨nI (wo + i9_7), i9_7, rfl, rfl, ⟨wnt2_8, hc_9, hb_10, hb_11, hb_12, hb_13, hb_14, by rw [ht]; exact hP9, va_K.moved hW.alike hK, hD9⟩⟩, hS.F ht⟩) hS.2.2 dX8_work_27
theorem dX8_inTheEnd_0 : decode cX8_inTheEnd 0 = .ok (.iload_n 1, 1) := by decide +kernel
theorem dX8_inTheEnd_1 : decode cX8_inTheEnd 1 = .ok (.iconst 0, 1) := by decide +kernel
theorem dX8_inTheEnd_2 : decode cX8_inTheEnd 2 = .ok (.iconst 3, 1) := by decide +kernel
theorem dX8_inTheEnd_3 : decode cX8_inTheEnd 3 = .ok (.invokestatic 88, 3) := by decide +kernel
set_option maxRecDepth 20000 in
theorem ggX8_inTheEnd_X8_needWithin : GoodIn wsX8_inTheEnd wsX8_needWithin := goodIn_ca (goodIn_r _ [9, 10, 11] rfl (by decide +kernel)) (goodIn_sub (fun _ h => List.mem_cons_of_mem _ (List.mem_append_left _ (List.mem_append_right _ h))) (by decide +kernel))
set_option maxRecDepth 20000 in
theorem gX8_inTheEnd_X8_needWithin : GoodIn wsX8_inTheEnd (va_wsS RX8 88 yX8_needWithin wsX8_needWithin) := goodIn_app (goodIn_of _ (by decide +kernel)) ggX8_inTheEnd_X8_needWithin
theorem dX8_inTheEnd_6 : decode cX8_inTheEnd 6 = .ok (.aload_n 0, 1) := by decide +kernel
theorem dX8_inTheEnd_7 : decode cX8_inTheEnd 7 = .ok (.invokevirtual 274, 3) := by decide +kernel
set_option maxRecDepth 20000 in
theorem ggX8_inTheEnd_X8_needSlots : GoodIn wsX8_inTheEnd wsX8_needSlots := goodIn_ca (goodIn_r _ [15, 16, 17, 18, 109, 110, 111, 112, 113, 114, 115, 116, 117, 118, 119, 120, 121, 122, 123] rfl (by decide +kernel)) (goodIn_sub (fun _ h => List.mem_cons_of_mem _ (List.mem_append_right _ h)) (by decide +kernel))
set_option maxRecDepth 20000 in
theorem gX8_inTheEnd_X8_needSlots : GoodIn wsX8_inTheEnd (wsV RX8 274 RX8 yX8_needSlots wsX8_needSlots) := goodIn_app (goodIn_of _ (by decide +kernel)) ggX8_inTheEnd_X8_needSlots
theorem dX8_inTheEnd_10 : decode cX8_inTheEnd 10 = .ok (.aload_n 0, 1) := by decide +kernel
theorem dX8_inTheEnd_11 : decode cX8_inTheEnd 11 = .ok (.getfield 85, 3) := by decide +kernel
theorem dX8_inTheEnd_14 : decode cX8_inTheEnd 14 = .ok (.aload_n 0, 1) := by decide +kernel
theorem dX8_inTheEnd_15 : decode cX8_inTheEnd 15 = .ok (.getfield 81, 3) := by decide +kernel
theorem dX8_inTheEnd_18 : decode cX8_inTheEnd 18 = .ok (.invokevirtual 331, 3) := by decide +kernel
set_option maxRecDepth 20000 in
theorem ggX8_inTheEnd_X7_copyFrom : GoodIn wsX8_inTheEnd wsX7_copyFrom := goodIn_r _ [23, 24, 25, 26, 27, 28, 29, 30, 31, 32, 33, 34, 35, 36, 37, 126, 127, 128, 129, 130, 131, 132, 133, 134, 135, 136] rfl (by decide +kernel)
set_option maxRecDepth 20000 in
theorem gX8_inTheEnd_X7_copyFrom : GoodIn wsX8_inTheEnd (wsV RX8 331 RX7 yX7_copyFrom wsX7_copyFrom) := goodIn_app (goodIn_of _ (by decide +kernel)) ggX8_inTheEnd_X7_copyFrom
theorem dX8_inTheEnd_21 : decode cX8_inTheEnd 21 = .ok (.aload_n 0, 1) := by decide +kernel
theorem dX8_inTheEnd_22 : decode cX8_inTheEnd 22 = .ok (.getfield 85, 3) := by decide +kernel
theorem dX8_inTheEnd_25 : decode cX8_inTheEnd 25 = .ok (.aload_n 0, 1) := by decide +kernel
theorem dX8_inTheEnd_26 : decode cX8_inTheEnd 26 = .ok (.getfield 74, 3) := by decide +kernel
theorem dX8_inTheEnd_29 : decode cX8_inTheEnd 29 = .ok (.aload_n 0, 1) := by decide +kernel
theorem dX8_inTheEnd_30 : decode cX8_inTheEnd 30 = .ok (.getfield 74, 3) := by decide +kernel
theorem dX8_inTheEnd_33 : decode cX8_inTheEnd 33 = .ok (.getfield 278, 3) := by decide +kernel
theorem dX8_inTheEnd_36 : decode cX8_inTheEnd 36 = .ok (.invokevirtual 294, 3) := by decide +kernel
set_option maxRecDepth 20000 in
theorem ggX8_inTheEnd_X7_workOff : GoodIn wsX8_inTheEnd wsX7_workOff := goodIn_r _ [41, 26, 42, 43, 44, 45, 46, 47, 48, 49, 50, 51, 52, 53, 54, 55, 22, 56, 36, 57, 58, 59, 60, 24, 32, 35, 61, 62, 63, 64, 27, 34, 65, 66, 67, 68, 33, 69, 70, 71, 72, 73, 74, 75, 76, 77, 78, 79, 80, 81, 82, 83, 37, 84, 85, 86, 87, 25, 88, 89, 90, 91, 92, 93, 94, 95, 96, 97, 98, 99, 100, 101, 102, 103, 104, 126, 127, 128, 129, 130, 131, 132, 133, 134, 135, 136, 124, 125] rfl (by decide +kernel)
set_option maxRecDepth 20000 in
theorem gX8_inTheEnd_X7_workOff : GoodIn wsX8_inTheEnd (wsV RX8 294 RX7 yX7_workOff wsX7_workOff) := goodIn_app (goodIn_of _ (by decide +kernel)) ggX8_inTheEnd_X7_workOff
theorem dX8_inTheEnd_39 : decode cX8_inTheEnd 39 = .ok (.iload_n 1, 1) := by decide +kernel
theorem dX8_inTheEnd_40 : decode cX8_inTheEnd 40 = .ok (.ifCond .ne 11, 3) := by decide +kernel
theorem dX8_inTheEnd_51 : decode cX8_inTheEnd 51 = .ok (.iload_n 1, 1) := by decide +kernel
theorem dX8_inTheEnd_52 : decode cX8_inTheEnd 52 = .ok (.iconst 1, 1) := by decide +kernel
theorem dX8_inTheEnd_53 : decode cX8_inTheEnd 53 = .ok (.if_icmp .ne 12, 3) := by decide +kernel
theorem dX8_inTheEnd_65 : decode cX8_inTheEnd 65 = .ok (.iload_n 1, 1) := by decide +kernel
theorem dX8_inTheEnd_66 : decode cX8_inTheEnd 66 = .ok (.iconst 2, 1) := by decide +kernel
theorem dX8_inTheEnd_67 : decode cX8_inTheEnd 67 = .ok (.if_icmp .ne 12, 3) := by decide +kernel
theorem dX8_inTheEnd_79 : decode cX8_inTheEnd 79 = .ok (.aload_n 0, 1) := by decide +kernel
theorem dX8_inTheEnd_80 : decode cX8_inTheEnd 80 = .ok (.getfield 85, 3) := by decide +kernel
theorem dX8_inTheEnd_83 : decode cX8_inTheEnd 83 = .ok (.iconst 1, 1) := by decide +kernel
theorem dX8_inTheEnd_84 : decode cX8_inTheEnd 84 = .ok (.invokevirtual 334, 3) := by decide +kernel
set_option maxRecDepth 20000 in
theorem ggX8_inTheEnd_X7_countState : GoodIn wsX8_inTheEnd wsX7_countState := goodIn_r _ [108, 36, 126, 127, 128, 129, 130, 131, 132, 133, 134, 135, 136] rfl (by decide +kernel)
set_option maxRecDepth 20000 in
theorem gX8_inTheEnd_X7_countState : GoodIn wsX8_inTheEnd (wsV RX8 334 RX7 yX7_countState wsX7_countState) := goodIn_app (goodIn_of _ (by decide +kernel)) ggX8_inTheEnd_X7_countState
theorem dX8_inTheEnd_87 : decode cX8_inTheEnd 87 = .ok (.aload_n 0, 1) := by decide +kernel
theorem dX8_inTheEnd_88 : decode cX8_inTheEnd 88 = .ok (.getfield 85, 3) := by decide +kernel
theorem dX8_inTheEnd_91 : decode cX8_inTheEnd 91 = .ok (.iconst 4, 1) := by decide +kernel
theorem dX8_inTheEnd_92 : decode cX8_inTheEnd 92 = .ok (.invokevirtual 334, 3) := by decide +kernel
theorem dX8_inTheEnd_95 : decode cX8_inTheEnd 95 = .ok (.iadd, 1) := by decide +kernel
theorem dX8_inTheEnd_96 : decode cX8_inTheEnd 96 = .ok (.ireturn, 1) := by decide +kernel
theorem dX8_inTheEnd_70 : decode cX8_inTheEnd 70 = .ok (.aload_n 0, 1) := by decide +kernel
theorem dX8_inTheEnd_71 : decode cX8_inTheEnd 71 = .ok (.getfield 85, 3) := by decide +kernel
theorem dX8_inTheEnd_74 : decode cX8_inTheEnd 74 = .ok (.iconst 4, 1) := by decide +kernel
theorem dX8_inTheEnd_75 : decode cX8_inTheEnd 75 = .ok (.invokevirtual 334, 3) := by decide +kernel
theorem dX8_inTheEnd_78 : decode cX8_inTheEnd 78 = .ok (.ireturn, 1) := by decide +kernel
theorem dX8_inTheEnd_56 : decode cX8_inTheEnd 56 = .ok (.aload_n 0, 1) := by decide +kernel
theorem dX8_inTheEnd_57 : decode cX8_inTheEnd 57 = .ok (.getfield 85, 3) := by decide +kernel
theorem dX8_inTheEnd_60 : decode cX8_inTheEnd 60 = .ok (.iconst 3, 1) := by decide +kernel
theorem dX8_inTheEnd_61 : decode cX8_inTheEnd 61 = .ok (.invokevirtual 334, 3) := by decide +kernel
theorem dX8_inTheEnd_64 : decode cX8_inTheEnd 64 = .ok (.ireturn, 1) := by decide +kernel
theorem dX8_inTheEnd_43 : decode cX8_inTheEnd 43 = .ok (.aload_n 0, 1) := by decide +kernel
theorem dX8_inTheEnd_44 : decode cX8_inTheEnd 44 = .ok (.getfield 85, 3) := by decide +kernel
theorem dX8_inTheEnd_47 : decode cX8_inTheEnd 47 = .ok (.getfield 319, 3) := by decide +kernel
theorem dX8_inTheEnd_50 : decode cX8_inTheEnd 50 = .ok (.ireturn, 1) := by decide +kernel
set_option maxHeartbeats 4000000 in
set_option maxRecDepth 100000 in
theorem t_inTheEnd (l : Launch) (g : xG) (sz : Nat) (st : Nat) (ya : Nat) (li : Nat) (he : Nat) (so : Nat) (we : Nat) (le : Nat) (sa : Nat) (so2 : Nat) (tb : Nat) (tl : Nat) (th : Nat) (to_ : Nat) (tw : Nat) (te : Nat) (ta : Nat) (t2 : Nat) (tn : Nat) (ag : Nat) (ky : Nat) (sc : Nat) (rs : Nat) (wo : Nat) (cnt : Nat) (wh : Nat) (n : Nat) (rr : Nat → Nat) (tr : Nat → Nat) (s0 : Value) (s1 : Value) (s2 : Value) (s3 : Value) (s4 : Value) (s5 : Value) (s6 : Value) (s7 : Value) (s8 : Value) (s9 : Value) (s11 : Value) (y10 : Value) (z0 : Value) (z1 : Value) (z2 : Value) (lim : Nat → Nat) (hgt : Nat → Nat) (sd : Nat → Nat → Nat) (wt : Nat → Int) (lv : Nat → Int) (stt : Nat → Int) (oo : Nat → Int) (tlim : Nat → Nat) (thgt : Nat → Nat) (td : Nat → Nat → Nat) (twt : Nat → Int) (tlv : Nat → Int) (tst : Nat → Int) (too : Nat → Int) (tnt : Nat → Nat) (kf : Nat → Nat)  (hwh : wh ≤ 3) (hsc : sc ≤ 12) (hn : n ≤ 24) (hcnt : cnt ≤ 48) (hwo : wo ≤ cnt) (G : yAg n kf cnt) (hI : yInv n sc lim kf (((hgt, sd, oo), stt), rs) wo) (htz : ∀ x, sc ≤ x → ∀ j, td x j = 0) (b_lim : ∀ j, lim j ≤ 5) (b_hgt : ∀ j, hgt j ≤ 5) (b_sd : ∀ i j, sd i j ≤ 23) (b_wt : ∀ j, 0 ≤ wt j ∧ wt j ≤ 1000) (b_lv : ∀ j, 0 ≤ lv j ∧ lv j ≤ 1000000) (b_stt : ∀ j, 0 ≤ stt j ∧ stt j ≤ 4) (b_oo : ∀ j, (-1) ≤ oo j ∧ oo j ≤ 11) (b_tlim : ∀ j, tlim j ≤ 5) (b_thgt : ∀ j, thgt j ≤ 5) (b_td : ∀ i j, td i j ≤ 23) (b_twt : ∀ j, 0 ≤ twt j ∧ twt j ≤ 1000) (b_tlv : ∀ j, 0 ≤ tlv j ∧ tlv j ≤ 1000000) (b_tst : ∀ j, 0 ≤ tst j ∧ tst j ≤ 4) (b_too : ∀ j, (-1) ≤ too j ∧ too j ≤ 11) (b_tnt : ∀ j, tnt j ≤ 11) (b_kf : ∀ j, kf j ≤ 100000000) : Met l yX8_inTheEnd wsX8_inTheEnd ({ frames := 6, cells := 0, slots := 0, locals := 145 }) (va_Pc [.ref st, .int (nI wh)] (fun U => xB g ([(st, .inr (8, [s0, s1, s2, s3, s4, s5, s6, s7, s8, s9, .int 1, s11, .ref ag, .ref ya, .ref tb])), (ya, .inr (7, [.int (nI sc), .int (nI rs), .int (nI wo), .ref li, .ref he, .ref so, .ref we, .ref le, .ref sa, .ref so2, y10])), (li, .inl (xI g, 12, .inl (fun j => nI (lim j)))), (he, .inl (xI g, 12, .inl (fun j => nI (hgt j)))), (so, .inl (xM g, 12, .inr (.inr (.inr (.inr (fun i => if i < 12 then some (rr i) else none))))))] ++ (xRN (xI g) 12 5 rr sd ++ ([(we, .inl (xI g, 24, .inl (fun j => iI (wt j)))), (le, .inl (xI g, 24, .inl (fun j => iI (lv j)))), (sa, .inl (xI g, 24, .inl (fun j => iI (stt j)))), (so2, .inl (xI g, 24, .inl (fun j => iI (oo j)))), (tb, .inr (7, [z0, z1, z2, .ref tl, .ref th, .ref to_, .ref tw, .ref te, .ref ta, .ref t2, .ref tn])), (tl, .inl (xI g, 12, .inl (fun j => nI (tlim j)))), (th, .inl (xI g, 12, .inl (fun j => nI (thgt j)))), (to_, .inl (xM g, 12, .inr (.inr (.inr (.inr (fun i => if i < 12 then some (tr i) else none))))))] ++ (xRN (xI g) 12 5 tr td ++ [(tw, .inl (xI g, 24, .inl (fun j => iI (twt j)))), (te, .inl (xI g, 24, .inl (fun j => iI (tlv j)))), (ta, .inl (xI g, 24, .inl (fun j => iI (tst j)))), (t2, .inl (xI g, 24, .inl (fun j => iI (too j)))), (tn, .inl (xI g, 5, .inl (fun j => nI (tnt j)))), (ag, .inr (0, [.int (nI cnt), .ref ky])), (ky, .inl (xI g, 48, .inl (fun j => nI (kf j))))])))) sz U)) (va_Qi (fun (r : Int32) (u : Nat) => (wh = 0 → r = nI (yRun sc lim wt lv kf wo (((hgt, sd, oo), stt), rs) u).2) ∧ (wh = 1 → r = nI (yCnt (yRun sc lim wt lv kf wo (((hgt, sd, oo), stt), rs) u).1.2 3 24)) ∧ (wh = 2 → r = nI (yCnt (yRun sc lim wt lv kf wo (((hgt, sd, oo), stt), rs) u).1.2 4 24)) ∧ (wh = 3 → r = nI (yCnt (yRun sc lim wt lv kf wo (((hgt, sd, oo), stt), rs) u).1.2 1 24 + yCnt (yRun sc lim wt lv kf wo (((hgt, sd, oo), stt), rs) u).1.2 4 24))) (fun (u : Nat) (t : State) => ∃ (th2 : Nat → Nat) (td2 : Nat → Nat → Nat) (ta2 : Nat → Int) (t22 : Nat → Int) (tn2 : Nat → Nat) (tr2 : Nat) (to2 : Nat), ((u = cnt ∨ wo + u = cnt) ∧ wo + u ≤ cnt ∧ ∀ x, sc ≤ x → ∀ j, td2 x j = 0) ∧ (∀ j, th2 j ≤ 5) ∧ (∀ i j, td2 i j ≤ 23) ∧ (∀ j, 0 ≤ ta2 j ∧ ta2 j ≤ 4) ∧ (∀ j, (-1) ≤ t22 j ∧ t22 j ≤ 11) ∧ (∀ j, tn2 j ≤ 11) ∧ xE g ([(st, .inr (8, [s0, s1, s2, s3, s4, s5, s6, s7, s8, s9, .int 1, s11, .ref ag, .ref ya, .ref tb])), (ya, .inr (7, [.int (nI sc), .int (nI rs), .int (nI wo), .ref li, .ref he, .ref so, .ref we, .ref le, .ref sa, .ref so2, y10])), (li, .inl (xI g, 12, .inl (fun j => nI (lim j)))), (he, .inl (xI g, 12, .inl (fun j => nI (hgt j)))), (so, .inl (xM g, 12, .inr (.inr (.inr (.inr (fun i => if i < 12 then some (rr i) else none))))))] ++ (xRN (xI g) 12 5 rr sd ++ ([(we, .inl (xI g, 24, .inl (fun j => iI (wt j)))), (le, .inl (xI g, 24, .inl (fun j => iI (lv j)))), (sa, .inl (xI g, 24, .inl (fun j => iI (stt j)))), (so2, .inl (xI g, 24, .inl (fun j => iI (oo j)))), (tb, .inr (7, [.int (nI sc), .int (nI tr2), .int (nI to2), .ref tl, .ref th, .ref to_, .ref tw, .ref te, .ref ta, .ref t2, .ref tn])), (tl, .inl (xI g, 12, .inl (fun j => nI (lim j)))), (th, .inl (xI g, 12, .inl (fun j => nI (th2 j)))), (to_, .inl (xM g, 12, .inr (.inr (.inr (.inr (fun i => if i < 12 then some (tr i) else none))))))] ++ (xRN (xI g) 12 5 tr td2 ++ [(tw, .inl (xI g, 24, .inl (fun j => iI (wt j)))), (te, .inl (xI g, 24, .inl (fun j => iI (lv j)))), (ta, .inl (xI g, 24, .inl (fun j => iI (ta2 j)))), (t2, .inl (xI g, 24, .inl (fun j => iI (t22 j)))), (tn, .inl (xI g, 5, .inl (fun j => nI (tn2 j)))), (ag, .inr (0, [.int (nI cnt), .ref ky])), (ky, .inl (xI g, 48, .inl (fun j => nI (kf j))))])))) (va_A ([(st, .inr (8, [s0, s1, s2, s3, s4, s5, s6, s7, s8, s9, .int 1, s11, .ref ag, .ref ya, .ref tb])), (ya, .inr (7, [.int (nI sc), .int (nI rs), .int (nI wo), .ref li, .ref he, .ref so, .ref we, .ref le, .ref sa, .ref so2, y10])), (li, .inl (xI g, 12, .inl (fun j => nI (lim j)))), (he, .inl (xI g, 12, .inl (fun j => nI (hgt j)))), (so, .inl (xM g, 12, .inr (.inr (.inr (.inr (fun i => if i < 12 then some (rr i) else none))))))] ++ (xRN (xI g) 12 5 rr sd ++ ([(we, .inl (xI g, 24, .inl (fun j => iI (wt j)))), (le, .inl (xI g, 24, .inl (fun j => iI (lv j)))), (sa, .inl (xI g, 24, .inl (fun j => iI (stt j)))), (so2, .inl (xI g, 24, .inl (fun j => iI (oo j)))), (tb, .inr (7, [z0, z1, z2, .ref tl, .ref th, .ref to_, .ref tw, .ref te, .ref ta, .ref t2, .ref tn])), (tl, .inl (xI g, 12, .inl (fun j => nI (tlim j)))), (th, .inl (xI g, 12, .inl (fun j => nI (thgt j)))), (to_, .inl (xM g, 12, .inr (.inr (.inr (.inr (fun i => if i < 12 then some (tr i) else none))))))] ++ (xRN (xI g) 12 5 tr td ++ [(tw, .inl (xI g, 24, .inl (fun j => iI (twt j)))), (te, .inl (xI g, 24, .inl (fun j => iI (tlv j)))), (ta, .inl (xI g, 24, .inl (fun j => iI (tst j)))), (t2, .inl (xI g, 24, .inl (fun j => iI (too j)))), (tn, .inl (xI g, 5, .inl (fun j => nI (tnt j)))), (ag, .inr (0, [.int (nI cnt), .ref ky])), (ky, .inl (xI g, 48, .inl (fun j => nI (kf j))))])))) sz) t) (va_A ([(st, .inr (8, [s0, s1, s2, s3, s4, s5, s6, s7, s8, s9, .int 1, s11, .ref ag, .ref ya, .ref tb])), (ya, .inr (7, [.int (nI sc), .int (nI rs), .int (nI wo), .ref li, .ref he, .ref so, .ref we, .ref le, .ref sa, .ref so2, y10])), (li, .inl (xI g, 12, .inl (fun j => nI (lim j)))), (he, .inl (xI g, 12, .inl (fun j => nI (hgt j)))), (so, .inl (xM g, 12, .inr (.inr (.inr (.inr (fun i => if i < 12 then some (rr i) else none))))))] ++ (xRN (xI g) 12 5 rr sd ++ ([(we, .inl (xI g, 24, .inl (fun j => iI (wt j)))), (le, .inl (xI g, 24, .inl (fun j => iI (lv j)))), (sa, .inl (xI g, 24, .inl (fun j => iI (stt j)))), (so2, .inl (xI g, 24, .inl (fun j => iI (oo j)))), (tb, .inr (7, [z0, z1, z2, .ref tl, .ref th, .ref to_, .ref tw, .ref te, .ref ta, .ref t2, .ref tn])), (tl, .inl (xI g, 12, .inl (fun j => nI (tlim j)))), (th, .inl (xI g, 12, .inl (fun j => nI (thgt j)))), (to_, .inl (xM g, 12, .inr (.inr (.inr (.inr (fun i => if i < 12 then some (tr i) else none))))))] ++ (xRN (xI g) 12 5 tr td ++ [(tw, .inl (xI g, 24, .inl (fun j => iI (twt j)))), (te, .inl (xI g, 24, .inl (fun j => iI (tlv j)))), (ta, .inl (xI g, 24, .inl (fun j => iI (tst j)))), (t2, .inl (xI g, 24, .inl (fun j => iI (too j)))), (tn, .inl (xI g, 5, .inl (fun j => nI (tnt j)))), (ag, .inr (0, [.int (nI cnt), .ref ky])), (ky, .inl (xI g, 48, .inl (fun j => nI (kf j))))])))) sz)) 0 0 (va_A ([(st, .inr (8, [s0, s1, s2, s3, s4, s5, s6, s7, s8, s9, .int 1, s11, .ref ag, .ref ya, .ref tb])), (ya, .inr (7, [.int (nI sc), .int (nI rs), .int (nI wo), .ref li, .ref he, .ref so, .ref we, .ref le, .ref sa, .ref so2, y10])), (li, .inl (xI g, 12, .inl (fun j => nI (lim j)))), (he, .inl (xI g, 12, .inl (fun j => nI (hgt j)))), (so, .inl (xM g, 12, .inr (.inr (.inr (.inr (fun i => if i < 12 then some (rr i) else none))))))] ++ (xRN (xI g) 12 5 rr sd ++ ([(we, .inl (xI g, 24, .inl (fun j => iI (wt j)))), (le, .inl (xI g, 24, .inl (fun j => iI (lv j)))), (sa, .inl (xI g, 24, .inl (fun j => iI (stt j)))), (so2, .inl (xI g, 24, .inl (fun j => iI (oo j)))), (tb, .inr (7, [z0, z1, z2, .ref tl, .ref th, .ref to_, .ref tw, .ref te, .ref ta, .ref t2, .ref tn])), (tl, .inl (xI g, 12, .inl (fun j => nI (tlim j)))), (th, .inl (xI g, 12, .inl (fun j => nI (thgt j)))), (to_, .inl (xM g, 12, .inr (.inr (.inr (.inr (fun i => if i < 12 then some (tr i) else none))))))] ++ (xRN (xI g) 12 5 tr td ++ [(tw, .inl (xI g, 24, .inl (fun j => iI (twt j)))), (te, .inl (xI g, 24, .inl (fun j => iI (tlv j)))), (ta, .inl (xI g, 24, .inl (fun j => iI (tst j)))), (t2, .inl (xI g, 24, .inl (fun j => iI (too j)))), (tn, .inl (xI g, 5, .inl (fun j => nI (tnt j)))), (ag, .inr (0, [.int (nI cnt), .ref ky])), (ky, .inl (xI g, 48, .inl (fun j => nI (kf j))))])))) sz) := by
  refine Met.ofW (cc := cX8_inTheEnd) (maxL := 2) (ret := (some .int)) (by decide) rfl ?_
  intro p e s m args below meth c s₁ B hml hv
  obtain ⟨rfl, hsz, hP, hK, hD0⟩ := hv
  have hx := B.exec
  have hb := B.bytes
  have hr := B.returns
  have hts := atoms_spec (ws := wsX8_inTheEnd) B.pre
  have hown : s.vm.findClass RX8 = some m.cls := findClass_of_methodNamed B.named
  have hlocks := B.notSynchronized
  subst hsz
  have hD := hD0.self (sz := s.heap.size)
  generalize hAe : va_A ([(st, .inr (8, [s0, s1, s2, s3, s4, s5, s6, s7, s8, s9, .int 1, s11, .ref ag, .ref ya, .ref tb])), (ya, .inr (7, [.int (nI sc), .int (nI rs), .int (nI wo), .ref li, .ref he, .ref so, .ref we, .ref le, .ref sa, .ref so2, y10])), (li, .inl (xI g, 12, .inl (fun j => nI (lim j)))), (he, .inl (xI g, 12, .inl (fun j => nI (hgt j)))), (so, .inl (xM g, 12, .inr (.inr (.inr (.inr (fun i => if i < 12 then some (rr i) else none))))))] ++ (xRN (xI g) 12 5 rr sd ++ ([(we, .inl (xI g, 24, .inl (fun j => iI (wt j)))), (le, .inl (xI g, 24, .inl (fun j => iI (lv j)))), (sa, .inl (xI g, 24, .inl (fun j => iI (stt j)))), (so2, .inl (xI g, 24, .inl (fun j => iI (oo j)))), (tb, .inr (7, [z0, z1, z2, .ref tl, .ref th, .ref to_, .ref tw, .ref te, .ref ta, .ref t2, .ref tn])), (tl, .inl (xI g, 12, .inl (fun j => nI (tlim j)))), (th, .inl (xI g, 12, .inl (fun j => nI (thgt j)))), (to_, .inl (xM g, 12, .inr (.inr (.inr (.inr (fun i => if i < 12 then some (tr i) else none))))))] ++ (xRN (xI g) 12 5 tr td ++ [(tw, .inl (xI g, 24, .inl (fun j => iI (twt j)))), (te, .inl (xI g, 24, .inl (fun j => iI (tlv j)))), (ta, .inl (xI g, 24, .inl (fun j => iI (tst j)))), (t2, .inl (xI g, 24, .inl (fun j => iI (too j)))), (tn, .inl (xI g, 5, .inl (fun j => nI (tnt j)))), (ag, .inr (0, [.int (nI cnt), .ref ky])), (ky, .inl (xI g, 48, .inl (fun j => nI (kf j))))])))) s.heap.size = A at hD ⊢
  have hA : ∀ q : Nat, s.heap.size ≤ q → A q := fun q h => by rw [← hAe]; exact Or.inr h
  have hS : va_S A s.heap s.heap [] := va_S.rf
  have hl := lv_entry ([.ref st, .int (nI wh)]) (n := 2) (Nat.le_of_ble_eq_true rfl)
  rw [lg_entry_eq]
  generalize (lg_sl ([.ref st, .int (nI wh)]) ++ List.replicate (2 - (lg_sl ([.ref st, .int (nI wh)])).length) Slot.unset).toArray = ls at hl ⊢
  have hl : lv_has ls 2 [(0, .ref st), (1, .int (nI wh))] := hl
  have hFX0 : ∀ w ∈ u_ws RX0 TX0 2, w ∈ wsX8_inTheEnd := by decide +kernel
  have hFX7 : ∀ w ∈ u_ws RX7 TX7 11, w ∈ wsX8_inTheEnd := by decide +kernel
  have hFX8 : ∀ w ∈ u_ws RX8 TX8 15, w ∈ wsX8_inTheEnd := by decide +kernel
  refine lv_iload_n hx hb dX8_inTheEnd_0 rfl (lv_at hl 1 rfl) ?_
  refine lv_iconst (v := 0) hx hb dX8_inTheEnd_1 (by decide) ?_
  refine lv_iconst (v := 3) hx hb dX8_inTheEnd_2 (by decide) ?_
  have hPc := hP.sub (ws' := []) [] rfl
  have hDc := hD.sub (ws' := []) [] (by decide) rfl
  have hFc := xFree hS hA
  refine va_callv (va_runS (As := [.int (nI wh), .int 0, .int 3]) (rest := []) ⟨hx, hb, hml, hown, hts⟩ (n_within l g s.heap.size ((wh : Nat) : Int) 0 3 (by first | assumption | omega) (by first | assumption | omega)) (va_cwS 3 hts gX8_inTheEnd_X8_needWithin rfl rfl rfl (by decide +kernel) ⟨Nat.le_of_ble_eq_true rfl, Nat.le_of_ble_eq_true rfl⟩) ⟨xB.blind, fun U9 hU9 hW9 => ⟨rfl, xB.mk hPc hK hDc hU9 hW9⟩⟩ rfl rfl hl.1 rfl (lv_room (Nat.le_of_ble_eq_true rfl)) dX8_inTheEnd_3 ⟨Nat.le_of_ble_eq_true rfl, Nat.le_of_ble_eq_true rfl⟩) hS (fun q _ h => hFc q h) hFc (fun _ t H1 locs ht hvm hw_2 hB hz1 hk1 hS => ?_)
  have hP := xSame hP hk1
  generalize H1 = H at hP hS ⊢
  have hP : va_P (xD g) vwCl ([(st, .inr (8, [s0, s1, s2, s3, s4, s5, s6, s7, s8, s9, .int 1, s11, .ref ag, .ref ya, .ref tb])), (ya, .inr (7, [.int (nI sc), .int (nI rs), .int (nI wo), .ref li, .ref he, .ref so, .ref we, .ref le, .ref sa, .ref so2, y10])), (li, .inl (xI g, 12, .inl (fun j => nI (lim j)))), (he, .inl (xI g, 12, .inl (fun j => nI (hgt j)))), (so, .inl (xM g, 12, .inr (.inr (.inr (.inr (fun i => if i < 12 then some (rr i) else none))))))] ++ (xRN (xI g) 12 5 rr sd ++ ([(we, .inl (xI g, 24, .inl (fun j => iI (wt j)))), (le, .inl (xI g, 24, .inl (fun j => iI (lv j)))), (sa, .inl (xI g, 24, .inl (fun j => iI (stt j)))), (so2, .inl (xI g, 24, .inl (fun j => iI (oo j)))), (tb, .inr (7, [z0, z1, z2, .ref tl, .ref th, .ref to_, .ref tw, .ref te, .ref ta, .ref t2, .ref tn])), (tl, .inl (xI g, 12, .inl (fun j => nI (tlim j)))), (th, .inl (xI g, 12, .inl (fun j => nI (thgt j)))), (to_, .inl (xM g, 12, .inr (.inr (.inr (.inr (fun i => if i < 12 then some (tr i) else none))))))] ++ (xRN (xI g) 12 5 tr td ++ [(tw, .inl (xI g, 24, .inl (fun j => iI (twt j)))), (te, .inl (xI g, 24, .inl (fun j => iI (tlv j)))), (ta, .inl (xI g, 24, .inl (fun j => iI (tst j)))), (t2, .inl (xI g, 24, .inl (fun j => iI (too j)))), (tn, .inl (xI g, 5, .inl (fun j => nI (tnt j)))), (ag, .inr (0, [.int (nI cnt), .ref ky])), (ky, .inl (xI g, 48, .inl (fun j => nI (kf j))))])))) H := hP
  have hD : va_D A ([(st, .inr (8, [s0, s1, s2, s3, s4, s5, s6, s7, s8, s9, .int 1, s11, .ref ag, .ref ya, .ref tb])), (ya, .inr (7, [.int (nI sc), .int (nI rs), .int (nI wo), .ref li, .ref he, .ref so, .ref we, .ref le, .ref sa, .ref so2, y10])), (li, .inl (xI g, 12, .inl (fun j => nI (lim j)))), (he, .inl (xI g, 12, .inl (fun j => nI (hgt j)))), (so, .inl (xM g, 12, .inr (.inr (.inr (.inr (fun i => if i < 12 then some (rr i) else none))))))] ++ (xRN (xI g) 12 5 rr sd ++ ([(we, .inl (xI g, 24, .inl (fun j => iI (wt j)))), (le, .inl (xI g, 24, .inl (fun j => iI (lv j)))), (sa, .inl (xI g, 24, .inl (fun j => iI (stt j)))), (so2, .inl (xI g, 24, .inl (fun j => iI (oo j)))), (tb, .inr (7, [z0, z1, z2, .ref tl, .ref th, .ref to_, .ref tw, .ref te, .ref ta, .ref t2, .ref tn])), (tl, .inl (xI g, 12, .inl (fun j => nI (tlim j)))), (th, .inl (xI g, 12, .inl (fun j => nI (thgt j)))), (to_, .inl (xM g, 12, .inr (.inr (.inr (.inr (fun i => if i < 12 then some (tr i) else none))))))] ++ (xRN (xI g) 12 5 tr td ++ [(tw, .inl (xI g, 24, .inl (fun j => iI (twt j)))), (te, .inl (xI g, 24, .inl (fun j => iI (tlv j)))), (ta, .inl (xI g, 24, .inl (fun j => iI (tst j)))), (t2, .inl (xI g, 24, .inl (fun j => iI (too j)))), (tn, .inl (xI g, 5, .inl (fun j => nI (tnt j)))), (ag, .inr (0, [.int (nI cnt), .ref ky])), (ky, .inl (xI g, 48, .inl (fun j => nI (kf j))))])))) := hD
  try dsimp only at hw_2
  refine lv_aload_n hx hb dX8_inTheEnd_6 rfl (lv_at hl 0 rfl) ?_
  have hPc := hP.sub (ws' := [(st, .inr (8, [s0, s1, s2, s3, s4, s5, s6, s7, s8, s9, .int 1, s11, .ref ag, .ref ya, .ref tb]))]) [0] rfl
  have hDc := hD.sub (ws' := [(st, .inr (8, [s0, s1, s2, s3, s4, s5, s6, s7, s8, s9, .int 1, s11, .ref ag, .ref ya, .ref tb]))]) [0] (by decide) rfl
  have hFc := xFree hS hA
  refine va_callv (va_runV (As := []) (rest := []) ⟨hx, hb, hml, hown, hts⟩ (n_slots l g H.size st s0 s1 s2 s3 s4 s5 s6 s7 s8 s9 s11 (.ref ag) (.ref ya) (.ref tb)) (cwV 0 hts gX8_inTheEnd_X8_needSlots rfl rfl rfl (by decide +kernel) ⟨Nat.le_of_ble_eq_true rfl, Nat.le_of_ble_eq_true rfl⟩) ⟨xB.blind, va_recv hK hPc (ci := 8) (q0 := 0) rfl rfl, fun U9 hU9 hW9 => ⟨rfl, xB.mk hPc hK hDc hU9 hW9⟩⟩ rfl rfl hl.1 rfl (lv_room (Nat.le_of_ble_eq_true rfl)) dX8_inTheEnd_7 ⟨Nat.le_of_ble_eq_true rfl, Nat.le_of_ble_eq_true rfl⟩) hS (fun q _ h => hFc q h) hFc (fun _ t H1 locs ht hvm hw_4 hB hz1 hk1 hS => ?_)
  have hP := xSame hP hk1
  generalize H1 = H at hP hS ⊢
  have hP : va_P (xD g) vwCl ([(st, .inr (8, [s0, s1, s2, s3, s4, s5, s6, s7, s8, s9, .int 1, s11, .ref ag, .ref ya, .ref tb])), (ya, .inr (7, [.int (nI sc), .int (nI rs), .int (nI wo), .ref li, .ref he, .ref so, .ref we, .ref le, .ref sa, .ref so2, y10])), (li, .inl (xI g, 12, .inl (fun j => nI (lim j)))), (he, .inl (xI g, 12, .inl (fun j => nI (hgt j)))), (so, .inl (xM g, 12, .inr (.inr (.inr (.inr (fun i => if i < 12 then some (rr i) else none))))))] ++ (xRN (xI g) 12 5 rr sd ++ ([(we, .inl (xI g, 24, .inl (fun j => iI (wt j)))), (le, .inl (xI g, 24, .inl (fun j => iI (lv j)))), (sa, .inl (xI g, 24, .inl (fun j => iI (stt j)))), (so2, .inl (xI g, 24, .inl (fun j => iI (oo j)))), (tb, .inr (7, [z0, z1, z2, .ref tl, .ref th, .ref to_, .ref tw, .ref te, .ref ta, .ref t2, .ref tn])), (tl, .inl (xI g, 12, .inl (fun j => nI (tlim j)))), (th, .inl (xI g, 12, .inl (fun j => nI (thgt j)))), (to_, .inl (xM g, 12, .inr (.inr (.inr (.inr (fun i => if i < 12 then some (tr i) else none))))))] ++ (xRN (xI g) 12 5 tr td ++ [(tw, .inl (xI g, 24, .inl (fun j => iI (twt j)))), (te, .inl (xI g, 24, .inl (fun j => iI (tlv j)))), (ta, .inl (xI g, 24, .inl (fun j => iI (tst j)))), (t2, .inl (xI g, 24, .inl (fun j => iI (too j)))), (tn, .inl (xI g, 5, .inl (fun j => nI (tnt j)))), (ag, .inr (0, [.int (nI cnt), .ref ky])), (ky, .inl (xI g, 48, .inl (fun j => nI (kf j))))])))) H := hP
  have hD : va_D A ([(st, .inr (8, [s0, s1, s2, s3, s4, s5, s6, s7, s8, s9, .int 1, s11, .ref ag, .ref ya, .ref tb])), (ya, .inr (7, [.int (nI sc), .int (nI rs), .int (nI wo), .ref li, .ref he, .ref so, .ref we, .ref le, .ref sa, .ref so2, y10])), (li, .inl (xI g, 12, .inl (fun j => nI (lim j)))), (he, .inl (xI g, 12, .inl (fun j => nI (hgt j)))), (so, .inl (xM g, 12, .inr (.inr (.inr (.inr (fun i => if i < 12 then some (rr i) else none))))))] ++ (xRN (xI g) 12 5 rr sd ++ ([(we, .inl (xI g, 24, .inl (fun j => iI (wt j)))), (le, .inl (xI g, 24, .inl (fun j => iI (lv j)))), (sa, .inl (xI g, 24, .inl (fun j => iI (stt j)))), (so2, .inl (xI g, 24, .inl (fun j => iI (oo j)))), (tb, .inr (7, [z0, z1, z2, .ref tl, .ref th, .ref to_, .ref tw, .ref te, .ref ta, .ref t2, .ref tn])), (tl, .inl (xI g, 12, .inl (fun j => nI (tlim j)))), (th, .inl (xI g, 12, .inl (fun j => nI (thgt j)))), (to_, .inl (xM g, 12, .inr (.inr (.inr (.inr (fun i => if i < 12 then some (tr i) else none))))))] ++ (xRN (xI g) 12 5 tr td ++ [(tw, .inl (xI g, 24, .inl (fun j => iI (twt j)))), (te, .inl (xI g, 24, .inl (fun j => iI (tlv j)))), (ta, .inl (xI g, 24, .inl (fun j => iI (tst j)))), (t2, .inl (xI g, 24, .inl (fun j => iI (too j)))), (tn, .inl (xI g, 5, .inl (fun j => nI (tnt j)))), (ag, .inr (0, [.int (nI cnt), .ref ky])), (ky, .inl (xI g, 48, .inl (fun j => nI (kf j))))])))) := hD
  try dsimp only at hw_4
  refine lv_aload_n hx hb dX8_inTheEnd_10 rfl (lv_at hl 0 rfl) ?_
  refine va_get (D := xD g) (ci := 8) (v := .ref tb) (C := RX8) (T := TX8) (N := 15) hx hb hts hFX8 hown hK hP 0 rfl rfl 14 (by decide) (hts (.fieldLink RX8 85 "Stevedore" "trialYard" "LStevedore$Yard;") (by decide +kernel)) (fun _ h9 => h9) rfl dX8_inTheEnd_11 ?_
  refine lv_aload_n hx hb dX8_inTheEnd_14 rfl (lv_at hl 0 rfl) ?_
  refine va_get (D := xD g) (ci := 8) (v := .ref ya) (C := RX8) (T := TX8) (N := 15) hx hb hts hFX8 hown hK hP 0 rfl rfl 13 (by decide) (hts (.fieldLink RX8 81 "Stevedore" "yard" "LStevedore$Yard;") (by decide +kernel)) (fun _ h9 => h9) rfl dX8_inTheEnd_15 ?_
  have hPc := hP.sub (ws' := ([(ya, .inr (7, [.int (nI sc), .int (nI rs), .int (nI wo), .ref li, .ref he, .ref so, .ref we, .ref le, .ref sa, .ref so2, y10])), (li, .inl (xI g, 12, .inl (fun j => nI (lim j)))), (he, .inl (xI g, 12, .inl (fun j => nI (hgt j)))), (so, .inl (xM g, 12, .inr (.inr (.inr (.inr (fun i => if i < 12 then some (rr i) else none))))))] ++ (xRN (xI g) 12 5 rr sd ++ ([(we, .inl (xI g, 24, .inl (fun j => iI (wt j)))), (le, .inl (xI g, 24, .inl (fun j => iI (lv j)))), (sa, .inl (xI g, 24, .inl (fun j => iI (stt j)))), (so2, .inl (xI g, 24, .inl (fun j => iI (oo j)))), (tb, .inr (7, [z0, z1, z2, .ref tl, .ref th, .ref to_, .ref tw, .ref te, .ref ta, .ref t2, .ref tn])), (tl, .inl (xI g, 12, .inl (fun j => nI (tlim j)))), (th, .inl (xI g, 12, .inl (fun j => nI (thgt j)))), (to_, .inl (xM g, 12, .inr (.inr (.inr (.inr (fun i => if i < 12 then some (tr i) else none))))))] ++ (xRN (xI g) 12 5 tr td ++ [(tw, .inl (xI g, 24, .inl (fun j => iI (twt j)))), (te, .inl (xI g, 24, .inl (fun j => iI (tlv j)))), (ta, .inl (xI g, 24, .inl (fun j => iI (tst j)))), (t2, .inl (xI g, 24, .inl (fun j => iI (too j))))]))))) [1, 2, 3, 4, 5, 6, 7, 8, 9, 10, 11, 12, 13, 14, 15, 16, 17, 18, 19, 20, 21, 22, 23, 24, 25, 26, 27, 28, 29, 30, 31, 32, 33, 34, 35, 36, 37, 38, 39, 40] rfl
  have hDc := hD.sub (ws' := ([(ya, .inr (7, [.int (nI sc), .int (nI rs), .int (nI wo), .ref li, .ref he, .ref so, .ref we, .ref le, .ref sa, .ref so2, y10])), (li, .inl (xI g, 12, .inl (fun j => nI (lim j)))), (he, .inl (xI g, 12, .inl (fun j => nI (hgt j)))), (so, .inl (xM g, 12, .inr (.inr (.inr (.inr (fun i => if i < 12 then some (rr i) else none))))))] ++ (xRN (xI g) 12 5 rr sd ++ ([(we, .inl (xI g, 24, .inl (fun j => iI (wt j)))), (le, .inl (xI g, 24, .inl (fun j => iI (lv j)))), (sa, .inl (xI g, 24, .inl (fun j => iI (stt j)))), (so2, .inl (xI g, 24, .inl (fun j => iI (oo j)))), (tb, .inr (7, [z0, z1, z2, .ref tl, .ref th, .ref to_, .ref tw, .ref te, .ref ta, .ref t2, .ref tn])), (tl, .inl (xI g, 12, .inl (fun j => nI (tlim j)))), (th, .inl (xI g, 12, .inl (fun j => nI (thgt j)))), (to_, .inl (xM g, 12, .inr (.inr (.inr (.inr (fun i => if i < 12 then some (tr i) else none))))))] ++ (xRN (xI g) 12 5 tr td ++ [(tw, .inl (xI g, 24, .inl (fun j => iI (twt j)))), (te, .inl (xI g, 24, .inl (fun j => iI (tlv j)))), (ta, .inl (xI g, 24, .inl (fun j => iI (tst j)))), (t2, .inl (xI g, 24, .inl (fun j => iI (too j))))]))))) [1, 2, 3, 4, 5, 6, 7, 8, 9, 10, 11, 12, 13, 14, 15, 16, 17, 18, 19, 20, 21, 22, 23, 24, 25, 26, 27, 28, 29, 30, 31, 32, 33, 34, 35, 36, 37, 38, 39, 40] (by decide) rfl
  have hFc := va_free (wc := ([(ya, .inr (7, [.int (nI sc), .int (nI rs), .int (nI wo), .ref li, .ref he, .ref so, .ref we, .ref le, .ref sa, .ref so2, y10])), (li, .inl (xI g, 12, .inl (fun j => nI (lim j)))), (he, .inl (xI g, 12, .inl (fun j => nI (hgt j)))), (so, .inl (xM g, 12, .inr (.inr (.inr (.inr (fun i => if i < 12 then some (rr i) else none))))))] ++ (xRN (xI g) 12 5 rr sd ++ ([(we, .inl (xI g, 24, .inl (fun j => iI (wt j)))), (le, .inl (xI g, 24, .inl (fun j => iI (lv j)))), (sa, .inl (xI g, 24, .inl (fun j => iI (stt j)))), (so2, .inl (xI g, 24, .inl (fun j => iI (oo j)))), (tb, .inr (7, [z0, z1, z2, .ref tl, .ref th, .ref to_, .ref tw, .ref te, .ref ta, .ref t2, .ref tn])), (tl, .inl (xI g, 12, .inl (fun j => nI (tlim j)))), (th, .inl (xI g, 12, .inl (fun j => nI (thgt j)))), (to_, .inl (xM g, 12, .inr (.inr (.inr (.inr (fun i => if i < 12 then some (tr i) else none))))))] ++ (xRN (xI g) 12 5 tr td ++ [(tw, .inl (xI g, 24, .inl (fun j => iI (twt j)))), (te, .inl (xI g, 24, .inl (fun j => iI (tlv j)))), (ta, .inl (xI g, 24, .inl (fun j => iI (tst j)))), (t2, .inl (xI g, 24, .inl (fun j => iI (too j))))]))))) hD hS hA [1, 2, 3, 4, 5, 6, 7, 8, 9, 10, 11, 12, 13, 14, 15, 16, 17, 18, 19, 20, 21, 22, 23, 24, 25, 26, 27, 28, 29, 30, 31, 32, 33, 34, 35, 36, 37, 38, 39, 40] rfl
  refine va_callv (va_runV (As := [.ref ya]) (rest := []) ⟨hx, hb, hml, hown, hts⟩ (y_copyFrom l g H.size ya li he so we le sa so2 tb tl th to_ tw te ta t2 sc rs wo rr tr y10 z0 z1 z2 (.ref tn) lim hgt sd wt lv stt oo tlim thgt td twt tlv tst too (by first | assumption | omega) (fun x hx j => ((hI.1.2.1 x hx).2 j).trans (htz x hx j).symm) b_lim b_hgt b_sd b_wt b_lv b_stt b_oo b_tlim b_thgt b_td b_twt b_tlv b_tst b_too) (cwV 1 hts gX8_inTheEnd_X7_copyFrom rfl rfl rfl (by decide +kernel) ⟨Nat.le_of_ble_eq_true rfl, Nat.le_of_ble_eq_true rfl⟩) ⟨xB.blind, va_recv hK hPc (ci := 7) (q0 := 20) rfl rfl, fun U9 hU9 hW9 => ⟨rfl, xB.mk hPc hK hDc hU9 hW9⟩⟩ rfl rfl hl.1 rfl (lv_room (Nat.le_of_ble_eq_true rfl)) dX8_inTheEnd_18 ⟨Nat.le_of_ble_eq_true rfl, Nat.le_of_ble_eq_true rfl⟩) hS (fun q _ h => hFc q h) hFc (fun _ t H1 locs ht hvm hw_6 hB hz1 hk1 hS => ?_)
  obtain ⟨hP1, hK1, hD1⟩ := hB
  rw [ht] at hP1
  obtain ⟨hP, hD⟩ := va_join (wr := [(st, .inr (8, [s0, s1, s2, s3, s4, s5, s6, s7, s8, s9, .int 1, s11, .ref ag, .ref ya, .ref tb])), (tn, .inl (xI g, 5, .inl (fun j => nI (tnt j)))), (ag, .inr (0, [.int (nI cnt), .ref ky])), (ky, .inl (xI g, 48, .inl (fun j => nI (kf j))))]) (w1 := ([(ya, .inr (7, [.int (nI sc), .int (nI rs), .int (nI wo), .ref li, .ref he, .ref so, .ref we, .ref le, .ref sa, .ref so2, y10])), (li, .inl (xI g, 12, .inl (fun j => nI (lim j)))), (he, .inl (xI g, 12, .inl (fun j => nI (hgt j)))), (so, .inl (xM g, 12, .inr (.inr (.inr (.inr (fun i => if i < 12 then some (rr i) else none))))))] ++ (xRN (xI g) 12 5 rr sd ++ ([(we, .inl (xI g, 24, .inl (fun j => iI (wt j)))), (le, .inl (xI g, 24, .inl (fun j => iI (lv j)))), (sa, .inl (xI g, 24, .inl (fun j => iI (stt j)))), (so2, .inl (xI g, 24, .inl (fun j => iI (oo j)))), (tb, .inr (7, [.int (nI sc), .int (nI rs), .int (nI wo), .ref tl, .ref th, .ref to_, .ref tw, .ref te, .ref ta, .ref t2, .ref tn])), (tl, .inl (xI g, 12, .inl (fun j => nI (lim j)))), (th, .inl (xI g, 12, .inl (fun j => nI (hgt j)))), (to_, .inl (xM g, 12, .inr (.inr (.inr (.inr (fun i => if i < 12 then some (tr i) else none))))))] ++ (xRN (xI g) 12 5 tr sd ++ [(tw, .inl (xI g, 24, .inl (fun j => iI (wt j)))), (te, .inl (xI g, 24, .inl (fun j => iI (lv j)))), (ta, .inl (xI g, 24, .inl (fun j => iI (stt j)))), (t2, .inl (xI g, 24, .inl (fun j => iI (oo j))))]))))) hP hD [1, 2, 3, 4, 5, 6, 7, 8, 9, 10, 11, 12, 13, 14, 15, 16, 17, 18, 19, 20, 21, 22, 23, 24, 25, 26, 27, 28, 29, 30, 31, 32, 33, 34, 35, 36, 37, 38, 39, 40] [0, 41, 42, 43] rfl rfl (by decide) (by decide) hk1 hFc hP1 hD1
  generalize H1 = H at hP hS ⊢
  have hP : va_P (xD g) vwCl ([(st, .inr (8, [s0, s1, s2, s3, s4, s5, s6, s7, s8, s9, .int 1, s11, .ref ag, .ref ya, .ref tb])), (tn, .inl (xI g, 5, .inl (fun j => nI (tnt j)))), (ag, .inr (0, [.int (nI cnt), .ref ky])), (ky, .inl (xI g, 48, .inl (fun j => nI (kf j)))), (ya, .inr (7, [.int (nI sc), .int (nI rs), .int (nI wo), .ref li, .ref he, .ref so, .ref we, .ref le, .ref sa, .ref so2, y10])), (li, .inl (xI g, 12, .inl (fun j => nI (lim j)))), (he, .inl (xI g, 12, .inl (fun j => nI (hgt j)))), (so, .inl (xM g, 12, .inr (.inr (.inr (.inr (fun i => if i < 12 then some (rr i) else none))))))] ++ (xRN (xI g) 12 5 rr sd ++ ([(we, .inl (xI g, 24, .inl (fun j => iI (wt j)))), (le, .inl (xI g, 24, .inl (fun j => iI (lv j)))), (sa, .inl (xI g, 24, .inl (fun j => iI (stt j)))), (so2, .inl (xI g, 24, .inl (fun j => iI (oo j)))), (tb, .inr (7, [.int (nI sc), .int (nI rs), .int (nI wo), .ref tl, .ref th, .ref to_, .ref tw, .ref te, .ref ta, .ref t2, .ref tn])), (tl, .inl (xI g, 12, .inl (fun j => nI (lim j)))), (th, .inl (xI g, 12, .inl (fun j => nI (hgt j)))), (to_, .inl (xM g, 12, .inr (.inr (.inr (.inr (fun i => if i < 12 then some (tr i) else none))))))] ++ (xRN (xI g) 12 5 tr sd ++ [(tw, .inl (xI g, 24, .inl (fun j => iI (wt j)))), (te, .inl (xI g, 24, .inl (fun j => iI (lv j)))), (ta, .inl (xI g, 24, .inl (fun j => iI (stt j)))), (t2, .inl (xI g, 24, .inl (fun j => iI (oo j))))])))) H := hP
  have hD : va_D A ([(st, .inr (8, [s0, s1, s2, s3, s4, s5, s6, s7, s8, s9, .int 1, s11, .ref ag, .ref ya, .ref tb])), (tn, .inl (xI g, 5, .inl (fun j => nI (tnt j)))), (ag, .inr (0, [.int (nI cnt), .ref ky])), (ky, .inl (xI g, 48, .inl (fun j => nI (kf j)))), (ya, .inr (7, [.int (nI sc), .int (nI rs), .int (nI wo), .ref li, .ref he, .ref so, .ref we, .ref le, .ref sa, .ref so2, y10])), (li, .inl (xI g, 12, .inl (fun j => nI (lim j)))), (he, .inl (xI g, 12, .inl (fun j => nI (hgt j)))), (so, .inl (xM g, 12, .inr (.inr (.inr (.inr (fun i => if i < 12 then some (rr i) else none))))))] ++ (xRN (xI g) 12 5 rr sd ++ ([(we, .inl (xI g, 24, .inl (fun j => iI (wt j)))), (le, .inl (xI g, 24, .inl (fun j => iI (lv j)))), (sa, .inl (xI g, 24, .inl (fun j => iI (stt j)))), (so2, .inl (xI g, 24, .inl (fun j => iI (oo j)))), (tb, .inr (7, [.int (nI sc), .int (nI rs), .int (nI wo), .ref tl, .ref th, .ref to_, .ref tw, .ref te, .ref ta, .ref t2, .ref tn])), (tl, .inl (xI g, 12, .inl (fun j => nI (lim j)))), (th, .inl (xI g, 12, .inl (fun j => nI (hgt j)))), (to_, .inl (xM g, 12, .inr (.inr (.inr (.inr (fun i => if i < 12 then some (tr i) else none))))))] ++ (xRN (xI g) 12 5 tr sd ++ [(tw, .inl (xI g, 24, .inl (fun j => iI (wt j)))), (te, .inl (xI g, 24, .inl (fun j => iI (lv j)))), (ta, .inl (xI g, 24, .inl (fun j => iI (stt j)))), (t2, .inl (xI g, 24, .inl (fun j => iI (oo j))))])))) := hD
  try dsimp only at hw_6
  refine lv_aload_n hx hb dX8_inTheEnd_21 rfl (lv_at hl 0 rfl) ?_
  refine va_get (D := xD g) (ci := 8) (v := .ref tb) (C := RX8) (T := TX8) (N := 15) hx hb hts hFX8 hown hK hP 0 rfl rfl 14 (by decide) (hts (.fieldLink RX8 85 "Stevedore" "trialYard" "LStevedore$Yard;") (by decide +kernel)) (fun _ h9 => h9) rfl dX8_inTheEnd_22 ?_
  refine lv_aload_n hx hb dX8_inTheEnd_25 rfl (lv_at hl 0 rfl) ?_
  refine va_get (D := xD g) (ci := 8) (v := .ref ag) (C := RX8) (T := TX8) (N := 15) hx hb hts hFX8 hown hK hP 0 rfl rfl 12 (by decide) (hts (.fieldLink RX8 74 "Stevedore" "agenda" "LStevedore$Agenda;") (by decide +kernel)) (fun _ h9 => h9) rfl dX8_inTheEnd_26 ?_
  refine lv_aload_n hx hb dX8_inTheEnd_29 rfl (lv_at hl 0 rfl) ?_
  refine va_get (D := xD g) (ci := 8) (v := .ref ag) (C := RX8) (T := TX8) (N := 15) hx hb hts hFX8 hown hK hP 0 rfl rfl 12 (by decide) (hts (.fieldLink RX8 74 "Stevedore" "agenda" "LStevedore$Agenda;") (by decide +kernel)) (fun _ h9 => h9) rfl dX8_inTheEnd_30 ?_
  refine va_get (D := xD g) (ci := 0) (v := .int (nI cnt)) (C := RX0) (T := TX0) (N := 2) hx hb hts hFX0 hown hK hP 2 rfl rfl 0 (by decide) (hts (.fieldLink RX8 278 "Stevedore$Agenda" "count" "I") (by decide +kernel)) (fun _ h9 => h9) rfl dX8_inTheEnd_33 ?_
  have hPc := hP.sub (ws' := ([(tb, .inr (7, [.int (nI sc), .int (nI rs), .int (nI wo), .ref tl, .ref th, .ref to_, .ref tw, .ref te, .ref ta, .ref t2, .ref tn])), (tl, .inl (xI g, 12, .inl (fun j => nI (lim j)))), (th, .inl (xI g, 12, .inl (fun j => nI (hgt j)))), (to_, .inl (xM g, 12, .inr (.inr (.inr (.inr (fun i => if i < 12 then some (tr i) else none))))))] ++ (xRN (xI g) 12 5 tr sd ++ [(tw, .inl (xI g, 24, .inl (fun j => iI (wt j)))), (te, .inl (xI g, 24, .inl (fun j => iI (lv j)))), (ta, .inl (xI g, 24, .inl (fun j => iI (stt j)))), (t2, .inl (xI g, 24, .inl (fun j => iI (oo j)))), (tn, .inl (xI g, 5, .inl (fun j => nI (tnt j)))), (ag, .inr (0, [.int (nI cnt), .ref ky])), (ky, .inl (xI g, 48, .inl (fun j => nI (kf j))))]))) [24, 25, 26, 27, 28, 29, 30, 31, 32, 33, 34, 35, 36, 37, 38, 39, 40, 41, 42, 43, 1, 2, 3] rfl
  have hDc := hD.sub (ws' := ([(tb, .inr (7, [.int (nI sc), .int (nI rs), .int (nI wo), .ref tl, .ref th, .ref to_, .ref tw, .ref te, .ref ta, .ref t2, .ref tn])), (tl, .inl (xI g, 12, .inl (fun j => nI (lim j)))), (th, .inl (xI g, 12, .inl (fun j => nI (hgt j)))), (to_, .inl (xM g, 12, .inr (.inr (.inr (.inr (fun i => if i < 12 then some (tr i) else none))))))] ++ (xRN (xI g) 12 5 tr sd ++ [(tw, .inl (xI g, 24, .inl (fun j => iI (wt j)))), (te, .inl (xI g, 24, .inl (fun j => iI (lv j)))), (ta, .inl (xI g, 24, .inl (fun j => iI (stt j)))), (t2, .inl (xI g, 24, .inl (fun j => iI (oo j)))), (tn, .inl (xI g, 5, .inl (fun j => nI (tnt j)))), (ag, .inr (0, [.int (nI cnt), .ref ky])), (ky, .inl (xI g, 48, .inl (fun j => nI (kf j))))]))) [24, 25, 26, 27, 28, 29, 30, 31, 32, 33, 34, 35, 36, 37, 38, 39, 40, 41, 42, 43, 1, 2, 3] (by decide) rfl
  have hFc := va_free (wc := ([(tb, .inr (7, [.int (nI sc), .int (nI rs), .int (nI wo), .ref tl, .ref th, .ref to_, .ref tw, .ref te, .ref ta, .ref t2, .ref tn])), (tl, .inl (xI g, 12, .inl (fun j => nI (lim j)))), (th, .inl (xI g, 12, .inl (fun j => nI (hgt j)))), (to_, .inl (xM g, 12, .inr (.inr (.inr (.inr (fun i => if i < 12 then some (tr i) else none))))))] ++ (xRN (xI g) 12 5 tr sd ++ [(tw, .inl (xI g, 24, .inl (fun j => iI (wt j)))), (te, .inl (xI g, 24, .inl (fun j => iI (lv j)))), (ta, .inl (xI g, 24, .inl (fun j => iI (stt j)))), (t2, .inl (xI g, 24, .inl (fun j => iI (oo j)))), (tn, .inl (xI g, 5, .inl (fun j => nI (tnt j)))), (ag, .inr (0, [.int (nI cnt), .ref ky])), (ky, .inl (xI g, 48, .inl (fun j => nI (kf j))))]))) hD hS hA [24, 25, 26, 27, 28, 29, 30, 31, 32, 33, 34, 35, 36, 37, 38, 39, 40, 41, 42, 43, 1, 2, 3] rfl
  refine va_callv (va_runV (As := [.ref ag, .int (nI cnt)]) (rest := []) ⟨hx, hb, hml, hown, hts⟩ (y_workOff l g H.size tb tl th to_ tw te ta t2 tn ag ky sc rs wo cnt cnt n tr lim hgt sd wt lv stt oo tnt kf (by first | assumption | omega) (by first | assumption | omega) (by first | assumption | omega) (by first | assumption | omega) (by first | assumption | omega) G hI b_lim b_hgt b_sd b_wt b_lv b_stt b_oo b_tnt b_kf) (cwV 2 hts gX8_inTheEnd_X7_workOff rfl rfl rfl (by decide +kernel) ⟨Nat.le_of_ble_eq_true rfl, Nat.le_of_ble_eq_true rfl⟩) ⟨xB.blind, va_recv hK hPc (ci := 7) (q0 := 0) rfl rfl, fun U9 hU9 hW9 => ⟨rfl, xB.mk hPc hK hDc hU9 hW9⟩⟩ rfl rfl hl.1 rfl (lv_room (Nat.le_of_ble_eq_true rfl)) dX8_inTheEnd_36 ⟨Nat.le_of_ble_eq_true rfl, Nat.le_of_ble_eq_true rfl⟩) hS (fun q _ h => hFc q h) hFc (fun _ t H1 locs ht hvm hw_8 hB hz1 hk1 hS => ?_)
  obtain ⟨i9_9, wnt2_10, hc_11, hb_12, hb_13, hb_14, hb_15, hb_16, hP1, hK1, hD1⟩ := hB
  rw [ht] at hP1
  obtain ⟨hP, hD⟩ := va_join (wr := ([(st, .inr (8, [s0, s1, s2, s3, s4, s5, s6, s7, s8, s9, .int 1, s11, .ref ag, .ref ya, .ref tb])), (ya, .inr (7, [.int (nI sc), .int (nI rs), .int (nI wo), .ref li, .ref he, .ref so, .ref we, .ref le, .ref sa, .ref so2, y10])), (li, .inl (xI g, 12, .inl (fun j => nI (lim j)))), (he, .inl (xI g, 12, .inl (fun j => nI (hgt j)))), (so, .inl (xM g, 12, .inr (.inr (.inr (.inr (fun i => if i < 12 then some (rr i) else none))))))] ++ (xRN (xI g) 12 5 rr sd ++ [(we, .inl (xI g, 24, .inl (fun j => iI (wt j)))), (le, .inl (xI g, 24, .inl (fun j => iI (lv j)))), (sa, .inl (xI g, 24, .inl (fun j => iI (stt j)))), (so2, .inl (xI g, 24, .inl (fun j => iI (oo j))))]))) (w1 := ([(tb, .inr (7, [.int (nI sc), .int (nI ((yRun sc lim wt lv kf wo (((hgt, sd, oo), stt), rs) i9_9).2)), .int (nI (wo + i9_9)), .ref tl, .ref th, .ref to_, .ref tw, .ref te, .ref ta, .ref t2, .ref tn])), (tl, .inl (xI g, 12, .inl (fun j => nI (lim j)))), (th, .inl (xI g, 12, .inl (fun j => nI (((yRun sc lim wt lv kf wo (((hgt, sd, oo), stt), rs) i9_9).1.1.1) j)))), (to_, .inl (xM g, 12, .inr (.inr (.inr (.inr (fun i => if i < 12 then some (tr i) else none))))))] ++ (xRN (xI g) 12 5 tr ((yRun sc lim wt lv kf wo (((hgt, sd, oo), stt), rs) i9_9).1.1.2.1) ++ [(tw, .inl (xI g, 24, .inl (fun j => iI (wt j)))), (te, .inl (xI g, 24, .inl (fun j => iI (lv j)))), (ta, .inl (xI g, 24, .inl (fun j => iI (((yRun sc lim wt lv kf wo (((hgt, sd, oo), stt), rs) i9_9).1.2) j)))), (t2, .inl (xI g, 24, .inl (fun j => iI (((yRun sc lim wt lv kf wo (((hgt, sd, oo), stt), rs) i9_9).1.1.2.2) j)))), (tn, .inl (xI g, 5, .inl (fun j => nI (wnt2_10 j)))), (ag, .inr (0, [.int (nI cnt), .ref ky])), (ky, .inl (xI g, 48, .inl (fun j => nI (kf j))))]))) hP hD [24, 25, 26, 27, 28, 29, 30, 31, 32, 33, 34, 35, 36, 37, 38, 39, 40, 41, 42, 43, 1, 2, 3] [0, 4, 5, 6, 7, 8, 9, 10, 11, 12, 13, 14, 15, 16, 17, 18, 19, 20, 21, 22, 23] rfl rfl (by decide) (by decide) hk1 hFc hP1 hD1
  generalize H1 = H at hP hS ⊢
  have hP : va_P (xD g) vwCl ([(st, .inr (8, [s0, s1, s2, s3, s4, s5, s6, s7, s8, s9, .int 1, s11, .ref ag, .ref ya, .ref tb])), (ya, .inr (7, [.int (nI sc), .int (nI rs), .int (nI wo), .ref li, .ref he, .ref so, .ref we, .ref le, .ref sa, .ref so2, y10])), (li, .inl (xI g, 12, .inl (fun j => nI (lim j)))), (he, .inl (xI g, 12, .inl (fun j => nI (hgt j)))), (so, .inl (xM g, 12, .inr (.inr (.inr (.inr (fun i => if i < 12 then some (rr i) else none))))))] ++ (xRN (xI g) 12 5 rr sd ++ ([(we, .inl (xI g, 24, .inl (fun j => iI (wt j)))), (le, .inl (xI g, 24, .inl (fun j => iI (lv j)))), (sa, .inl (xI g, 24, .inl (fun j => iI (stt j)))), (so2, .inl (xI g, 24, .inl (fun j => iI (oo j)))), (tb, .inr (7, [.int (nI sc), .int (nI ((yRun sc lim wt lv kf wo (((hgt, sd, oo), stt), rs) i9_9).2)), .int (nI (wo + i9_9)), .ref tl, .ref th, .ref to_, .ref tw, .ref te, .ref ta, .ref t2, .ref tn])), (tl, .inl (xI g, 12, .inl (fun j => nI (lim j)))), (th, .inl (xI g, 12, .inl (fun j => nI (((yRun sc lim wt lv kf wo (((hgt, sd, oo), stt), rs) i9_9).1.1.1) j)))), (to_, .inl (xM g, 12, .inr (.inr (.inr (.inr (fun i => if i < 12 then some (tr i) else none))))))] ++ (xRN (xI g) 12 5 tr ((yRun sc lim wt lv kf wo (((hgt, sd, oo), stt), rs) i9_9).1.1.2.1) ++ [(tw, .inl (xI g, 24, .inl (fun j => iI (wt j)))), (te, .inl (xI g, 24, .inl (fun j => iI (lv j)))), (ta, .inl (xI g, 24, .inl (fun j => iI (((yRun sc lim wt lv kf wo (((hgt, sd, oo), stt), rs) i9_9).1.2) j)))), (t2, .inl (xI g, 24, .inl (fun j => iI (((yRun sc lim wt lv kf wo (((hgt, sd, oo), stt), rs) i9_9).1.1.2.2) j)))), (tn, .inl (xI g, 5, .inl (fun j => nI (wnt2_10 j)))), (ag, .inr (0, [.int (nI cnt), .ref ky])), (ky, .inl (xI g, 48, .inl (fun j => nI (kf j))))])))) H := hP
  have hD : va_D A ([(st, .inr (8, [s0, s1, s2, s3, s4, s5, s6, s7, s8, s9, .int 1, s11, .ref ag, .ref ya, .ref tb])), (ya, .inr (7, [.int (nI sc), .int (nI rs), .int (nI wo), .ref li, .ref he, .ref so, .ref we, .ref le, .ref sa, .ref so2, y10])), (li, .inl (xI g, 12, .inl (fun j => nI (lim j)))), (he, .inl (xI g, 12, .inl (fun j => nI (hgt j)))), (so, .inl (xM g, 12, .inr (.inr (.inr (.inr (fun i => if i < 12 then some (rr i) else none))))))] ++ (xRN (xI g) 12 5 rr sd ++ ([(we, .inl (xI g, 24, .inl (fun j => iI (wt j)))), (le, .inl (xI g, 24, .inl (fun j => iI (lv j)))), (sa, .inl (xI g, 24, .inl (fun j => iI (stt j)))), (so2, .inl (xI g, 24, .inl (fun j => iI (oo j)))), (tb, .inr (7, [.int (nI sc), .int (nI ((yRun sc lim wt lv kf wo (((hgt, sd, oo), stt), rs) i9_9).2)), .int (nI (wo + i9_9)), .ref tl, .ref th, .ref to_, .ref tw, .ref te, .ref ta, .ref t2, .ref tn])), (tl, .inl (xI g, 12, .inl (fun j => nI (lim j)))), (th, .inl (xI g, 12, .inl (fun j => nI (((yRun sc lim wt lv kf wo (((hgt, sd, oo), stt), rs) i9_9).1.1.1) j)))), (to_, .inl (xM g, 12, .inr (.inr (.inr (.inr (fun i => if i < 12 then some (tr i) else none))))))] ++ (xRN (xI g) 12 5 tr ((yRun sc lim wt lv kf wo (((hgt, sd, oo), stt), rs) i9_9).1.1.2.1) ++ [(tw, .inl (xI g, 24, .inl (fun j => iI (wt j)))), (te, .inl (xI g, 24, .inl (fun j => iI (lv j)))), (ta, .inl (xI g, 24, .inl (fun j => iI (((yRun sc lim wt lv kf wo (((hgt, sd, oo), stt), rs) i9_9).1.2) j)))), (t2, .inl (xI g, 24, .inl (fun j => iI (((yRun sc lim wt lv kf wo (((hgt, sd, oo), stt), rs) i9_9).1.1.2.2) j)))), (tn, .inl (xI g, 5, .inl (fun j => nI (wnt2_10 j)))), (ag, .inr (0, [.int (nI cnt), .ref ky])), (ky, .inl (xI g, 48, .inl (fun j => nI (kf j))))])))) := hD
  try dsimp only at hw_8
  have hrun := hc_11
  refine lv_iload_n hx hb dX8_inTheEnd_39 rfl (lv_at hl 1 rfl) ?_
  refine lv_if_ne (tgt := 51) hx hb dX8_inTheEnd_40 (by decide) (fun c_17 => ?_) (fun c_17 => ?_)
  · have nc_17 := mt (nI_eq (a := wh) (b := 0) (by omega) (by omega)).mpr c_17
    refine lv_iload_n hx hb dX8_inTheEnd_51 rfl (lv_at hl 1 rfl) ?_
    refine lv_iconst (v := 1) hx hb dX8_inTheEnd_52 (by decide) ?_
    refine lv_icmp_ne (tgt := 65) hx hb dX8_inTheEnd_53 (by decide) (fun c_18 => ?_) (fun c_18 => ?_)
    · have nc_18 := mt (nI_eq (a := wh) (b := 1) (by omega) (by omega)).mpr c_18
      refine lv_iload_n hx hb dX8_inTheEnd_65 rfl (lv_at hl 1 rfl) ?_
      refine lv_iconst (v := 2) hx hb dX8_inTheEnd_66 (by decide) ?_
      refine lv_icmp_ne (tgt := 79) hx hb dX8_inTheEnd_67 (by decide) (fun c_19 => ?_) (fun c_19 => ?_)
      · have nc_19 := mt (nI_eq (a := wh) (b := 2) (by omega) (by omega)).mpr c_19
        refine lv_aload_n hx hb dX8_inTheEnd_79 rfl (lv_at hl 0 rfl) ?_
        refine va_get (D := xD g) (ci := 8) (v := .ref tb) (C := RX8) (T := TX8) (N := 15) hx hb hts hFX8 hown hK hP 0 rfl rfl 14 (by decide) (hts (.fieldLink RX8 85 "Stevedore" "trialYard" "LStevedore$Yard;") (by decide +kernel)) (fun _ h9 => h9) rfl dX8_inTheEnd_80 ?_
        refine lv_iconst (v := 1) hx hb dX8_inTheEnd_83 (by decide) ?_
        have hPc := hP.sub (ws' := [(tb, .inr (7, [.int (nI sc), .int (nI ((yRun sc lim wt lv kf wo (((hgt, sd, oo), stt), rs) i9_9).2)), .int (nI (wo + i9_9)), .ref tl, .ref th, .ref to_, .ref tw, .ref te, .ref ta, .ref t2, .ref tn])), (ta, .inl (xI g, 24, .inl (fun j => iI (((yRun sc lim wt lv kf wo (((hgt, sd, oo), stt), rs) i9_9).1.2) j))))]) [21, 39] rfl
        have hDc := hD.sub (ws' := [(tb, .inr (7, [.int (nI sc), .int (nI ((yRun sc lim wt lv kf wo (((hgt, sd, oo), stt), rs) i9_9).2)), .int (nI (wo + i9_9)), .ref tl, .ref th, .ref to_, .ref tw, .ref te, .ref ta, .ref t2, .ref tn])), (ta, .inl (xI g, 24, .inl (fun j => iI (((yRun sc lim wt lv kf wo (((hgt, sd, oo), stt), rs) i9_9).1.2) j))))]) [21, 39] (by decide) rfl
        have hFc := xFree hS hA
        refine va_calli (va_runV (As := [.int 1]) (rest := []) ⟨hx, hb, hml, hown, hts⟩ (y_countState l g H.size tb ta 1 (.int (nI sc)) (.int (nI ((yRun sc lim wt lv kf wo (((hgt, sd, oo), stt), rs) i9_9).2))) (.int (nI (wo + i9_9))) (.ref tl) (.ref th) (.ref to_) (.ref tw) (.ref te) (.ref t2) (.ref tn) ((yRun sc lim wt lv kf wo (((hgt, sd, oo), stt), rs) i9_9).1.2) (by first | assumption | omega) hb_14) (cwV 1 hts gX8_inTheEnd_X7_countState rfl rfl rfl (by decide +kernel) ⟨Nat.le_of_ble_eq_true rfl, Nat.le_of_ble_eq_true rfl⟩) ⟨xB.blind, va_recv hK hPc (ci := 7) (q0 := 0) rfl rfl, fun U9 hU9 hW9 => ⟨rfl, xB.mk hPc hK hDc hU9 hW9⟩⟩ rfl rfl hl.1 rfl (lv_room (Nat.le_of_ble_eq_true rfl)) dX8_inTheEnd_84 ⟨Nat.le_of_ble_eq_true rfl, Nat.le_of_ble_eq_true rfl⟩) hS (fun q _ h => hFc q h) hFc (fun r_20 _ t H1 locs ht hvm hw_21 hB hz1 hk1 hS => ?_)
        have hP := xSame hP hk1
        generalize H1 = H at hP hS ⊢
        have hP : va_P (xD g) vwCl ([(st, .inr (8, [s0, s1, s2, s3, s4, s5, s6, s7, s8, s9, .int 1, s11, .ref ag, .ref ya, .ref tb])), (ya, .inr (7, [.int (nI sc), .int (nI rs), .int (nI wo), .ref li, .ref he, .ref so, .ref we, .ref le, .ref sa, .ref so2, y10])), (li, .inl (xI g, 12, .inl (fun j => nI (lim j)))), (he, .inl (xI g, 12, .inl (fun j => nI (hgt j)))), (so, .inl (xM g, 12, .inr (.inr (.inr (.inr (fun i => if i < 12 then some (rr i) else none))))))] ++ (xRN (xI g) 12 5 rr sd ++ ([(we, .inl (xI g, 24, .inl (fun j => iI (wt j)))), (le, .inl (xI g, 24, .inl (fun j => iI (lv j)))), (sa, .inl (xI g, 24, .inl (fun j => iI (stt j)))), (so2, .inl (xI g, 24, .inl (fun j => iI (oo j)))), (tb, .inr (7, [.int (nI sc), .int (nI ((yRun sc lim wt lv kf wo (((hgt, sd, oo), stt), rs) i9_9).2)), .int (nI (wo + i9_9)), .ref tl, .ref th, .ref to_, .ref tw, .ref te, .ref ta, .ref t2, .ref tn])), (tl, .inl (xI g, 12, .inl (fun j => nI (lim j)))), (th, .inl (xI g, 12, .inl (fun j => nI (((yRun sc lim wt lv kf wo (((hgt, sd, oo), stt), rs) i9_9).1.1.1) j)))), (to_, .inl (xM g, 12, .inr (.inr (.inr (.inr (fun i => if i < 12 then some (tr i) else none))))))] ++ (xRN (xI g) 12 5 tr ((yRun sc lim wt lv kf wo (((hgt, sd, oo), stt), rs) i9_9).1.1.2.1) ++ [(tw, .inl (xI g, 24, .inl (fun j => iI (wt j)))), (te, .inl (xI g, 24, .inl (fun j => iI (lv j)))), (ta, .inl (xI g, 24, .inl (fun j => iI (((yRun sc lim wt lv kf wo (((hgt, sd, oo), stt), rs) i9_9).1.2) j)))), (t2, .inl (xI g, 24, .inl (fun j => iI (((yRun sc lim wt lv kf wo (((hgt, sd, oo), stt), rs) i9_9).1.1.2.2) j)))), (tn, .inl (xI g, 5, .inl (fun j => nI (wnt2_10 j)))), (ag, .inr (0, [.int (nI cnt), .ref ky])), (ky, .inl (xI g, 48, .inl (fun j => nI (kf j))))])))) H := hP
        have hD : va_D A ([(st, .inr (8, [s0, s1, s2, s3, s4, s5, s6, s7, s8, s9, .int 1, s11, .ref ag, .ref ya, .ref tb])), (ya, .inr (7, [.int (nI sc), .int (nI rs), .int (nI wo), .ref li, .ref he, .ref so, .ref we, .ref le, .ref sa, .ref so2, y10])), (li, .inl (xI g, 12, .inl (fun j => nI (lim j)))), (he, .inl (xI g, 12, .inl (fun j => nI (hgt j)))), (so, .inl (xM g, 12, .inr (.inr (.inr (.inr (fun i => if i < 12 then some (rr i) else none))))))] ++ (xRN (xI g) 12 5 rr sd ++ ([(we, .inl (xI g, 24, .inl (fun j => iI (wt j)))), (le, .inl (xI g, 24, .inl (fun j => iI (lv j)))), (sa, .inl (xI g, 24, .inl (fun j => iI (stt j)))), (so2, .inl (xI g, 24, .inl (fun j => iI (oo j)))), (tb, .inr (7, [.int (nI sc), .int (nI ((yRun sc lim wt lv kf wo (((hgt, sd, oo), stt), rs) i9_9).2)), .int (nI (wo + i9_9)), .ref tl, .ref th, .ref to_, .ref tw, .ref te, .ref ta, .ref t2, .ref tn])), (tl, .inl (xI g, 12, .inl (fun j => nI (lim j)))), (th, .inl (xI g, 12, .inl (fun j => nI (((yRun sc lim wt lv kf wo (((hgt, sd, oo), stt), rs) i9_9).1.1.1) j)))), (to_, .inl (xM g, 12, .inr (.inr (.inr (.inr (fun i => if i < 12 then some (tr i) else none))))))] ++ (xRN (xI g) 12 5 tr ((yRun sc lim wt lv kf wo (((hgt, sd, oo), stt), rs) i9_9).1.1.2.1) ++ [(tw, .inl (xI g, 24, .inl (fun j => iI (wt j)))), (te, .inl (xI g, 24, .inl (fun j => iI (lv j)))), (ta, .inl (xI g, 24, .inl (fun j => iI (((yRun sc lim wt lv kf wo (((hgt, sd, oo), stt), rs) i9_9).1.2) j)))), (t2, .inl (xI g, 24, .inl (fun j => iI (((yRun sc lim wt lv kf wo (((hgt, sd, oo), stt), rs) i9_9).1.1.2.2) j)))), (tn, .inl (xI g, 5, .inl (fun j => nI (wnt2_10 j)))), (ag, .inr (0, [.int (nI cnt), .ref ky])), (ky, .inl (xI g, 48, .inl (fun j => nI (kf j))))])))) := hD
        try dsimp only at hw_21
        obtain rfl : r_20 = nI (yCnt ((yRun sc lim wt lv kf wo (((hgt, sd, oo), stt), rs) i9_9).1.2) 1 24) := hw_21
        refine lv_aload_n hx hb dX8_inTheEnd_87 rfl (lv_at hl 0 rfl) ?_
        refine va_get (D := xD g) (ci := 8) (v := .ref tb) (C := RX8) (T := TX8) (N := 15) hx hb hts hFX8 hown hK hP 0 rfl rfl 14 (by decide) (hts (.fieldLink RX8 85 "Stevedore" "trialYard" "LStevedore$Yard;") (by decide +kernel)) (fun _ h9 => h9) rfl dX8_inTheEnd_88 ?_
        refine lv_iconst (v := 4) hx hb dX8_inTheEnd_91 (by decide) ?_
        have hPc := hP.sub (ws' := [(tb, .inr (7, [.int (nI sc), .int (nI ((yRun sc lim wt lv kf wo (((hgt, sd, oo), stt), rs) i9_9).2)), .int (nI (wo + i9_9)), .ref tl, .ref th, .ref to_, .ref tw, .ref te, .ref ta, .ref t2, .ref tn])), (ta, .inl (xI g, 24, .inl (fun j => iI (((yRun sc lim wt lv kf wo (((hgt, sd, oo), stt), rs) i9_9).1.2) j))))]) [21, 39] rfl
        have hDc := hD.sub (ws' := [(tb, .inr (7, [.int (nI sc), .int (nI ((yRun sc lim wt lv kf wo (((hgt, sd, oo), stt), rs) i9_9).2)), .int (nI (wo + i9_9)), .ref tl, .ref th, .ref to_, .ref tw, .ref te, .ref ta, .ref t2, .ref tn])), (ta, .inl (xI g, 24, .inl (fun j => iI (((yRun sc lim wt lv kf wo (((hgt, sd, oo), stt), rs) i9_9).1.2) j))))]) [21, 39] (by decide) rfl
        have hFc := xFree hS hA
        refine va_calli (va_runV (As := [.int 4]) (rest := [.int (nI (yCnt ((yRun sc lim wt lv kf wo (((hgt, sd, oo), stt), rs) i9_9).1.2) 1 24))]) ⟨hx, hb, hml, hown, hts⟩ (y_countState l g H.size tb ta 4 (.int (nI sc)) (.int (nI ((yRun sc lim wt lv kf wo (((hgt, sd, oo), stt), rs) i9_9).2))) (.int (nI (wo + i9_9))) (.ref tl) (.ref th) (.ref to_) (.ref tw) (.ref te) (.ref t2) (.ref tn) ((yRun sc lim wt lv kf wo (((hgt, sd, oo), stt), rs) i9_9).1.2) (by first | assumption | omega) hb_14) (cwV 1 hts gX8_inTheEnd_X7_countState rfl rfl rfl (by decide +kernel) ⟨Nat.le_of_ble_eq_true rfl, Nat.le_of_ble_eq_true rfl⟩) ⟨xB.blind, va_recv hK hPc (ci := 7) (q0 := 0) rfl rfl, fun U9 hU9 hW9 => ⟨rfl, xB.mk hPc hK hDc hU9 hW9⟩⟩ rfl rfl hl.1 rfl (lv_room (Nat.le_of_ble_eq_true rfl)) dX8_inTheEnd_92 ⟨Nat.le_of_ble_eq_true rfl, Nat.le_of_ble_eq_true rfl⟩) hS (fun q _ h => hFc q h) hFc (fun r_22 _ t H1 locs ht hvm hw_23 hB hz1 hk1 hS => ?_)
        have hP := xSame hP hk1
        generalize H1 = H at hP hS ⊢
        have hP : va_P (xD g) vwCl ([(st, .inr (8, [s0, s1, s2, s3, s4, s5, s6, s7, s8, s9, .int 1, s11, .ref ag, .ref ya, .ref tb])), (ya, .inr (7, [.int (nI sc), .int (nI rs), .int (nI wo), .ref li, .ref he, .ref so, .ref we, .ref le, .ref sa, .ref so2, y10])), (li, .inl (xI g, 12, .inl (fun j => nI (lim j)))), (he, .inl (xI g, 12, .inl (fun j => nI (hgt j)))), (so, .inl (xM g, 12, .inr (.inr (.inr (.inr (fun i => if i < 12 then some (rr i) else none))))))] ++ (xRN (xI g) 12 5 rr sd ++ ([(we, .inl (xI g, 24, .inl (fun j => iI (wt j)))), (le, .inl (xI g, 24, .inl (fun j => iI (lv j)))), (sa, .inl (xI g, 24, .inl (fun j => iI (stt j)))), (so2, .inl (xI g, 24, .inl (fun j => iI (oo j)))), (tb, .inr (7, [.int (nI sc), .int (nI ((yRun sc lim wt lv kf wo (((hgt, sd, oo), stt), rs) i9_9).2)), .int (nI (wo + i9_9)), .ref tl, .ref th, .ref to_, .ref tw, .ref te, .ref ta, .ref t2, .ref tn])), (tl, .inl (xI g, 12, .inl (fun j => nI (lim j)))), (th, .inl (xI g, 12, .inl (fun j => nI (((yRun sc lim wt lv kf wo (((hgt, sd, oo), stt), rs) i9_9).1.1.1) j)))), (to_, .inl (xM g, 12, .inr (.inr (.inr (.inr (fun i => if i < 12 then some (tr i) else none))))))] ++ (xRN (xI g) 12 5 tr ((yRun sc lim wt lv kf wo (((hgt, sd, oo), stt), rs) i9_9).1.1.2.1) ++ [(tw, .inl (xI g, 24, .inl (fun j => iI (wt j)))), (te, .inl (xI g, 24, .inl (fun j => iI (lv j)))), (ta, .inl (xI g, 24, .inl (fun j => iI (((yRun sc lim wt lv kf wo (((hgt, sd, oo), stt), rs) i9_9).1.2) j)))), (t2, .inl (xI g, 24, .inl (fun j => iI (((yRun sc lim wt lv kf wo (((hgt, sd, oo), stt), rs) i9_9).1.1.2.2) j)))), (tn, .inl (xI g, 5, .inl (fun j => nI (wnt2_10 j)))), (ag, .inr (0, [.int (nI cnt), .ref ky])), (ky, .inl (xI g, 48, .inl (fun j => nI (kf j))))])))) H := hP
        have hD : va_D A ([(st, .inr (8, [s0, s1, s2, s3, s4, s5, s6, s7, s8, s9, .int 1, s11, .ref ag, .ref ya, .ref tb])), (ya, .inr (7, [.int (nI sc), .int (nI rs), .int (nI wo), .ref li, .ref he, .ref so, .ref we, .ref le, .ref sa, .ref so2, y10])), (li, .inl (xI g, 12, .inl (fun j => nI (lim j)))), (he, .inl (xI g, 12, .inl (fun j => nI (hgt j)))), (so, .inl (xM g, 12, .inr (.inr (.inr (.inr (fun i => if i < 12 then some (rr i) else none))))))] ++ (xRN (xI g) 12 5 rr sd ++ ([(we, .inl (xI g, 24, .inl (fun j => iI (wt j)))), (le, .inl (xI g, 24, .inl (fun j => iI (lv j)))), (sa, .inl (xI g, 24, .inl (fun j => iI (stt j)))), (so2, .inl (xI g, 24, .inl (fun j => iI (oo j)))), (tb, .inr (7, [.int (nI sc), .int (nI ((yRun sc lim wt lv kf wo (((hgt, sd, oo), stt), rs) i9_9).2)), .int (nI (wo + i9_9)), .ref tl, .ref th, .ref to_, .ref tw, .ref te, .ref ta, .ref t2, .ref tn])), (tl, .inl (xI g, 12, .inl (fun j => nI (lim j)))), (th, .inl (xI g, 12, .inl (fun j => nI (((yRun sc lim wt lv kf wo (((hgt, sd, oo), stt), rs) i9_9).1.1.1) j)))), (to_, .inl (xM g, 12, .inr (.inr (.inr (.inr (fun i => if i < 12 then some (tr i) else none))))))] ++ (xRN (xI g) 12 5 tr ((yRun sc lim wt lv kf wo (((hgt, sd, oo), stt), rs) i9_9).1.1.2.1) ++ [(tw, .inl (xI g, 24, .inl (fun j => iI (wt j)))), (te, .inl (xI g, 24, .inl (fun j => iI (lv j)))), (ta, .inl (xI g, 24, .inl (fun j => iI (((yRun sc lim wt lv kf wo (((hgt, sd, oo), stt), rs) i9_9).1.2) j)))), (t2, .inl (xI g, 24, .inl (fun j => iI (((yRun sc lim wt lv kf wo (((hgt, sd, oo), stt), rs) i9_9).1.1.2.2) j)))), (tn, .inl (xI g, 5, .inl (fun j => nI (wnt2_10 j)))), (ag, .inr (0, [.int (nI cnt), .ref ky])), (ky, .inl (xI g, 48, .inl (fun j => nI (kf j))))])))) := hD
        try dsimp only at hw_23
        obtain rfl : r_22 = nI (yCnt ((yRun sc lim wt lv kf wo (((hgt, sd, oo), stt), rs) i9_9).1.2) 4 24) := hw_23
        refine lv_iadd hx hb dX8_inTheEnd_95 ?_
        refine lv_topi (fun v_24 ev => ?_)
        obtain rfl : v_24 = nI ((yCnt ((yRun sc lim wt lv kf wo (((hgt, sd, oo), stt), rs) i9_9).1.2) 1 24) + (yCnt ((yRun sc lim wt lv kf wo (((hgt, sd, oo), stt), rs) i9_9).1.2) 4 24)) := ev.trans (nI_add (yCnt ((yRun sc lim wt lv kf wo (((hgt, sd, oo), stt), rs) i9_9).1.2) 1 24) (yCnt ((yRun sc lim wt lv kf wo (((hgt, sd, oo), stt), rs) i9_9).1.2) 4 24))
        have hP9 := hP
        have hD9 := hD
        exact W.iret (v := nI ((yCnt ((yRun sc lim wt lv kf wo (((hgt, sd, oo), stt), rs) i9_9).1.2) 1 24) + (yCnt ((yRun sc lim wt lv kf wo (((hgt, sd, oo), stt), rs) i9_9).1.2) 4 24))) hx hb hr (fun t ht hW => ⟨⟨nI ((yCnt ((yRun sc lim wt lv kf wo (((hgt, sd, oo), stt), rs) i9_9).1.2) 1 24) + (yCnt ((yRun sc lim wt lv kf wo (((hgt, sd, oo), stt), rs) i9_9).1.2) 4 24)), i9_9, rfl, (by refine ⟨fun q => ?_, fun q => ?_, fun q => ?_, fun q => ?_⟩ <;> first | rfl | (exfalso; omega)), ⟨((yRun sc lim wt lv kf wo (((hgt, sd, oo), stt), rs) i9_9).1.1.1), ((yRun sc lim wt lv kf wo (((hgt, sd, oo), stt), rs) i9_9).1.1.2.1), ((yRun sc lim wt lv kf wo (((hgt, sd, oo), stt), rs) i9_9).1.2), ((yRun sc lim wt lv kf wo (((hgt, sd, oo), stt), rs) i9_9).1.1.2.2), wnt2_10, ((yRun sc lim wt lv kf wo (((hgt, sd, oo), stt), rs) i9_9).2), (wo + i9_9), ⟨hrun.2.2.1, hrun.2.1, fun x hx j => (hrun.2.2.2.1.2.1 x hx).2 j⟩, hb_12, hb_13, hb_14, hb_15, hb_16, by rw [ht]; exact hP9, va_K.moved hW.alike hK, hD9⟩⟩, hS.F ht⟩) hS.2.2 dX8_inTheEnd_96
      · have nc_19 := (nI_eq (a := wh) (b := 2) (by omega) (by omega)).mp c_19
        refine lv_aload_n hx hb dX8_inTheEnd_70 rfl (lv_at hl 0 rfl) ?_
        refine va_get (D := xD g) (ci := 8) (v := .ref tb) (C := RX8) (T := TX8) (N := 15) hx hb hts hFX8 hown hK hP 0 rfl rfl 14 (by decide) (hts (.fieldLink RX8 85 "Stevedore" "trialYard" "LStevedore$Yard;") (by decide +kernel)) (fun _ h9 => h9) rfl dX8_inTheEnd_71 ?_
        refine lv_iconst (v := 4) hx hb dX8_inTheEnd_74 (by decide) ?_
        have hPc := hP.sub (ws' := [(tb, .inr (7, [.int (nI sc), .int (nI ((yRun sc lim wt lv kf wo (((hgt, sd, oo), stt), rs) i9_9).2)), .int (nI (wo + i9_9)), .ref tl, .ref th, .ref to_, .ref tw, .ref te, .ref ta, .ref t2, .ref tn])), (ta, .inl (xI g, 24, .inl (fun j => iI (((yRun sc lim wt lv kf wo (((hgt, sd, oo), stt), rs) i9_9).1.2) j))))]) [21, 39] rfl
        have hDc := hD.sub (ws' := [(tb, .inr (7, [.int (nI sc), .int (nI ((yRun sc lim wt lv kf wo (((hgt, sd, oo), stt), rs) i9_9).2)), .int (nI (wo + i9_9)), .ref tl, .ref th, .ref to_, .ref tw, .ref te, .ref ta, .ref t2, .ref tn])), (ta, .inl (xI g, 24, .inl (fun j => iI (((yRun sc lim wt lv kf wo (((hgt, sd, oo), stt), rs) i9_9).1.2) j))))]) [21, 39] (by decide) rfl
        have hFc := xFree hS hA
        refine va_calli (va_runV (As := [.int 4]) (rest := []) ⟨hx, hb, hml, hown, hts⟩ (y_countState l g H.size tb ta 4 (.int (nI sc)) (.int (nI ((yRun sc lim wt lv kf wo (((hgt, sd, oo), stt), rs) i9_9).2))) (.int (nI (wo + i9_9))) (.ref tl) (.ref th) (.ref to_) (.ref tw) (.ref te) (.ref t2) (.ref tn) ((yRun sc lim wt lv kf wo (((hgt, sd, oo), stt), rs) i9_9).1.2) (by first | assumption | omega) hb_14) (cwV 1 hts gX8_inTheEnd_X7_countState rfl rfl rfl (by decide +kernel) ⟨Nat.le_of_ble_eq_true rfl, Nat.le_of_ble_eq_true rfl⟩) ⟨xB.blind, va_recv hK hPc (ci := 7) (q0 := 0) rfl rfl, fun U9 hU9 hW9 => ⟨rfl, xB.mk hPc hK hDc hU9 hW9⟩⟩ rfl rfl hl.1 rfl (lv_room (Nat.le_of_ble_eq_true rfl)) dX8_inTheEnd_75 ⟨Nat.le_of_ble_eq_true rfl, Nat.le_of_ble_eq_true rfl⟩) hS (fun q _ h => hFc q h) hFc (fun r_25 _ t H1 locs ht hvm hw_26 hB hz1 hk1 hS => ?_)
        have hP := xSame hP hk1
        generalize H1 = H at hP hS ⊢
        have hP : va_P (xD g) vwCl ([(st, .inr (8, [s0, s1, s2, s3, s4, s5, s6, s7, s8, s9, .int 1, s11, .ref ag, .ref ya, .ref tb])), (ya, .inr (7, [.int (nI sc), .int (nI rs), .int (nI wo), .ref li, .ref he, .ref so, .ref we, .ref le, .ref sa, .ref so2, y10])), (li, .inl (xI g, 12, .inl (fun j => nI (lim j)))), (he, .inl (xI g, 12, .inl (fun j => nI (hgt j)))), (so, .inl (xM g, 12, .inr (.inr (.inr (.inr (fun i => if i < 12 then some (rr i) else none))))))] ++ (xRN (xI g) 12 5 rr sd ++ ([(we, .inl (xI g, 24, .inl (fun j => iI (wt j)))), (le, .inl (xI g, 24, .inl (fun j => iI (lv j)))), (sa, .inl (xI g, 24, .inl (fun j => iI (stt j)))), (so2, .inl (xI g, 24, .inl (fun j => iI (oo j)))), (tb, .inr (7, [.int (nI sc), .int (nI ((yRun sc lim wt lv kf wo (((hgt, sd, oo), stt), rs) i9_9).2)), .int (nI (wo + i9_9)), .ref tl, .ref th, .ref to_, .ref tw, .ref te, .ref ta, .ref t2, .ref tn])), (tl, .inl (xI g, 12, .inl (fun j => nI (lim j)))), (th, .inl (xI g, 12, .inl (fun j => nI (((yRun sc lim wt lv kf wo (((hgt, sd, oo), stt), rs) i9_9).1.1.1) j)))), (to_, .inl (xM g, 12, .inr (.inr (.inr (.inr (fun i => if i < 12 then some (tr i) else none))))))] ++ (xRN (xI g) 12 5 tr ((yRun sc lim wt lv kf wo (((hgt, sd, oo), stt), rs) i9_9).1.1.2.1) ++ [(tw, .inl (xI g, 24, .inl (fun j => iI (wt j)))), (te, .inl (xI g, 24, .inl (fun j => iI (lv j)))), (ta, .inl (xI g, 24, .inl (fun j => iI (((yRun sc lim wt lv kf wo (((hgt, sd, oo), stt), rs) i9_9).1.2) j)))), (t2, .inl (xI g, 24, .inl (fun j => iI (((yRun sc lim wt lv kf wo (((hgt, sd, oo), stt), rs) i9_9).1.1.2.2) j)))), (tn, .inl (xI g, 5, .inl (fun j => nI (wnt2_10 j)))), (ag, .inr (0, [.int (nI cnt), .ref ky])), (ky, .inl (xI g, 48, .inl (fun j => nI (kf j))))])))) H := hP
        have hD : va_D A ([(st, .inr (8, [s0, s1, s2, s3, s4, s5, s6, s7, s8, s9, .int 1, s11, .ref ag, .ref ya, .ref tb])), (ya, .inr (7, [.int (nI sc), .int (nI rs), .int (nI wo), .ref li, .ref he, .ref so, .ref we, .ref le, .ref sa, .ref so2, y10])), (li, .inl (xI g, 12, .inl (fun j => nI (lim j)))), (he, .inl (xI g, 12, .inl (fun j => nI (hgt j)))), (so, .inl (xM g, 12, .inr (.inr (.inr (.inr (fun i => if i < 12 then some (rr i) else none))))))] ++ (xRN (xI g) 12 5 rr sd ++ ([(we, .inl (xI g, 24, .inl (fun j => iI (wt j)))), (le, .inl (xI g, 24, .inl (fun j => iI (lv j)))), (sa, .inl (xI g, 24, .inl (fun j => iI (stt j)))), (so2, .inl (xI g, 24, .inl (fun j => iI (oo j)))), (tb, .inr (7, [.int (nI sc), .int (nI ((yRun sc lim wt lv kf wo (((hgt, sd, oo), stt), rs) i9_9).2)), .int (nI (wo + i9_9)), .ref tl, .ref th, .ref to_, .ref tw, .ref te, .ref ta, .ref t2, .ref tn])), (tl, .inl (xI g, 12, .inl (fun j => nI (lim j)))), (th, .inl (xI g, 12, .inl (fun j => nI (((yRun sc lim wt lv kf wo (((hgt, sd, oo), stt), rs) i9_9).1.1.1) j)))), (to_, .inl (xM g, 12, .inr (.inr (.inr (.inr (fun i => if i < 12 then some (tr i) else none))))))] ++ (xRN (xI g) 12 5 tr ((yRun sc lim wt lv kf wo (((hgt, sd, oo), stt), rs) i9_9).1.1.2.1) ++ [(tw, .inl (xI g, 24, .inl (fun j => iI (wt j)))), (te, .inl (xI g, 24, .inl (fun j => iI (lv j)))), (ta, .inl (xI g, 24, .inl (fun j => iI (((yRun sc lim wt lv kf wo (((hgt, sd, oo), stt), rs) i9_9).1.2) j)))), (t2, .inl (xI g, 24, .inl (fun j => iI (((yRun sc lim wt lv kf wo (((hgt, sd, oo), stt), rs) i9_9).1.1.2.2) j)))), (tn, .inl (xI g, 5, .inl (fun j => nI (wnt2_10 j)))), (ag, .inr (0, [.int (nI cnt), .ref ky])), (ky, .inl (xI g, 48, .inl (fun j => nI (kf j))))])))) := hD
        try dsimp only at hw_26
        obtain rfl : r_25 = nI (yCnt ((yRun sc lim wt lv kf wo (((hgt, sd, oo), stt), rs) i9_9).1.2) 4 24) := hw_26
        have hP9 := hP
        have hD9 := hD
        exact W.iret (v := nI (yCnt ((yRun sc lim wt lv kf wo (((hgt, sd, oo), stt), rs) i9_9).1.2) 4 24)) hx hb hr (fun t ht hW => ⟨⟨nI (yCnt ((yRun sc lim wt lv kf wo (((hgt, sd, oo), stt), rs) i9_9).1.2) 4 24), i9_9, rfl, (by refine ⟨fun q => ?_, fun q => ?_, fun q => ?_, fun q => ?_⟩ <;> first | rfl | (exfalso; omega)), ⟨((yRun sc lim wt lv kf wo (((hgt, sd, oo), stt), rs) i9_9).1.1.1), ((yRun sc lim wt lv kf wo (((hgt, sd, oo), stt), rs) i9_9).1.1.2.1), ((yRun sc lim wt lv kf wo (((hgt, sd, oo), stt), rs) i9_9).1.2), ((yRun sc lim wt lv kf wo (((hgt, sd, oo), stt), rs) i9_9).1.1.2.2), wnt2_10, ((yRun sc lim wt lv kf wo (((hgt, sd, oo), stt), rs) i9_9).2), (wo + i9_9), ⟨hrun.2.2.1, hrun.2.1, fun x hx j => (hrun.2.2.2.1.2.1 x hx).2 j⟩, hb_12, hb_13, hb_14, hb_15, hb_16, by rw [ht]; exact hP9, va_K.moved hW.alike hK, hD9⟩⟩, hS.F ht⟩) hS.2.2 dX8_inTheEnd_78
    · have nc_18 := (nI_eq (a := wh) (b := 1) (by omega) (by omega)).mp c_18
      refine lv_aload_n hx hb dX8_inTheEnd_56 rfl (lv_at hl 0 rfl) ?_
      refine va_get (D := xD g) (ci := 8) (v := .ref tb) (C := RX8) (T := TX8) (N := 15) hx hb hts hFX8 hown hK hP 0 rfl rfl 14 (by decide) (hts (.fieldLink RX8 85 "Stevedore" "trialYard" "LStevedore$Yard;") (by decide +kernel)) (fun _ h9 => h9) rfl dX8_inTheEnd_57 ?_
      refine lv_iconst (v := 3) hx hb dX8_inTheEnd_60 (by decide) ?_
      have hPc := hP.sub (ws' := [(tb, .inr (7, [.int (nI sc), .int (nI ((yRun sc lim wt lv kf wo (((hgt, sd, oo), stt), rs) i9_9).2)), .int (nI (wo + i9_9)), .ref tl, .ref th, .ref to_, .ref tw, .ref te, .ref ta, .ref t2, .ref tn])), (ta, .inl (xI g, 24, .inl (fun j => iI (((yRun sc lim wt lv kf wo (((hgt, sd, oo), stt), rs) i9_9).1.2) j))))]) [21, 39] rfl
      have hDc := hD.sub (ws' := [(tb, .inr (7, [.int (nI sc), .int (nI ((yRun sc lim wt lv kf wo (((hgt, sd, oo), stt), rs) i9_9).2)), .int (nI (wo + i9_9)), .ref tl, .ref th, .ref to_, .ref tw, .ref te, .ref ta, .ref t2, .ref tn])), (ta, .inl (xI g, 24, .inl (fun j => iI (((yRun sc lim wt lv kf wo (((hgt, sd, oo), stt), rs) i9_9).1.2) j))))]) [21, 39] (by decide) rfl
      have hFc := xFree hS hA
      refine va_calli (va_runV (As := [.int 3]) (rest := []) ⟨hx, hb, hml, hown, hts⟩ (y_countState l g H.size tb ta 3 (.int (nI sc)) (.int (nI ((yRun sc lim wt lv kf wo (((hgt, sd, oo), stt), rs) i9_9).2))) (.int (nI (wo + i9_9))) (.ref tl) (.ref th) (.ref to_) (.ref tw) (.ref te) (.ref t2) (.ref tn) ((yRun sc lim wt lv kf wo (((hgt, sd, oo), stt), rs) i9_9).1.2) (by first | assumption | omega) hb_14) (cwV 1 hts gX8_inTheEnd_X7_countState rfl rfl rfl (by decide +kernel) ⟨Nat.le_of_ble_eq_true rfl, Nat.le_of_ble_eq_true rfl⟩) ⟨xB.blind, va_recv hK hPc (ci := 7) (q0 := 0) rfl rfl, fun U9 hU9 hW9 => ⟨rfl, xB.mk hPc hK hDc hU9 hW9⟩⟩ rfl rfl hl.1 rfl (lv_room (Nat.le_of_ble_eq_true rfl)) dX8_inTheEnd_61 ⟨Nat.le_of_ble_eq_true rfl, Nat.le_of_ble_eq_true rfl⟩) hS (fun q _ h => hFc q h) hFc (fun r_27 _ t H1 locs ht hvm hw_28 hB hz1 hk1 hS => ?_)
      have hP := xSame hP hk1
      generalize H1 = H at hP hS ⊢
      have hP : va_P (xD g) vwCl ([(st, .inr (8, [s0, s1, s2, s3, s4, s5, s6, s7, s8, s9, .int 1, s11, .ref ag, .ref ya, .ref tb])), (ya, .inr (7, [.int (nI sc), .int (nI rs), .int (nI wo), .ref li, .ref he, .ref so, .ref we, .ref le, .ref sa, .ref so2, y10])), (li, .inl (xI g, 12, .inl (fun j => nI (lim j)))), (he, .inl (xI g, 12, .inl (fun j => nI (hgt j)))), (so, .inl (xM g, 12, .inr (.inr (.inr (.inr (fun i => if i < 12 then some (rr i) else none))))))] ++ (xRN (xI g) 12 5 rr sd ++ ([(we, .inl (xI g, 24, .inl (fun j => iI (wt j)))), (le, .inl (xI g, 24, .inl (fun j => iI (lv j)))), (sa, .inl (xI g, 24, .inl (fun j => iI (stt j)))), (so2, .inl (xI g, 24, .inl (fun j => iI (oo j)))), (tb, .inr (7, [.int (nI sc), .int (nI ((yRun sc lim wt lv kf wo (((hgt, sd, oo), stt), rs) i9_9).2)), .int (nI (wo + i9_9)), .ref tl, .ref th, .ref to_, .ref tw, .ref te, .ref ta, .ref t2, .ref tn])), (tl, .inl (xI g, 12, .inl (fun j => nI (lim j)))), (th, .inl (xI g, 12, .inl (fun j => nI (((yRun sc lim wt lv kf wo (((hgt, sd, oo), stt), rs) i9_9).1.1.1) j)))), (to_, .inl (xM g, 12, .inr (.inr (.inr (.inr (fun i => if i < 12 then some (tr i) else none))))))] ++ (xRN (xI g) 12 5 tr ((yRun sc lim wt lv kf wo (((hgt, sd, oo), stt), rs) i9_9).1.1.2.1) ++ [(tw, .inl (xI g, 24, .inl (fun j => iI (wt j)))), (te, .inl (xI g, 24, .inl (fun j => iI (lv j)))), (ta, .inl (xI g, 24, .inl (fun j => iI (((yRun sc lim wt lv kf wo (((hgt, sd, oo), stt), rs) i9_9).1.2) j)))), (t2, .inl (xI g, 24, .inl (fun j => iI (((yRun sc lim wt lv kf wo (((hgt, sd, oo), stt), rs) i9_9).1.1.2.2) j)))), (tn, .inl (xI g, 5, .inl (fun j => nI (wnt2_10 j)))), (ag, .inr (0, [.int (nI cnt), .ref ky])), (ky, .inl (xI g, 48, .inl (fun j => nI (kf j))))])))) H := hP
      have hD : va_D A ([(st, .inr (8, [s0, s1, s2, s3, s4, s5, s6, s7, s8, s9, .int 1, s11, .ref ag, .ref ya, .ref tb])), (ya, .inr (7, [.int (nI sc), .int (nI rs), .int (nI wo), .ref li, .ref he, .ref so, .ref we, .ref le, .ref sa, .ref so2, y10])), (li, .inl (xI g, 12, .inl (fun j => nI (lim j)))), (he, .inl (xI g, 12, .inl (fun j => nI (hgt j)))), (so, .inl (xM g, 12, .inr (.inr (.inr (.inr (fun i => if i < 12 then some (rr i) else none))))))] ++ (xRN (xI g) 12 5 rr sd ++ ([(we, .inl (xI g, 24, .inl (fun j => iI (wt j)))), (le, .inl (xI g, 24, .inl (fun j => iI (lv j)))), (sa, .inl (xI g, 24, .inl (fun j => iI (stt j)))), (so2, .inl (xI g, 24, .inl (fun j => iI (oo j)))), (tb, .inr (7, [.int (nI sc), .int (nI ((yRun sc lim wt lv kf wo (((hgt, sd, oo), stt), rs) i9_9).2)), .int (nI (wo + i9_9)), .ref tl, .ref th, .ref to_, .ref tw, .ref te, .ref ta, .ref t2, .ref tn])), (tl, .inl (xI g, 12, .inl (fun j => nI (lim j)))), (th, .inl (xI g, 12, .inl (fun j => nI (((yRun sc lim wt lv kf wo (((hgt, sd, oo), stt), rs) i9_9).1.1.1) j)))), (to_, .inl (xM g, 12, .inr (.inr (.inr (.inr (fun i => if i < 12 then some (tr i) else none))))))] ++ (xRN (xI g) 12 5 tr ((yRun sc lim wt lv kf wo (((hgt, sd, oo), stt), rs) i9_9).1.1.2.1) ++ [(tw, .inl (xI g, 24, .inl (fun j => iI (wt j)))), (te, .inl (xI g, 24, .inl (fun j => iI (lv j)))), (ta, .inl (xI g, 24, .inl (fun j => iI (((yRun sc lim wt lv kf wo (((hgt, sd, oo), stt), rs) i9_9).1.2) j)))), (t2, .inl (xI g, 24, .inl (fun j => iI (((yRun sc lim wt lv kf wo (((hgt, sd, oo), stt), rs) i9_9).1.1.2.2) j)))), (tn, .inl (xI g, 5, .inl (fun j => nI (wnt2_10 j)))), (ag, .inr (0, [.int (nI cnt), .ref ky])), (ky, .inl (xI g, 48, .inl (fun j => nI (kf j))))])))) := hD
      try dsimp only at hw_28
      obtain rfl : r_27 = nI (yCnt ((yRun sc lim wt lv kf wo (((hgt, sd, oo), stt), rs) i9_9).1.2) 3 24) := hw_28
      have hP9 := hP
      have hD9 := hD
      exact W.iret (v := nI (yCnt ((yRun sc lim wt lv kf wo (((hgt, sd, oo), stt), rs) i9_9).1.2) 3 24)) hx hb hr (fun t ht hW => ⟨⟨nI (yCnt ((yRun sc lim wt lv kf wo (((hgt, sd, oo), stt), rs) i9_9).1.2) 3 24), i9_9, rfl, (by refine ⟨fun q => ?_, fun q => ?_, fun q => ?_, fun q => ?_⟩ <;> first | rfl | (exfalso; omega)), ⟨((yRun sc lim wt lv kf wo (((hgt, sd, oo), stt), rs) i9_9).1.1.1), ((yRun sc lim wt lv kf wo (((hgt, sd, oo), stt), rs) i9_9).1.1.2.1), ((yRun sc lim wt lv kf wo (((hgt, sd, oo), stt), rs) i9_9).1.2), ((yRun sc lim wt lv kf wo (((hgt, sd, oo), stt), rs) i9_9).1.1.2.2), wnt2_10, ((yRun sc lim wt lv kf wo (((hgt, sd, oo), stt), rs) i9_9).2), (wo + i9_9), ⟨hrun.2.2.1, hrun.2.1, fun x hx j => (hrun.2.2.2.1.2.1 x hx).2 j⟩, hb_12, hb_13, hb_14, hb_15, hb_16, by rw [ht]; exact hP9, va_K.moved hW.alike hK, hD9⟩⟩, hS.F ht⟩) hS.2.2 dX8_inTheEnd_64
  · have nc_17 := (nI_eq (a := wh) (b := 0) (by omega) (by omega)).mp c_17
    refine lv_aload_n hx hb dX8_inTheEnd_43 rfl (lv_at hl 0 rfl) ?_
    refine va_get (D := xD g) (ci := 8) (v := .ref tb) (C := RX8) (T := TX8) (N := 15) hx hb hts hFX8 hown hK hP 0 rfl rfl 14 (by decide) (hts (.fieldLink RX8 85 "Stevedore" "trialYard" "LStevedore$Yard;") (by decide +kernel)) (fun _ h9 => h9) rfl dX8_inTheEnd_44 ?_
    refine va_get (D := xD g) (ci := 7) (v := .int (nI ((yRun sc lim wt lv kf wo (((hgt, sd, oo), stt), rs) i9_9).2))) (C := RX7) (T := TX7) (N := 11) hx hb hts hFX7 hown hK hP 21 rfl rfl 1 (by decide) (hts (.fieldLink RX8 319 "Stevedore$Yard" "reshuffleCount" "I") (by decide +kernel)) (fun _ h9 => h9) rfl dX8_inTheEnd_47 ?_
    have hP9 := hP
    have hD9 := hD
    exact W.iret (v := nI ((yRun sc lim wt lv kf wo (((hgt, sd, oo), stt), rs) i9_9).2)) hx hb hr (fun t ht hW => ⟨⟨nI ((yRun sc lim wt lv kf wo (((hgt, sd, oo), stt), rs) i9_9).2), i9_9, rfl, (by refine ⟨fun q => ?_, fun q => ?_, fun q => ?_, fun q => ?_⟩ <;> first | rfl | (exfalso; omega)), ⟨((yRun sc lim wt lv kf wo (((hgt, sd, oo), stt), rs) i9_9).1.1.1), ((yRun sc lim wt lv kf wo (((hgt, sd, oo), stt), rs) i9_9).1.1.2.1), ((yRun sc lim wt lv kf wo (((hgt, sd, oo), stt), rs) i9_9).1.2), ((yRun sc lim wt lv kf wo (((hgt, sd, oo), stt), rs) i9_9).1.1.2.2), wnt2_10, ((yRun sc lim wt lv kf wo (((hgt, sd, oo), stt), rs) i9_9).2), (wo + i9_9), ⟨hrun.2.2.1, hrun.2.1, fun x hx j => (hrun.2.2.2.1.2.1 x hx).2 j⟩, hb_12, hb_13, hb_14, hb_15, hb_16, by rw [ht]; exact hP9, va_K.moved hW.alike hK, hD9⟩⟩, hS.F ht⟩) hS.2.2 dX8_inTheEnd_50
