/-! What a plan says of a berth and a time, as numbers alone. -/
abbrev vAt (qta Vhd qla : Nat → Int) (Vba : Nat → Nat) (be tm : Int) (v : Nat) : Prop := (qta v ≤ tm ∧ tm < qta v + Vhd v) ∧ 0 ≤ be - qla v ∧ be - qla v < ((Vba v : Nat) : Int)
def vCr (qta Vhd : Nat → Int) (Vwa : Nat → Nat) (tm : Int) : Nat → Nat
  | 0 => 0
  | k + 1 => vCr qta Vhd Vwa tm k + (if qta k ≤ tm ∧ tm < qta k + Vhd k then Vwa k else 0)
theorem dX8_ranges_0 : decode cX8_ranges 0 = .ok (.aload_n 0, 1) := by decide +kernel
theorem dX8_ranges_1 : decode cX8_ranges 1 = .ok (.iload_n 1, 1) := by decide +kernel
theorem dX8_ranges_2 : decode cX8_ranges 2 = .ok (.invokevirtual 121, 3) := by decide +kernel
set_option maxRecDepth 20000 in
theorem ggX8_ranges_X8_needVessel : GoodIn wsX8_ranges wsX8_needVessel := goodIn_ca (goodIn_r _ [7, 8, 9, 10, 11, 12, 13, 14, 15, 16, 17, 18, 19, 20, 21, 22, 23, 24, 25] rfl (by decide +kernel)) (goodIn_sub (fun _ h => List.mem_cons_of_mem _ (List.mem_append_right _ h)) (by decide +kernel))
set_option maxRecDepth 20000 in
theorem gX8_ranges_X8_needVessel : GoodIn wsX8_ranges (wsV RX8 121 RX8 yX8_needVessel wsX8_needVessel) := goodIn_app (goodIn_of _ (by decide +kernel)) ggX8_ranges_X8_needVessel
theorem dX8_ranges_5 : decode cX8_ranges 5 = .ok (.aload_n 0, 1) := by decide +kernel
theorem dX8_ranges_6 : decode cX8_ranges 6 = .ok (.getfield 18, 3) := by decide +kernel
theorem dX8_ranges_9 : decode cX8_ranges 9 = .ok (.iload_n 1, 1) := by decide +kernel
theorem dX8_ranges_10 : decode cX8_ranges 10 = .ok (.aaload, 1) := by decide +kernel
theorem dX8_ranges_11 : decode cX8_ranges 11 = .ok (.getfield 173, 3) := by decide +kernel
theorem dX8_ranges_14 : decode cX8_ranges 14 = .ok (.ireturn, 1) := by decide +kernel
set_option maxHeartbeats 4000000 in
set_option maxRecDepth 100000 in
theorem t_ranges (l : Launch) (g : xG) (sz : Nat) (st : Nat) (fl : Nat) (vc : Nat) (v : Nat) (vr : Nat → Nat) (wb : Nat → Nat) (fr : Nat → Nat) (bg : Nat → Nat) (s0 : Value) (s1 : Value) (s4 : Value) (s5 : Value) (s6 : Value) (s7 : Value) (s8 : Value) (s9 : Value) (s10 : Value) (s11 : Value) (s12 : Value) (s13 : Value) (s14 : Value) (Var : Nat → Int) (Vba : Nat → Nat) (Vrk : Nat → Int) (Vwa : Nat → Nat) (Vrc : Nat → Nat) (Vgl : Nat → Int) (Vhd : Nat → Int) (Vwt : Nat → Int)  (hv : v < vc) (hvc : vc ≤ 6) : Met l yX8_ranges wsX8_ranges ({ frames := 1, cells := 0, slots := 0, locals := 21 }) (va_Pc [.ref st, .int (nI v)] (fun U => xB g ([(st, .inr (8, [s0, s1, .int (nI vc), .ref fl, s4, s5, s6, s7, s8, s9, s10, s11, s12, s13, s14])), (fl, .inl (xV g, 6, .inr (.inr (.inr (.inr (fun i => if i < 6 then some (vr i) else none))))))] ++ (xR 6 (fun i => (vr i, .inr (6, [.int (iI (Var i)), .int (nI (Vba i)), .int (iI (Vrk i)), .int (nI (Vwa i)), .int (nI (Vrc i)), .int (iI (Vgl i)), .int (iI (Vhd i)), .int (iI (Vwt i)), .ref (wb i), .ref (fr i), .ref (bg i)]))) ++ [])) sz U)) (va_Qi (fun (r : Int32) (_ : Unit) => r = nI (Vrc v)) (fun (_ : Unit) (_ : State) => True) (va_A [] sz)) 0 0 (va_A [] sz) := by
  refine Met.ofW (cc := cX8_ranges) (maxL := 2) (ret := (some .int)) (by decide) rfl ?_
  intro p e s m args below meth c s₁ B hml hv
  obtain ⟨rfl, hsz, hP, hK, hD0⟩ := hv
  have hx := B.exec
  have hb := B.bytes
  have hr := B.returns
  have hts := atoms_spec (ws := wsX8_ranges) B.pre
  have hown : s.vm.findClass RX8 = some m.cls := findClass_of_methodNamed B.named
  have hlocks := B.notSynchronized
  subst hsz
  have hD := hD0
  generalize hAe : va_A [] s.heap.size = A
  have hA : ∀ q : Nat, s.heap.size ≤ q → A q := fun q h => by rw [← hAe]; exact Or.inr h
  have hS : va_S A s.heap s.heap [] := va_S.rf
  have hl := lv_entry ([.ref st, .int (nI v)]) (n := 2) (Nat.le_of_ble_eq_true rfl)
  rw [lg_entry_eq]
  generalize (lg_sl ([.ref st, .int (nI v)]) ++ List.replicate (2 - (lg_sl ([.ref st, .int (nI v)])).length) Slot.unset).toArray = ls at hl ⊢
  have hl : lv_has ls 2 [(0, .ref st), (1, .int (nI v))] := hl
  have hFX6 : ∀ w ∈ u_ws RX6 TX6 11, w ∈ wsX8_ranges := by decide +kernel
  have hFX8 : ∀ w ∈ u_ws RX8 TX8 15, w ∈ wsX8_ranges := by decide +kernel
  refine lv_aload_n hx hb dX8_ranges_0 rfl (lv_at hl 0 rfl) ?_
  refine lv_iload_n hx hb dX8_ranges_1 rfl (lv_at hl 1 rfl) ?_
  have hPc := hP.sub (ws' := [(st, .inr (8, [s0, s1, .int (nI vc), .ref fl, s4, s5, s6, s7, s8, s9, s10, s11, s12, s13, s14]))]) [0] rfl
  have hDc := hD.sub (ws' := [(st, .inr (8, [s0, s1, .int (nI vc), .ref fl, s4, s5, s6, s7, s8, s9, s10, s11, s12, s13, s14]))]) [0] (by decide) rfl
  have hFc := xFree hS hA
  refine va_callv (va_runV (As := [.int (nI v)]) (rest := []) ⟨hx, hb, hml, hown, hts⟩ (n_vessel l g s.heap.size st vc v s0 s1 (.ref fl) s4 s5 s6 s7 s8 s9 s10 s11 s12 s13 s14 (by first | assumption | omega) (by first | assumption | omega)) (cwV 1 hts gX8_ranges_X8_needVessel rfl rfl rfl (by decide +kernel) ⟨Nat.le_of_ble_eq_true rfl, Nat.le_of_ble_eq_true rfl⟩) ⟨xB.blind, va_recv hK hPc (ci := 8) (q0 := 0) rfl rfl, fun U9 hU9 hW9 => ⟨rfl, xB.mk hPc hK hDc hU9 hW9⟩⟩ rfl rfl hl.1 rfl (lv_room (Nat.le_of_ble_eq_true rfl)) dX8_ranges_2 ⟨Nat.le_of_ble_eq_true rfl, Nat.le_of_ble_eq_true rfl⟩) hS (fun q _ h => hFc q h) hFc (fun _ t H1 locs ht hvm hw_2 hB hz1 hk1 hS => ?_)
  have hP := xSame hP hk1
  generalize H1 = H at hP hS ⊢
  have hP : va_P (xD g) vwCl ([(st, .inr (8, [s0, s1, .int (nI vc), .ref fl, s4, s5, s6, s7, s8, s9, s10, s11, s12, s13, s14])), (fl, .inl (xV g, 6, .inr (.inr (.inr (.inr (fun i => if i < 6 then some (vr i) else none))))))] ++ (xR 6 (fun i => (vr i, .inr (6, [.int (iI (Var i)), .int (nI (Vba i)), .int (iI (Vrk i)), .int (nI (Vwa i)), .int (nI (Vrc i)), .int (iI (Vgl i)), .int (iI (Vhd i)), .int (iI (Vwt i)), .ref (wb i), .ref (fr i), .ref (bg i)]))) ++ [])) H := hP
  have hD : va_D (fun _ => True) ([(st, .inr (8, [s0, s1, .int (nI vc), .ref fl, s4, s5, s6, s7, s8, s9, s10, s11, s12, s13, s14])), (fl, .inl (xV g, 6, .inr (.inr (.inr (.inr (fun i => if i < 6 then some (vr i) else none))))))] ++ (xR 6 (fun i => (vr i, .inr (6, [.int (iI (Var i)), .int (nI (Vba i)), .int (iI (Vrk i)), .int (nI (Vwa i)), .int (nI (Vrc i)), .int (iI (Vgl i)), .int (iI (Vhd i)), .int (iI (Vwt i)), .ref (wb i), .ref (fr i), .ref (bg i)]))) ++ [])) := hD
  try dsimp only at hw_2
  refine lv_aload_n hx hb dX8_ranges_5 rfl (lv_at hl 0 rfl) ?_
  refine va_get (D := xD g) (ci := 8) (v := .ref fl) (C := RX8) (T := TX8) (N := 15) hx hb hts hFX8 hown hK hP 0 rfl rfl 3 (by decide) (hts (.fieldLink RX8 18 "Stevedore" "fleet" "[LStevedore$Vessel;") (by decide +kernel)) (fun _ h9 => h9) rfl dX8_ranges_6 ?_
  refine lv_iload_n hx hb dX8_ranges_9 rfl (lv_at hl 1 rfl) ?_
  refine va_aldq hx hb hK hP 1 2 rfl rfl (vp_in_nI (by omega) (by omega)) dX8_ranges_10 ?_
  refine W.eq (g2 := F0 m 11 ls (.ref (vr v) :: [])) (congrArg (fun q9 => F0 m 11 ls (q9 :: [])) (xRow (n := 6) (k := v) (nI_clamp (by omega)) (by omega))) ?_
  refine va_get (D := xD g) (ci := 6) (v := .int (nI (Vrc v))) (C := RX6) (T := TX6) (N := 11) hx hb hts hFX6 hown hK hP _ (xR_ap (X := [(st, .inr (8, [s0, s1, .int (nI vc), .ref fl, s4, s5, s6, s7, s8, s9, s10, s11, s12, s13, s14])), (fl, .inl (xV g, 6, .inr (.inr (.inr (.inr (fun i => if i < 6 then some (vr i) else none))))))]) (xR_get0 (i := v) (by omega))) rfl 4 (by decide) (hts (.fieldLink RX8 173 "Stevedore$Vessel" "rangeCount" "I") (by decide +kernel)) (fun _ h9 => h9) rfl dX8_ranges_11 ?_
  exact W.iret (v := nI (Vrc v)) hx hb hr (fun t ht hW => ⟨⟨nI (Vrc v), (), rfl, (by first | trivial | rfl | assumption | omega), trivial⟩, hS.F ht⟩) hS.2.2 dX8_ranges_14
theorem dX8_handling_0 : decode cX8_handling 0 = .ok (.aload_n 0, 1) := by decide +kernel
theorem dX8_handling_1 : decode cX8_handling 1 = .ok (.iload_n 1, 1) := by decide +kernel
theorem dX8_handling_2 : decode cX8_handling 2 = .ok (.invokevirtual 121, 3) := by decide +kernel
set_option maxRecDepth 20000 in
theorem ggX8_handling_X8_needVessel : GoodIn wsX8_handling wsX8_needVessel := goodIn_ca (goodIn_r _ [7, 8, 9, 10, 11, 12, 13, 14, 15, 16, 17, 18, 19, 20, 21, 22, 23, 24, 25] rfl (by decide +kernel)) (goodIn_sub (fun _ h => List.mem_cons_of_mem _ (List.mem_append_right _ h)) (by decide +kernel))
set_option maxRecDepth 20000 in
theorem gX8_handling_X8_needVessel : GoodIn wsX8_handling (wsV RX8 121 RX8 yX8_needVessel wsX8_needVessel) := goodIn_app (goodIn_of _ (by decide +kernel)) ggX8_handling_X8_needVessel
theorem dX8_handling_5 : decode cX8_handling 5 = .ok (.aload_n 0, 1) := by decide +kernel
theorem dX8_handling_6 : decode cX8_handling 6 = .ok (.getfield 18, 3) := by decide +kernel
theorem dX8_handling_9 : decode cX8_handling 9 = .ok (.iload_n 1, 1) := by decide +kernel
theorem dX8_handling_10 : decode cX8_handling 10 = .ok (.aaload, 1) := by decide +kernel
theorem dX8_handling_11 : decode cX8_handling 11 = .ok (.getfield 194, 3) := by decide +kernel
theorem dX8_handling_14 : decode cX8_handling 14 = .ok (.ireturn, 1) := by decide +kernel
set_option maxHeartbeats 4000000 in
set_option maxRecDepth 100000 in
theorem t_handling (l : Launch) (g : xG) (sz : Nat) (st : Nat) (fl : Nat) (vc : Nat) (v : Nat) (vr : Nat → Nat) (wb : Nat → Nat) (fr : Nat → Nat) (bg : Nat → Nat) (s0 : Value) (s1 : Value) (s4 : Value) (s5 : Value) (s6 : Value) (s7 : Value) (s8 : Value) (s9 : Value) (s10 : Value) (s11 : Value) (s12 : Value) (s13 : Value) (s14 : Value) (Var : Nat → Int) (Vba : Nat → Nat) (Vrk : Nat → Int) (Vwa : Nat → Nat) (Vrc : Nat → Nat) (Vgl : Nat → Int) (Vhd : Nat → Int) (Vwt : Nat → Int)  (hv : v < vc) (hvc : vc ≤ 6) : Met l yX8_handling wsX8_handling ({ frames := 1, cells := 0, slots := 0, locals := 21 }) (va_Pc [.ref st, .int (nI v)] (fun U => xB g ([(st, .inr (8, [s0, s1, .int (nI vc), .ref fl, s4, s5, s6, s7, s8, s9, s10, s11, s12, s13, s14])), (fl, .inl (xV g, 6, .inr (.inr (.inr (.inr (fun i => if i < 6 then some (vr i) else none))))))] ++ (xR 6 (fun i => (vr i, .inr (6, [.int (iI (Var i)), .int (nI (Vba i)), .int (iI (Vrk i)), .int (nI (Vwa i)), .int (nI (Vrc i)), .int (iI (Vgl i)), .int (iI (Vhd i)), .int (iI (Vwt i)), .ref (wb i), .ref (fr i), .ref (bg i)]))) ++ [])) sz U)) (va_Qi (fun (r : Int32) (_ : Unit) => r = iI (Vhd v)) (fun (_ : Unit) (_ : State) => True) (va_A [] sz)) 0 0 (va_A [] sz) := by
  refine Met.ofW (cc := cX8_handling) (maxL := 2) (ret := (some .int)) (by decide) rfl ?_
  intro p e s m args below meth c s₁ B hml hv
  obtain ⟨rfl, hsz, hP, hK, hD0⟩ := hv
  have hx := B.exec
  have hb := B.bytes
  have hr := B.returns
  have hts := atoms_spec (ws := wsX8_handling) B.pre
  have hown : s.vm.findClass RX8 = some m.cls := findClass_of_methodNamed B.named
  have hlocks := B.notSynchronized
  subst hsz
  have hD := hD0
  generalize hAe : va_A [] s.heap.size = A
  have hA : ∀ q : Nat, s.heap.size ≤ q → A q := fun q h => by rw [← hAe]; exact Or.inr h
  have hS : va_S A s.heap s.heap [] := va_S.rf
  have hl := lv_entry ([.ref st, .int (nI v)]) (n := 2) (Nat.le_of_ble_eq_true rfl)
  rw [lg_entry_eq]
  generalize (lg_sl ([.ref st, .int (nI v)]) ++ List.replicate (2 - (lg_sl ([.ref st, .int (nI v)])).length) Slot.unset).toArray = ls at hl ⊢
  have hl : lv_has ls 2 [(0, .ref st), (1, .int (nI v))] := hl
  have hFX6 : ∀ w ∈ u_ws RX6 TX6 11, w ∈ wsX8_handling := by decide +kernel
  have hFX8 : ∀ w ∈ u_ws RX8 TX8 15, w ∈ wsX8_handling := by decide +kernel
  refine lv_aload_n hx hb dX8_handling_0 rfl (lv_at hl 0 rfl) ?_
  refine lv_iload_n hx hb dX8_handling_1 rfl (lv_at hl 1 rfl) ?_
  have hPc := hP.sub (ws' := [(st, .inr (8, [s0, s1, .int (nI vc), .ref fl, s4, s5, s6, s7, s8, s9, s10, s11, s12, s13, s14]))]) [0] rfl
  have hDc := hD.sub (ws' := [(st, .inr (8, [s0, s1, .int (nI vc), .ref fl, s4, s5, s6, s7, s8, s9, s10, s11, s12, s13, s14]))]) [0] (by decide) rfl
  have hFc := xFree hS hA
  refine va_callv (va_runV (As := [.int (nI v)]) (rest := []) ⟨hx, hb, hml, hown, hts⟩ (n_vessel l g s.heap.size st vc v s0 s1 (.ref fl) s4 s5 s6 s7 s8 s9 s10 s11 s12 s13 s14 (by first | assumption | omega) (by first | assumption | omega)) (cwV 1 hts gX8_handling_X8_needVessel rfl rfl rfl (by decide +kernel) ⟨Nat.le_of_ble_eq_true rfl, Nat.le_of_ble_eq_true rfl⟩) ⟨xB.blind, va_recv hK hPc (ci := 8) (q0 := 0) rfl rfl, fun U9 hU9 hW9 => ⟨rfl, xB.mk hPc hK hDc hU9 hW9⟩⟩ rfl rfl hl.1 rfl (lv_room (Nat.le_of_ble_eq_true rfl)) dX8_handling_2 ⟨Nat.le_of_ble_eq_true rfl, Nat.le_of_ble_eq_true rfl⟩) hS (fun q _ h => hFc q h) hFc (fun _ t H1 locs ht hvm hw_2 hB hz1 hk1 hS => ?_)
  have hP := xSame hP hk1
  generalize H1 = H at hP hS ⊢
  have hP : va_P (xD g) vwCl ([(st, .inr (8, [s0, s1, .int (nI vc), .ref fl, s4, s5, s6, s7, s8, s9, s10, s11, s12, s13, s14])), (fl, .inl (xV g, 6, .inr (.inr (.inr (.inr (fun i => if i < 6 then some (vr i) else none))))))] ++ (xR 6 (fun i => (vr i, .inr (6, [.int (iI (Var i)), .int (nI (Vba i)), .int (iI (Vrk i)), .int (nI (Vwa i)), .int (nI (Vrc i)), .int (iI (Vgl i)), .int (iI (Vhd i)), .int (iI (Vwt i)), .ref (wb i), .ref (fr i), .ref (bg i)]))) ++ [])) H := hP
  have hD : va_D (fun _ => True) ([(st, .inr (8, [s0, s1, .int (nI vc), .ref fl, s4, s5, s6, s7, s8, s9, s10, s11, s12, s13, s14])), (fl, .inl (xV g, 6, .inr (.inr (.inr (.inr (fun i => if i < 6 then some (vr i) else none))))))] ++ (xR 6 (fun i => (vr i, .inr (6, [.int (iI (Var i)), .int (nI (Vba i)), .int (iI (Vrk i)), .int (nI (Vwa i)), .int (nI (Vrc i)), .int (iI (Vgl i)), .int (iI (Vhd i)), .int (iI (Vwt i)), .ref (wb i), .ref (fr i), .ref (bg i)]))) ++ [])) := hD
  try dsimp only at hw_2
  refine lv_aload_n hx hb dX8_handling_5 rfl (lv_at hl 0 rfl) ?_
  refine va_get (D := xD g) (ci := 8) (v := .ref fl) (C := RX8) (T := TX8) (N := 15) hx hb hts hFX8 hown hK hP 0 rfl rfl 3 (by decide) (hts (.fieldLink RX8 18 "Stevedore" "fleet" "[LStevedore$Vessel;") (by decide +kernel)) (fun _ h9 => h9) rfl dX8_handling_6 ?_
  refine lv_iload_n hx hb dX8_handling_9 rfl (lv_at hl 1 rfl) ?_
  refine va_aldq hx hb hK hP 1 2 rfl rfl (vp_in_nI (by omega) (by omega)) dX8_handling_10 ?_
  refine W.eq (g2 := F0 m 11 ls (.ref (vr v) :: [])) (congrArg (fun q9 => F0 m 11 ls (q9 :: [])) (xRow (n := 6) (k := v) (nI_clamp (by omega)) (by omega))) ?_
  refine va_get (D := xD g) (ci := 6) (v := .int (iI (Vhd v))) (C := RX6) (T := TX6) (N := 11) hx hb hts hFX6 hown hK hP _ (xR_ap (X := [(st, .inr (8, [s0, s1, .int (nI vc), .ref fl, s4, s5, s6, s7, s8, s9, s10, s11, s12, s13, s14])), (fl, .inl (xV g, 6, .inr (.inr (.inr (.inr (fun i => if i < 6 then some (vr i) else none))))))]) (xR_get0 (i := v) (by omega))) rfl 6 (by decide) (hts (.fieldLink RX8 194 "Stevedore$Vessel" "handlingTicks" "I") (by decide +kernel)) (fun _ h9 => h9) rfl dX8_handling_11 ?_
  exact W.iret (v := iI (Vhd v)) hx hb hr (fun t ht hW => ⟨⟨iI (Vhd v), (), rfl, (by first | trivial | rfl | assumption | omega), trivial⟩, hS.F ht⟩) hS.2.2 dX8_handling_14
theorem dX8_waits_0 : decode cX8_waits 0 = .ok (.aload_n 0, 1) := by decide +kernel
theorem dX8_waits_1 : decode cX8_waits 1 = .ok (.iload_n 1, 1) := by decide +kernel
theorem dX8_waits_2 : decode cX8_waits 2 = .ok (.invokevirtual 121, 3) := by decide +kernel
set_option maxRecDepth 20000 in
theorem ggX8_waits_X8_needVessel : GoodIn wsX8_waits wsX8_needVessel := goodIn_ca (goodIn_r _ [7, 8, 9, 10, 11, 12, 13, 14, 15, 16, 17, 18, 19, 20, 21, 22, 23, 24, 25] rfl (by decide +kernel)) (goodIn_sub (fun _ h => List.mem_cons_of_mem _ (List.mem_append_right _ h)) (by decide +kernel))
set_option maxRecDepth 20000 in
theorem gX8_waits_X8_needVessel : GoodIn wsX8_waits (wsV RX8 121 RX8 yX8_needVessel wsX8_needVessel) := goodIn_app (goodIn_of _ (by decide +kernel)) ggX8_waits_X8_needVessel
theorem dX8_waits_5 : decode cX8_waits 5 = .ok (.aload_n 0, 1) := by decide +kernel
theorem dX8_waits_6 : decode cX8_waits 6 = .ok (.getfield 18, 3) := by decide +kernel
theorem dX8_waits_9 : decode cX8_waits 9 = .ok (.iload_n 1, 1) := by decide +kernel
theorem dX8_waits_10 : decode cX8_waits 10 = .ok (.aaload, 1) := by decide +kernel
theorem dX8_waits_11 : decode cX8_waits 11 = .ok (.getfield 197, 3) := by decide +kernel
theorem dX8_waits_14 : decode cX8_waits 14 = .ok (.ireturn, 1) := by decide +kernel
set_option maxHeartbeats 4000000 in
set_option maxRecDepth 100000 in
theorem t_waits (l : Launch) (g : xG) (sz : Nat) (st : Nat) (fl : Nat) (vc : Nat) (v : Nat) (vr : Nat → Nat) (wb : Nat → Nat) (fr : Nat → Nat) (bg : Nat → Nat) (s0 : Value) (s1 : Value) (s4 : Value) (s5 : Value) (s6 : Value) (s7 : Value) (s8 : Value) (s9 : Value) (s10 : Value) (s11 : Value) (s12 : Value) (s13 : Value) (s14 : Value) (Var : Nat → Int) (Vba : Nat → Nat) (Vrk : Nat → Int) (Vwa : Nat → Nat) (Vrc : Nat → Nat) (Vgl : Nat → Int) (Vhd : Nat → Int) (Vwt : Nat → Int)  (hv : v < vc) (hvc : vc ≤ 6) : Met l yX8_waits wsX8_waits ({ frames := 1, cells := 0, slots := 0, locals := 21 }) (va_Pc [.ref st, .int (nI v)] (fun U => xB g ([(st, .inr (8, [s0, s1, .int (nI vc), .ref fl, s4, s5, s6, s7, s8, s9, s10, s11, s12, s13, s14])), (fl, .inl (xV g, 6, .inr (.inr (.inr (.inr (fun i => if i < 6 then some (vr i) else none))))))] ++ (xR 6 (fun i => (vr i, .inr (6, [.int (iI (Var i)), .int (nI (Vba i)), .int (iI (Vrk i)), .int (nI (Vwa i)), .int (nI (Vrc i)), .int (iI (Vgl i)), .int (iI (Vhd i)), .int (iI (Vwt i)), .ref (wb i), .ref (fr i), .ref (bg i)]))) ++ [])) sz U)) (va_Qi (fun (r : Int32) (_ : Unit) => r = iI (Vwt v)) (fun (_ : Unit) (_ : State) => True) (va_A [] sz)) 0 0 (va_A [] sz) := by
  refine Met.ofW (cc := cX8_waits) (maxL := 2) (ret := (some .int)) (by decide) rfl ?_
  intro p e s m args below meth c s₁ B hml hv
  obtain ⟨rfl, hsz, hP, hK, hD0⟩ := hv
  have hx := B.exec
  have hb := B.bytes
  have hr := B.returns
  have hts := atoms_spec (ws := wsX8_waits) B.pre
  have hown : s.vm.findClass RX8 = some m.cls := findClass_of_methodNamed B.named
  have hlocks := B.notSynchronized
  subst hsz
  have hD := hD0
  generalize hAe : va_A [] s.heap.size = A
  have hA : ∀ q : Nat, s.heap.size ≤ q → A q := fun q h => by rw [← hAe]; exact Or.inr h
  have hS : va_S A s.heap s.heap [] := va_S.rf
  have hl := lv_entry ([.ref st, .int (nI v)]) (n := 2) (Nat.le_of_ble_eq_true rfl)
  rw [lg_entry_eq]
  generalize (lg_sl ([.ref st, .int (nI v)]) ++ List.replicate (2 - (lg_sl ([.ref st, .int (nI v)])).length) Slot.unset).toArray = ls at hl ⊢
  have hl : lv_has ls 2 [(0, .ref st), (1, .int (nI v))] := hl
  have hFX6 : ∀ w ∈ u_ws RX6 TX6 11, w ∈ wsX8_waits := by decide +kernel
  have hFX8 : ∀ w ∈ u_ws RX8 TX8 15, w ∈ wsX8_waits := by decide +kernel
  refine lv_aload_n hx hb dX8_waits_0 rfl (lv_at hl 0 rfl) ?_
  refine lv_iload_n hx hb dX8_waits_1 rfl (lv_at hl 1 rfl) ?_
  have hPc := hP.sub (ws' := [(st, .inr (8, [s0, s1, .int (nI vc), .ref fl, s4, s5, s6, s7, s8, s9, s10, s11, s12, s13, s14]))]) [0] rfl
  have hDc := hD.sub (ws' := [(st, .inr (8, [s0, s1, .int (nI vc), .ref fl, s4, s5, s6, s7, s8, s9, s10, s11, s12, s13, s14]))]) [0] (by decide) rfl
  have hFc := xFree hS hA
  refine va_callv (va_runV (As := [.int (nI v)]) (rest := []) ⟨hx, hb, hml, hown, hts⟩ (n_vessel l g s.heap.size st vc v s0 s1 (.ref fl) s4 s5 s6 s7 s8 s9 s10 s11 s12 s13 s14 (by first | assumption | omega) (by first | assumption | omega)) (cwV 1 hts gX8_waits_X8_needVessel rfl rfl rfl (by decide +kernel) ⟨Nat.le_of_ble_eq_true rfl, Nat.le_of_ble_eq_true rfl⟩) ⟨xB.blind, va_recv hK hPc (ci := 8) (q0 := 0) rfl rfl, fun U9 hU9 hW9 => ⟨rfl, xB.mk hPc hK hDc hU9 hW9⟩⟩ rfl rfl hl.1 rfl (lv_room (Nat.le_of_ble_eq_true rfl)) dX8_waits_2 ⟨Nat.le_of_ble_eq_true rfl, Nat.le_of_ble_eq_true rfl⟩) hS (fun q _ h => hFc q h) hFc (fun _ t H1 locs ht hvm hw_2 hB hz1 hk1 hS => ?_)
  have hP := xSame hP hk1
  generalize H1 = H at hP hS ⊢
  have hP : va_P (xD g) vwCl ([(st, .inr (8, [s0, s1, .int (nI vc), .ref fl, s4, s5, s6, s7, s8, s9, s10, s11, s12, s13, s14])), (fl, .inl (xV g, 6, .inr (.inr (.inr (.inr (fun i => if i < 6 then some (vr i) else none))))))] ++ (xR 6 (fun i => (vr i, .inr (6, [.int (iI (Var i)), .int (nI (Vba i)), .int (iI (Vrk i)), .int (nI (Vwa i)), .int (nI (Vrc i)), .int (iI (Vgl i)), .int (iI (Vhd i)), .int (iI (Vwt i)), .ref (wb i), .ref (fr i), .ref (bg i)]))) ++ [])) H := hP
  have hD : va_D (fun _ => True) ([(st, .inr (8, [s0, s1, .int (nI vc), .ref fl, s4, s5, s6, s7, s8, s9, s10, s11, s12, s13, s14])), (fl, .inl (xV g, 6, .inr (.inr (.inr (.inr (fun i => if i < 6 then some (vr i) else none))))))] ++ (xR 6 (fun i => (vr i, .inr (6, [.int (iI (Var i)), .int (nI (Vba i)), .int (iI (Vrk i)), .int (nI (Vwa i)), .int (nI (Vrc i)), .int (iI (Vgl i)), .int (iI (Vhd i)), .int (iI (Vwt i)), .ref (wb i), .ref (fr i), .ref (bg i)]))) ++ [])) := hD
  try dsimp only at hw_2
  refine lv_aload_n hx hb dX8_waits_5 rfl (lv_at hl 0 rfl) ?_
  refine va_get (D := xD g) (ci := 8) (v := .ref fl) (C := RX8) (T := TX8) (N := 15) hx hb hts hFX8 hown hK hP 0 rfl rfl 3 (by decide) (hts (.fieldLink RX8 18 "Stevedore" "fleet" "[LStevedore$Vessel;") (by decide +kernel)) (fun _ h9 => h9) rfl dX8_waits_6 ?_
  refine lv_iload_n hx hb dX8_waits_9 rfl (lv_at hl 1 rfl) ?_
  refine va_aldq hx hb hK hP 1 2 rfl rfl (vp_in_nI (by omega) (by omega)) dX8_waits_10 ?_
  refine W.eq (g2 := F0 m 11 ls (.ref (vr v) :: [])) (congrArg (fun q9 => F0 m 11 ls (q9 :: [])) (xRow (n := 6) (k := v) (nI_clamp (by omega)) (by omega))) ?_
  refine va_get (D := xD g) (ci := 6) (v := .int (iI (Vwt v))) (C := RX6) (T := TX6) (N := 11) hx hb hts hFX6 hown hK hP _ (xR_ap (X := [(st, .inr (8, [s0, s1, .int (nI vc), .ref fl, s4, s5, s6, s7, s8, s9, s10, s11, s12, s13, s14])), (fl, .inl (xV g, 6, .inr (.inr (.inr (.inr (fun i => if i < 6 then some (vr i) else none))))))]) (xR_get0 (i := v) (by omega))) rfl 7 (by decide) (hts (.fieldLink RX8 197 "Stevedore$Vessel" "waitTicks" "I") (by decide +kernel)) (fun _ h9 => h9) rfl dX8_waits_11 ?_
  exact W.iret (v := iI (Vwt v)) hx hb hr (fun t ht hW => ⟨⟨iI (Vwt v), (), rfl, (by first | trivial | rfl | assumption | omega), trivial⟩, hS.F ht⟩) hS.2.2 dX8_waits_14
theorem dX8_firstBay_0 : decode cX8_firstBay 0 = .ok (.aload_n 0, 1) := by decide +kernel
theorem dX8_firstBay_1 : decode cX8_firstBay 1 = .ok (.iload_n 1, 1) := by decide +kernel
theorem dX8_firstBay_2 : decode cX8_firstBay 2 = .ok (.invokevirtual 121, 3) := by decide +kernel
set_option maxRecDepth 20000 in
theorem ggX8_firstBay_X8_needVessel : GoodIn wsX8_firstBay wsX8_needVessel := goodIn_ca (goodIn_r _ [10, 1, 2, 11, 12, 13, 14, 15, 16, 17, 18, 19, 20, 21, 22, 23, 24, 25, 26] rfl (by decide +kernel)) (goodIn_sub (fun _ h => List.mem_cons_of_mem _ (List.mem_append_right _ h)) (by decide +kernel))
set_option maxRecDepth 20000 in
theorem gX8_firstBay_X8_needVessel : GoodIn wsX8_firstBay (wsV RX8 121 RX8 yX8_needVessel wsX8_needVessel) := goodIn_app (goodIn_of _ (by decide +kernel)) ggX8_firstBay_X8_needVessel
theorem dX8_firstBay_5 : decode cX8_firstBay 5 = .ok (.iload_n 2, 1) := by decide +kernel
theorem dX8_firstBay_6 : decode cX8_firstBay 6 = .ok (.ifCond .lt 16, 3) := by decide +kernel
theorem dX8_firstBay_9 : decode cX8_firstBay 9 = .ok (.iload_n 2, 1) := by decide +kernel
theorem dX8_firstBay_10 : decode cX8_firstBay 10 = .ok (.aload_n 0, 1) := by decide +kernel
theorem dX8_firstBay_11 : decode cX8_firstBay 11 = .ok (.getfield 18, 3) := by decide +kernel
theorem dX8_firstBay_14 : decode cX8_firstBay 14 = .ok (.iload_n 1, 1) := by decide +kernel
theorem dX8_firstBay_15 : decode cX8_firstBay 15 = .ok (.aaload, 1) := by decide +kernel
theorem dX8_firstBay_16 : decode cX8_firstBay 16 = .ok (.getfield 173, 3) := by decide +kernel
theorem dX8_firstBay_19 : decode cX8_firstBay 19 = .ok (.if_icmp .lt 13, 3) := by decide +kernel
theorem dX8_firstBay_32 : decode cX8_firstBay 32 = .ok (.aload_n 0, 1) := by decide +kernel
theorem dX8_firstBay_33 : decode cX8_firstBay 33 = .ok (.getfield 18, 3) := by decide +kernel
theorem dX8_firstBay_36 : decode cX8_firstBay 36 = .ok (.iload_n 1, 1) := by decide +kernel
theorem dX8_firstBay_37 : decode cX8_firstBay 37 = .ok (.aaload, 1) := by decide +kernel
theorem dX8_firstBay_38 : decode cX8_firstBay 38 = .ok (.getfield 181, 3) := by decide +kernel
theorem dX8_firstBay_41 : decode cX8_firstBay 41 = .ok (.iload_n 2, 1) := by decide +kernel
theorem dX8_firstBay_42 : decode cX8_firstBay 42 = .ok (.iaload, 1) := by decide +kernel
theorem dX8_firstBay_43 : decode cX8_firstBay 43 = .ok (.ireturn, 1) := by decide +kernel
set_option maxHeartbeats 4000000 in
set_option maxRecDepth 100000 in
theorem t_firstBay (l : Launch) (g : xG) (sz : Nat) (st : Nat) (fl : Nat) (vc : Nat) (v : Nat) (vr : Nat → Nat) (wb : Nat → Nat) (fr : Nat → Nat) (bg : Nat → Nat) (s0 : Value) (s1 : Value) (s4 : Value) (s5 : Value) (s6 : Value) (s7 : Value) (s8 : Value) (s9 : Value) (s10 : Value) (s11 : Value) (s12 : Value) (s13 : Value) (s14 : Value) (Var : Nat → Int) (Vba : Nat → Nat) (Vrk : Nat → Int) (Vwa : Nat → Nat) (Vrc : Nat → Nat) (Vgl : Nat → Int) (Vhd : Nat → Int) (Vwt : Nat → Int) (x : Nat) (frh : Nat → Nat → Nat)  (hv : v < vc) (hvc : vc ≤ 6) (hx : x < Vrc v) (hr4 : Vrc v ≤ 4) (b_frh : ∀ i j, frh i j ≤ 10) : Met l yX8_firstBay wsX8_firstBay ({ frames := 1, cells := 0, slots := 0, locals := 21 }) (va_Pc [.ref st, .int (nI v), .int (nI x)] (fun U => xB g ([(st, .inr (8, [s0, s1, .int (nI vc), .ref fl, s4, s5, s6, s7, s8, s9, s10, s11, s12, s13, s14])), (fl, .inl (xV g, 6, .inr (.inr (.inr (.inr (fun i => if i < 6 then some (vr i) else none))))))] ++ (xR 6 (fun i => (vr i, .inr (6, [.int (iI (Var i)), .int (nI (Vba i)), .int (iI (Vrk i)), .int (nI (Vwa i)), .int (nI (Vrc i)), .int (iI (Vgl i)), .int (iI (Vhd i)), .int (iI (Vwt i)), .ref (wb i), .ref (fr i), .ref (bg i)]))) ++ (xRN (xI g) 6 4 fr frh ++ []))) sz U)) (va_Qi (fun (r : Int32) (_ : Unit) => r = nI (frh v x)) (fun (_ : Unit) (_ : State) => True) (va_A [] sz)) 0 0 (va_A [] sz) := by
  refine Met.ofW (cc := cX8_firstBay) (maxL := 3) (ret := (some .int)) (by decide) rfl ?_
  intro p e s m args below meth c s₁ B hml hv
  obtain ⟨rfl, hsz, hP, hK, hD0⟩ := hv
  have hx := B.exec
  have hb := B.bytes
  have hr := B.returns
  have hts := atoms_spec (ws := wsX8_firstBay) B.pre
  have hown : s.vm.findClass RX8 = some m.cls := findClass_of_methodNamed B.named
  have hlocks := B.notSynchronized
  subst hsz
  have hD := hD0
  generalize hAe : va_A [] s.heap.size = A
  have hA : ∀ q : Nat, s.heap.size ≤ q → A q := fun q h => by rw [← hAe]; exact Or.inr h
  have hS : va_S A s.heap s.heap [] := va_S.rf
  have hl := lv_entry ([.ref st, .int (nI v), .int (nI x)]) (n := 3) (Nat.le_of_ble_eq_true rfl)
  rw [lg_entry_eq]
  generalize (lg_sl ([.ref st, .int (nI v), .int (nI x)]) ++ List.replicate (3 - (lg_sl ([.ref st, .int (nI v), .int (nI x)])).length) Slot.unset).toArray = ls at hl ⊢
  have hl : lv_has ls 3 [(0, .ref st), (1, .int (nI v)), (2, .int (nI x))] := hl
  have hFX6 : ∀ w ∈ u_ws RX6 TX6 11, w ∈ wsX8_firstBay := by decide +kernel
  have hFX8 : ∀ w ∈ u_ws RX8 TX8 15, w ∈ wsX8_firstBay := by decide +kernel
  refine lv_aload_n hx hb dX8_firstBay_0 rfl (lv_at hl 0 rfl) ?_
  refine lv_iload_n hx hb dX8_firstBay_1 rfl (lv_at hl 1 rfl) ?_
  have hPc := hP.sub (ws' := [(st, .inr (8, [s0, s1, .int (nI vc), .ref fl, s4, s5, s6, s7, s8, s9, s10, s11, s12, s13, s14]))]) [0] rfl
  have hDc := hD.sub (ws' := [(st, .inr (8, [s0, s1, .int (nI vc), .ref fl, s4, s5, s6, s7, s8, s9, s10, s11, s12, s13, s14]))]) [0] (by decide) rfl
  have hFc := xFree hS hA
  refine va_callv (va_runV (As := [.int (nI v)]) (rest := []) ⟨hx, hb, hml, hown, hts⟩ (n_vessel l g s.heap.size st vc v s0 s1 (.ref fl) s4 s5 s6 s7 s8 s9 s10 s11 s12 s13 s14 (by first | assumption | omega) (by first | assumption | omega)) (cwV 1 hts gX8_firstBay_X8_needVessel rfl rfl rfl (by decide +kernel) ⟨Nat.le_of_ble_eq_true rfl, Nat.le_of_ble_eq_true rfl⟩) ⟨xB.blind, va_recv hK hPc (ci := 8) (q0 := 0) rfl rfl, fun U9 hU9 hW9 => ⟨rfl, xB.mk hPc hK hDc hU9 hW9⟩⟩ rfl rfl hl.1 rfl (lv_room (Nat.le_of_ble_eq_true rfl)) dX8_firstBay_2 ⟨Nat.le_of_ble_eq_true rfl, Nat.le_of_ble_eq_true rfl⟩) hS (fun q _ h => hFc q h) hFc (fun _ t H1 locs ht hvm hw_2 hB hz1 hk1 hS => ?_)
  have hP := xSame hP hk1
  generalize H1 = H at hP hS ⊢
  have hP : va_P (xD g) vwCl ([(st, .inr (8, [s0, s1, .int (nI vc), .ref fl, s4, s5, s6, s7, s8, s9, s10, s11, s12, s13, s14])), (fl, .inl (xV g, 6, .inr (.inr (.inr (.inr (fun i => if i < 6 then some (vr i) else none))))))] ++ (xR 6 (fun i => (vr i, .inr (6, [.int (iI (Var i)), .int (nI (Vba i)), .int (iI (Vrk i)), .int (nI (Vwa i)), .int (nI (Vrc i)), .int (iI (Vgl i)), .int (iI (Vhd i)), .int (iI (Vwt i)), .ref (wb i), .ref (fr i), .ref (bg i)]))) ++ (xRN (xI g) 6 4 fr frh ++ []))) H := hP
  have hD : va_D (fun _ => True) ([(st, .inr (8, [s0, s1, .int (nI vc), .ref fl, s4, s5, s6, s7, s8, s9, s10, s11, s12, s13, s14])), (fl, .inl (xV g, 6, .inr (.inr (.inr (.inr (fun i => if i < 6 then some (vr i) else none))))))] ++ (xR 6 (fun i => (vr i, .inr (6, [.int (iI (Var i)), .int (nI (Vba i)), .int (iI (Vrk i)), .int (nI (Vwa i)), .int (nI (Vrc i)), .int (iI (Vgl i)), .int (iI (Vhd i)), .int (iI (Vwt i)), .ref (wb i), .ref (fr i), .ref (bg i)]))) ++ (xRN (xI g) 6 4 fr frh ++ []))) := hD
  try dsimp only at hw_2
  refine lv_iload_n hx hb dX8_firstBay_5 rfl (lv_at hl 2 rfl) ?_
  refine lv_if_lt (tgt := 22) hx hb dX8_firstBay_6 (by decide) (fun c_3 => ?_) (fun c_3 => ?_)
  · have nc_3 := (nI_ltI (a := x) (b := 0) (by omega) (by omega)).mp c_3
    (exfalso; omega)
  · have nc_3 := mt (nI_ltI (a := x) (b := 0) (by omega) (by omega)).mpr c_3
    refine lv_iload_n hx hb dX8_firstBay_9 rfl (lv_at hl 2 rfl) ?_
    refine lv_aload_n hx hb dX8_firstBay_10 rfl (lv_at hl 0 rfl) ?_
    refine va_get (D := xD g) (ci := 8) (v := .ref fl) (C := RX8) (T := TX8) (N := 15) hx hb hts hFX8 hown hK hP 0 rfl rfl 3 (by decide) (hts (.fieldLink RX8 18 "Stevedore" "fleet" "[LStevedore$Vessel;") (by decide +kernel)) (fun _ h9 => h9) rfl dX8_firstBay_11 ?_
    refine lv_iload_n hx hb dX8_firstBay_14 rfl (lv_at hl 1 rfl) ?_
    refine va_aldq hx hb hK hP 1 2 rfl rfl (vp_in_nI (by omega) (by omega)) dX8_firstBay_15 ?_
    refine W.eq (g2 := F0 m 16 ls (.ref (vr v) :: .int (nI x) :: [])) (congrArg (fun q9 => F0 m 16 ls (q9 :: .int (nI x) :: [])) (xRow (n := 6) (k := v) (nI_clamp (by omega)) (by omega))) ?_
    refine va_get (D := xD g) (ci := 6) (v := .int (nI (Vrc v))) (C := RX6) (T := TX6) (N := 11) hx hb hts hFX6 hown hK hP _ (xR_ap (X := [(st, .inr (8, [s0, s1, .int (nI vc), .ref fl, s4, s5, s6, s7, s8, s9, s10, s11, s12, s13, s14])), (fl, .inl (xV g, 6, .inr (.inr (.inr (.inr (fun i => if i < 6 then some (vr i) else none))))))]) (xR_get0 (i := v) (by omega))) rfl 4 (by decide) (hts (.fieldLink RX8 173 "Stevedore$Vessel" "rangeCount" "I") (by decide +kernel)) (fun _ h9 => h9) rfl dX8_firstBay_16 ?_
    refine lv_icmp_lt (tgt := 32) hx hb dX8_firstBay_19 (by decide) (fun c_4 => ?_) (fun c_4 => ?_)
    · have nc_4 := (nI_ltI (a := x) (b := Vrc v) (by omega) (by omega)).mp c_4
      refine lv_aload_n hx hb dX8_firstBay_32 rfl (lv_at hl 0 rfl) ?_
      refine va_get (D := xD g) (ci := 8) (v := .ref fl) (C := RX8) (T := TX8) (N := 15) hx hb hts hFX8 hown hK hP 0 rfl rfl 3 (by decide) (hts (.fieldLink RX8 18 "Stevedore" "fleet" "[LStevedore$Vessel;") (by decide +kernel)) (fun _ h9 => h9) rfl dX8_firstBay_33 ?_
      refine lv_iload_n hx hb dX8_firstBay_36 rfl (lv_at hl 1 rfl) ?_
      refine va_aldq hx hb hK hP 1 2 rfl rfl (vp_in_nI (by omega) (by omega)) dX8_firstBay_37 ?_
      refine W.eq (g2 := F0 m 38 ls (.ref (vr v) :: [])) (congrArg (fun q9 => F0 m 38 ls (q9 :: [])) (xRow (n := 6) (k := v) (nI_clamp (by omega)) (by omega))) ?_
      refine va_get (D := xD g) (ci := 6) (v := .ref (fr v)) (C := RX6) (T := TX6) (N := 11) hx hb hts hFX6 hown hK hP _ (xR_ap (X := [(st, .inr (8, [s0, s1, .int (nI vc), .ref fl, s4, s5, s6, s7, s8, s9, s10, s11, s12, s13, s14])), (fl, .inl (xV g, 6, .inr (.inr (.inr (.inr (fun i => if i < 6 then some (vr i) else none))))))]) (xR_get0 (i := v) (by omega))) rfl 9 (by decide) (hts (.fieldLink RX8 181 "Stevedore$Vessel" "firstOfRange" "[I") (by decide +kernel)) (fun _ h9 => h9) rfl dX8_firstBay_38 ?_
      refine lv_iload_n hx hb dX8_firstBay_41 rfl (lv_at hl 2 rfl) ?_
      refine va_iald hx hb hK hP _ 0 (xR_ap (X := [(st, .inr (8, [s0, s1, .int (nI vc), .ref fl, s4, s5, s6, s7, s8, s9, s10, s11, s12, s13, s14])), (fl, .inl (xV g, 6, .inr (.inr (.inr (.inr (fun i => if i < 6 then some (vr i) else none))))))]) (xR_ap (X := xR 6 (fun i => (vr i, .inr (6, [.int (iI (Var i)), .int (nI (Vba i)), .int (iI (Vrk i)), .int (nI (Vwa i)), .int (nI (Vrc i)), .int (iI (Vgl i)), .int (iI (Vhd i)), .int (iI (Vwt i)), .ref (wb i), .ref (fr i), .ref (bg i)])))) (xR_get0 (i := v) (by omega)))) rfl (vp_in_nI (by omega) (by omega)) dX8_firstBay_42 ?_
      refine lv_topi (fun v_5 ev => ?_)
      obtain rfl : v_5 = nI (frh v x) := ev.trans (congrArg (fun q9 => nI (frh v q9)) (nI_clamp (by omega)))
      have b_6 := b_frh v x
      exact W.iret (v := nI (frh v x)) hx hb hr (fun t ht hW => ⟨⟨nI (frh v x), (), rfl, (by first | trivial | rfl | assumption | omega), trivial⟩, hS.F ht⟩) hS.2.2 dX8_firstBay_43
    · have nc_4 := mt (nI_ltI (a := x) (b := Vrc v) (by omega) (by omega)).mpr c_4
      (exfalso; omega)
theorem dX8_orderAt_0 : decode cX8_orderAt 0 = .ok (.aload_n 0, 1) := by decide +kernel
theorem dX8_orderAt_1 : decode cX8_orderAt 1 = .ok (.invokevirtual 222, 3) := by decide +kernel
set_option maxRecDepth 20000 in
theorem ggX8_orderAt_X8_needPlan : GoodIn wsX8_orderAt wsX8_needPlan := goodIn_ca (goodIn_r _ [10, 11, 12, 4, 13, 14, 15, 16, 17, 18, 19, 20, 21, 22, 23, 24, 25, 26, 27, 28, 29, 30, 31, 32] rfl (by decide +kernel)) (goodIn_sub (fun _ h => List.mem_cons_of_mem _ (List.mem_append_right _ h)) (by decide +kernel))
set_option maxRecDepth 20000 in
theorem gX8_orderAt_X8_needPlan : GoodIn wsX8_orderAt (wsV RX8 222 RX8 yX8_needPlan wsX8_needPlan) := goodIn_app (goodIn_of _ (by decide +kernel)) ggX8_orderAt_X8_needPlan
theorem dX8_orderAt_4 : decode cX8_orderAt 4 = .ok (.iload_n 1, 1) := by decide +kernel
theorem dX8_orderAt_5 : decode cX8_orderAt 5 = .ok (.ifCond .lt 11, 3) := by decide +kernel
theorem dX8_orderAt_8 : decode cX8_orderAt 8 = .ok (.iload_n 1, 1) := by decide +kernel
theorem dX8_orderAt_9 : decode cX8_orderAt 9 = .ok (.aload_n 0, 1) := by decide +kernel
theorem dX8_orderAt_10 : decode cX8_orderAt 10 = .ok (.getfield 95, 3) := by decide +kernel
theorem dX8_orderAt_13 : decode cX8_orderAt 13 = .ok (.if_icmp .lt 13, 3) := by decide +kernel
theorem dX8_orderAt_26 : decode cX8_orderAt 26 = .ok (.aload_n 0, 1) := by decide +kernel
theorem dX8_orderAt_27 : decode cX8_orderAt 27 = .ok (.getfield 57, 3) := by decide +kernel
theorem dX8_orderAt_30 : decode cX8_orderAt 30 = .ok (.getfield 227, 3) := by decide +kernel
theorem dX8_orderAt_33 : decode cX8_orderAt 33 = .ok (.iload_n 1, 1) := by decide +kernel
theorem dX8_orderAt_34 : decode cX8_orderAt 34 = .ok (.iaload, 1) := by decide +kernel
theorem dX8_orderAt_35 : decode cX8_orderAt 35 = .ok (.ireturn, 1) := by decide +kernel
set_option maxHeartbeats 4000000 in
set_option maxRecDepth 100000 in
theorem t_orderAt (l : Launch) (g : xG) (sz : Nat) (st : Nat) (pn : Nat) (po : Nat) (ps : Nat) (pp : Nat) (vc : Nat) (x : Nat) (s0 : Value) (s1 : Value) (s3 : Value) (s4 : Value) (s5 : Value) (s6 : Value) (s7 : Value) (s9 : Value) (s10 : Value) (s11 : Value) (s12 : Value) (s13 : Value) (s14 : Value) (qrd : Nat → Nat) (qta : Nat → Int) (qla : Nat → Int)  (hx : x < vc) (hvc : vc ≤ 6) (b_qrd : ∀ j, qrd j ≤ 5) (b_qta : ∀ j, 0 ≤ qta j ∧ qta j ≤ 1000000) (b_qla : ∀ j, (-1) ≤ qla j ∧ qla j ≤ 60) : Met l yX8_orderAt wsX8_orderAt ({ frames := 1, cells := 0, slots := 0, locals := 20 }) (va_Pc [.ref st, .int (nI x)] (fun U => xB g [(st, .inr (8, [s0, s1, .int (nI vc), s3, s4, s5, s6, s7, .ref pn, s9, s10, s11, s12, s13, s14])), (pn, .inr (4, [.int 1, .ref po, .ref ps, .ref pp])), (po, .inl (xI g, 6, .inl (fun j => nI (qrd j)))), (ps, .inl (xI g, 6, .inl (fun j => iI (qta j)))), (pp, .inl (xI g, 6, .inl (fun j => iI (qla j))))] sz U)) (va_Qi (fun (r : Int32) (_ : Unit) => r = nI (qrd x)) (fun (_ : Unit) (_ : State) => True) (va_A [] sz)) 0 0 (va_A [] sz) := by
  refine Met.ofW (cc := cX8_orderAt) (maxL := 2) (ret := (some .int)) (by decide) rfl ?_
  intro p e s m args below meth c s₁ B hml hv
  obtain ⟨rfl, hsz, hP, hK, hD0⟩ := hv
  have hx := B.exec
  have hb := B.bytes
  have hr := B.returns
  have hts := atoms_spec (ws := wsX8_orderAt) B.pre
  have hown : s.vm.findClass RX8 = some m.cls := findClass_of_methodNamed B.named
  have hlocks := B.notSynchronized
  subst hsz
  have hD := hD0
  generalize hAe : va_A [] s.heap.size = A
  have hA : ∀ q : Nat, s.heap.size ≤ q → A q := fun q h => by rw [← hAe]; exact Or.inr h
  have hS : va_S A s.heap s.heap [] := va_S.rf
  have hl := lv_entry ([.ref st, .int (nI x)]) (n := 2) (Nat.le_of_ble_eq_true rfl)
  rw [lg_entry_eq]
  generalize (lg_sl ([.ref st, .int (nI x)]) ++ List.replicate (2 - (lg_sl ([.ref st, .int (nI x)])).length) Slot.unset).toArray = ls at hl ⊢
  have hl : lv_has ls 2 [(0, .ref st), (1, .int (nI x))] := hl
  have hFX4 : ∀ w ∈ u_ws RX4 TX4 4, w ∈ wsX8_orderAt := by decide +kernel
  have hFX8 : ∀ w ∈ u_ws RX8 TX8 15, w ∈ wsX8_orderAt := by decide +kernel
  refine lv_aload_n hx hb dX8_orderAt_0 rfl (lv_at hl 0 rfl) ?_
  have hPc := hP.sub (ws' := [(st, .inr (8, [s0, s1, .int (nI vc), s3, s4, s5, s6, s7, .ref pn, s9, s10, s11, s12, s13, s14])), (pn, .inr (4, [.int 1, .ref po, .ref ps, .ref pp]))]) [0, 1] rfl
  have hDc := hD.sub (ws' := [(st, .inr (8, [s0, s1, .int (nI vc), s3, s4, s5, s6, s7, .ref pn, s9, s10, s11, s12, s13, s14])), (pn, .inr (4, [.int 1, .ref po, .ref ps, .ref pp]))]) [0, 1] (by decide) rfl
  have hFc := xFree hS hA
  refine va_callv (va_runV (As := []) (rest := []) ⟨hx, hb, hml, hown, hts⟩ (n_plan l g s.heap.size st pn s0 s1 (.int (nI vc)) s3 s4 s5 s6 s7 s9 s10 s11 s12 s13 s14 (.ref po) (.ref ps) (.ref pp)) (cwV 0 hts gX8_orderAt_X8_needPlan rfl rfl rfl (by decide +kernel) ⟨Nat.le_of_ble_eq_true rfl, Nat.le_of_ble_eq_true rfl⟩) ⟨xB.blind, va_recv hK hPc (ci := 8) (q0 := 0) rfl rfl, fun U9 hU9 hW9 => ⟨rfl, xB.mk hPc hK hDc hU9 hW9⟩⟩ rfl rfl hl.1 rfl (lv_room (Nat.le_of_ble_eq_true rfl)) dX8_orderAt_1 ⟨Nat.le_of_ble_eq_true rfl, Nat.le_of_ble_eq_true rfl⟩) hS (fun q _ h => hFc q h) hFc (fun _ t H1 locs ht hvm hw_2 hB hz1 hk1 hS => ?_)
  have hP := xSame hP hk1
  generalize H1 = H at hP hS ⊢
  have hP : va_P (xD g) vwCl [(st, .inr (8, [s0, s1, .int (nI vc), s3, s4, s5, s6, s7, .ref pn, s9, s10, s11, s12, s13, s14])), (pn, .inr (4, [.int 1, .ref po, .ref ps, .ref pp])), (po, .inl (xI g, 6, .inl (fun j => nI (qrd j)))), (ps, .inl (xI g, 6, .inl (fun j => iI (qta j)))), (pp, .inl (xI g, 6, .inl (fun j => iI (qla j))))] H := hP
  have hD : va_D (fun _ => True) [(st, .inr (8, [s0, s1, .int (nI vc), s3, s4, s5, s6, s7, .ref pn, s9, s10, s11, s12, s13, s14])), (pn, .inr (4, [.int 1, .ref po, .ref ps, .ref pp])), (po, .inl (xI g, 6, .inl (fun j => nI (qrd j)))), (ps, .inl (xI g, 6, .inl (fun j => iI (qta j)))), (pp, .inl (xI g, 6, .inl (fun j => iI (qla j))))] := hD
  try dsimp only at hw_2
  refine lv_iload_n hx hb dX8_orderAt_4 rfl (lv_at hl 1 rfl) ?_
  refine lv_if_lt (tgt := 16) hx hb dX8_orderAt_5 (by decide) (fun c_3 => ?_) (fun c_3 => ?_)
  · have nc_3 := (nI_ltI (a := x) (b := 0) (by omega) (by omega)).mp c_3
    (exfalso; omega)
  · have nc_3 := mt (nI_ltI (a := x) (b := 0) (by omega) (by omega)).mpr c_3
    refine lv_iload_n hx hb dX8_orderAt_8 rfl (lv_at hl 1 rfl) ?_
    refine lv_aload_n hx hb dX8_orderAt_9 rfl (lv_at hl 0 rfl) ?_
    refine va_get (D := xD g) (ci := 8) (v := .int (nI vc)) (C := RX8) (T := TX8) (N := 15) hx hb hts hFX8 hown hK hP 0 rfl rfl 2 (by decide) (hts (.fieldLink RX8 95 "Stevedore" "vesselCount" "I") (by decide +kernel)) (fun _ h9 => h9) rfl dX8_orderAt_10 ?_
    refine lv_icmp_lt (tgt := 26) hx hb dX8_orderAt_13 (by decide) (fun c_4 => ?_) (fun c_4 => ?_)
    · have nc_4 := (nI_ltI (a := x) (b := vc) (by omega) (by omega)).mp c_4
      refine lv_aload_n hx hb dX8_orderAt_26 rfl (lv_at hl 0 rfl) ?_
      refine va_get (D := xD g) (ci := 8) (v := .ref pn) (C := RX8) (T := TX8) (N := 15) hx hb hts hFX8 hown hK hP 0 rfl rfl 8 (by decide) (hts (.fieldLink RX8 57 "Stevedore" "plan" "LStevedore$Plan;") (by decide +kernel)) (fun _ h9 => h9) rfl dX8_orderAt_27 ?_
      refine va_get (D := xD g) (ci := 4) (v := .ref po) (C := RX4) (T := TX4) (N := 4) hx hb hts hFX4 hown hK hP 1 rfl rfl 1 (by decide) (hts (.fieldLink RX8 227 "Stevedore$Plan" "order" "[I") (by decide +kernel)) (fun _ h9 => h9) rfl dX8_orderAt_30 ?_
      refine lv_iload_n hx hb dX8_orderAt_33 rfl (lv_at hl 1 rfl) ?_
      refine va_iald hx hb hK hP 2 0 rfl rfl (vp_in_nI (by omega) (by omega)) dX8_orderAt_34 ?_
      refine lv_topi (fun v_5 ev => ?_)
      obtain rfl : v_5 = nI (qrd x) := ev.trans (congrArg (fun q9 => nI (qrd q9)) (nI_clamp (by omega)))
      have b_6 := b_qrd x
      exact W.iret (v := nI (qrd x)) hx hb hr (fun t ht hW => ⟨⟨nI (qrd x), (), rfl, (by first | trivial | rfl | assumption | omega), trivial⟩, hS.F ht⟩) hS.2.2 dX8_orderAt_35
    · have nc_4 := mt (nI_ltI (a := x) (b := vc) (by omega) (by omega)).mpr c_4
      (exfalso; omega)
theorem dX8_startOf_0 : decode cX8_startOf 0 = .ok (.aload_n 0, 1) := by decide +kernel
theorem dX8_startOf_1 : decode cX8_startOf 1 = .ok (.invokevirtual 222, 3) := by decide +kernel
set_option maxRecDepth 20000 in
theorem ggX8_startOf_X8_needPlan : GoodIn wsX8_startOf wsX8_needPlan := goodIn_ca (goodIn_r _ [7, 8, 9, 1, 10, 18, 19, 20, 21, 22, 23, 24, 25, 26, 27, 28, 29, 30, 31, 32, 33, 34, 35, 36] rfl (by decide +kernel)) (goodIn_sub (fun _ h => List.mem_cons_of_mem _ (List.mem_append_left _ (List.mem_append_right _ h))) (by decide +kernel))
set_option maxRecDepth 20000 in
theorem gX8_startOf_X8_needPlan : GoodIn wsX8_startOf (wsV RX8 222 RX8 yX8_needPlan wsX8_needPlan) := goodIn_app (goodIn_of _ (by decide +kernel)) ggX8_startOf_X8_needPlan
theorem dX8_startOf_4 : decode cX8_startOf 4 = .ok (.aload_n 0, 1) := by decide +kernel
theorem dX8_startOf_5 : decode cX8_startOf 5 = .ok (.iload_n 1, 1) := by decide +kernel
theorem dX8_startOf_6 : decode cX8_startOf 6 = .ok (.invokevirtual 121, 3) := by decide +kernel
set_option maxRecDepth 20000 in
theorem ggX8_startOf_X8_needVessel : GoodIn wsX8_startOf wsX8_needVessel := goodIn_ca (goodIn_r _ [14, 15, 16, 17, 18, 19, 20, 21, 22, 23, 24, 25, 26, 27, 28, 29, 30, 31, 32] rfl (by decide +kernel)) (goodIn_sub (fun _ h => List.mem_cons_of_mem _ (List.mem_append_right _ h)) (by decide +kernel))
set_option maxRecDepth 20000 in
theorem gX8_startOf_X8_needVessel : GoodIn wsX8_startOf (wsV RX8 121 RX8 yX8_needVessel wsX8_needVessel) := goodIn_app (goodIn_of _ (by decide +kernel)) ggX8_startOf_X8_needVessel
theorem dX8_startOf_9 : decode cX8_startOf 9 = .ok (.aload_n 0, 1) := by decide +kernel
theorem dX8_startOf_10 : decode cX8_startOf 10 = .ok (.getfield 57, 3) := by decide +kernel
theorem dX8_startOf_13 : decode cX8_startOf 13 = .ok (.getfield 230, 3) := by decide +kernel
theorem dX8_startOf_16 : decode cX8_startOf 16 = .ok (.iload_n 1, 1) := by decide +kernel
theorem dX8_startOf_17 : decode cX8_startOf 17 = .ok (.iaload, 1) := by decide +kernel
theorem dX8_startOf_18 : decode cX8_startOf 18 = .ok (.ireturn, 1) := by decide +kernel
set_option maxHeartbeats 4000000 in
set_option maxRecDepth 100000 in
theorem t_startOf (l : Launch) (g : xG) (sz : Nat) (st : Nat) (pn : Nat) (po : Nat) (ps : Nat) (pp : Nat) (vc : Nat) (v : Nat) (s0 : Value) (s1 : Value) (s3 : Value) (s4 : Value) (s5 : Value) (s6 : Value) (s7 : Value) (s9 : Value) (s10 : Value) (s11 : Value) (s12 : Value) (s13 : Value) (s14 : Value) (qrd : Nat → Nat) (qta : Nat → Int) (qla : Nat → Int)  (hv : v < vc) (hvc : vc ≤ 6) (b_qrd : ∀ j, qrd j ≤ 5) (b_qta : ∀ j, 0 ≤ qta j ∧ qta j ≤ 1000000) (b_qla : ∀ j, (-1) ≤ qla j ∧ qla j ≤ 60) : Met l yX8_startOf wsX8_startOf ({ frames := 1, cells := 0, slots := 0, locals := 21 }) (va_Pc [.ref st, .int (nI v)] (fun U => xB g [(st, .inr (8, [s0, s1, .int (nI vc), s3, s4, s5, s6, s7, .ref pn, s9, s10, s11, s12, s13, s14])), (pn, .inr (4, [.int 1, .ref po, .ref ps, .ref pp])), (po, .inl (xI g, 6, .inl (fun j => nI (qrd j)))), (ps, .inl (xI g, 6, .inl (fun j => iI (qta j)))), (pp, .inl (xI g, 6, .inl (fun j => iI (qla j))))] sz U)) (va_Qi (fun (r : Int32) (_ : Unit) => r = iI (qta v)) (fun (_ : Unit) (_ : State) => True) (va_A [] sz)) 0 0 (va_A [] sz) := by
  refine Met.ofW (cc := cX8_startOf) (maxL := 2) (ret := (some .int)) (by decide) rfl ?_
  intro p e s m args below meth c s₁ B hml hv
  obtain ⟨rfl, hsz, hP, hK, hD0⟩ := hv
  have hx := B.exec
  have hb := B.bytes
  have hr := B.returns
  have hts := atoms_spec (ws := wsX8_startOf) B.pre
  have hown : s.vm.findClass RX8 = some m.cls := findClass_of_methodNamed B.named
  have hlocks := B.notSynchronized
  subst hsz
  have hD := hD0
  generalize hAe : va_A [] s.heap.size = A
  have hA : ∀ q : Nat, s.heap.size ≤ q → A q := fun q h => by rw [← hAe]; exact Or.inr h
  have hS : va_S A s.heap s.heap [] := va_S.rf
  have hl := lv_entry ([.ref st, .int (nI v)]) (n := 2) (Nat.le_of_ble_eq_true rfl)
  rw [lg_entry_eq]
  generalize (lg_sl ([.ref st, .int (nI v)]) ++ List.replicate (2 - (lg_sl ([.ref st, .int (nI v)])).length) Slot.unset).toArray = ls at hl ⊢
  have hl : lv_has ls 2 [(0, .ref st), (1, .int (nI v))] := hl
  have hFX4 : ∀ w ∈ u_ws RX4 TX4 4, w ∈ wsX8_startOf := by decide +kernel
  have hFX8 : ∀ w ∈ u_ws RX8 TX8 15, w ∈ wsX8_startOf := by decide +kernel
  refine lv_aload_n hx hb dX8_startOf_0 rfl (lv_at hl 0 rfl) ?_
  have hPc := hP.sub (ws' := [(st, .inr (8, [s0, s1, .int (nI vc), s3, s4, s5, s6, s7, .ref pn, s9, s10, s11, s12, s13, s14])), (pn, .inr (4, [.int 1, .ref po, .ref ps, .ref pp]))]) [0, 1] rfl
  have hDc := hD.sub (ws' := [(st, .inr (8, [s0, s1, .int (nI vc), s3, s4, s5, s6, s7, .ref pn, s9, s10, s11, s12, s13, s14])), (pn, .inr (4, [.int 1, .ref po, .ref ps, .ref pp]))]) [0, 1] (by decide) rfl
  have hFc := xFree hS hA
  refine va_callv (va_runV (As := []) (rest := []) ⟨hx, hb, hml, hown, hts⟩ (n_plan l g s.heap.size st pn s0 s1 (.int (nI vc)) s3 s4 s5 s6 s7 s9 s10 s11 s12 s13 s14 (.ref po) (.ref ps) (.ref pp)) (cwV 0 hts gX8_startOf_X8_needPlan rfl rfl rfl (by decide +kernel) ⟨Nat.le_of_ble_eq_true rfl, Nat.le_of_ble_eq_true rfl⟩) ⟨xB.blind, va_recv hK hPc (ci := 8) (q0 := 0) rfl rfl, fun U9 hU9 hW9 => ⟨rfl, xB.mk hPc hK hDc hU9 hW9⟩⟩ rfl rfl hl.1 rfl (lv_room (Nat.le_of_ble_eq_true rfl)) dX8_startOf_1 ⟨Nat.le_of_ble_eq_true rfl, Nat.le_of_ble_eq_true rfl⟩) hS (fun q _ h => hFc q h) hFc (fun _ t H1 locs ht hvm hw_2 hB hz1 hk1 hS => ?_)
  have hP := xSame hP hk1
  generalize H1 = H at hP hS ⊢
  have hP : va_P (xD g) vwCl [(st, .inr (8, [s0, s1, .int (nI vc), s3, s4, s5, s6, s7, .ref pn, s9, s10, s11, s12, s13, s14])), (pn, .inr (4, [.int 1, .ref po, .ref ps, .ref pp])), (po, .inl (xI g, 6, .inl (fun j => nI (qrd j)))), (ps, .inl (xI g, 6, .inl (fun j => iI (qta j)))), (pp, .inl (xI g, 6, .inl (fun j => iI (qla j))))] H := hP
  have hD : va_D (fun _ => True) [(st, .inr (8, [s0, s1, .int (nI vc), s3, s4, s5, s6, s7, .ref pn, s9, s10, s11, s12, s13, s14])), (pn, .inr (4, [.int 1, .ref po, .ref ps, .ref pp])), (po, .inl (xI g, 6, .inl (fun j => nI (qrd j)))), (ps, .inl (xI g, 6, .inl (fun j => iI (qta j)))), (pp, .inl (xI g, 6, .inl (fun j => iI (qla j))))] := hD
  try dsimp only at hw_2
  refine lv_aload_n hx hb dX8_startOf_4 rfl (lv_at hl 0 rfl) ?_
  refine lv_iload_n hx hb dX8_startOf_5 rfl (lv_at hl 1 rfl) ?_
  have hPc := hP.sub (ws' := [(st, .inr (8, [s0, s1, .int (nI vc), s3, s4, s5, s6, s7, .ref pn, s9, s10, s11, s12, s13, s14]))]) [0] rfl
  have hDc := hD.sub (ws' := [(st, .inr (8, [s0, s1, .int (nI vc), s3, s4, s5, s6, s7, .ref pn, s9, s10, s11, s12, s13, s14]))]) [0] (by decide) rfl
  have hFc := xFree hS hA
  refine va_callv (va_runV (As := [.int (nI v)]) (rest := []) ⟨hx, hb, hml, hown, hts⟩ (n_vessel l g H.size st vc v s0 s1 s3 s4 s5 s6 s7 (.ref pn) s9 s10 s11 s12 s13 s14 (by first | assumption | omega) (by first | assumption | omega)) (cwV 1 hts gX8_startOf_X8_needVessel rfl rfl rfl (by decide +kernel) ⟨Nat.le_of_ble_eq_true rfl, Nat.le_of_ble_eq_true rfl⟩) ⟨xB.blind, va_recv hK hPc (ci := 8) (q0 := 0) rfl rfl, fun U9 hU9 hW9 => ⟨rfl, xB.mk hPc hK hDc hU9 hW9⟩⟩ rfl rfl hl.1 rfl (lv_room (Nat.le_of_ble_eq_true rfl)) dX8_startOf_6 ⟨Nat.le_of_ble_eq_true rfl, Nat.le_of_ble_eq_true rfl⟩) hS (fun q _ h => hFc q h) hFc (fun _ t H1 locs ht hvm hw_4 hB hz1 hk1 hS => ?_)
  have hP := xSame hP hk1
  generalize H1 = H at hP hS ⊢
  have hP : va_P (xD g) vwCl [(st, .inr (8, [s0, s1, .int (nI vc), s3, s4, s5, s6, s7, .ref pn, s9, s10, s11, s12, s13, s14])), (pn, .inr (4, [.int 1, .ref po, .ref ps, .ref pp])), (po, .inl (xI g, 6, .inl (fun j => nI (qrd j)))), (ps, .inl (xI g, 6, .inl (fun j => iI (qta j)))), (pp, .inl (xI g, 6, .inl (fun j => iI (qla j))))] H := hP
  have hD : va_D (fun _ => True) [(st, .inr (8, [s0, s1, .int (nI vc), s3, s4, s5, s6, s7, .ref pn, s9, s10, s11, s12, s13, s14])), (pn, .inr (4, [.int 1, .ref po, .ref ps, .ref pp])), (po, .inl (xI g, 6, .inl (fun j => nI (qrd j)))), (ps, .inl (xI g, 6, .inl (fun j => iI (qta j)))), (pp, .inl (xI g, 6, .inl (fun j => iI (qla j))))] := hD
  try dsimp only at hw_4
  refine lv_aload_n hx hb dX8_startOf_9 rfl (lv_at hl 0 rfl) ?_
  refine va_get (D := xD g) (ci := 8) (v := .ref pn) (C := RX8) (T := TX8) (N := 15) hx hb hts hFX8 hown hK hP 0 rfl rfl 8 (by decide) (hts (.fieldLink RX8 57 "Stevedore" "plan" "LStevedore$Plan;") (by decide +kernel)) (fun _ h9 => h9) rfl dX8_startOf_10 ?_
  refine va_get (D := xD g) (ci := 4) (v := .ref ps) (C := RX4) (T := TX4) (N := 4) hx hb hts hFX4 hown hK hP 1 rfl rfl 2 (by decide) (hts (.fieldLink RX8 230 "Stevedore$Plan" "start" "[I") (by decide +kernel)) (fun _ h9 => h9) rfl dX8_startOf_13 ?_
  refine lv_iload_n hx hb dX8_startOf_16 rfl (lv_at hl 1 rfl) ?_
  refine va_iald hx hb hK hP 3 0 rfl rfl (vp_in_nI (by omega) (by omega)) dX8_startOf_17 ?_
  refine lv_topi (fun v_5 ev => ?_)
  obtain rfl : v_5 = iI (qta v) := ev.trans (congrArg (fun q9 => iI (qta q9)) (nI_clamp (by omega)))
  have b_6 := b_qta v
  exact W.iret (v := iI (qta v)) hx hb hr (fun t ht hW => ⟨⟨iI (qta v), (), rfl, (by first | trivial | rfl | assumption | omega), trivial⟩, hS.F ht⟩) hS.2.2 dX8_startOf_18
theorem dX8_placeOf_0 : decode cX8_placeOf 0 = .ok (.aload_n 0, 1) := by decide +kernel
theorem dX8_placeOf_1 : decode cX8_placeOf 1 = .ok (.invokevirtual 222, 3) := by decide +kernel
set_option maxRecDepth 20000 in
theorem ggX8_placeOf_X8_needPlan : GoodIn wsX8_placeOf wsX8_needPlan := goodIn_ca (goodIn_r _ [7, 8, 9, 1, 10, 18, 19, 20, 21, 22, 23, 24, 25, 26, 27, 28, 29, 30, 31, 32, 33, 34, 35, 36] rfl (by decide +kernel)) (goodIn_sub (fun _ h => List.mem_cons_of_mem _ (List.mem_append_left _ (List.mem_append_right _ h))) (by decide +kernel))
set_option maxRecDepth 20000 in
theorem gX8_placeOf_X8_needPlan : GoodIn wsX8_placeOf (wsV RX8 222 RX8 yX8_needPlan wsX8_needPlan) := goodIn_app (goodIn_of _ (by decide +kernel)) ggX8_placeOf_X8_needPlan
theorem dX8_placeOf_4 : decode cX8_placeOf 4 = .ok (.aload_n 0, 1) := by decide +kernel
theorem dX8_placeOf_5 : decode cX8_placeOf 5 = .ok (.iload_n 1, 1) := by decide +kernel
theorem dX8_placeOf_6 : decode cX8_placeOf 6 = .ok (.invokevirtual 121, 3) := by decide +kernel
set_option maxRecDepth 20000 in
theorem ggX8_placeOf_X8_needVessel : GoodIn wsX8_placeOf wsX8_needVessel := goodIn_ca (goodIn_r _ [14, 15, 16, 17, 18, 19, 20, 21, 22, 23, 24, 25, 26, 27, 28, 29, 30, 31, 32] rfl (by decide +kernel)) (goodIn_sub (fun _ h => List.mem_cons_of_mem _ (List.mem_append_right _ h)) (by decide +kernel))
set_option maxRecDepth 20000 in
theorem gX8_placeOf_X8_needVessel : GoodIn wsX8_placeOf (wsV RX8 121 RX8 yX8_needVessel wsX8_needVessel) := goodIn_app (goodIn_of _ (by decide +kernel)) ggX8_placeOf_X8_needVessel
theorem dX8_placeOf_9 : decode cX8_placeOf 9 = .ok (.aload_n 0, 1) := by decide +kernel
theorem dX8_placeOf_10 : decode cX8_placeOf 10 = .ok (.getfield 57, 3) := by decide +kernel
theorem dX8_placeOf_13 : decode cX8_placeOf 13 = .ok (.getfield 233, 3) := by decide +kernel
theorem dX8_placeOf_16 : decode cX8_placeOf 16 = .ok (.iload_n 1, 1) := by decide +kernel
theorem dX8_placeOf_17 : decode cX8_placeOf 17 = .ok (.iaload, 1) := by decide +kernel
theorem dX8_placeOf_18 : decode cX8_placeOf 18 = .ok (.ireturn, 1) := by decide +kernel
set_option maxHeartbeats 4000000 in
set_option maxRecDepth 100000 in
theorem t_placeOf (l : Launch) (g : xG) (sz : Nat) (st : Nat) (pn : Nat) (po : Nat) (ps : Nat) (pp : Nat) (vc : Nat) (v : Nat) (s0 : Value) (s1 : Value) (s3 : Value) (s4 : Value) (s5 : Value) (s6 : Value) (s7 : Value) (s9 : Value) (s10 : Value) (s11 : Value) (s12 : Value) (s13 : Value) (s14 : Value) (qrd : Nat → Nat) (qta : Nat → Int) (qla : Nat → Int)  (hv : v < vc) (hvc : vc ≤ 6) (b_qrd : ∀ j, qrd j ≤ 5) (b_qta : ∀ j, 0 ≤ qta j ∧ qta j ≤ 1000000) (b_qla : ∀ j, (-1) ≤ qla j ∧ qla j ≤ 60) : Met l yX8_placeOf wsX8_placeOf ({ frames := 1, cells := 0, slots := 0, locals := 21 }) (va_Pc [.ref st, .int (nI v)] (fun U => xB g [(st, .inr (8, [s0, s1, .int (nI vc), s3, s4, s5, s6, s7, .ref pn, s9, s10, s11, s12, s13, s14])), (pn, .inr (4, [.int 1, .ref po, .ref ps, .ref pp])), (po, .inl (xI g, 6, .inl (fun j => nI (qrd j)))), (ps, .inl (xI g, 6, .inl (fun j => iI (qta j)))), (pp, .inl (xI g, 6, .inl (fun j => iI (qla j))))] sz U)) (va_Qi (fun (r : Int32) (_ : Unit) => r = iI (qla v)) (fun (_ : Unit) (_ : State) => True) (va_A [] sz)) 0 0 (va_A [] sz) := by
  refine Met.ofW (cc := cX8_placeOf) (maxL := 2) (ret := (some .int)) (by decide) rfl ?_
  intro p e s m args below meth c s₁ B hml hv
  obtain ⟨rfl, hsz, hP, hK, hD0⟩ := hv
  have hx := B.exec
  have hb := B.bytes
  have hr := B.returns
  have hts := atoms_spec (ws := wsX8_placeOf) B.pre
  have hown : s.vm.findClass RX8 = some m.cls := findClass_of_methodNamed B.named
  have hlocks := B.notSynchronized
  subst hsz
  have hD := hD0
  generalize hAe : va_A [] s.heap.size = A
  have hA : ∀ q : Nat, s.heap.size ≤ q → A q := fun q h => by rw [← hAe]; exact Or.inr h
  have hS : va_S A s.heap s.heap [] := va_S.rf
  have hl := lv_entry ([.ref st, .int (nI v)]) (n := 2) (Nat.le_of_ble_eq_true rfl)
  rw [lg_entry_eq]
  generalize (lg_sl ([.ref st, .int (nI v)]) ++ List.replicate (2 - (lg_sl ([.ref st, .int (nI v)])).length) Slot.unset).toArray = ls at hl ⊢
  have hl : lv_has ls 2 [(0, .ref st), (1, .int (nI v))] := hl
  have hFX4 : ∀ w ∈ u_ws RX4 TX4 4, w ∈ wsX8_placeOf := by decide +kernel
  have hFX8 : ∀ w ∈ u_ws RX8 TX8 15, w ∈ wsX8_placeOf := by decide +kernel
  refine lv_aload_n hx hb dX8_placeOf_0 rfl (lv_at hl 0 rfl) ?_
  have hPc := hP.sub (ws' := [(st, .inr (8, [s0, s1, .int (nI vc), s3, s4, s5, s6, s7, .ref pn, s9, s10, s11, s12, s13, s14])), (pn, .inr (4, [.int 1, .ref po, .ref ps, .ref pp]))]) [0, 1] rfl
  have hDc := hD.sub (ws' := [(st, .inr (8, [s0, s1, .int (nI vc), s3, s4, s5, s6, s7, .ref pn, s9, s10, s11, s12, s13, s14])), (pn, .inr (4, [.int 1, .ref po, .ref ps, .ref pp]))]) [0, 1] (by decide) rfl
  have hFc := xFree hS hA
  refine va_callv (va_runV (As := []) (rest := []) ⟨hx, hb, hml, hown, hts⟩ (n_plan l g s.heap.size st pn s0 s1 (.int (nI vc)) s3 s4 s5 s6 s7 s9 s10 s11 s12 s13 s14 (.ref po) (.ref ps) (.ref pp)) (cwV 0 hts gX8_placeOf_X8_needPlan rfl rfl rfl (by decide +kernel) ⟨Nat.le_of_ble_eq_true rfl, Nat.le_of_ble_eq_true rfl⟩) ⟨xB.blind, va_recv hK hPc (ci := 8) (q0 := 0) rfl rfl, fun U9 hU9 hW9 => ⟨rfl, xB.mk hPc hK hDc hU9 hW9⟩⟩ rfl rfl hl.1 rfl (lv_room (Nat.le_of_ble_eq_true rfl)) dX8_placeOf_1 ⟨Nat.le_of_ble_eq_true rfl, Nat.le_of_ble_eq_true rfl⟩) hS (fun q _ h => hFc q h) hFc (fun _ t H1 locs ht hvm hw_2 hB hz1 hk1 hS => ?_)
  have hP := xSame hP hk1
  generalize H1 = H at hP hS ⊢
  have hP : va_P (xD g) vwCl [(st, .inr (8, [s0, s1, .int (nI vc), s3, s4, s5, s6, s7, .ref pn, s9, s10, s11, s12, s13, s14])), (pn, .inr (4, [.int 1, .ref po, .ref ps, .ref pp])), (po, .inl (xI g, 6, .inl (fun j => nI (qrd j)))), (ps, .inl (xI g, 6, .inl (fun j => iI (qta j)))), (pp, .inl (xI g, 6, .inl (fun j => iI (qla j))))] H := hP
  have hD : va_D (fun _ => True) [(st, .inr (8, [s0, s1, .int (nI vc), s3, s4, s5, s6, s7, .ref pn, s9, s10, s11, s12, s13, s14])), (pn, .inr (4, [.int 1, .ref po, .ref ps, .ref pp])), (po, .inl (xI g, 6, .inl (fun j => nI (qrd j)))), (ps, .inl (xI g, 6, .inl (fun j => iI (qta j)))), (pp, .inl (xI g, 6, .inl (fun j => iI (qla j))))] := hD
  try dsimp only at hw_2
  refine lv_aload_n hx hb dX8_placeOf_4 rfl (lv_at hl 0 rfl) ?_
  refine lv_iload_n hx hb dX8_placeOf_5 rfl (lv_at hl 1 rfl) ?_
  have hPc := hP.sub (ws' := [(st, .inr (8, [s0, s1, .int (nI vc), s3, s4, s5, s6, s7, .ref pn, s9, s10, s11, s12, s13, s14]))]) [0] rfl
  have hDc := hD.sub (ws' := [(st, .inr (8, [s0, s1, .int (nI vc), s3, s4, s5, s6, s7, .ref pn, s9, s10, s11, s12, s13, s14]))]) [0] (by decide) rfl
  have hFc := xFree hS hA
  refine va_callv (va_runV (As := [.int (nI v)]) (rest := []) ⟨hx, hb, hml, hown, hts⟩ (n_vessel l g H.size st vc v s0 s1 s3 s4 s5 s6 s7 (.ref pn) s9 s10 s11 s12 s13 s14 (by first | assumption | omega) (by first | assumption | omega)) (cwV 1 hts gX8_placeOf_X8_needVessel rfl rfl rfl (by decide +kernel) ⟨Nat.le_of_ble_eq_true rfl, Nat.le_of_ble_eq_true rfl⟩) ⟨xB.blind, va_recv hK hPc (ci := 8) (q0 := 0) rfl rfl, fun U9 hU9 hW9 => ⟨rfl, xB.mk hPc hK hDc hU9 hW9⟩⟩ rfl rfl hl.1 rfl (lv_room (Nat.le_of_ble_eq_true rfl)) dX8_placeOf_6 ⟨Nat.le_of_ble_eq_true rfl, Nat.le_of_ble_eq_true rfl⟩) hS (fun q _ h => hFc q h) hFc (fun _ t H1 locs ht hvm hw_4 hB hz1 hk1 hS => ?_)
  have hP := xSame hP hk1
  generalize H1 = H at hP hS ⊢
  have hP : va_P (xD g) vwCl [(st, .inr (8, [s0, s1, .int (nI vc), s3, s4, s5, s6, s7, .ref pn, s9, s10, s11, s12, s13, s14])), (pn, .inr (4, [.int 1, .ref po, .ref ps, .ref pp])), (po, .inl (xI g, 6, .inl (fun j => nI (qrd j)))), (ps, .inl (xI g, 6, .inl (fun j => iI (qta j)))), (pp, .inl (xI g, 6, .inl (fun j => iI (qla j))))] H := hP
  have hD : va_D (fun _ => True) [(st, .inr (8, [s0, s1, .int (nI vc), s3, s4, s5, s6, s7, .ref pn, s9, s10, s11, s12, s13, s14])), (pn, .inr (4, [.int 1, .ref po, .ref ps, .ref pp])), (po, .inl (xI g, 6, .inl (fun j => nI (qrd j)))), (ps, .inl (xI g, 6, .inl (fun j => iI (qta j)))), (pp, .inl (xI g, 6, .inl (fun j => iI (qla j))))] := hD
  try dsimp only at hw_4
  refine lv_aload_n hx hb dX8_placeOf_9 rfl (lv_at hl 0 rfl) ?_
  refine va_get (D := xD g) (ci := 8) (v := .ref pn) (C := RX8) (T := TX8) (N := 15) hx hb hts hFX8 hown hK hP 0 rfl rfl 8 (by decide) (hts (.fieldLink RX8 57 "Stevedore" "plan" "LStevedore$Plan;") (by decide +kernel)) (fun _ h9 => h9) rfl dX8_placeOf_10 ?_
  refine va_get (D := xD g) (ci := 4) (v := .ref pp) (C := RX4) (T := TX4) (N := 4) hx hb hts hFX4 hown hK hP 1 rfl rfl 3 (by decide) (hts (.fieldLink RX8 233 "Stevedore$Plan" "place" "[I") (by decide +kernel)) (fun _ h9 => h9) rfl dX8_placeOf_13 ?_
  refine lv_iload_n hx hb dX8_placeOf_16 rfl (lv_at hl 1 rfl) ?_
  refine va_iald hx hb hK hP 4 0 rfl rfl (vp_in_nI (by omega) (by omega)) dX8_placeOf_17 ?_
  refine lv_topi (fun v_5 ev => ?_)
  obtain rfl : v_5 = iI (qla v) := ev.trans (congrArg (fun q9 => iI (qla q9)) (nI_clamp (by omega)))
  have b_6 := b_qla v
  exact W.iret (v := iI (qla v)) hx hb hr (fun t ht hW => ⟨⟨iI (qla v), (), rfl, (by first | trivial | rfl | assumption | omega), trivial⟩, hS.F ht⟩) hS.2.2 dX8_placeOf_18
theorem dX8_lies_0 : decode cX8_lies 0 = .ok (.aload_n 0, 1) := by decide +kernel
theorem dX8_lies_1 : decode cX8_lies 1 = .ok (.getfield 57, 3) := by decide +kernel
theorem dX8_lies_4 : decode cX8_lies 4 = .ok (.getfield 230, 3) := by decide +kernel
theorem dX8_lies_7 : decode cX8_lies 7 = .ok (.iload_n 1, 1) := by decide +kernel
theorem dX8_lies_8 : decode cX8_lies 8 = .ok (.iaload, 1) := by decide +kernel
theorem dX8_lies_9 : decode cX8_lies 9 = .ok (.istore_n 3, 1) := by decide +kernel
theorem dX8_lies_10 : decode cX8_lies 10 = .ok (.iload_n 2, 1) := by decide +kernel
theorem dX8_lies_11 : decode cX8_lies 11 = .ok (.iload_n 3, 1) := by decide +kernel
theorem dX8_lies_12 : decode cX8_lies 12 = .ok (.if_icmp .lt 22, 3) := by decide +kernel
theorem dX8_lies_34 : decode cX8_lies 34 = .ok (.iconst 0, 1) := by decide +kernel
theorem dX8_lies_35 : decode cX8_lies 35 = .ok (.ireturn, 1) := by decide +kernel
theorem dX8_lies_15 : decode cX8_lies 15 = .ok (.iload_n 2, 1) := by decide +kernel
theorem dX8_lies_16 : decode cX8_lies 16 = .ok (.iload_n 3, 1) := by decide +kernel
theorem dX8_lies_17 : decode cX8_lies 17 = .ok (.aload_n 0, 1) := by decide +kernel
theorem dX8_lies_18 : decode cX8_lies 18 = .ok (.getfield 18, 3) := by decide +kernel
theorem dX8_lies_21 : decode cX8_lies 21 = .ok (.iload_n 1, 1) := by decide +kernel
theorem dX8_lies_22 : decode cX8_lies 22 = .ok (.aaload, 1) := by decide +kernel
theorem dX8_lies_23 : decode cX8_lies 23 = .ok (.getfield 194, 3) := by decide +kernel
theorem dX8_lies_26 : decode cX8_lies 26 = .ok (.iadd, 1) := by decide +kernel
theorem dX8_lies_27 : decode cX8_lies 27 = .ok (.if_icmp .ge 7, 3) := by decide +kernel
theorem dX8_lies_30 : decode cX8_lies 30 = .ok (.iconst 1, 1) := by decide +kernel
theorem dX8_lies_31 : decode cX8_lies 31 = .ok (.goto 4, 3) := by decide +kernel
set_option maxHeartbeats 4000000 in
set_option maxRecDepth 100000 in
theorem t_lies (l : Launch) (g : xG) (sz : Nat) (st : Nat) (fl : Nat) (pn : Nat) (ps : Nat) (v : Nat) (tm : Int) (vr : Nat → Nat) (wb : Nat → Nat) (fr : Nat → Nat) (bg : Nat → Nat) (s0 : Value) (s1 : Value) (s2 : Value) (s4 : Value) (s5 : Value) (s6 : Value) (s7 : Value) (s9 : Value) (s10 : Value) (s11 : Value) (s12 : Value) (s13 : Value) (s14 : Value) (q0 : Value) (q1 : Value) (q3 : Value) (Var : Nat → Int) (Vba : Nat → Nat) (Vrk : Nat → Int) (Vwa : Nat → Nat) (Vrc : Nat → Nat) (Vgl : Nat → Int) (Vhd : Nat → Int) (Vwt : Nat → Int) (qta : Nat → Int)  (hv : v < 6) (htm : -1000000 ≤ tm ∧ tm ≤ 2000000) (hV : ∀ j, (0 ≤ Var j ∧ Var j ≤ 400) ∧ Vba j ≤ 10 ∧ (0 ≤ Vrk j ∧ Vrk j ≤ 9) ∧ Vwa j ≤ 4 ∧ Vrc j ≤ 4 ∧ (0 ≤ Vhd j ∧ Vhd j ≤ 10100) ∧ (0 ≤ Vwt j ∧ Vwt j ≤ 40000)) (b_qta : ∀ j, 0 ≤ qta j ∧ qta j ≤ 1000000) : Met l yX8_lies wsX8_lies ({ frames := 0, cells := 0, slots := 0, locals := 0 }) (va_Pc [.ref st, .int (nI v), .int (iI tm)] (fun U => xB g ([(st, .inr (8, [s0, s1, s2, .ref fl, s4, s5, s6, s7, .ref pn, s9, s10, s11, s12, s13, s14])), (pn, .inr (4, [q0, q1, .ref ps, q3])), (ps, .inl (xI g, 6, .inl (fun j => iI (qta j)))), (fl, .inl (xV g, 6, .inr (.inr (.inr (.inr (fun i => if i < 6 then some (vr i) else none))))))] ++ (xR 6 (fun i => (vr i, .inr (6, [.int (iI (Var i)), .int (nI (Vba i)), .int (iI (Vrk i)), .int (nI (Vwa i)), .int (nI (Vrc i)), .int (iI (Vgl i)), .int (iI (Vhd i)), .int (iI (Vwt i)), .ref (wb i), .ref (fr i), .ref (bg i)]))) ++ [])) sz U)) (va_Qi (fun (r : Int32) (_ : Unit) => (r = 1 ∧ (qta v ≤ tm ∧ tm < qta v + Vhd v)) ∨ (r = 0 ∧ ¬ (qta v ≤ tm ∧ tm < qta v + Vhd v))) (fun (_ : Unit) (_ : State) => True) (va_A [] sz)) 0 0 (va_A [] sz) := by
  refine Met.ofW (cc := cX8_lies) (maxL := 4) (ret := (some .boolean)) (by decide) rfl ?_
  intro p e s m args below meth c s₁ B hml hv
  obtain ⟨rfl, hsz, hP, hK, hD0⟩ := hv
  have hx := B.exec
  have hb := B.bytes
  have hr := B.returns
  have hts := atoms_spec (ws := wsX8_lies) B.pre
  have hown : s.vm.findClass RX8 = some m.cls := findClass_of_methodNamed B.named
  have hlocks := B.notSynchronized
  subst hsz
  have hD := hD0
  generalize hAe : va_A [] s.heap.size = A
  have hA : ∀ q : Nat, s.heap.size ≤ q → A q := fun q h => by rw [← hAe]; exact Or.inr h
  have hS : va_S A s.heap s.heap [] := va_S.rf
  have hl := lv_entry ([.ref st, .int (nI v), .int (iI tm)]) (n := 4) (Nat.le_of_ble_eq_true rfl)
  rw [lg_entry_eq]
  generalize (lg_sl ([.ref st, .int (nI v), .int (iI tm)]) ++ List.replicate (4 - (lg_sl ([.ref st, .int (nI v), .int (iI tm)])).length) Slot.unset).toArray = ls at hl ⊢
  have hl : lv_has ls 4 [(0, .ref st), (1, .int (nI v)), (2, .int (iI tm))] := hl
  have hFX4 : ∀ w ∈ u_ws RX4 TX4 4, w ∈ wsX8_lies := by decide +kernel
  have hFX6 : ∀ w ∈ u_ws RX6 TX6 11, w ∈ wsX8_lies := by decide +kernel
  have hFX8 : ∀ w ∈ u_ws RX8 TX8 15, w ∈ wsX8_lies := by decide +kernel
  refine lv_aload_n hx hb dX8_lies_0 rfl (lv_at hl 0 rfl) ?_
  refine va_get (D := xD g) (ci := 8) (v := .ref pn) (C := RX8) (T := TX8) (N := 15) hx hb hts hFX8 hown hK hP 0 rfl rfl 8 (by decide) (hts (.fieldLink RX8 57 "Stevedore" "plan" "LStevedore$Plan;") (by decide +kernel)) (fun _ h9 => h9) rfl dX8_lies_1 ?_
  refine va_get (D := xD g) (ci := 4) (v := .ref ps) (C := RX4) (T := TX4) (N := 4) hx hb hts hFX4 hown hK hP 1 rfl rfl 2 (by decide) (hts (.fieldLink RX8 230 "Stevedore$Plan" "start" "[I") (by decide +kernel)) (fun _ h9 => h9) rfl dX8_lies_4 ?_
  refine lv_iload_n hx hb dX8_lies_7 rfl (lv_at hl 1 rfl) ?_
  refine va_iald hx hb hK hP 2 0 rfl rfl (vp_in_nI (by omega) (by omega)) dX8_lies_8 ?_
  refine lv_topi (fun v_1 ev => ?_)
  obtain rfl : v_1 = iI (qta v) := ev.trans (congrArg (fun q9 => iI (qta q9)) (nI_clamp (by omega)))
  have b_2 := b_qta v
  refine lv_istore_n (lv' := [(3, .int (iI (qta v))), (0, .ref st), (1, .int (nI v)), (2, .int (iI tm))]) hx hb dX8_lies_9 rfl hl (by decide) rfl (fun ls hl => ?_)
  have hVv := hV v
  refine lv_iload_n hx hb dX8_lies_10 rfl (lv_at hl 3 rfl) ?_
  refine lv_iload_n hx hb dX8_lies_11 rfl (lv_at hl 0 rfl) ?_
  refine lv_icmp_lt (tgt := 34) hx hb dX8_lies_12 (by decide) (fun c_3 => ?_) (fun c_3 => ?_)
  · have nc_3 := (iLt (a := tm) (b := qta v) rfl rfl (by omega)).mp c_3
    refine lv_iconst (v := 0) hx hb dX8_lies_34 (by decide) ?_
    exact W.zret (v := 0) hx hb hr (by rfl) (fun t ht hW => ⟨⟨0, (), rfl, (by first | (refine Or.inl ⟨rfl, ?_⟩; omega) | (refine Or.inr ⟨rfl, ?_⟩; omega)), trivial⟩, hS.F ht⟩) hS.2.2 dX8_lies_35
  · have nc_3 := mt (iLt (a := tm) (b := qta v) rfl rfl (by omega)).mpr c_3
    refine lv_iload_n hx hb dX8_lies_15 rfl (lv_at hl 3 rfl) ?_
    refine lv_iload_n hx hb dX8_lies_16 rfl (lv_at hl 0 rfl) ?_
    refine lv_aload_n hx hb dX8_lies_17 rfl (lv_at hl 1 rfl) ?_
    refine va_get (D := xD g) (ci := 8) (v := .ref fl) (C := RX8) (T := TX8) (N := 15) hx hb hts hFX8 hown hK hP 0 rfl rfl 3 (by decide) (hts (.fieldLink RX8 18 "Stevedore" "fleet" "[LStevedore$Vessel;") (by decide +kernel)) (fun _ h9 => h9) rfl dX8_lies_18 ?_
    refine lv_iload_n hx hb dX8_lies_21 rfl (lv_at hl 2 rfl) ?_
    refine va_aldq hx hb hK hP 3 2 rfl rfl (vp_in_nI (by omega) (by omega)) dX8_lies_22 ?_
    refine W.eq (g2 := F0 m 23 ls (.ref (vr v) :: .int (iI (qta v)) :: .int (iI tm) :: [])) (congrArg (fun q9 => F0 m 23 ls (q9 :: .int (iI (qta v)) :: .int (iI tm) :: [])) (xRow (n := 6) (k := v) (nI_clamp (by omega)) (by omega))) ?_
    refine va_get (D := xD g) (ci := 6) (v := .int (iI (Vhd v))) (C := RX6) (T := TX6) (N := 11) hx hb hts hFX6 hown hK hP _ (xR_ap (X := [(st, .inr (8, [s0, s1, s2, .ref fl, s4, s5, s6, s7, .ref pn, s9, s10, s11, s12, s13, s14])), (pn, .inr (4, [q0, q1, .ref ps, q3])), (ps, .inl (xI g, 6, .inl (fun j => iI (qta j)))), (fl, .inl (xV g, 6, .inr (.inr (.inr (.inr (fun i => if i < 6 then some (vr i) else none))))))]) (xR_get0 (i := v) (by omega))) rfl 6 (by decide) (hts (.fieldLink RX8 194 "Stevedore$Vessel" "handlingTicks" "I") (by decide +kernel)) (fun _ h9 => h9) rfl dX8_lies_23 ?_
    refine lv_iadd hx hb dX8_lies_26 ?_
    refine lv_topi (fun v_4 ev => ?_)
    obtain rfl : v_4 = iI (qta v + (Vhd v)) := ev.trans (iA rfl rfl)
    refine lv_icmp_ge (tgt := 34) hx hb dX8_lies_27 (by decide) (fun c_5 => ?_) (fun c_5 => ?_)
    · have nc_5 := (iLe (a := qta v + (Vhd v)) (b := tm) rfl rfl (by omega)).mp c_5
      refine lv_iconst (v := 0) hx hb dX8_lies_34 (by decide) ?_
      exact W.zret (v := 0) hx hb hr (by rfl) (fun t ht hW => ⟨⟨0, (), rfl, (by first | (refine Or.inl ⟨rfl, ?_⟩; omega) | (refine Or.inr ⟨rfl, ?_⟩; omega)), trivial⟩, hS.F ht⟩) hS.2.2 dX8_lies_35
    · have nc_5 := mt (iLe (a := qta v + (Vhd v)) (b := tm) rfl rfl (by omega)).mpr c_5
      refine lv_iconst (v := 1) hx hb dX8_lies_30 (by decide) ?_
      refine lv_goto (tgt := 35) hx hb dX8_lies_31 (by decide) ?_
      exact W.zret (v := 1) hx hb hr (by rfl) (fun t ht hW => ⟨⟨1, (), rfl, (by first | (refine Or.inl ⟨rfl, ?_⟩; omega) | (refine Or.inr ⟨rfl, ?_⟩; omega)), trivial⟩, hS.F ht⟩) hS.2.2 dX8_lies_35
theorem dX8_vesselAt_0 : decode cX8_vesselAt 0 = .ok (.aload_n 0, 1) := by decide +kernel
theorem dX8_vesselAt_1 : decode cX8_vesselAt 1 = .ok (.invokevirtual 222, 3) := by decide +kernel
set_option maxRecDepth 20000 in
theorem ggX8_vesselAt_X8_needPlan : GoodIn wsX8_vesselAt wsX8_needPlan := goodIn_ca (goodIn_r _ [13, 14, 15, 5, 16, 23, 24, 25, 26, 27, 28, 29, 30, 31, 32, 33, 34, 35, 36, 37, 38, 39, 40, 41] rfl (by decide +kernel)) (goodIn_sub (fun _ h => List.mem_cons_of_mem _ (List.mem_append_right _ h)) (by decide +kernel))
set_option maxRecDepth 20000 in
theorem gX8_vesselAt_X8_needPlan : GoodIn wsX8_vesselAt (wsV RX8 222 RX8 yX8_needPlan wsX8_needPlan) := goodIn_app (goodIn_of _ (by decide +kernel)) ggX8_vesselAt_X8_needPlan
theorem dX8_vesselAt_4 : decode cX8_vesselAt 4 = .ok (.iload_n 1, 1) := by decide +kernel
theorem dX8_vesselAt_5 : decode cX8_vesselAt 5 = .ok (.ifCond .lt 11, 3) := by decide +kernel
theorem dX8_vesselAt_8 : decode cX8_vesselAt 8 = .ok (.iload_n 1, 1) := by decide +kernel
theorem dX8_vesselAt_9 : decode cX8_vesselAt 9 = .ok (.aload_n 0, 1) := by decide +kernel
theorem dX8_vesselAt_10 : decode cX8_vesselAt 10 = .ok (.getfield 9, 3) := by decide +kernel
theorem dX8_vesselAt_13 : decode cX8_vesselAt 13 = .ok (.if_icmp .lt 13, 3) := by decide +kernel
theorem dX8_vesselAt_26 : decode cX8_vesselAt 26 = .ok (.iconst 0, 1) := by decide +kernel
theorem dX8_vesselAt_27 : decode cX8_vesselAt 27 = .ok (.istore_n 3, 1) := by decide +kernel
theorem dX8_vesselAt_28 : decode cX8_vesselAt 28 = .ok (.iload_n 3, 1) := by decide +kernel
theorem dX8_vesselAt_29 : decode cX8_vesselAt 29 = .ok (.aload_n 0, 1) := by decide +kernel
theorem dX8_vesselAt_30 : decode cX8_vesselAt 30 = .ok (.getfield 95, 3) := by decide +kernel
theorem dX8_vesselAt_33 : decode cX8_vesselAt 33 = .ok (.if_icmp .ge 52, 3) := by decide +kernel
theorem dX8_vesselAt_85 : decode cX8_vesselAt 85 = .ok (.iconst (-1), 1) := by decide +kernel
theorem dX8_vesselAt_86 : decode cX8_vesselAt 86 = .ok (.ireturn, 1) := by decide +kernel
theorem dX8_vesselAt_36 : decode cX8_vesselAt 36 = .ok (.iload_n 1, 1) := by decide +kernel
theorem dX8_vesselAt_37 : decode cX8_vesselAt 37 = .ok (.aload_n 0, 1) := by decide +kernel
theorem dX8_vesselAt_38 : decode cX8_vesselAt 38 = .ok (.getfield 57, 3) := by decide +kernel
theorem dX8_vesselAt_41 : decode cX8_vesselAt 41 = .ok (.getfield 233, 3) := by decide +kernel
theorem dX8_vesselAt_44 : decode cX8_vesselAt 44 = .ok (.iload_n 3, 1) := by decide +kernel
theorem dX8_vesselAt_45 : decode cX8_vesselAt 45 = .ok (.iaload, 1) := by decide +kernel
theorem dX8_vesselAt_46 : decode cX8_vesselAt 46 = .ok (.isub, 1) := by decide +kernel
theorem dX8_vesselAt_47 : decode cX8_vesselAt 47 = .ok (.istore 4, 2) := by decide +kernel
theorem dX8_vesselAt_49 : decode cX8_vesselAt 49 = .ok (.aload_n 0, 1) := by decide +kernel
theorem dX8_vesselAt_50 : decode cX8_vesselAt 50 = .ok (.iload_n 3, 1) := by decide +kernel
theorem dX8_vesselAt_51 : decode cX8_vesselAt 51 = .ok (.iload_n 2, 1) := by decide +kernel
theorem dX8_vesselAt_52 : decode cX8_vesselAt 52 = .ok (.invokevirtual 238, 3) := by decide +kernel
set_option maxRecDepth 20000 in
theorem ggX8_vesselAt_X8_lies : GoodIn wsX8_vesselAt wsX8_lies := goodIn_r _ [20, 5, 21, 7, 22, 23, 24, 25, 26, 27, 28, 29, 30, 31, 32, 33, 34, 35, 36, 37, 38, 39, 40, 41, 42, 43, 44, 45, 46, 47, 48, 49, 50, 51, 52] rfl (by decide +kernel)
set_option maxRecDepth 20000 in
theorem gX8_vesselAt_X8_lies : GoodIn wsX8_vesselAt (wsV RX8 238 RX8 yX8_lies wsX8_lies) := goodIn_app (goodIn_of _ (by decide +kernel)) ggX8_vesselAt_X8_lies
theorem dX8_vesselAt_55 : decode cX8_vesselAt 55 = .ok (.ifCond .eq 24, 3) := by decide +kernel
theorem dX8_vesselAt_58 : decode cX8_vesselAt 58 = .ok (.iload 4, 2) := by decide +kernel
theorem dX8_vesselAt_60 : decode cX8_vesselAt 60 = .ok (.ifCond .lt 19, 3) := by decide +kernel
theorem dX8_vesselAt_79 : decode cX8_vesselAt 79 = .ok (.iinc 3 1, 3) := by decide +kernel
theorem dX8_vesselAt_82 : decode cX8_vesselAt 82 = .ok (.goto (-54), 3) := by decide +kernel
theorem dX8_vesselAt_63 : decode cX8_vesselAt 63 = .ok (.iload 4, 2) := by decide +kernel
theorem dX8_vesselAt_65 : decode cX8_vesselAt 65 = .ok (.aload_n 0, 1) := by decide +kernel
theorem dX8_vesselAt_66 : decode cX8_vesselAt 66 = .ok (.getfield 18, 3) := by decide +kernel
theorem dX8_vesselAt_69 : decode cX8_vesselAt 69 = .ok (.iload_n 3, 1) := by decide +kernel
theorem dX8_vesselAt_70 : decode cX8_vesselAt 70 = .ok (.aaload, 1) := by decide +kernel
theorem dX8_vesselAt_71 : decode cX8_vesselAt 71 = .ok (.getfield 108, 3) := by decide +kernel
theorem dX8_vesselAt_74 : decode cX8_vesselAt 74 = .ok (.if_icmp .ge 5, 3) := by decide +kernel
theorem dX8_vesselAt_77 : decode cX8_vesselAt 77 = .ok (.iload_n 3, 1) := by decide +kernel
theorem dX8_vesselAt_78 : decode cX8_vesselAt 78 = .ok (.ireturn, 1) := by decide +kernel
set_option maxHeartbeats 4000000 in
set_option maxRecDepth 100000 in
theorem t_vesselAt (l : Launch) (g : xG) (sz : Nat) (st : Nat) (fl : Nat) (pn : Nat) (ps : Nat) (pp : Nat) (qy : Nat) (vc : Nat) (be : Int) (tm : Int) (vr : Nat → Nat) (wb : Nat → Nat) (fr : Nat → Nat) (bg : Nat → Nat) (s1 : Value) (s4 : Value) (s5 : Value) (s6 : Value) (s7 : Value) (s9 : Value) (s10 : Value) (s11 : Value) (s12 : Value) (s13 : Value) (s14 : Value) (q1 : Value) (Var : Nat → Int) (Vba : Nat → Nat) (Vrk : Nat → Int) (Vwa : Nat → Nat) (Vrc : Nat → Nat) (Vgl : Nat → Int) (Vhd : Nat → Int) (Vwt : Nat → Int) (qta : Nat → Int) (qla : Nat → Int)  (hvc : vc ≤ 6) (hqy : qy ≤ 60) (hbe : 0 ≤ be ∧ be < ((qy : Nat) : Int)) (htm : -1000000 ≤ tm ∧ tm ≤ 2000000) (hV : ∀ j, (0 ≤ Var j ∧ Var j ≤ 400) ∧ Vba j ≤ 10 ∧ (0 ≤ Vrk j ∧ Vrk j ≤ 9) ∧ Vwa j ≤ 4 ∧ Vrc j ≤ 4 ∧ (0 ≤ Vhd j ∧ Vhd j ≤ 10100) ∧ (0 ≤ Vwt j ∧ Vwt j ≤ 40000)) (b_qta : ∀ j, 0 ≤ qta j ∧ qta j ≤ 1000000) (b_qla : ∀ j, (-1) ≤ qla j ∧ qla j ≤ 60) : Met l yX8_vesselAt wsX8_vesselAt ({ frames := 1, cells := 0, slots := 0, locals := 23 }) (va_Pc [.ref st, .int (iI be), .int (iI tm)] (fun U => xB g ([(st, .inr (8, [.int (nI qy), s1, .int (nI vc), .ref fl, s4, s5, s6, s7, .ref pn, s9, s10, s11, s12, s13, s14])), (pn, .inr (4, [.int 1, q1, .ref ps, .ref pp])), (ps, .inl (xI g, 6, .inl (fun j => iI (qta j)))), (pp, .inl (xI g, 6, .inl (fun j => iI (qla j)))), (fl, .inl (xV g, 6, .inr (.inr (.inr (.inr (fun i => if i < 6 then some (vr i) else none))))))] ++ (xR 6 (fun i => (vr i, .inr (6, [.int (iI (Var i)), .int (nI (Vba i)), .int (iI (Vrk i)), .int (nI (Vwa i)), .int (nI (Vrc i)), .int (iI (Vgl i)), .int (iI (Vhd i)), .int (iI (Vwt i)), .ref (wb i), .ref (fr i), .ref (bg i)]))) ++ [])) sz U)) (va_Qi (fun (r : Int32) (_ : Unit) => (∃ v, v < vc ∧ r = nI v ∧ vAt qta Vhd qla Vba be tm v) ∨ (r = -1 ∧ ∀ v, v < vc → ¬ vAt qta Vhd qla Vba be tm v)) (fun (_ : Unit) (_ : State) => True) (va_A [] sz)) 0 0 (va_A [] sz) := by
  refine Met.ofW (cc := cX8_vesselAt) (maxL := 5) (ret := (some .int)) (by decide) rfl ?_
  intro p e s m args below meth c s₁ B hml hv
  obtain ⟨rfl, hsz, hP, hK, hD0⟩ := hv
  have hx := B.exec
  have hb := B.bytes
  have hr := B.returns
  have hts := atoms_spec (ws := wsX8_vesselAt) B.pre
  have hown : s.vm.findClass RX8 = some m.cls := findClass_of_methodNamed B.named
  have hlocks := B.notSynchronized
  subst hsz
  have hD := hD0
  generalize hAe : va_A [] s.heap.size = A
  have hA : ∀ q : Nat, s.heap.size ≤ q → A q := fun q h => by rw [← hAe]; exact Or.inr h
  have hS : va_S A s.heap s.heap [] := va_S.rf
  have hl := lv_entry ([.ref st, .int (iI be), .int (iI tm)]) (n := 5) (Nat.le_of_ble_eq_true rfl)
  rw [lg_entry_eq]
  generalize (lg_sl ([.ref st, .int (iI be), .int (iI tm)]) ++ List.replicate (5 - (lg_sl ([.ref st, .int (iI be), .int (iI tm)])).length) Slot.unset).toArray = ls at hl ⊢
  have hl : lv_has ls 5 [(0, .ref st), (1, .int (iI be)), (2, .int (iI tm))] := hl
  have hFX4 : ∀ w ∈ u_ws RX4 TX4 4, w ∈ wsX8_vesselAt := by decide +kernel
  have hFX6 : ∀ w ∈ u_ws RX6 TX6 11, w ∈ wsX8_vesselAt := by decide +kernel
  have hFX8 : ∀ w ∈ u_ws RX8 TX8 15, w ∈ wsX8_vesselAt := by decide +kernel
  refine lv_aload_n hx hb dX8_vesselAt_0 rfl (lv_at hl 0 rfl) ?_
  have hPc := hP.sub (ws' := [(st, .inr (8, [.int (nI qy), s1, .int (nI vc), .ref fl, s4, s5, s6, s7, .ref pn, s9, s10, s11, s12, s13, s14])), (pn, .inr (4, [.int 1, q1, .ref ps, .ref pp]))]) [0, 1] rfl
  have hDc := hD.sub (ws' := [(st, .inr (8, [.int (nI qy), s1, .int (nI vc), .ref fl, s4, s5, s6, s7, .ref pn, s9, s10, s11, s12, s13, s14])), (pn, .inr (4, [.int 1, q1, .ref ps, .ref pp]))]) [0, 1] (by decide) rfl
  have hFc := xFree hS hA
  refine va_callv (va_runV (As := []) (rest := []) ⟨hx, hb, hml, hown, hts⟩ (n_plan l g s.heap.size st pn (.int (nI qy)) s1 (.int (nI vc)) (.ref fl) s4 s5 s6 s7 s9 s10 s11 s12 s13 s14 q1 (.ref ps) (.ref pp)) (cwV 0 hts gX8_vesselAt_X8_needPlan rfl rfl rfl (by decide +kernel) ⟨Nat.le_of_ble_eq_true rfl, Nat.le_of_ble_eq_true rfl⟩) ⟨xB.blind, va_recv hK hPc (ci := 8) (q0 := 0) rfl rfl, fun U9 hU9 hW9 => ⟨rfl, xB.mk hPc hK hDc hU9 hW9⟩⟩ rfl rfl hl.1 rfl (lv_room (Nat.le_of_ble_eq_true rfl)) dX8_vesselAt_1 ⟨Nat.le_of_ble_eq_true rfl, Nat.le_of_ble_eq_true rfl⟩) hS (fun q _ h => hFc q h) hFc (fun _ t H1 locs ht hvm hw_2 hB hz1 hk1 hS => ?_)
  have hP := xSame hP hk1
  generalize H1 = H at hP hS ⊢
  have hP : va_P (xD g) vwCl ([(st, .inr (8, [.int (nI qy), s1, .int (nI vc), .ref fl, s4, s5, s6, s7, .ref pn, s9, s10, s11, s12, s13, s14])), (pn, .inr (4, [.int 1, q1, .ref ps, .ref pp])), (ps, .inl (xI g, 6, .inl (fun j => iI (qta j)))), (pp, .inl (xI g, 6, .inl (fun j => iI (qla j)))), (fl, .inl (xV g, 6, .inr (.inr (.inr (.inr (fun i => if i < 6 then some (vr i) else none))))))] ++ (xR 6 (fun i => (vr i, .inr (6, [.int (iI (Var i)), .int (nI (Vba i)), .int (iI (Vrk i)), .int (nI (Vwa i)), .int (nI (Vrc i)), .int (iI (Vgl i)), .int (iI (Vhd i)), .int (iI (Vwt i)), .ref (wb i), .ref (fr i), .ref (bg i)]))) ++ [])) H := hP
  have hD : va_D (fun _ => True) ([(st, .inr (8, [.int (nI qy), s1, .int (nI vc), .ref fl, s4, s5, s6, s7, .ref pn, s9, s10, s11, s12, s13, s14])), (pn, .inr (4, [.int 1, q1, .ref ps, .ref pp])), (ps, .inl (xI g, 6, .inl (fun j => iI (qta j)))), (pp, .inl (xI g, 6, .inl (fun j => iI (qla j)))), (fl, .inl (xV g, 6, .inr (.inr (.inr (.inr (fun i => if i < 6 then some (vr i) else none))))))] ++ (xR 6 (fun i => (vr i, .inr (6, [.int (iI (Var i)), .int (nI (Vba i)), .int (iI (Vrk i)), .int (nI (Vwa i)), .int (nI (Vrc i)), .int (iI (Vgl i)), .int (iI (Vhd i)), .int (iI (Vwt i)), .ref (wb i), .ref (fr i), .ref (bg i)]))) ++ [])) := hD
  try dsimp only at hw_2
  refine lv_iload_n hx hb dX8_vesselAt_4 rfl (lv_at hl 1 rfl) ?_
  refine lv_if_lt (tgt := 16) hx hb dX8_vesselAt_5 (by decide) (fun c_3 => ?_) (fun c_3 => ?_)
  · have nc_3 := (iLt (a := be) (b := 0) rfl (by decide) (by omega)).mp c_3
    (exfalso; omega)
  · have nc_3 := mt (iLt (a := be) (b := 0) rfl (by decide) (by omega)).mpr c_3
    refine lv_iload_n hx hb dX8_vesselAt_8 rfl (lv_at hl 1 rfl) ?_
    refine lv_aload_n hx hb dX8_vesselAt_9 rfl (lv_at hl 0 rfl) ?_
    refine va_get (D := xD g) (ci := 8) (v := .int (nI qy)) (C := RX8) (T := TX8) (N := 15) hx hb hts hFX8 hown hK hP 0 rfl rfl 0 (by decide) (hts (.fieldLink RX8 9 "Stevedore" "quay" "I") (by decide +kernel)) (fun _ h9 => h9) rfl dX8_vesselAt_10 ?_
    refine lv_icmp_lt (tgt := 26) hx hb dX8_vesselAt_13 (by decide) (fun c_4 => ?_) (fun c_4 => ?_)
    · have nc_4 := (iLt (a := be) (b := ((qy : Nat) : Int)) rfl (iI_nI _) (by omega)).mp c_4
      refine lv_iconst (v := 0) hx hb dX8_vesselAt_26 (by decide) ?_
      refine lv_istore_n (lv' := [(3, .int 0), (0, .ref st), (1, .int (iI be)), (2, .int (iI tm))]) hx hb dX8_vesselAt_27 rfl hl (by decide) rfl (fun ls hl => ?_)
      have hloop28 : ∀ (n9 : Nat) (k : Nat) (H : Heap) (locs : List Loc) (ls : Array Slot), vc - k < n9 → (k ≤ vc) → (∀ w, w < k → ¬ vAt qta Vhd qla Vba be tm w) → va_P (xD g) vwCl ([(st, .inr (8, [.int (nI qy), s1, .int (nI vc), .ref fl, s4, s5, s6, s7, .ref pn, s9, s10, s11, s12, s13, s14])), (pn, .inr (4, [.int 1, q1, .ref ps, .ref pp])), (ps, .inl (xI g, 6, .inl (fun j => iI (qta j)))), (pp, .inl (xI g, 6, .inl (fun j => iI (qla j)))), (fl, .inl (xV g, 6, .inr (.inr (.inr (.inr (fun i => if i < 6 then some (vr i) else none))))))] ++ (xR 6 (fun i => (vr i, .inr (6, [.int (iI (Var i)), .int (nI (Vba i)), .int (iI (Vrk i)), .int (nI (Vwa i)), .int (nI (Vrc i)), .int (iI (Vgl i)), .int (iI (Vhd i)), .int (iI (Vwt i)), .ref (wb i), .ref (fr i), .ref (bg i)]))) ++ [])) H → va_D (fun _ => True) ([(st, .inr (8, [.int (nI qy), s1, .int (nI vc), .ref fl, s4, s5, s6, s7, .ref pn, s9, s10, s11, s12, s13, s14])), (pn, .inr (4, [.int 1, q1, .ref ps, .ref pp])), (ps, .inl (xI g, 6, .inl (fun j => iI (qta j)))), (pp, .inl (xI g, 6, .inl (fun j => iI (qla j)))), (fl, .inl (xV g, 6, .inr (.inr (.inr (.inr (fun i => if i < 6 then some (vr i) else none))))))] ++ (xR 6 (fun i => (vr i, .inr (6, [.int (iI (Var i)), .int (nI (Vba i)), .int (iI (Vrk i)), .int (nI (Vwa i)), .int (nI (Vrc i)), .int (iI (Vgl i)), .int (iI (Vhd i)), .int (iI (Vwt i)), .ref (wb i), .ref (fr i), .ref (bg i)]))) ++ [])) → va_S A s.heap H locs → lv_has ls 5 [(3, .int (nI k)), (0, .ref st), (1, .int (iI be)), (2, .int (iI tm))] → W p l e (headSpec wsX8_vesselAt ({ frames := 1, cells := 0, slots := 0, locals := 23 })).room s m ([.ref st, .int (iI be), .int (iI tm)] : List Value).toArray below meth c H locs 0 0 (MQ below (va_Qi (fun (r : Int32) (_ : Unit) => (∃ v, v < vc ∧ r = nI v ∧ vAt qta Vhd qla Vba be tm v) ∨ (r = -1 ∧ ∀ v, v < vc → ¬ vAt qta Vhd qla Vba be tm v)) (fun (_ : Unit) (_ : State) => True) (A)) ([.ref st, .int (iI be), .int (iI tm)] : List Value).toArray s 0 0 A) (F0 m 28 ls []) := by
        intro n9
        induction n9 with
        | zero =>
          intro k H locs ls hm hk hno hP hD hS hl
          exact absurd hm (Nat.not_lt_zero _)
        | succ n9 ih28 =>
          intro k H locs ls hm hk hno hP hD hS hl
          have hVk := hV k
          have hbp := b_qla k
          have hbs := b_qta k
          refine lv_iload_n hx hb dX8_vesselAt_28 rfl (lv_at hl 0 rfl) ?_
          refine lv_aload_n hx hb dX8_vesselAt_29 rfl (lv_at hl 1 rfl) ?_
          refine va_get (D := xD g) (ci := 8) (v := .int (nI vc)) (C := RX8) (T := TX8) (N := 15) hx hb hts hFX8 hown hK hP 0 rfl rfl 2 (by decide) (hts (.fieldLink RX8 95 "Stevedore" "vesselCount" "I") (by decide +kernel)) (fun _ h9 => h9) rfl dX8_vesselAt_30 ?_
          refine lv_icmp_ge (tgt := 85) hx hb dX8_vesselAt_33 (by decide) (fun c_5 => ?_) (fun c_5 => ?_)
          · have nc_5 := (nI_leI (a := vc) (b := k) (by omega) (by omega)).mp c_5
            refine lv_iconst (v := (-1)) hx hb dX8_vesselAt_85 (by decide) ?_
            exact W.iret (v := (-1)) hx hb hr (fun t ht hW => ⟨⟨(-1), (), rfl, (Or.inr ⟨rfl, by obtain rfl : k = vc := (by omega); exact hno⟩), trivial⟩, hS.F ht⟩) hS.2.2 dX8_vesselAt_86
          · have nc_5 := mt (nI_leI (a := vc) (b := k) (by omega) (by omega)).mpr c_5
            refine lv_iload_n hx hb dX8_vesselAt_36 rfl (lv_at hl 2 rfl) ?_
            refine lv_aload_n hx hb dX8_vesselAt_37 rfl (lv_at hl 1 rfl) ?_
            refine va_get (D := xD g) (ci := 8) (v := .ref pn) (C := RX8) (T := TX8) (N := 15) hx hb hts hFX8 hown hK hP 0 rfl rfl 8 (by decide) (hts (.fieldLink RX8 57 "Stevedore" "plan" "LStevedore$Plan;") (by decide +kernel)) (fun _ h9 => h9) rfl dX8_vesselAt_38 ?_
            refine va_get (D := xD g) (ci := 4) (v := .ref pp) (C := RX4) (T := TX4) (N := 4) hx hb hts hFX4 hown hK hP 1 rfl rfl 3 (by decide) (hts (.fieldLink RX8 233 "Stevedore$Plan" "place" "[I") (by decide +kernel)) (fun _ h9 => h9) rfl dX8_vesselAt_41 ?_
            refine lv_iload_n hx hb dX8_vesselAt_44 rfl (lv_at hl 0 rfl) ?_
            refine va_iald hx hb hK hP 3 0 rfl rfl (vp_in_nI (by omega) (by omega)) dX8_vesselAt_45 ?_
            refine lv_topi (fun v_6 ev => ?_)
            obtain rfl : v_6 = iI (qla k) := ev.trans (congrArg (fun q9 => iI (qla q9)) (nI_clamp (by omega)))
            have b_7 := b_qla k
            refine lv_isub hx hb dX8_vesselAt_46 ?_
            refine lv_topi (fun v_8 ev => ?_)
            obtain rfl : v_8 = iI (be - (qla k)) := ev.trans (iS rfl rfl)
            refine lv_istore (lv' := [(4, .int (iI (be - (qla k)))), (3, .int (nI k)), (0, .ref st), (1, .int (iI be)), (2, .int (iI tm))]) hx hb dX8_vesselAt_47 hl (by decide) rfl (fun ls hl => ?_)
            refine lv_aload_n hx hb dX8_vesselAt_49 rfl (lv_at hl 2 rfl) ?_
            refine lv_iload_n hx hb dX8_vesselAt_50 rfl (lv_at hl 1 rfl) ?_
            refine lv_iload_n hx hb dX8_vesselAt_51 rfl (lv_at hl 4 rfl) ?_
            have hPc := hP.sub (ws' := ([(st, .inr (8, [.int (nI qy), s1, .int (nI vc), .ref fl, s4, s5, s6, s7, .ref pn, s9, s10, s11, s12, s13, s14])), (pn, .inr (4, [.int 1, q1, .ref ps, .ref pp])), (ps, .inl (xI g, 6, .inl (fun j => iI (qta j)))), (fl, .inl (xV g, 6, .inr (.inr (.inr (.inr (fun i => if i < 6 then some (vr i) else none))))))] ++ (xR 6 (fun i => (vr i, .inr (6, [.int (iI (Var i)), .int (nI (Vba i)), .int (iI (Vrk i)), .int (nI (Vwa i)), .int (nI (Vrc i)), .int (iI (Vgl i)), .int (iI (Vhd i)), .int (iI (Vwt i)), .ref (wb i), .ref (fr i), .ref (bg i)]))) ++ []))) [0, 1, 2, 4, 5, 6, 7, 8, 9, 10] rfl
            have hDc := hD.sub (ws' := ([(st, .inr (8, [.int (nI qy), s1, .int (nI vc), .ref fl, s4, s5, s6, s7, .ref pn, s9, s10, s11, s12, s13, s14])), (pn, .inr (4, [.int 1, q1, .ref ps, .ref pp])), (ps, .inl (xI g, 6, .inl (fun j => iI (qta j)))), (fl, .inl (xV g, 6, .inr (.inr (.inr (.inr (fun i => if i < 6 then some (vr i) else none))))))] ++ (xR 6 (fun i => (vr i, .inr (6, [.int (iI (Var i)), .int (nI (Vba i)), .int (iI (Vrk i)), .int (nI (Vwa i)), .int (nI (Vrc i)), .int (iI (Vgl i)), .int (iI (Vhd i)), .int (iI (Vwt i)), .ref (wb i), .ref (fr i), .ref (bg i)]))) ++ []))) [0, 1, 2, 4, 5, 6, 7, 8, 9, 10] (by decide) rfl
            have hFc := xFree hS hA
            refine va_calli (va_runV (As := [.int (nI k), .int (iI tm)]) (rest := []) ⟨hx, hb, hml, hown, hts⟩ (t_lies l g H.size st fl pn ps k tm vr wb fr bg (.int (nI qy)) s1 (.int (nI vc)) s4 s5 s6 s7 s9 s10 s11 s12 s13 s14 (.int 1) q1 (.ref pp) Var Vba Vrk Vwa Vrc Vgl Vhd Vwt qta (by first | assumption | omega) (by first | assumption | omega) (by first | assumption | omega) b_qta) (cwV 2 hts gX8_vesselAt_X8_lies rfl rfl rfl (by decide +kernel) ⟨Nat.le_of_ble_eq_true rfl, Nat.le_of_ble_eq_true rfl⟩) ⟨xB.blind, va_recv hK hPc (ci := 8) (q0 := 0) rfl rfl, fun U9 hU9 hW9 => ⟨rfl, xB.mk hPc hK hDc hU9 hW9⟩⟩ rfl rfl hl.1 rfl (lv_room (Nat.le_of_ble_eq_true rfl)) dX8_vesselAt_52 ⟨Nat.le_of_ble_eq_true rfl, Nat.le_of_ble_eq_true rfl⟩) hS (fun q _ h => hFc q h) hFc (fun r_9 _ t H1 locs ht hvm hw_10 hB hz1 hk1 hS => ?_)
            have hP := xSame hP hk1
            generalize H1 = H at hP hS ⊢
            have hP : va_P (xD g) vwCl ([(st, .inr (8, [.int (nI qy), s1, .int (nI vc), .ref fl, s4, s5, s6, s7, .ref pn, s9, s10, s11, s12, s13, s14])), (pn, .inr (4, [.int 1, q1, .ref ps, .ref pp])), (ps, .inl (xI g, 6, .inl (fun j => iI (qta j)))), (pp, .inl (xI g, 6, .inl (fun j => iI (qla j)))), (fl, .inl (xV g, 6, .inr (.inr (.inr (.inr (fun i => if i < 6 then some (vr i) else none))))))] ++ (xR 6 (fun i => (vr i, .inr (6, [.int (iI (Var i)), .int (nI (Vba i)), .int (iI (Vrk i)), .int (nI (Vwa i)), .int (nI (Vrc i)), .int (iI (Vgl i)), .int (iI (Vhd i)), .int (iI (Vwt i)), .ref (wb i), .ref (fr i), .ref (bg i)]))) ++ [])) H := hP
            have hD : va_D (fun _ => True) ([(st, .inr (8, [.int (nI qy), s1, .int (nI vc), .ref fl, s4, s5, s6, s7, .ref pn, s9, s10, s11, s12, s13, s14])), (pn, .inr (4, [.int 1, q1, .ref ps, .ref pp])), (ps, .inl (xI g, 6, .inl (fun j => iI (qta j)))), (pp, .inl (xI g, 6, .inl (fun j => iI (qla j)))), (fl, .inl (xV g, 6, .inr (.inr (.inr (.inr (fun i => if i < 6 then some (vr i) else none))))))] ++ (xR 6 (fun i => (vr i, .inr (6, [.int (iI (Var i)), .int (nI (Vba i)), .int (iI (Vrk i)), .int (nI (Vwa i)), .int (nI (Vrc i)), .int (iI (Vgl i)), .int (iI (Vhd i)), .int (iI (Vwt i)), .ref (wb i), .ref (fr i), .ref (bg i)]))) ++ [])) := hD
            try dsimp only at hw_10
            rcases hw_10 with ⟨rfl, hw_10⟩ | ⟨rfl, hw_10⟩
            · refine lv_if_eq (tgt := 79) hx hb dX8_vesselAt_55 (by decide) (fun c0 => absurd c0 (by decide)) (fun _ => ?_)
              refine lv_iload hx hb dX8_vesselAt_58 (lv_at hl 0 rfl) ?_
              refine lv_if_lt (tgt := 79) hx hb dX8_vesselAt_60 (by decide) (fun c_11 => ?_) (fun c_11 => ?_)
              · have nc_11 := (iLt (a := be - (qla k)) (b := 0) rfl (by decide) (by omega)).mp c_11
                refine lv_iinc (v := nI (k + 1)) (lv' := [(3, .int (nI (k + 1))), (4, .int (iI (be - (qla k)))), (0, .ref st), (1, .int (iI be)), (2, .int (iI tm))]) hx hb dX8_vesselAt_79 hl (k := 1) rfl (nI_add k 1) (by decide) rfl (fun ls hl => ?_)
                refine lv_goto (tgt := 28) hx hb dX8_vesselAt_82 (by decide) ?_
                exact ih28 (k + 1) _ _ _ (by omega) (by omega) (by intro w hw; by_cases q : w = k; (subst q; unfold vAt; omega); (exact hno w (by omega))) hP hD hS (lv_sub hl [0, 2, 3, 4] rfl)
              · have nc_11 := mt (iLt (a := be - (qla k)) (b := 0) rfl (by decide) (by omega)).mpr c_11
                refine lv_iload hx hb dX8_vesselAt_63 (lv_at hl 0 rfl) ?_
                refine lv_aload_n hx hb dX8_vesselAt_65 rfl (lv_at hl 2 rfl) ?_
                refine va_get (D := xD g) (ci := 8) (v := .ref fl) (C := RX8) (T := TX8) (N := 15) hx hb hts hFX8 hown hK hP 0 rfl rfl 3 (by decide) (hts (.fieldLink RX8 18 "Stevedore" "fleet" "[LStevedore$Vessel;") (by decide +kernel)) (fun _ h9 => h9) rfl dX8_vesselAt_66 ?_
                refine lv_iload_n hx hb dX8_vesselAt_69 rfl (lv_at hl 1 rfl) ?_
                refine va_aldq hx hb hK hP 4 2 rfl rfl (vp_in_nI (by omega) (by omega)) dX8_vesselAt_70 ?_
                refine W.eq (g2 := F0 m 71 ls (.ref (vr k) :: .int (iI (be - (qla k))) :: [])) (congrArg (fun q9 => F0 m 71 ls (q9 :: .int (iI (be - (qla k))) :: [])) (xRow (n := 6) (k := k) (nI_clamp (by omega)) (by omega))) ?_
                refine va_get (D := xD g) (ci := 6) (v := .int (nI (Vba k))) (C := RX6) (T := TX6) (N := 11) hx hb hts hFX6 hown hK hP _ (xR_ap (X := [(st, .inr (8, [.int (nI qy), s1, .int (nI vc), .ref fl, s4, s5, s6, s7, .ref pn, s9, s10, s11, s12, s13, s14])), (pn, .inr (4, [.int 1, q1, .ref ps, .ref pp])), (ps, .inl (xI g, 6, .inl (fun j => iI (qta j)))), (pp, .inl (xI g, 6, .inl (fun j => iI (qla j)))), (fl, .inl (xV g, 6, .inr (.inr (.inr (.inr (fun i => if i < 6 then some (vr i) else none))))))]) (xR_get0 (i := k) (by omega))) rfl 1 (by decide) (hts (.fieldLink RX8 108 "Stevedore$Vessel" "bays" "I") (by decide +kernel)) (fun _ h9 => h9) rfl dX8_vesselAt_71 ?_
                refine lv_icmp_ge (tgt := 79) hx hb dX8_vesselAt_74 (by decide) (fun c_12 => ?_) (fun c_12 => ?_)
                · have nc_12 := (iLe (a := ((Vba k : Nat) : Int)) (b := be - (qla k)) (iI_nI _) rfl (by omega)).mp c_12
                  refine lv_iinc (v := nI (k + 1)) (lv' := [(3, .int (nI (k + 1))), (4, .int (iI (be - (qla k)))), (0, .ref st), (1, .int (iI be)), (2, .int (iI tm))]) hx hb dX8_vesselAt_79 hl (k := 1) rfl (nI_add k 1) (by decide) rfl (fun ls hl => ?_)
                  refine lv_goto (tgt := 28) hx hb dX8_vesselAt_82 (by decide) ?_
                  exact ih28 (k + 1) _ _ _ (by omega) (by omega) (by intro w hw; by_cases q : w = k; (subst q; unfold vAt; omega); (exact hno w (by omega))) hP hD hS (lv_sub hl [0, 2, 3, 4] rfl)
                · have nc_12 := mt (iLe (a := ((Vba k : Nat) : Int)) (b := be - (qla k)) (iI_nI _) rfl (by omega)).mpr c_12
                  refine lv_iload_n hx hb dX8_vesselAt_77 rfl (lv_at hl 1 rfl) ?_
                  exact W.iret (v := nI k) hx hb hr (fun t ht hW => ⟨⟨nI k, (), rfl, (Or.inl ⟨k, by omega, rfl, by unfold vAt; omega⟩), trivial⟩, hS.F ht⟩) hS.2.2 dX8_vesselAt_78
            · refine lv_if_eq (tgt := 79) hx hb dX8_vesselAt_55 (by decide) (fun _ => ?_) (fun c0 => absurd (by decide) c0)
              refine lv_iinc (v := nI (k + 1)) (lv' := [(3, .int (nI (k + 1))), (4, .int (iI (be - (qla k)))), (0, .ref st), (1, .int (iI be)), (2, .int (iI tm))]) hx hb dX8_vesselAt_79 hl (k := 1) rfl (nI_add k 1) (by decide) rfl (fun ls hl => ?_)
              refine lv_goto (tgt := 28) hx hb dX8_vesselAt_82 (by decide) ?_
              exact ih28 (k + 1) _ _ _ (by omega) (by omega) (by intro w hw; by_cases q : w = k; (subst q; unfold vAt; omega); (exact hno w (by omega))) hP hD hS (lv_sub hl [0, 2, 3, 4] rfl)
      exact hloop28 (vc + 1) 0 _ _ _ (by omega) (Nat.zero_le _) (fun w hw => absurd hw (Nat.not_lt_zero _)) hP hD hS (by rw [(show nI 0 = (0 : Int32) from by decide)]; exact lv_sub hl [0, 1, 2, 3] rfl)
    · have nc_4 := mt (iLt (a := be) (b := ((qy : Nat) : Int)) rfl (iI_nI _) (by omega)).mpr c_4
      (exfalso; omega)
theorem dX8_cranesAt_0 : decode cX8_cranesAt 0 = .ok (.aload_n 0, 1) := by decide +kernel
theorem dX8_cranesAt_1 : decode cX8_cranesAt 1 = .ok (.invokevirtual 222, 3) := by decide +kernel
set_option maxRecDepth 20000 in
theorem ggX8_cranesAt_X8_needPlan : GoodIn wsX8_cranesAt wsX8_needPlan := goodIn_ca (goodIn_r _ [8, 9, 10, 11, 12, 19, 20, 21, 22, 23, 24, 25, 26, 27, 28, 29, 30, 31, 32, 33, 45, 46, 47, 48] rfl (by decide +kernel)) (goodIn_sub (fun _ h => List.mem_cons_of_mem _ (List.mem_append_right _ h)) (by decide +kernel))
set_option maxRecDepth 20000 in
theorem gX8_cranesAt_X8_needPlan : GoodIn wsX8_cranesAt (wsV RX8 222 RX8 yX8_needPlan wsX8_needPlan) := goodIn_app (goodIn_of _ (by decide +kernel)) ggX8_cranesAt_X8_needPlan
theorem dX8_cranesAt_4 : decode cX8_cranesAt 4 = .ok (.iconst 0, 1) := by decide +kernel
theorem dX8_cranesAt_5 : decode cX8_cranesAt 5 = .ok (.istore_n 2, 1) := by decide +kernel
theorem dX8_cranesAt_6 : decode cX8_cranesAt 6 = .ok (.iconst 0, 1) := by decide +kernel
theorem dX8_cranesAt_7 : decode cX8_cranesAt 7 = .ok (.istore_n 3, 1) := by decide +kernel
theorem dX8_cranesAt_8 : decode cX8_cranesAt 8 = .ok (.iload_n 3, 1) := by decide +kernel
theorem dX8_cranesAt_9 : decode cX8_cranesAt 9 = .ok (.aload_n 0, 1) := by decide +kernel
theorem dX8_cranesAt_10 : decode cX8_cranesAt 10 = .ok (.getfield 95, 3) := by decide +kernel
theorem dX8_cranesAt_13 : decode cX8_cranesAt 13 = .ok (.if_icmp .ge 30, 3) := by decide +kernel
theorem dX8_cranesAt_43 : decode cX8_cranesAt 43 = .ok (.iload_n 2, 1) := by decide +kernel
theorem dX8_cranesAt_44 : decode cX8_cranesAt 44 = .ok (.ireturn, 1) := by decide +kernel
theorem dX8_cranesAt_16 : decode cX8_cranesAt 16 = .ok (.aload_n 0, 1) := by decide +kernel
theorem dX8_cranesAt_17 : decode cX8_cranesAt 17 = .ok (.iload_n 3, 1) := by decide +kernel
theorem dX8_cranesAt_18 : decode cX8_cranesAt 18 = .ok (.iload_n 1, 1) := by decide +kernel
theorem dX8_cranesAt_19 : decode cX8_cranesAt 19 = .ok (.invokevirtual 238, 3) := by decide +kernel
set_option maxRecDepth 20000 in
theorem ggX8_cranesAt_X8_lies : GoodIn wsX8_cranesAt wsX8_lies := goodIn_r _ [16, 11, 17, 2, 18, 19, 20, 21, 22, 23, 24, 25, 26, 27, 28, 29, 30, 31, 32, 33, 45, 46, 47, 48, 34, 35, 36, 37, 38, 39, 40, 41, 42, 43, 44] rfl (by decide +kernel)
set_option maxRecDepth 20000 in
theorem gX8_cranesAt_X8_lies : GoodIn wsX8_cranesAt (wsV RX8 238 RX8 yX8_lies wsX8_lies) := goodIn_app (goodIn_of _ (by decide +kernel)) ggX8_cranesAt_X8_lies
theorem dX8_cranesAt_22 : decode cX8_cranesAt 22 = .ok (.ifCond .eq 15, 3) := by decide +kernel
theorem dX8_cranesAt_25 : decode cX8_cranesAt 25 = .ok (.iload_n 2, 1) := by decide +kernel
theorem dX8_cranesAt_26 : decode cX8_cranesAt 26 = .ok (.aload_n 0, 1) := by decide +kernel
theorem dX8_cranesAt_27 : decode cX8_cranesAt 27 = .ok (.getfield 18, 3) := by decide +kernel
theorem dX8_cranesAt_30 : decode cX8_cranesAt 30 = .ok (.iload_n 3, 1) := by decide +kernel
theorem dX8_cranesAt_31 : decode cX8_cranesAt 31 = .ok (.aaload, 1) := by decide +kernel
theorem dX8_cranesAt_32 : decode cX8_cranesAt 32 = .ok (.getfield 114, 3) := by decide +kernel
theorem dX8_cranesAt_35 : decode cX8_cranesAt 35 = .ok (.iadd, 1) := by decide +kernel
theorem dX8_cranesAt_36 : decode cX8_cranesAt 36 = .ok (.istore_n 2, 1) := by decide +kernel
theorem dX8_cranesAt_37 : decode cX8_cranesAt 37 = .ok (.iinc 3 1, 3) := by decide +kernel
theorem dX8_cranesAt_40 : decode cX8_cranesAt 40 = .ok (.goto (-32), 3) := by decide +kernel
set_option maxHeartbeats 4000000 in
set_option maxRecDepth 100000 in
theorem t_cranesAt (l : Launch) (g : xG) (sz : Nat) (st : Nat) (fl : Nat) (pn : Nat) (ps : Nat) (vc : Nat) (tm : Int) (vr : Nat → Nat) (wb : Nat → Nat) (fr : Nat → Nat) (bg : Nat → Nat) (s0 : Value) (s1 : Value) (s4 : Value) (s5 : Value) (s6 : Value) (s7 : Value) (s9 : Value) (s10 : Value) (s11 : Value) (s12 : Value) (s13 : Value) (s14 : Value) (q1 : Value) (q3 : Value) (Var : Nat → Int) (Vba : Nat → Nat) (Vrk : Nat → Int) (Vwa : Nat → Nat) (Vrc : Nat → Nat) (Vgl : Nat → Int) (Vhd : Nat → Int) (Vwt : Nat → Int) (qta : Nat → Int)  (hvc : vc ≤ 6) (htm : -1000000 ≤ tm ∧ tm ≤ 2000000) (hV : ∀ j, (0 ≤ Var j ∧ Var j ≤ 400) ∧ Vba j ≤ 10 ∧ (0 ≤ Vrk j ∧ Vrk j ≤ 9) ∧ Vwa j ≤ 4 ∧ Vrc j ≤ 4 ∧ (0 ≤ Vhd j ∧ Vhd j ≤ 10100) ∧ (0 ≤ Vwt j ∧ Vwt j ≤ 40000)) (b_qta : ∀ j, 0 ≤ qta j ∧ qta j ≤ 1000000) : Met l yX8_cranesAt wsX8_cranesAt ({ frames := 1, cells := 0, slots := 0, locals := 23 }) (va_Pc [.ref st, .int (iI tm)] (fun U => xB g ([(st, .inr (8, [s0, s1, .int (nI vc), .ref fl, s4, s5, s6, s7, .ref pn, s9, s10, s11, s12, s13, s14])), (pn, .inr (4, [.int 1, q1, .ref ps, q3])), (ps, .inl (xI g, 6, .inl (fun j => iI (qta j)))), (fl, .inl (xV g, 6, .inr (.inr (.inr (.inr (fun i => if i < 6 then some (vr i) else none))))))] ++ (xR 6 (fun i => (vr i, .inr (6, [.int (iI (Var i)), .int (nI (Vba i)), .int (iI (Vrk i)), .int (nI (Vwa i)), .int (nI (Vrc i)), .int (iI (Vgl i)), .int (iI (Vhd i)), .int (iI (Vwt i)), .ref (wb i), .ref (fr i), .ref (bg i)]))) ++ [])) sz U)) (va_Qi (fun (r : Int32) (_ : Unit) => r = nI (vCr qta Vhd Vwa tm vc)) (fun (_ : Unit) (_ : State) => True) (va_A [] sz)) 0 0 (va_A [] sz) := by
  refine Met.ofW (cc := cX8_cranesAt) (maxL := 4) (ret := (some .int)) (by decide) rfl ?_
  intro p e s m args below meth c s₁ B hml hv
  obtain ⟨rfl, hsz, hP, hK, hD0⟩ := hv
  have hx := B.exec
  have hb := B.bytes
  have hr := B.returns
  have hts := atoms_spec (ws := wsX8_cranesAt) B.pre
  have hown : s.vm.findClass RX8 = some m.cls := findClass_of_methodNamed B.named
  have hlocks := B.notSynchronized
  subst hsz
  have hD := hD0
  generalize hAe : va_A [] s.heap.size = A
  have hA : ∀ q : Nat, s.heap.size ≤ q → A q := fun q h => by rw [← hAe]; exact Or.inr h
  have hS : va_S A s.heap s.heap [] := va_S.rf
  have hl := lv_entry ([.ref st, .int (iI tm)]) (n := 4) (Nat.le_of_ble_eq_true rfl)
  rw [lg_entry_eq]
  generalize (lg_sl ([.ref st, .int (iI tm)]) ++ List.replicate (4 - (lg_sl ([.ref st, .int (iI tm)])).length) Slot.unset).toArray = ls at hl ⊢
  have hl : lv_has ls 4 [(0, .ref st), (1, .int (iI tm))] := hl
  have hFX6 : ∀ w ∈ u_ws RX6 TX6 11, w ∈ wsX8_cranesAt := by decide +kernel
  have hFX8 : ∀ w ∈ u_ws RX8 TX8 15, w ∈ wsX8_cranesAt := by decide +kernel
  refine lv_aload_n hx hb dX8_cranesAt_0 rfl (lv_at hl 0 rfl) ?_
  have hPc := hP.sub (ws' := [(st, .inr (8, [s0, s1, .int (nI vc), .ref fl, s4, s5, s6, s7, .ref pn, s9, s10, s11, s12, s13, s14])), (pn, .inr (4, [.int 1, q1, .ref ps, q3]))]) [0, 1] rfl
  have hDc := hD.sub (ws' := [(st, .inr (8, [s0, s1, .int (nI vc), .ref fl, s4, s5, s6, s7, .ref pn, s9, s10, s11, s12, s13, s14])), (pn, .inr (4, [.int 1, q1, .ref ps, q3]))]) [0, 1] (by decide) rfl
  have hFc := xFree hS hA
  refine va_callv (va_runV (As := []) (rest := []) ⟨hx, hb, hml, hown, hts⟩ (n_plan l g s.heap.size st pn s0 s1 (.int (nI vc)) (.ref fl) s4 s5 s6 s7 s9 s10 s11 s12 s13 s14 q1 (.ref ps) q3) (cwV 0 hts gX8_cranesAt_X8_needPlan rfl rfl rfl (by decide +kernel) ⟨Nat.le_of_ble_eq_true rfl, Nat.le_of_ble_eq_true rfl⟩) ⟨xB.blind, va_recv hK hPc (ci := 8) (q0 := 0) rfl rfl, fun U9 hU9 hW9 => ⟨rfl, xB.mk hPc hK hDc hU9 hW9⟩⟩ rfl rfl hl.1 rfl (lv_room (Nat.le_of_ble_eq_true rfl)) dX8_cranesAt_1 ⟨Nat.le_of_ble_eq_true rfl, Nat.le_of_ble_eq_true rfl⟩) hS (fun q _ h => hFc q h) hFc (fun _ t H1 locs ht hvm hw_2 hB hz1 hk1 hS => ?_)
  have hP := xSame hP hk1
  generalize H1 = H at hP hS ⊢
  have hP : va_P (xD g) vwCl ([(st, .inr (8, [s0, s1, .int (nI vc), .ref fl, s4, s5, s6, s7, .ref pn, s9, s10, s11, s12, s13, s14])), (pn, .inr (4, [.int 1, q1, .ref ps, q3])), (ps, .inl (xI g, 6, .inl (fun j => iI (qta j)))), (fl, .inl (xV g, 6, .inr (.inr (.inr (.inr (fun i => if i < 6 then some (vr i) else none))))))] ++ (xR 6 (fun i => (vr i, .inr (6, [.int (iI (Var i)), .int (nI (Vba i)), .int (iI (Vrk i)), .int (nI (Vwa i)), .int (nI (Vrc i)), .int (iI (Vgl i)), .int (iI (Vhd i)), .int (iI (Vwt i)), .ref (wb i), .ref (fr i), .ref (bg i)]))) ++ [])) H := hP
  have hD : va_D (fun _ => True) ([(st, .inr (8, [s0, s1, .int (nI vc), .ref fl, s4, s5, s6, s7, .ref pn, s9, s10, s11, s12, s13, s14])), (pn, .inr (4, [.int 1, q1, .ref ps, q3])), (ps, .inl (xI g, 6, .inl (fun j => iI (qta j)))), (fl, .inl (xV g, 6, .inr (.inr (.inr (.inr (fun i => if i < 6 then some (vr i) else none))))))] ++ (xR 6 (fun i => (vr i, .inr (6, [.int (iI (Var i)), .int (nI (Vba i)), .int (iI (Vrk i)), .int (nI (Vwa i)), .int (nI (Vrc i)), .int (iI (Vgl i)), .int (iI (Vhd i)), .int (iI (Vwt i)), .ref (wb i), .ref (fr i), .ref (bg i)]))) ++ [])) := hD
  try dsimp only at hw_2
  refine lv_iconst (v := 0) hx hb dX8_cranesAt_4 (by decide) ?_
  refine lv_istore_n (lv' := [(2, .int 0), (0, .ref st), (1, .int (iI tm))]) hx hb dX8_cranesAt_5 rfl hl (by decide) rfl (fun ls hl => ?_)
  refine lv_iconst (v := 0) hx hb dX8_cranesAt_6 (by decide) ?_
  refine lv_istore_n (lv' := [(3, .int 0), (2, .int 0), (0, .ref st), (1, .int (iI tm))]) hx hb dX8_cranesAt_7 rfl hl (by decide) rfl (fun ls hl => ?_)
  have hloop8 : ∀ (n9 : Nat) (k : Nat) (tg : Nat) (H : Heap) (locs : List Loc) (ls : Array Slot), vc - k < n9 → (k ≤ vc) → (tg = vCr qta Vhd Vwa tm k) → va_P (xD g) vwCl ([(st, .inr (8, [s0, s1, .int (nI vc), .ref fl, s4, s5, s6, s7, .ref pn, s9, s10, s11, s12, s13, s14])), (pn, .inr (4, [.int 1, q1, .ref ps, q3])), (ps, .inl (xI g, 6, .inl (fun j => iI (qta j)))), (fl, .inl (xV g, 6, .inr (.inr (.inr (.inr (fun i => if i < 6 then some (vr i) else none))))))] ++ (xR 6 (fun i => (vr i, .inr (6, [.int (iI (Var i)), .int (nI (Vba i)), .int (iI (Vrk i)), .int (nI (Vwa i)), .int (nI (Vrc i)), .int (iI (Vgl i)), .int (iI (Vhd i)), .int (iI (Vwt i)), .ref (wb i), .ref (fr i), .ref (bg i)]))) ++ [])) H → va_D (fun _ => True) ([(st, .inr (8, [s0, s1, .int (nI vc), .ref fl, s4, s5, s6, s7, .ref pn, s9, s10, s11, s12, s13, s14])), (pn, .inr (4, [.int 1, q1, .ref ps, q3])), (ps, .inl (xI g, 6, .inl (fun j => iI (qta j)))), (fl, .inl (xV g, 6, .inr (.inr (.inr (.inr (fun i => if i < 6 then some (vr i) else none))))))] ++ (xR 6 (fun i => (vr i, .inr (6, [.int (iI (Var i)), .int (nI (Vba i)), .int (iI (Vrk i)), .int (nI (Vwa i)), .int (nI (Vrc i)), .int (iI (Vgl i)), .int (iI (Vhd i)), .int (iI (Vwt i)), .ref (wb i), .ref (fr i), .ref (bg i)]))) ++ [])) → va_S A s.heap H locs → lv_has ls 4 [(3, .int (nI k)), (0, .ref st), (1, .int (iI tm)), (2, .int (nI tg))] → W p l e (headSpec wsX8_cranesAt ({ frames := 1, cells := 0, slots := 0, locals := 23 })).room s m ([.ref st, .int (iI tm)] : List Value).toArray below meth c H locs 0 0 (MQ below (va_Qi (fun (r : Int32) (_ : Unit) => r = nI (vCr qta Vhd Vwa tm vc)) (fun (_ : Unit) (_ : State) => True) (A)) ([.ref st, .int (iI tm)] : List Value).toArray s 0 0 A) (F0 m 8 ls []) := by
    intro n9
    induction n9 with
    | zero =>
      intro k tg H locs ls hm hk htg hP hD hS hl
      exact absurd hm (Nat.not_lt_zero _)
    | succ n9 ih8 =>
      intro k tg H locs ls hm hk htg hP hD hS hl
      refine lv_iload_n hx hb dX8_cranesAt_8 rfl (lv_at hl 0 rfl) ?_
      refine lv_aload_n hx hb dX8_cranesAt_9 rfl (lv_at hl 1 rfl) ?_
      refine va_get (D := xD g) (ci := 8) (v := .int (nI vc)) (C := RX8) (T := TX8) (N := 15) hx hb hts hFX8 hown hK hP 0 rfl rfl 2 (by decide) (hts (.fieldLink RX8 95 "Stevedore" "vesselCount" "I") (by decide +kernel)) (fun _ h9 => h9) rfl dX8_cranesAt_10 ?_
      refine lv_icmp_ge (tgt := 43) hx hb dX8_cranesAt_13 (by decide) (fun c_3 => ?_) (fun c_3 => ?_)
      · have nc_3 := (nI_leI (a := vc) (b := k) (by omega) (by omega)).mp c_3
        refine lv_iload_n hx hb dX8_cranesAt_43 rfl (lv_at hl 3 rfl) ?_
        exact W.iret (v := nI tg) hx hb hr (fun t ht hW => ⟨⟨nI tg, (), rfl, (by obtain rfl : k = vc := (by omega); rw [htg]), trivial⟩, hS.F ht⟩) hS.2.2 dX8_cranesAt_44
      · have nc_3 := mt (nI_leI (a := vc) (b := k) (by omega) (by omega)).mpr c_3
        refine lv_aload_n hx hb dX8_cranesAt_16 rfl (lv_at hl 1 rfl) ?_
        refine lv_iload_n hx hb dX8_cranesAt_17 rfl (lv_at hl 0 rfl) ?_
        refine lv_iload_n hx hb dX8_cranesAt_18 rfl (lv_at hl 2 rfl) ?_
        have hPc := hP.sub (ws' := ([(st, .inr (8, [s0, s1, .int (nI vc), .ref fl, s4, s5, s6, s7, .ref pn, s9, s10, s11, s12, s13, s14])), (pn, .inr (4, [.int 1, q1, .ref ps, q3])), (ps, .inl (xI g, 6, .inl (fun j => iI (qta j)))), (fl, .inl (xV g, 6, .inr (.inr (.inr (.inr (fun i => if i < 6 then some (vr i) else none))))))] ++ (xR 6 (fun i => (vr i, .inr (6, [.int (iI (Var i)), .int (nI (Vba i)), .int (iI (Vrk i)), .int (nI (Vwa i)), .int (nI (Vrc i)), .int (iI (Vgl i)), .int (iI (Vhd i)), .int (iI (Vwt i)), .ref (wb i), .ref (fr i), .ref (bg i)]))) ++ []))) [0, 1, 2, 3, 4, 5, 6, 7, 8, 9] rfl
        have hDc := hD.sub (ws' := ([(st, .inr (8, [s0, s1, .int (nI vc), .ref fl, s4, s5, s6, s7, .ref pn, s9, s10, s11, s12, s13, s14])), (pn, .inr (4, [.int 1, q1, .ref ps, q3])), (ps, .inl (xI g, 6, .inl (fun j => iI (qta j)))), (fl, .inl (xV g, 6, .inr (.inr (.inr (.inr (fun i => if i < 6 then some (vr i) else none))))))] ++ (xR 6 (fun i => (vr i, .inr (6, [.int (iI (Var i)), .int (nI (Vba i)), .int (iI (Vrk i)), .int (nI (Vwa i)), .int (nI (Vrc i)), .int (iI (Vgl i)), .int (iI (Vhd i)), .int (iI (Vwt i)), .ref (wb i), .ref (fr i), .ref (bg i)]))) ++ []))) [0, 1, 2, 3, 4, 5, 6, 7, 8, 9] (by decide) rfl
        have hFc := xFree hS hA
        refine va_calli (va_runV (As := [.int (nI k), .int (iI tm)]) (rest := []) ⟨hx, hb, hml, hown, hts⟩ (t_lies l g H.size st fl pn ps k tm vr wb fr bg s0 s1 (.int (nI vc)) s4 s5 s6 s7 s9 s10 s11 s12 s13 s14 (.int 1) q1 q3 Var Vba Vrk Vwa Vrc Vgl Vhd Vwt qta (by first | assumption | omega) (by first | assumption | omega) (by first | assumption | omega) b_qta) (cwV 2 hts gX8_cranesAt_X8_lies rfl rfl rfl (by decide +kernel) ⟨Nat.le_of_ble_eq_true rfl, Nat.le_of_ble_eq_true rfl⟩) ⟨xB.blind, va_recv hK hPc (ci := 8) (q0 := 0) rfl rfl, fun U9 hU9 hW9 => ⟨rfl, xB.mk hPc hK hDc hU9 hW9⟩⟩ rfl rfl hl.1 rfl (lv_room (Nat.le_of_ble_eq_true rfl)) dX8_cranesAt_19 ⟨Nat.le_of_ble_eq_true rfl, Nat.le_of_ble_eq_true rfl⟩) hS (fun q _ h => hFc q h) hFc (fun r_4 _ t H1 locs ht hvm hw_5 hB hz1 hk1 hS => ?_)
        have hP := xSame hP hk1
        generalize H1 = H at hP hS ⊢
        have hP : va_P (xD g) vwCl ([(st, .inr (8, [s0, s1, .int (nI vc), .ref fl, s4, s5, s6, s7, .ref pn, s9, s10, s11, s12, s13, s14])), (pn, .inr (4, [.int 1, q1, .ref ps, q3])), (ps, .inl (xI g, 6, .inl (fun j => iI (qta j)))), (fl, .inl (xV g, 6, .inr (.inr (.inr (.inr (fun i => if i < 6 then some (vr i) else none))))))] ++ (xR 6 (fun i => (vr i, .inr (6, [.int (iI (Var i)), .int (nI (Vba i)), .int (iI (Vrk i)), .int (nI (Vwa i)), .int (nI (Vrc i)), .int (iI (Vgl i)), .int (iI (Vhd i)), .int (iI (Vwt i)), .ref (wb i), .ref (fr i), .ref (bg i)]))) ++ [])) H := hP
        have hD : va_D (fun _ => True) ([(st, .inr (8, [s0, s1, .int (nI vc), .ref fl, s4, s5, s6, s7, .ref pn, s9, s10, s11, s12, s13, s14])), (pn, .inr (4, [.int 1, q1, .ref ps, q3])), (ps, .inl (xI g, 6, .inl (fun j => iI (qta j)))), (fl, .inl (xV g, 6, .inr (.inr (.inr (.inr (fun i => if i < 6 then some (vr i) else none))))))] ++ (xR 6 (fun i => (vr i, .inr (6, [.int (iI (Var i)), .int (nI (Vba i)), .int (iI (Vrk i)), .int (nI (Vwa i)), .int (nI (Vrc i)), .int (iI (Vgl i)), .int (iI (Vhd i)), .int (iI (Vwt i)), .ref (wb i), .ref (fr i), .ref (bg i)]))) ++ [])) := hD
        try dsimp only at hw_5
        rcases hw_5 with ⟨rfl, hw_5⟩ | ⟨rfl, hw_5⟩
        · refine lv_if_eq (tgt := 37) hx hb dX8_cranesAt_22 (by decide) (fun c0 => absurd c0 (by decide)) (fun _ => ?_)
          refine lv_iload_n hx hb dX8_cranesAt_25 rfl (lv_at hl 3 rfl) ?_
          refine lv_aload_n hx hb dX8_cranesAt_26 rfl (lv_at hl 1 rfl) ?_
          refine va_get (D := xD g) (ci := 8) (v := .ref fl) (C := RX8) (T := TX8) (N := 15) hx hb hts hFX8 hown hK hP 0 rfl rfl 3 (by decide) (hts (.fieldLink RX8 18 "Stevedore" "fleet" "[LStevedore$Vessel;") (by decide +kernel)) (fun _ h9 => h9) rfl dX8_cranesAt_27 ?_
          refine lv_iload_n hx hb dX8_cranesAt_30 rfl (lv_at hl 0 rfl) ?_
          refine va_aldq hx hb hK hP 3 2 rfl rfl (vp_in_nI (by omega) (by omega)) dX8_cranesAt_31 ?_
          refine W.eq (g2 := F0 m 32 ls (.ref (vr k) :: .int (nI tg) :: [])) (congrArg (fun q9 => F0 m 32 ls (q9 :: .int (nI tg) :: [])) (xRow (n := 6) (k := k) (nI_clamp (by omega)) (by omega))) ?_
          refine va_get (D := xD g) (ci := 6) (v := .int (nI (Vwa k))) (C := RX6) (T := TX6) (N := 11) hx hb hts hFX6 hown hK hP _ (xR_ap (X := [(st, .inr (8, [s0, s1, .int (nI vc), .ref fl, s4, s5, s6, s7, .ref pn, s9, s10, s11, s12, s13, s14])), (pn, .inr (4, [.int 1, q1, .ref ps, q3])), (ps, .inl (xI g, 6, .inl (fun j => iI (qta j)))), (fl, .inl (xV g, 6, .inr (.inr (.inr (.inr (fun i => if i < 6 then some (vr i) else none))))))]) (xR_get0 (i := k) (by omega))) rfl 3 (by decide) (hts (.fieldLink RX8 114 "Stevedore$Vessel" "wanted" "I") (by decide +kernel)) (fun _ h9 => h9) rfl dX8_cranesAt_32 ?_
          refine lv_iadd hx hb dX8_cranesAt_35 ?_
          refine lv_topi (fun v_6 ev => ?_)
          obtain rfl : v_6 = nI (tg + (Vwa k)) := ev.trans (nI_add tg (Vwa k))
          refine lv_istore_n (lv' := [(2, .int (nI (tg + (Vwa k)))), (3, .int (nI k)), (0, .ref st), (1, .int (iI tm))]) hx hb dX8_cranesAt_36 rfl hl (by decide) rfl (fun ls hl => ?_)
          refine lv_iinc (v := nI (k + 1)) (lv' := [(3, .int (nI (k + 1))), (2, .int (nI (tg + (Vwa k)))), (0, .ref st), (1, .int (iI tm))]) hx hb dX8_cranesAt_37 hl (k := 1) rfl (nI_add k 1) (by decide) rfl (fun ls hl => ?_)
          refine lv_goto (tgt := 8) hx hb dX8_cranesAt_40 (by decide) ?_
          exact ih8 (k + 1) (tg + (Vwa k)) _ _ _ (by omega) (by omega) (by simp only [vCr]; first | (rw [if_pos (by omega)]; omega) | (rw [if_neg (by omega)]; omega)) hP hD hS (lv_sub hl [0, 2, 3, 1] rfl)
        · refine lv_if_eq (tgt := 37) hx hb dX8_cranesAt_22 (by decide) (fun _ => ?_) (fun c0 => absurd (by decide) c0)
          refine lv_iinc (v := nI (k + 1)) (lv' := [(3, .int (nI (k + 1))), (0, .ref st), (1, .int (iI tm)), (2, .int (nI tg))]) hx hb dX8_cranesAt_37 hl (k := 0) rfl (nI_add k 1) (by decide) rfl (fun ls hl => ?_)
          refine lv_goto (tgt := 8) hx hb dX8_cranesAt_40 (by decide) ?_
          exact ih8 (k + 1) tg _ _ _ (by omega) (by omega) (by simp only [vCr]; first | (rw [if_pos (by omega)]; omega) | (rw [if_neg (by omega)]; omega)) hP hD hS (lv_sub hl [0, 1, 2, 3] rfl)
  exact hloop8 (vc + 1) 0 0 _ _ _ (by omega) (Nat.zero_le _) rfl hP hD hS (by rw [(show nI 0 = (0 : Int32) from by decide)]; exact lv_sub hl [0, 2, 3, 1] rfl)
