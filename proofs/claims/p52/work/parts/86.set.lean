theorem dX8_setQuay_0 : decode cX8_setQuay 0 = .ok (.iload_n 1, 1) := by decide +kernel
theorem dX8_setQuay_1 : decode cX8_setQuay 1 = .ok (.iconst 4, 1) := by decide +kernel
theorem dX8_setQuay_2 : decode cX8_setQuay 2 = .ok (.bipush 60, 2) := by decide +kernel
theorem dX8_setQuay_4 : decode cX8_setQuay 4 = .ok (.invokestatic 88, 3) := by decide +kernel
set_option maxRecDepth 20000 in
theorem ggX8_setQuay_X8_needWithin : GoodIn wsX8_setQuay wsX8_needWithin := goodIn_ca (goodIn_r _ [5, 6, 7] rfl (by decide +kernel)) (goodIn_sub (fun _ h => List.mem_cons_of_mem _ (List.mem_append_right _ h)) (by decide +kernel))
set_option maxRecDepth 20000 in
theorem gX8_setQuay_X8_needWithin : GoodIn wsX8_setQuay (va_wsS RX8 88 yX8_needWithin wsX8_needWithin) := goodIn_app (goodIn_of _ (by decide +kernel)) ggX8_setQuay_X8_needWithin
theorem dX8_setQuay_7 : decode cX8_setQuay 7 = .ok (.aload_n 0, 1) := by decide +kernel
theorem dX8_setQuay_8 : decode cX8_setQuay 8 = .ok (.getfield 9, 3) := by decide +kernel
theorem dX8_setQuay_11 : decode cX8_setQuay 11 = .ok (.istore_n 2, 1) := by decide +kernel
theorem dX8_setQuay_12 : decode cX8_setQuay 12 = .ok (.aload_n 0, 1) := by decide +kernel
theorem dX8_setQuay_13 : decode cX8_setQuay 13 = .ok (.iload_n 1, 1) := by decide +kernel
theorem dX8_setQuay_14 : decode cX8_setQuay 14 = .ok (.putfield 9, 3) := by decide +kernel
theorem dX8_setQuay_17 : decode cX8_setQuay 17 = .ok (.aload_n 0, 1) := by decide +kernel
theorem dX8_setQuay_18 : decode cX8_setQuay 18 = .ok (.invokevirtual 92, 3) := by decide +kernel
set_option maxRecDepth 20000 in
theorem ggX8_setQuay_X8_forgetPlan : GoodIn wsX8_setQuay wsX8_forgetPlan := goodIn_r _ [11, 12, 13, 14, 15, 16, 4, 17, 18, 19, 20, 21, 22, 23, 24, 25, 26, 27, 28, 29, 30, 31, 32, 33, 34, 35, 36, 37, 38, 39, 40, 41, 42, 43, 44, 45, 46, 47, 48, 49, 50, 51, 52, 53, 54, 55, 56, 57, 58, 59, 60, 61, 62, 63, 64, 65, 66, 67] rfl (by decide +kernel)
set_option maxRecDepth 20000 in
theorem gX8_setQuay_X8_forgetPlan : GoodIn wsX8_setQuay (wsV RX8 92 RX8 yX8_forgetPlan wsX8_forgetPlan) := goodIn_app (goodIn_of _ (by decide +kernel)) ggX8_setQuay_X8_forgetPlan
theorem dX8_setQuay_21 : decode cX8_setQuay 21 = .ok (.iload_n 2, 1) := by decide +kernel
theorem dX8_setQuay_22 : decode cX8_setQuay 22 = .ok (.ireturn, 1) := by decide +kernel
set_option maxHeartbeats 4000000 in
set_option maxRecDepth 100000 in
theorem t_setQuay (l : Launch) (g : xG) (sz : Nat) (st : Nat) (qy0 : Nat) (q : Nat) (s1 : Value) (s2 : Value) (s3 : Value) (s4 : Value) (s5 : Value) (s6 : Value) (s7 : Value) (s9 : Value) (s10 : Value) (s11 : Value) (s14 : Value) (pn : Nat) (ag : Nat) (ya : Nat) (he : Nat) (sa : Nat) (so2 : Nat) (q0 : Value) (q1 : Value) (q2 : Value) (q3 : Value) (g0 : Value) (g1 : Value) (y0 : Value) (y1 : Value) (y2 : Value) (y3 : Value) (y5 : Value) (y6 : Value) (y7 : Value) (y10 : Value) (hgt : Nat → Nat) (stt : Nat → Int) (oo : Nat → Int)  (hq : 4 ≤ q ∧ q ≤ 60) (b_hgt : ∀ j, hgt j ≤ 5) (b_stt : ∀ j, 0 ≤ stt j ∧ stt j ≤ 4) (b_oo : ∀ j, (-1) ≤ oo j ∧ oo j ≤ 11) : Met l yX8_setQuay wsX8_setQuay ({ frames := 4, cells := 0, slots := 0, locals := 83 }) (va_Pc [.ref st, .int (nI q)] (fun U => xB g [(st, .inr (8, [.int (nI qy0), s1, s2, s3, s4, s5, s6, s7, .ref pn, s9, s10, s11, .ref ag, .ref ya, s14])), (pn, .inr (4, [q0, q1, q2, q3])), (ag, .inr (0, [g0, g1])), (ya, .inr (7, [y0, y1, y2, y3, .ref he, y5, y6, y7, .ref sa, .ref so2, y10])), (he, .inl (xI g, 12, .inl (fun j => nI (hgt j)))), (sa, .inl (xI g, 24, .inl (fun j => iI (stt j)))), (so2, .inl (xI g, 24, .inl (fun j => iI (oo j))))] sz U)) (va_Qi (fun (r : Int32) (_ : Unit) => True) (fun (_ : Unit) (t : State) => (∀ j, (fun (_ : Nat) => (0 : Nat)) j ≤ 5) ∧ (∀ j, 0 ≤ (fun (_ : Nat) => (0 : Int)) j ∧ (fun (_ : Nat) => (0 : Int)) j ≤ 4) ∧ (∀ j, (-1) ≤ (fun (_ : Nat) => (-1 : Int)) j ∧ (fun (_ : Nat) => (-1 : Int)) j ≤ 11) ∧ xE g [(st, .inr (8, [.int (nI q), s1, s2, s3, s4, s5, s6, s7, .ref pn, s9, .int 0, s11, .ref ag, .ref ya, s14])), (pn, .inr (4, [.int 0, q1, q2, q3])), (ag, .inr (0, [.int 0, g1])), (ya, .inr (7, [y0, .int 0, .int 0, y3, .ref he, y5, y6, y7, .ref sa, .ref so2, y10])), (he, .inl (xI g, 12, .inl (fun j => nI ((fun (_ : Nat) => (0 : Nat)) j)))), (sa, .inl (xI g, 24, .inl (fun j => iI ((fun (_ : Nat) => (0 : Int)) j)))), (so2, .inl (xI g, 24, .inl (fun j => iI ((fun (_ : Nat) => (-1 : Int)) j))))] (va_A [(st, .inr (8, [.int (nI qy0), s1, s2, s3, s4, s5, s6, s7, .ref pn, s9, s10, s11, .ref ag, .ref ya, s14])), (pn, .inr (4, [q0, q1, q2, q3])), (ag, .inr (0, [g0, g1])), (ya, .inr (7, [y0, y1, y2, y3, .ref he, y5, y6, y7, .ref sa, .ref so2, y10])), (he, .inl (xI g, 12, .inl (fun j => nI (hgt j)))), (sa, .inl (xI g, 24, .inl (fun j => iI (stt j)))), (so2, .inl (xI g, 24, .inl (fun j => iI (oo j))))] sz) t) (va_A [(st, .inr (8, [.int (nI qy0), s1, s2, s3, s4, s5, s6, s7, .ref pn, s9, s10, s11, .ref ag, .ref ya, s14])), (pn, .inr (4, [q0, q1, q2, q3])), (ag, .inr (0, [g0, g1])), (ya, .inr (7, [y0, y1, y2, y3, .ref he, y5, y6, y7, .ref sa, .ref so2, y10])), (he, .inl (xI g, 12, .inl (fun j => nI (hgt j)))), (sa, .inl (xI g, 24, .inl (fun j => iI (stt j)))), (so2, .inl (xI g, 24, .inl (fun j => iI (oo j))))] sz)) 0 0 (va_A [(st, .inr (8, [.int (nI qy0), s1, s2, s3, s4, s5, s6, s7, .ref pn, s9, s10, s11, .ref ag, .ref ya, s14])), (pn, .inr (4, [q0, q1, q2, q3])), (ag, .inr (0, [g0, g1])), (ya, .inr (7, [y0, y1, y2, y3, .ref he, y5, y6, y7, .ref sa, .ref so2, y10])), (he, .inl (xI g, 12, .inl (fun j => nI (hgt j)))), (sa, .inl (xI g, 24, .inl (fun j => iI (stt j)))), (so2, .inl (xI g, 24, .inl (fun j => iI (oo j))))] sz) := by
  refine Met.ofW (cc := cX8_setQuay) (maxL := 3) (ret := (some .int)) (by decide) rfl ?_
  intro p e s m args below meth c s₁ B hml hv
  obtain ⟨rfl, hsz, hP, hK, hD0⟩ := hv
  have hx := B.exec
  have hb := B.bytes
  have hr := B.returns
  have hts := atoms_spec (ws := wsX8_setQuay) B.pre
  have hown : s.vm.findClass RX8 = some m.cls := findClass_of_methodNamed B.named
  have hlocks := B.notSynchronized
  subst hsz
  have hD := hD0.self (sz := s.heap.size)
  generalize hAe : va_A [(st, .inr (8, [.int (nI qy0), s1, s2, s3, s4, s5, s6, s7, .ref pn, s9, s10, s11, .ref ag, .ref ya, s14])), (pn, .inr (4, [q0, q1, q2, q3])), (ag, .inr (0, [g0, g1])), (ya, .inr (7, [y0, y1, y2, y3, .ref he, y5, y6, y7, .ref sa, .ref so2, y10])), (he, .inl (xI g, 12, .inl (fun j => nI (hgt j)))), (sa, .inl (xI g, 24, .inl (fun j => iI (stt j)))), (so2, .inl (xI g, 24, .inl (fun j => iI (oo j))))] s.heap.size = A at hD ⊢
  have hA : ∀ q : Nat, s.heap.size ≤ q → A q := fun q h => by rw [← hAe]; exact Or.inr h
  have hS : va_S A s.heap s.heap [] := va_S.rf
  have hl := lv_entry ([.ref st, .int (nI q)]) (n := 3) (Nat.le_of_ble_eq_true rfl)
  rw [lg_entry_eq]
  generalize (lg_sl ([.ref st, .int (nI q)]) ++ List.replicate (3 - (lg_sl ([.ref st, .int (nI q)])).length) Slot.unset).toArray = ls at hl ⊢
  have hl : lv_has ls 3 [(0, .ref st), (1, .int (nI q))] := hl
  have hFX8 : ∀ w ∈ u_ws RX8 TX8 15, w ∈ wsX8_setQuay := by decide +kernel
  refine lv_iload_n hx hb dX8_setQuay_0 rfl (lv_at hl 1 rfl) ?_
  refine lv_iconst (v := 4) hx hb dX8_setQuay_1 (by decide) ?_
  refine lv_bipush (v := 60) hx hb dX8_setQuay_2 (by decide) ?_
  have hPc := hP.sub (ws' := []) [] rfl
  have hDc := hD.sub (ws' := []) [] (by decide) rfl
  have hFc := xFree hS hA
  refine va_callv (va_runS (As := [.int (nI q), .int 4, .int 60]) (rest := []) ⟨hx, hb, hml, hown, hts⟩ (n_within l g s.heap.size ((q : Nat) : Int) 4 60 (by first | assumption | omega) (by first | assumption | omega)) (va_cwS 3 hts gX8_setQuay_X8_needWithin rfl rfl rfl (by decide +kernel) ⟨Nat.le_of_ble_eq_true rfl, Nat.le_of_ble_eq_true rfl⟩) ⟨xB.blind, fun U9 hU9 hW9 => ⟨rfl, xB.mk hPc hK hDc hU9 hW9⟩⟩ rfl rfl hl.1 rfl (lv_room (Nat.le_of_ble_eq_true rfl)) dX8_setQuay_4 ⟨Nat.le_of_ble_eq_true rfl, Nat.le_of_ble_eq_true rfl⟩) hS (fun q _ h => hFc q h) hFc (fun _ t H1 locs ht hvm hw_2 hB hz1 hk1 hS => ?_)
  have hP := xSame hP hk1
  generalize H1 = H at hP hS ⊢
  have hP : va_P (xD g) vwCl [(st, .inr (8, [.int (nI qy0), s1, s2, s3, s4, s5, s6, s7, .ref pn, s9, s10, s11, .ref ag, .ref ya, s14])), (pn, .inr (4, [q0, q1, q2, q3])), (ag, .inr (0, [g0, g1])), (ya, .inr (7, [y0, y1, y2, y3, .ref he, y5, y6, y7, .ref sa, .ref so2, y10])), (he, .inl (xI g, 12, .inl (fun j => nI (hgt j)))), (sa, .inl (xI g, 24, .inl (fun j => iI (stt j)))), (so2, .inl (xI g, 24, .inl (fun j => iI (oo j))))] H := hP
  have hD : va_D A [(st, .inr (8, [.int (nI qy0), s1, s2, s3, s4, s5, s6, s7, .ref pn, s9, s10, s11, .ref ag, .ref ya, s14])), (pn, .inr (4, [q0, q1, q2, q3])), (ag, .inr (0, [g0, g1])), (ya, .inr (7, [y0, y1, y2, y3, .ref he, y5, y6, y7, .ref sa, .ref so2, y10])), (he, .inl (xI g, 12, .inl (fun j => nI (hgt j)))), (sa, .inl (xI g, 24, .inl (fun j => iI (stt j)))), (so2, .inl (xI g, 24, .inl (fun j => iI (oo j))))] := hD
  try dsimp only at hw_2
  refine lv_aload_n hx hb dX8_setQuay_7 rfl (lv_at hl 0 rfl) ?_
  refine va_get (D := xD g) (ci := 8) (v := .int (nI qy0)) (C := RX8) (T := TX8) (N := 15) hx hb hts hFX8 hown hK hP 0 rfl rfl 0 (by decide) (hts (.fieldLink RX8 9 "Stevedore" "quay" "I") (by decide +kernel)) (fun _ h9 => h9) rfl dX8_setQuay_8 ?_
  refine lv_istore_n (lv' := [(2, .int (nI qy0)), (0, .ref st), (1, .int (nI q))]) hx hb dX8_setQuay_11 rfl hl (by decide) rfl (fun ls hl => ?_)
  refine lv_aload_n hx hb dX8_setQuay_12 rfl (lv_at hl 1 rfl) ?_
  refine lv_iload_n hx hb dX8_setQuay_13 rfl (lv_at hl 2 rfl) ?_
  refine va_put (D := xD g) (ci := 8) (v := .int (nI q)) (ty := .int) (C := RX8) (T := TX8) (N := 15) hx hb hts hFX8 tyX8 tyX8_ok nmX8 hown hK hP hD hS 0 rfl rfl 0 (by decide) (hts (.fieldLink RX8 9 "Stevedore" "quay" "I") (by decide +kernel)) (fun _ h9 => h9) rfl (by decide +kernel) rfl rfl (Nat.le_of_ble_eq_true rfl) dX8_setQuay_14 (fun H locs hP hD hS => ?_)
  have hP : va_P (xD g) vwCl [(st, .inr (8, [.int (nI q), s1, s2, s3, s4, s5, s6, s7, .ref pn, s9, s10, s11, .ref ag, .ref ya, s14])), (pn, .inr (4, [q0, q1, q2, q3])), (ag, .inr (0, [g0, g1])), (ya, .inr (7, [y0, y1, y2, y3, .ref he, y5, y6, y7, .ref sa, .ref so2, y10])), (he, .inl (xI g, 12, .inl (fun j => nI (hgt j)))), (sa, .inl (xI g, 24, .inl (fun j => iI (stt j)))), (so2, .inl (xI g, 24, .inl (fun j => iI (oo j))))] H := hP
  have hD : va_D A [(st, .inr (8, [.int (nI q), s1, s2, s3, s4, s5, s6, s7, .ref pn, s9, s10, s11, .ref ag, .ref ya, s14])), (pn, .inr (4, [q0, q1, q2, q3])), (ag, .inr (0, [g0, g1])), (ya, .inr (7, [y0, y1, y2, y3, .ref he, y5, y6, y7, .ref sa, .ref so2, y10])), (he, .inl (xI g, 12, .inl (fun j => nI (hgt j)))), (sa, .inl (xI g, 24, .inl (fun j => iI (stt j)))), (so2, .inl (xI g, 24, .inl (fun j => iI (oo j))))] := hD
  refine lv_aload_n hx hb dX8_setQuay_17 rfl (lv_at hl 1 rfl) ?_
  have hPc := hP.sub (ws' := [(st, .inr (8, [.int (nI q), s1, s2, s3, s4, s5, s6, s7, .ref pn, s9, s10, s11, .ref ag, .ref ya, s14])), (pn, .inr (4, [q0, q1, q2, q3])), (ag, .inr (0, [g0, g1])), (ya, .inr (7, [y0, y1, y2, y3, .ref he, y5, y6, y7, .ref sa, .ref so2, y10])), (he, .inl (xI g, 12, .inl (fun j => nI (hgt j)))), (sa, .inl (xI g, 24, .inl (fun j => iI (stt j)))), (so2, .inl (xI g, 24, .inl (fun j => iI (oo j))))]) [0, 1, 2, 3, 4, 5, 6] rfl
  have hDc := hD.sub (ws' := [(st, .inr (8, [.int (nI q), s1, s2, s3, s4, s5, s6, s7, .ref pn, s9, s10, s11, .ref ag, .ref ya, s14])), (pn, .inr (4, [q0, q1, q2, q3])), (ag, .inr (0, [g0, g1])), (ya, .inr (7, [y0, y1, y2, y3, .ref he, y5, y6, y7, .ref sa, .ref so2, y10])), (he, .inl (xI g, 12, .inl (fun j => nI (hgt j)))), (sa, .inl (xI g, 24, .inl (fun j => iI (stt j)))), (so2, .inl (xI g, 24, .inl (fun j => iI (oo j))))]) [0, 1, 2, 3, 4, 5, 6] (by decide) rfl
  have hFc := va_free (wc := [(st, .inr (8, [.int (nI q), s1, s2, s3, s4, s5, s6, s7, .ref pn, s9, s10, s11, .ref ag, .ref ya, s14])), (pn, .inr (4, [q0, q1, q2, q3])), (ag, .inr (0, [g0, g1])), (ya, .inr (7, [y0, y1, y2, y3, .ref he, y5, y6, y7, .ref sa, .ref so2, y10])), (he, .inl (xI g, 12, .inl (fun j => nI (hgt j)))), (sa, .inl (xI g, 24, .inl (fun j => iI (stt j)))), (so2, .inl (xI g, 24, .inl (fun j => iI (oo j))))]) hD hS hA [0, 1, 2, 3, 4, 5, 6] rfl
  refine va_callv (va_runV (As := []) (rest := []) ⟨hx, hb, hml, hown, hts⟩ (t_forgetPlan l g H.size st pn ag ya he sa so2 (.int (nI q)) s1 s2 s3 s4 s5 s6 s7 s9 s10 s11 s14 q0 q1 q2 q3 g0 g1 y0 y1 y2 y3 y5 y6 y7 y10 hgt stt oo b_hgt b_stt b_oo) (cwV 0 hts gX8_setQuay_X8_forgetPlan rfl rfl rfl (by decide +kernel) ⟨Nat.le_of_ble_eq_true rfl, Nat.le_of_ble_eq_true rfl⟩) ⟨xB.blind, va_recv hK hPc (ci := 8) (q0 := 0) rfl rfl, fun U9 hU9 hW9 => ⟨rfl, xB.mk hPc hK hDc hU9 hW9⟩⟩ rfl rfl hl.1 rfl (lv_room (Nat.le_of_ble_eq_true rfl)) dX8_setQuay_18 ⟨Nat.le_of_ble_eq_true rfl, Nat.le_of_ble_eq_true rfl⟩) hS (fun q _ h => hFc q h) hFc (fun _ t H1 locs ht hvm hw_4 hB hz1 hk1 hS => ?_)
  obtain ⟨hb_5, hb_6, hb_7, hP1, hK1, hD1⟩ := hB
  rw [ht] at hP1
  obtain ⟨hP, hD⟩ := va_join (wr := []) (w1 := [(st, .inr (8, [.int (nI q), s1, s2, s3, s4, s5, s6, s7, .ref pn, s9, .int 0, s11, .ref ag, .ref ya, s14])), (pn, .inr (4, [.int 0, q1, q2, q3])), (ag, .inr (0, [.int 0, g1])), (ya, .inr (7, [y0, .int 0, .int 0, y3, .ref he, y5, y6, y7, .ref sa, .ref so2, y10])), (he, .inl (xI g, 12, .inl (fun j => nI ((fun (_ : Nat) => (0 : Nat)) j)))), (sa, .inl (xI g, 24, .inl (fun j => iI ((fun (_ : Nat) => (0 : Int)) j)))), (so2, .inl (xI g, 24, .inl (fun j => iI ((fun (_ : Nat) => (-1 : Int)) j))))]) hP hD [0, 1, 2, 3, 4, 5, 6] [] rfl rfl (by decide) (by decide) hk1 hFc hP1 hD1
  generalize H1 = H at hP hS ⊢
  have hP : va_P (xD g) vwCl [(st, .inr (8, [.int (nI q), s1, s2, s3, s4, s5, s6, s7, .ref pn, s9, .int 0, s11, .ref ag, .ref ya, s14])), (pn, .inr (4, [.int 0, q1, q2, q3])), (ag, .inr (0, [.int 0, g1])), (ya, .inr (7, [y0, .int 0, .int 0, y3, .ref he, y5, y6, y7, .ref sa, .ref so2, y10])), (he, .inl (xI g, 12, .inl (fun j => nI ((fun (_ : Nat) => (0 : Nat)) j)))), (sa, .inl (xI g, 24, .inl (fun j => iI ((fun (_ : Nat) => (0 : Int)) j)))), (so2, .inl (xI g, 24, .inl (fun j => iI ((fun (_ : Nat) => (-1 : Int)) j))))] H := hP
  have hD : va_D A [(st, .inr (8, [.int (nI q), s1, s2, s3, s4, s5, s6, s7, .ref pn, s9, .int 0, s11, .ref ag, .ref ya, s14])), (pn, .inr (4, [.int 0, q1, q2, q3])), (ag, .inr (0, [.int 0, g1])), (ya, .inr (7, [y0, .int 0, .int 0, y3, .ref he, y5, y6, y7, .ref sa, .ref so2, y10])), (he, .inl (xI g, 12, .inl (fun j => nI ((fun (_ : Nat) => (0 : Nat)) j)))), (sa, .inl (xI g, 24, .inl (fun j => iI ((fun (_ : Nat) => (0 : Int)) j)))), (so2, .inl (xI g, 24, .inl (fun j => iI ((fun (_ : Nat) => (-1 : Int)) j))))] := hD
  try dsimp only at hw_4
  refine lv_iload_n hx hb dX8_setQuay_21 rfl (lv_at hl 0 rfl) ?_
  have hP9 := hP
  have hD9 := hD
  exact W.iret (v := nI qy0) hx hb hr (fun t ht hW => ⟨⟨nI qy0, (), rfl, (by first | trivial | rfl | assumption | omega), ⟨hb_5, hb_6, hb_7, by rw [ht]; exact hP9, va_K.moved hW.alike hK, hD9⟩⟩, hS.F ht⟩) hS.2.2 dX8_setQuay_22
theorem dX8_setCranes_0 : decode cX8_setCranes 0 = .ok (.iload_n 1, 1) := by decide +kernel
theorem dX8_setCranes_1 : decode cX8_setCranes 1 = .ok (.iconst 1, 1) := by decide +kernel
theorem dX8_setCranes_2 : decode cX8_setCranes 2 = .ok (.bipush 6, 2) := by decide +kernel
theorem dX8_setCranes_4 : decode cX8_setCranes 4 = .ok (.invokestatic 88, 3) := by decide +kernel
set_option maxRecDepth 20000 in
theorem ggX8_setCranes_X8_needWithin : GoodIn wsX8_setCranes wsX8_needWithin := goodIn_ca (goodIn_r _ [5, 6, 7] rfl (by decide +kernel)) (goodIn_sub (fun _ h => List.mem_cons_of_mem _ (List.mem_append_right _ h)) (by decide +kernel))
set_option maxRecDepth 20000 in
theorem gX8_setCranes_X8_needWithin : GoodIn wsX8_setCranes (va_wsS RX8 88 yX8_needWithin wsX8_needWithin) := goodIn_app (goodIn_of _ (by decide +kernel)) ggX8_setCranes_X8_needWithin
theorem dX8_setCranes_7 : decode cX8_setCranes 7 = .ok (.aload_n 0, 1) := by decide +kernel
theorem dX8_setCranes_8 : decode cX8_setCranes 8 = .ok (.getfield 13, 3) := by decide +kernel
theorem dX8_setCranes_11 : decode cX8_setCranes 11 = .ok (.istore_n 2, 1) := by decide +kernel
theorem dX8_setCranes_12 : decode cX8_setCranes 12 = .ok (.aload_n 0, 1) := by decide +kernel
theorem dX8_setCranes_13 : decode cX8_setCranes 13 = .ok (.iload_n 1, 1) := by decide +kernel
theorem dX8_setCranes_14 : decode cX8_setCranes 14 = .ok (.putfield 13, 3) := by decide +kernel
theorem dX8_setCranes_17 : decode cX8_setCranes 17 = .ok (.aload_n 0, 1) := by decide +kernel
theorem dX8_setCranes_18 : decode cX8_setCranes 18 = .ok (.invokevirtual 92, 3) := by decide +kernel
set_option maxRecDepth 20000 in
theorem ggX8_setCranes_X8_forgetPlan : GoodIn wsX8_setCranes wsX8_forgetPlan := goodIn_r _ [11, 12, 13, 14, 15, 16, 4, 17, 18, 19, 20, 21, 22, 23, 24, 25, 26, 27, 28, 29, 30, 31, 32, 33, 34, 35, 36, 37, 38, 39, 40, 41, 42, 43, 44, 45, 46, 47, 48, 49, 50, 51, 52, 53, 54, 55, 56, 57, 58, 59, 60, 61, 62, 63, 64, 65, 66, 67] rfl (by decide +kernel)
set_option maxRecDepth 20000 in
theorem gX8_setCranes_X8_forgetPlan : GoodIn wsX8_setCranes (wsV RX8 92 RX8 yX8_forgetPlan wsX8_forgetPlan) := goodIn_app (goodIn_of _ (by decide +kernel)) ggX8_setCranes_X8_forgetPlan
theorem dX8_setCranes_21 : decode cX8_setCranes 21 = .ok (.iload_n 2, 1) := by decide +kernel
theorem dX8_setCranes_22 : decode cX8_setCranes 22 = .ok (.ireturn, 1) := by decide +kernel
set_option maxHeartbeats 4000000 in
set_option maxRecDepth 100000 in
theorem t_setCranes (l : Launch) (g : xG) (sz : Nat) (st : Nat) (cr0 : Nat) (q : Nat) (s0 : Value) (s2 : Value) (s3 : Value) (s4 : Value) (s5 : Value) (s6 : Value) (s7 : Value) (s9 : Value) (s10 : Value) (s11 : Value) (s14 : Value) (pn : Nat) (ag : Nat) (ya : Nat) (he : Nat) (sa : Nat) (so2 : Nat) (q0 : Value) (q1 : Value) (q2 : Value) (q3 : Value) (g0 : Value) (g1 : Value) (y0 : Value) (y1 : Value) (y2 : Value) (y3 : Value) (y5 : Value) (y6 : Value) (y7 : Value) (y10 : Value) (hgt : Nat → Nat) (stt : Nat → Int) (oo : Nat → Int)  (hq : 1 ≤ q ∧ q ≤ 6) (b_hgt : ∀ j, hgt j ≤ 5) (b_stt : ∀ j, 0 ≤ stt j ∧ stt j ≤ 4) (b_oo : ∀ j, (-1) ≤ oo j ∧ oo j ≤ 11) : Met l yX8_setCranes wsX8_setCranes ({ frames := 4, cells := 0, slots := 0, locals := 83 }) (va_Pc [.ref st, .int (nI q)] (fun U => xB g [(st, .inr (8, [s0, .int (nI cr0), s2, s3, s4, s5, s6, s7, .ref pn, s9, s10, s11, .ref ag, .ref ya, s14])), (pn, .inr (4, [q0, q1, q2, q3])), (ag, .inr (0, [g0, g1])), (ya, .inr (7, [y0, y1, y2, y3, .ref he, y5, y6, y7, .ref sa, .ref so2, y10])), (he, .inl (xI g, 12, .inl (fun j => nI (hgt j)))), (sa, .inl (xI g, 24, .inl (fun j => iI (stt j)))), (so2, .inl (xI g, 24, .inl (fun j => iI (oo j))))] sz U)) (va_Qi (fun (r : Int32) (_ : Unit) => True) (fun (_ : Unit) (t : State) => (∀ j, (fun (_ : Nat) => (0 : Nat)) j ≤ 5) ∧ (∀ j, 0 ≤ (fun (_ : Nat) => (0 : Int)) j ∧ (fun (_ : Nat) => (0 : Int)) j ≤ 4) ∧ (∀ j, (-1) ≤ (fun (_ : Nat) => (-1 : Int)) j ∧ (fun (_ : Nat) => (-1 : Int)) j ≤ 11) ∧ xE g [(st, .inr (8, [s0, .int (nI q), s2, s3, s4, s5, s6, s7, .ref pn, s9, .int 0, s11, .ref ag, .ref ya, s14])), (pn, .inr (4, [.int 0, q1, q2, q3])), (ag, .inr (0, [.int 0, g1])), (ya, .inr (7, [y0, .int 0, .int 0, y3, .ref he, y5, y6, y7, .ref sa, .ref so2, y10])), (he, .inl (xI g, 12, .inl (fun j => nI ((fun (_ : Nat) => (0 : Nat)) j)))), (sa, .inl (xI g, 24, .inl (fun j => iI ((fun (_ : Nat) => (0 : Int)) j)))), (so2, .inl (xI g, 24, .inl (fun j => iI ((fun (_ : Nat) => (-1 : Int)) j))))] (va_A [(st, .inr (8, [s0, .int (nI cr0), s2, s3, s4, s5, s6, s7, .ref pn, s9, s10, s11, .ref ag, .ref ya, s14])), (pn, .inr (4, [q0, q1, q2, q3])), (ag, .inr (0, [g0, g1])), (ya, .inr (7, [y0, y1, y2, y3, .ref he, y5, y6, y7, .ref sa, .ref so2, y10])), (he, .inl (xI g, 12, .inl (fun j => nI (hgt j)))), (sa, .inl (xI g, 24, .inl (fun j => iI (stt j)))), (so2, .inl (xI g, 24, .inl (fun j => iI (oo j))))] sz) t) (va_A [(st, .inr (8, [s0, .int (nI cr0), s2, s3, s4, s5, s6, s7, .ref pn, s9, s10, s11, .ref ag, .ref ya, s14])), (pn, .inr (4, [q0, q1, q2, q3])), (ag, .inr (0, [g0, g1])), (ya, .inr (7, [y0, y1, y2, y3, .ref he, y5, y6, y7, .ref sa, .ref so2, y10])), (he, .inl (xI g, 12, .inl (fun j => nI (hgt j)))), (sa, .inl (xI g, 24, .inl (fun j => iI (stt j)))), (so2, .inl (xI g, 24, .inl (fun j => iI (oo j))))] sz)) 0 0 (va_A [(st, .inr (8, [s0, .int (nI cr0), s2, s3, s4, s5, s6, s7, .ref pn, s9, s10, s11, .ref ag, .ref ya, s14])), (pn, .inr (4, [q0, q1, q2, q3])), (ag, .inr (0, [g0, g1])), (ya, .inr (7, [y0, y1, y2, y3, .ref he, y5, y6, y7, .ref sa, .ref so2, y10])), (he, .inl (xI g, 12, .inl (fun j => nI (hgt j)))), (sa, .inl (xI g, 24, .inl (fun j => iI (stt j)))), (so2, .inl (xI g, 24, .inl (fun j => iI (oo j))))] sz) := by
  refine Met.ofW (cc := cX8_setCranes) (maxL := 3) (ret := (some .int)) (by decide) rfl ?_
  intro p e s m args below meth c s₁ B hml hv
  obtain ⟨rfl, hsz, hP, hK, hD0⟩ := hv
  have hx := B.exec
  have hb := B.bytes
  have hr := B.returns
  have hts := atoms_spec (ws := wsX8_setCranes) B.pre
  have hown : s.vm.findClass RX8 = some m.cls := findClass_of_methodNamed B.named
  have hlocks := B.notSynchronized
  subst hsz
  have hD := hD0.self (sz := s.heap.size)
  generalize hAe : va_A [(st, .inr (8, [s0, .int (nI cr0), s2, s3, s4, s5, s6, s7, .ref pn, s9, s10, s11, .ref ag, .ref ya, s14])), (pn, .inr (4, [q0, q1, q2, q3])), (ag, .inr (0, [g0, g1])), (ya, .inr (7, [y0, y1, y2, y3, .ref he, y5, y6, y7, .ref sa, .ref so2, y10])), (he, .inl (xI g, 12, .inl (fun j => nI (hgt j)))), (sa, .inl (xI g, 24, .inl (fun j => iI (stt j)))), (so2, .inl (xI g, 24, .inl (fun j => iI (oo j))))] s.heap.size = A at hD ⊢
  have hA : ∀ q : Nat, s.heap.size ≤ q → A q := fun q h => by rw [← hAe]; exact Or.inr h
  have hS : va_S A s.heap s.heap [] := va_S.rf
  have hl := lv_entry ([.ref st, .int (nI q)]) (n := 3) (Nat.le_of_ble_eq_true rfl)
  rw [lg_entry_eq]
  generalize (lg_sl ([.ref st, .int (nI q)]) ++ List.replicate (3 - (lg_sl ([.ref st, .int (nI q)])).length) Slot.unset).toArray = ls at hl ⊢
  have hl : lv_has ls 3 [(0, .ref st), (1, .int (nI q))] := hl
  have hFX8 : ∀ w ∈ u_ws RX8 TX8 15, w ∈ wsX8_setCranes := by decide +kernel
  refine lv_iload_n hx hb dX8_setCranes_0 rfl (lv_at hl 1 rfl) ?_
  refine lv_iconst (v := 1) hx hb dX8_setCranes_1 (by decide) ?_
  refine lv_bipush (v := 6) hx hb dX8_setCranes_2 (by decide) ?_
  have hPc := hP.sub (ws' := []) [] rfl
  have hDc := hD.sub (ws' := []) [] (by decide) rfl
  have hFc := xFree hS hA
  refine va_callv (va_runS (As := [.int (nI q), .int 1, .int 6]) (rest := []) ⟨hx, hb, hml, hown, hts⟩ (n_within l g s.heap.size ((q : Nat) : Int) 1 6 (by first | assumption | omega) (by first | assumption | omega)) (va_cwS 3 hts gX8_setCranes_X8_needWithin rfl rfl rfl (by decide +kernel) ⟨Nat.le_of_ble_eq_true rfl, Nat.le_of_ble_eq_true rfl⟩) ⟨xB.blind, fun U9 hU9 hW9 => ⟨rfl, xB.mk hPc hK hDc hU9 hW9⟩⟩ rfl rfl hl.1 rfl (lv_room (Nat.le_of_ble_eq_true rfl)) dX8_setCranes_4 ⟨Nat.le_of_ble_eq_true rfl, Nat.le_of_ble_eq_true rfl⟩) hS (fun q _ h => hFc q h) hFc (fun _ t H1 locs ht hvm hw_2 hB hz1 hk1 hS => ?_)
  have hP := xSame hP hk1
  generalize H1 = H at hP hS ⊢
  have hP : va_P (xD g) vwCl [(st, .inr (8, [s0, .int (nI cr0), s2, s3, s4, s5, s6, s7, .ref pn, s9, s10, s11, .ref ag, .ref ya, s14])), (pn, .inr (4, [q0, q1, q2, q3])), (ag, .inr (0, [g0, g1])), (ya, .inr (7, [y0, y1, y2, y3, .ref he, y5, y6, y7, .ref sa, .ref so2, y10])), (he, .inl (xI g, 12, .inl (fun j => nI (hgt j)))), (sa, .inl (xI g, 24, .inl (fun j => iI (stt j)))), (so2, .inl (xI g, 24, .inl (fun j => iI (oo j))))] H := hP
  have hD : va_D A [(st, .inr (8, [s0, .int (nI cr0), s2, s3, s4, s5, s6, s7, .ref pn, s9, s10, s11, .ref ag, .ref ya, s14])), (pn, .inr (4, [q0, q1, q2, q3])), (ag, .inr (0, [g0, g1])), (ya, .inr (7, [y0, y1, y2, y3, .ref he, y5, y6, y7, .ref sa, .ref so2, y10])), (he, .inl (xI g, 12, .inl (fun j => nI (hgt j)))), (sa, .inl (xI g, 24, .inl (fun j => iI (stt j)))), (so2, .inl (xI g, 24, .inl (fun j => iI (oo j))))] := hD
  try dsimp only at hw_2
  refine lv_aload_n hx hb dX8_setCranes_7 rfl (lv_at hl 0 rfl) ?_
  refine va_get (D := xD g) (ci := 8) (v := .int (nI cr0)) (C := RX8) (T := TX8) (N := 15) hx hb hts hFX8 hown hK hP 0 rfl rfl 1 (by decide) (hts (.fieldLink RX8 13 "Stevedore" "cranes" "I") (by decide +kernel)) (fun _ h9 => h9) rfl dX8_setCranes_8 ?_
  refine lv_istore_n (lv' := [(2, .int (nI cr0)), (0, .ref st), (1, .int (nI q))]) hx hb dX8_setCranes_11 rfl hl (by decide) rfl (fun ls hl => ?_)
  refine lv_aload_n hx hb dX8_setCranes_12 rfl (lv_at hl 1 rfl) ?_
  refine lv_iload_n hx hb dX8_setCranes_13 rfl (lv_at hl 2 rfl) ?_
  refine va_put (D := xD g) (ci := 8) (v := .int (nI q)) (ty := .int) (C := RX8) (T := TX8) (N := 15) hx hb hts hFX8 tyX8 tyX8_ok nmX8 hown hK hP hD hS 0 rfl rfl 1 (by decide) (hts (.fieldLink RX8 13 "Stevedore" "cranes" "I") (by decide +kernel)) (fun _ h9 => h9) rfl (by decide +kernel) rfl rfl (Nat.le_of_ble_eq_true rfl) dX8_setCranes_14 (fun H locs hP hD hS => ?_)
  have hP : va_P (xD g) vwCl [(st, .inr (8, [s0, .int (nI q), s2, s3, s4, s5, s6, s7, .ref pn, s9, s10, s11, .ref ag, .ref ya, s14])), (pn, .inr (4, [q0, q1, q2, q3])), (ag, .inr (0, [g0, g1])), (ya, .inr (7, [y0, y1, y2, y3, .ref he, y5, y6, y7, .ref sa, .ref so2, y10])), (he, .inl (xI g, 12, .inl (fun j => nI (hgt j)))), (sa, .inl (xI g, 24, .inl (fun j => iI (stt j)))), (so2, .inl (xI g, 24, .inl (fun j => iI (oo j))))] H := hP
  have hD : va_D A [(st, .inr (8, [s0, .int (nI q), s2, s3, s4, s5, s6, s7, .ref pn, s9, s10, s11, .ref ag, .ref ya, s14])), (pn, .inr (4, [q0, q1, q2, q3])), (ag, .inr (0, [g0, g1])), (ya, .inr (7, [y0, y1, y2, y3, .ref he, y5, y6, y7, .ref sa, .ref so2, y10])), (he, .inl (xI g, 12, .inl (fun j => nI (hgt j)))), (sa, .inl (xI g, 24, .inl (fun j => iI (stt j)))), (so2, .inl (xI g, 24, .inl (fun j => iI (oo j))))] := hD
  refine lv_aload_n hx hb dX8_setCranes_17 rfl (lv_at hl 1 rfl) ?_
  have hPc := hP.sub (ws' := [(st, .inr (8, [s0, .int (nI q), s2, s3, s4, s5, s6, s7, .ref pn, s9, s10, s11, .ref ag, .ref ya, s14])), (pn, .inr (4, [q0, q1, q2, q3])), (ag, .inr (0, [g0, g1])), (ya, .inr (7, [y0, y1, y2, y3, .ref he, y5, y6, y7, .ref sa, .ref so2, y10])), (he, .inl (xI g, 12, .inl (fun j => nI (hgt j)))), (sa, .inl (xI g, 24, .inl (fun j => iI (stt j)))), (so2, .inl (xI g, 24, .inl (fun j => iI (oo j))))]) [0, 1, 2, 3, 4, 5, 6] rfl
  have hDc := hD.sub (ws' := [(st, .inr (8, [s0, .int (nI q), s2, s3, s4, s5, s6, s7, .ref pn, s9, s10, s11, .ref ag, .ref ya, s14])), (pn, .inr (4, [q0, q1, q2, q3])), (ag, .inr (0, [g0, g1])), (ya, .inr (7, [y0, y1, y2, y3, .ref he, y5, y6, y7, .ref sa, .ref so2, y10])), (he, .inl (xI g, 12, .inl (fun j => nI (hgt j)))), (sa, .inl (xI g, 24, .inl (fun j => iI (stt j)))), (so2, .inl (xI g, 24, .inl (fun j => iI (oo j))))]) [0, 1, 2, 3, 4, 5, 6] (by decide) rfl
  have hFc := va_free (wc := [(st, .inr (8, [s0, .int (nI q), s2, s3, s4, s5, s6, s7, .ref pn, s9, s10, s11, .ref ag, .ref ya, s14])), (pn, .inr (4, [q0, q1, q2, q3])), (ag, .inr (0, [g0, g1])), (ya, .inr (7, [y0, y1, y2, y3, .ref he, y5, y6, y7, .ref sa, .ref so2, y10])), (he, .inl (xI g, 12, .inl (fun j => nI (hgt j)))), (sa, .inl (xI g, 24, .inl (fun j => iI (stt j)))), (so2, .inl (xI g, 24, .inl (fun j => iI (oo j))))]) hD hS hA [0, 1, 2, 3, 4, 5, 6] rfl
  refine va_callv (va_runV (As := []) (rest := []) ⟨hx, hb, hml, hown, hts⟩ (t_forgetPlan l g H.size st pn ag ya he sa so2 s0 (.int (nI q)) s2 s3 s4 s5 s6 s7 s9 s10 s11 s14 q0 q1 q2 q3 g0 g1 y0 y1 y2 y3 y5 y6 y7 y10 hgt stt oo b_hgt b_stt b_oo) (cwV 0 hts gX8_setCranes_X8_forgetPlan rfl rfl rfl (by decide +kernel) ⟨Nat.le_of_ble_eq_true rfl, Nat.le_of_ble_eq_true rfl⟩) ⟨xB.blind, va_recv hK hPc (ci := 8) (q0 := 0) rfl rfl, fun U9 hU9 hW9 => ⟨rfl, xB.mk hPc hK hDc hU9 hW9⟩⟩ rfl rfl hl.1 rfl (lv_room (Nat.le_of_ble_eq_true rfl)) dX8_setCranes_18 ⟨Nat.le_of_ble_eq_true rfl, Nat.le_of_ble_eq_true rfl⟩) hS (fun q _ h => hFc q h) hFc (fun _ t H1 locs ht hvm hw_4 hB hz1 hk1 hS => ?_)
  obtain ⟨hb_5, hb_6, hb_7, hP1, hK1, hD1⟩ := hB
  rw [ht] at hP1
  obtain ⟨hP, hD⟩ := va_join (wr := []) (w1 := [(st, .inr (8, [s0, .int (nI q), s2, s3, s4, s5, s6, s7, .ref pn, s9, .int 0, s11, .ref ag, .ref ya, s14])), (pn, .inr (4, [.int 0, q1, q2, q3])), (ag, .inr (0, [.int 0, g1])), (ya, .inr (7, [y0, .int 0, .int 0, y3, .ref he, y5, y6, y7, .ref sa, .ref so2, y10])), (he, .inl (xI g, 12, .inl (fun j => nI ((fun (_ : Nat) => (0 : Nat)) j)))), (sa, .inl (xI g, 24, .inl (fun j => iI ((fun (_ : Nat) => (0 : Int)) j)))), (so2, .inl (xI g, 24, .inl (fun j => iI ((fun (_ : Nat) => (-1 : Int)) j))))]) hP hD [0, 1, 2, 3, 4, 5, 6] [] rfl rfl (by decide) (by decide) hk1 hFc hP1 hD1
  generalize H1 = H at hP hS ⊢
  have hP : va_P (xD g) vwCl [(st, .inr (8, [s0, .int (nI q), s2, s3, s4, s5, s6, s7, .ref pn, s9, .int 0, s11, .ref ag, .ref ya, s14])), (pn, .inr (4, [.int 0, q1, q2, q3])), (ag, .inr (0, [.int 0, g1])), (ya, .inr (7, [y0, .int 0, .int 0, y3, .ref he, y5, y6, y7, .ref sa, .ref so2, y10])), (he, .inl (xI g, 12, .inl (fun j => nI ((fun (_ : Nat) => (0 : Nat)) j)))), (sa, .inl (xI g, 24, .inl (fun j => iI ((fun (_ : Nat) => (0 : Int)) j)))), (so2, .inl (xI g, 24, .inl (fun j => iI ((fun (_ : Nat) => (-1 : Int)) j))))] H := hP
  have hD : va_D A [(st, .inr (8, [s0, .int (nI q), s2, s3, s4, s5, s6, s7, .ref pn, s9, .int 0, s11, .ref ag, .ref ya, s14])), (pn, .inr (4, [.int 0, q1, q2, q3])), (ag, .inr (0, [.int 0, g1])), (ya, .inr (7, [y0, .int 0, .int 0, y3, .ref he, y5, y6, y7, .ref sa, .ref so2, y10])), (he, .inl (xI g, 12, .inl (fun j => nI ((fun (_ : Nat) => (0 : Nat)) j)))), (sa, .inl (xI g, 24, .inl (fun j => iI ((fun (_ : Nat) => (0 : Int)) j)))), (so2, .inl (xI g, 24, .inl (fun j => iI ((fun (_ : Nat) => (-1 : Int)) j))))] := hD
  try dsimp only at hw_4
  refine lv_iload_n hx hb dX8_setCranes_21 rfl (lv_at hl 0 rfl) ?_
  have hP9 := hP
  have hD9 := hD
  exact W.iret (v := nI cr0) hx hb hr (fun t ht hW => ⟨⟨nI cr0, (), rfl, (by first | trivial | rfl | assumption | omega), ⟨hb_5, hb_6, hb_7, by rw [ht]; exact hP9, va_K.moved hW.alike hK, hD9⟩⟩, hS.F ht⟩) hS.2.2 dX8_setCranes_22
theorem dX8_setRoom_0 : decode cX8_setRoom 0 = .ok (.iload_n 1, 1) := by decide +kernel
theorem dX8_setRoom_1 : decode cX8_setRoom 1 = .ok (.invokestatic 159, 3) := by decide +kernel
set_option maxRecDepth 20000 in
theorem ggX8_setRoom_X8_needSlot : GoodIn wsX8_setRoom wsX8_needSlot := goodIn_ca (goodIn_r _ [5, 6, 7] rfl (by decide +kernel)) (goodIn_sub (fun _ h => List.mem_cons_of_mem _ (List.mem_append_left _ (List.mem_append_right _ h))) (by decide +kernel))
set_option maxRecDepth 20000 in
theorem gX8_setRoom_X8_needSlot : GoodIn wsX8_setRoom (va_wsS RX8 159 yX8_needSlot wsX8_needSlot) := goodIn_app (goodIn_of _ (by decide +kernel)) ggX8_setRoom_X8_needSlot
theorem dX8_setRoom_4 : decode cX8_setRoom 4 = .ok (.iload_n 2, 1) := by decide +kernel
theorem dX8_setRoom_5 : decode cX8_setRoom 5 = .ok (.iconst 0, 1) := by decide +kernel
theorem dX8_setRoom_6 : decode cX8_setRoom 6 = .ok (.bipush 6, 2) := by decide +kernel
theorem dX8_setRoom_8 : decode cX8_setRoom 8 = .ok (.invokestatic 88, 3) := by decide +kernel
set_option maxRecDepth 20000 in
theorem ggX8_setRoom_X8_needWithin : GoodIn wsX8_setRoom wsX8_needWithin := goodIn_ca (goodIn_r _ [10, 11, 12] rfl (by decide +kernel)) (goodIn_sub (fun _ h => List.mem_cons_of_mem _ (List.mem_append_right _ h)) (by decide +kernel))
set_option maxRecDepth 20000 in
theorem gX8_setRoom_X8_needWithin : GoodIn wsX8_setRoom (va_wsS RX8 88 yX8_needWithin wsX8_needWithin) := goodIn_app (goodIn_of _ (by decide +kernel)) ggX8_setRoom_X8_needWithin
theorem dX8_setRoom_11 : decode cX8_setRoom 11 = .ok (.aload_n 0, 1) := by decide +kernel
theorem dX8_setRoom_12 : decode cX8_setRoom 12 = .ok (.getfield 30, 3) := by decide +kernel
theorem dX8_setRoom_15 : decode cX8_setRoom 15 = .ok (.iload_n 1, 1) := by decide +kernel
theorem dX8_setRoom_16 : decode cX8_setRoom 16 = .ok (.iaload, 1) := by decide +kernel
theorem dX8_setRoom_17 : decode cX8_setRoom 17 = .ok (.istore_n 3, 1) := by decide +kernel
theorem dX8_setRoom_18 : decode cX8_setRoom 18 = .ok (.aload_n 0, 1) := by decide +kernel
theorem dX8_setRoom_19 : decode cX8_setRoom 19 = .ok (.getfield 30, 3) := by decide +kernel
theorem dX8_setRoom_22 : decode cX8_setRoom 22 = .ok (.iload_n 1, 1) := by decide +kernel
theorem dX8_setRoom_23 : decode cX8_setRoom 23 = .ok (.iload_n 2, 1) := by decide +kernel
theorem dX8_setRoom_24 : decode cX8_setRoom 24 = .ok (.iastore, 1) := by decide +kernel
theorem dX8_setRoom_25 : decode cX8_setRoom 25 = .ok (.aload_n 0, 1) := by decide +kernel
theorem dX8_setRoom_26 : decode cX8_setRoom 26 = .ok (.invokevirtual 156, 3) := by decide +kernel
set_option maxRecDepth 20000 in
theorem ggX8_setRoom_X8_forgetSlots : GoodIn wsX8_setRoom wsX8_forgetSlots := goodIn_r _ [16, 17, 18, 19, 20, 21, 22, 23, 24, 25, 26, 27, 28, 29, 30, 31, 32, 33, 34, 35, 36, 37, 38, 39, 40, 41, 42, 43, 44, 45, 46, 47, 48, 49, 50, 51, 52, 53, 54, 55, 56, 57, 58, 59, 60, 61, 62] rfl (by decide +kernel)
set_option maxRecDepth 20000 in
theorem gX8_setRoom_X8_forgetSlots : GoodIn wsX8_setRoom (wsV RX8 156 RX8 yX8_forgetSlots wsX8_forgetSlots) := goodIn_app (goodIn_of _ (by decide +kernel)) ggX8_setRoom_X8_forgetSlots
theorem dX8_setRoom_29 : decode cX8_setRoom 29 = .ok (.iload_n 3, 1) := by decide +kernel
theorem dX8_setRoom_30 : decode cX8_setRoom 30 = .ok (.ireturn, 1) := by decide +kernel
set_option maxHeartbeats 4000000 in
set_option maxRecDepth 100000 in
theorem t_setRoom (l : Launch) (g : xG) (sz : Nat) (st : Nat) (rm : Nat) (ag : Nat) (ya : Nat) (he : Nat) (sa : Nat) (so2 : Nat) (k : Nat) (q : Nat) (s0 : Value) (s1 : Value) (s2 : Value) (s3 : Value) (s4 : Value) (s6 : Value) (s7 : Value) (s8 : Value) (s9 : Value) (s10 : Value) (s11 : Value) (s14 : Value) (g0 : Value) (g1 : Value) (y0 : Value) (y1 : Value) (y2 : Value) (y3 : Value) (y5 : Value) (y6 : Value) (y7 : Value) (y10 : Value) (hgt : Nat → Nat) (rmz : Nat → Int) (stt : Nat → Int) (oo : Nat → Int)  (hk : k < 16) (hq : q ≤ 6) (b_hgt : ∀ j, hgt j ≤ 5) (b_stt : ∀ j, 0 ≤ stt j ∧ stt j ≤ 4) (b_oo : ∀ j, (-1) ≤ oo j ∧ oo j ≤ 11) (b_rmz : ∀ j, 0 ≤ rmz j ∧ rmz j ≤ 6) : Met l yX8_setRoom wsX8_setRoom ({ frames := 3, cells := 0, slots := 0, locals := 63 }) (va_Pc [.ref st, .int (nI k), .int (nI q)] (fun U => xB g [(st, .inr (8, [s0, s1, s2, s3, s4, .ref rm, s6, s7, s8, s9, s10, s11, .ref ag, .ref ya, s14])), (ag, .inr (0, [g0, g1])), (ya, .inr (7, [y0, y1, y2, y3, .ref he, y5, y6, y7, .ref sa, .ref so2, y10])), (he, .inl (xI g, 12, .inl (fun j => nI (hgt j)))), (sa, .inl (xI g, 24, .inl (fun j => iI (stt j)))), (so2, .inl (xI g, 24, .inl (fun j => iI (oo j)))), (rm, .inl (xI g, 16, .inl (fun j => iI (rmz j))))] sz U)) (va_Qi (fun (r : Int32) (_ : Unit) => True) (fun (_ : Unit) (t : State) => (∀ j, (fun (_ : Nat) => (0 : Nat)) j ≤ 5) ∧ (∀ j, 0 ≤ (fun (_ : Nat) => (0 : Int)) j ∧ (fun (_ : Nat) => (0 : Int)) j ≤ 4) ∧ (∀ j, (-1) ≤ (fun (_ : Nat) => (-1 : Int)) j ∧ (fun (_ : Nat) => (-1 : Int)) j ≤ 11) ∧ (∀ j, 0 ≤ (zU rmz k ((q : Nat) : Int)) j ∧ (zU rmz k ((q : Nat) : Int)) j ≤ 6) ∧ xE g [(st, .inr (8, [s0, s1, s2, s3, s4, .ref rm, s6, s7, s8, s9, .int 0, s11, .ref ag, .ref ya, s14])), (ag, .inr (0, [.int 0, g1])), (ya, .inr (7, [y0, .int 0, .int 0, y3, .ref he, y5, y6, y7, .ref sa, .ref so2, y10])), (he, .inl (xI g, 12, .inl (fun j => nI ((fun (_ : Nat) => (0 : Nat)) j)))), (sa, .inl (xI g, 24, .inl (fun j => iI ((fun (_ : Nat) => (0 : Int)) j)))), (so2, .inl (xI g, 24, .inl (fun j => iI ((fun (_ : Nat) => (-1 : Int)) j)))), (rm, .inl (xI g, 16, .inl (fun j => iI ((zU rmz k ((q : Nat) : Int)) j))))] (va_A [(st, .inr (8, [s0, s1, s2, s3, s4, .ref rm, s6, s7, s8, s9, s10, s11, .ref ag, .ref ya, s14])), (ag, .inr (0, [g0, g1])), (ya, .inr (7, [y0, y1, y2, y3, .ref he, y5, y6, y7, .ref sa, .ref so2, y10])), (he, .inl (xI g, 12, .inl (fun j => nI (hgt j)))), (sa, .inl (xI g, 24, .inl (fun j => iI (stt j)))), (so2, .inl (xI g, 24, .inl (fun j => iI (oo j)))), (rm, .inl (xI g, 16, .inl (fun j => iI (rmz j))))] sz) t) (va_A [(st, .inr (8, [s0, s1, s2, s3, s4, .ref rm, s6, s7, s8, s9, s10, s11, .ref ag, .ref ya, s14])), (ag, .inr (0, [g0, g1])), (ya, .inr (7, [y0, y1, y2, y3, .ref he, y5, y6, y7, .ref sa, .ref so2, y10])), (he, .inl (xI g, 12, .inl (fun j => nI (hgt j)))), (sa, .inl (xI g, 24, .inl (fun j => iI (stt j)))), (so2, .inl (xI g, 24, .inl (fun j => iI (oo j)))), (rm, .inl (xI g, 16, .inl (fun j => iI (rmz j))))] sz)) 0 0 (va_A [(st, .inr (8, [s0, s1, s2, s3, s4, .ref rm, s6, s7, s8, s9, s10, s11, .ref ag, .ref ya, s14])), (ag, .inr (0, [g0, g1])), (ya, .inr (7, [y0, y1, y2, y3, .ref he, y5, y6, y7, .ref sa, .ref so2, y10])), (he, .inl (xI g, 12, .inl (fun j => nI (hgt j)))), (sa, .inl (xI g, 24, .inl (fun j => iI (stt j)))), (so2, .inl (xI g, 24, .inl (fun j => iI (oo j)))), (rm, .inl (xI g, 16, .inl (fun j => iI (rmz j))))] sz) := by
  refine Met.ofW (cc := cX8_setRoom) (maxL := 4) (ret := (some .int)) (by decide) rfl ?_
  intro p e s m args below meth c s₁ B hml hv
  obtain ⟨rfl, hsz, hP, hK, hD0⟩ := hv
  have hx := B.exec
  have hb := B.bytes
  have hr := B.returns
  have hts := atoms_spec (ws := wsX8_setRoom) B.pre
  have hown : s.vm.findClass RX8 = some m.cls := findClass_of_methodNamed B.named
  have hlocks := B.notSynchronized
  subst hsz
  have hD := hD0.self (sz := s.heap.size)
  generalize hAe : va_A [(st, .inr (8, [s0, s1, s2, s3, s4, .ref rm, s6, s7, s8, s9, s10, s11, .ref ag, .ref ya, s14])), (ag, .inr (0, [g0, g1])), (ya, .inr (7, [y0, y1, y2, y3, .ref he, y5, y6, y7, .ref sa, .ref so2, y10])), (he, .inl (xI g, 12, .inl (fun j => nI (hgt j)))), (sa, .inl (xI g, 24, .inl (fun j => iI (stt j)))), (so2, .inl (xI g, 24, .inl (fun j => iI (oo j)))), (rm, .inl (xI g, 16, .inl (fun j => iI (rmz j))))] s.heap.size = A at hD ⊢
  have hA : ∀ q : Nat, s.heap.size ≤ q → A q := fun q h => by rw [← hAe]; exact Or.inr h
  have hS : va_S A s.heap s.heap [] := va_S.rf
  have hl := lv_entry ([.ref st, .int (nI k), .int (nI q)]) (n := 4) (Nat.le_of_ble_eq_true rfl)
  rw [lg_entry_eq]
  generalize (lg_sl ([.ref st, .int (nI k), .int (nI q)]) ++ List.replicate (4 - (lg_sl ([.ref st, .int (nI k), .int (nI q)])).length) Slot.unset).toArray = ls at hl ⊢
  have hl : lv_has ls 4 [(0, .ref st), (1, .int (nI k)), (2, .int (nI q))] := hl
  have hFX8 : ∀ w ∈ u_ws RX8 TX8 15, w ∈ wsX8_setRoom := by decide +kernel
  refine lv_iload_n hx hb dX8_setRoom_0 rfl (lv_at hl 1 rfl) ?_
  have hPc := hP.sub (ws' := []) [] rfl
  have hDc := hD.sub (ws' := []) [] (by decide) rfl
  have hFc := xFree hS hA
  refine va_callv (va_runS (As := [.int (nI k)]) (rest := []) ⟨hx, hb, hml, hown, hts⟩ (n_slot l g s.heap.size ((k : Nat) : Int) (by first | assumption | omega)) (va_cwS 1 hts gX8_setRoom_X8_needSlot rfl rfl rfl (by decide +kernel) ⟨Nat.le_of_ble_eq_true rfl, Nat.le_of_ble_eq_true rfl⟩) ⟨xB.blind, fun U9 hU9 hW9 => ⟨rfl, xB.mk hPc hK hDc hU9 hW9⟩⟩ rfl rfl hl.1 rfl (lv_room (Nat.le_of_ble_eq_true rfl)) dX8_setRoom_1 ⟨Nat.le_of_ble_eq_true rfl, Nat.le_of_ble_eq_true rfl⟩) hS (fun q _ h => hFc q h) hFc (fun _ t H1 locs ht hvm hw_2 hB hz1 hk1 hS => ?_)
  have hP := xSame hP hk1
  generalize H1 = H at hP hS ⊢
  have hP : va_P (xD g) vwCl [(st, .inr (8, [s0, s1, s2, s3, s4, .ref rm, s6, s7, s8, s9, s10, s11, .ref ag, .ref ya, s14])), (ag, .inr (0, [g0, g1])), (ya, .inr (7, [y0, y1, y2, y3, .ref he, y5, y6, y7, .ref sa, .ref so2, y10])), (he, .inl (xI g, 12, .inl (fun j => nI (hgt j)))), (sa, .inl (xI g, 24, .inl (fun j => iI (stt j)))), (so2, .inl (xI g, 24, .inl (fun j => iI (oo j)))), (rm, .inl (xI g, 16, .inl (fun j => iI (rmz j))))] H := hP
  have hD : va_D A [(st, .inr (8, [s0, s1, s2, s3, s4, .ref rm, s6, s7, s8, s9, s10, s11, .ref ag, .ref ya, s14])), (ag, .inr (0, [g0, g1])), (ya, .inr (7, [y0, y1, y2, y3, .ref he, y5, y6, y7, .ref sa, .ref so2, y10])), (he, .inl (xI g, 12, .inl (fun j => nI (hgt j)))), (sa, .inl (xI g, 24, .inl (fun j => iI (stt j)))), (so2, .inl (xI g, 24, .inl (fun j => iI (oo j)))), (rm, .inl (xI g, 16, .inl (fun j => iI (rmz j))))] := hD
  try dsimp only at hw_2
  refine lv_iload_n hx hb dX8_setRoom_4 rfl (lv_at hl 2 rfl) ?_
  refine lv_iconst (v := 0) hx hb dX8_setRoom_5 (by decide) ?_
  refine lv_bipush (v := 6) hx hb dX8_setRoom_6 (by decide) ?_
  have hPc := hP.sub (ws' := []) [] rfl
  have hDc := hD.sub (ws' := []) [] (by decide) rfl
  have hFc := xFree hS hA
  refine va_callv (va_runS (As := [.int (nI q), .int 0, .int 6]) (rest := []) ⟨hx, hb, hml, hown, hts⟩ (n_within l g H.size ((q : Nat) : Int) 0 6 (by first | assumption | omega) (by first | assumption | omega)) (va_cwS 3 hts gX8_setRoom_X8_needWithin rfl rfl rfl (by decide +kernel) ⟨Nat.le_of_ble_eq_true rfl, Nat.le_of_ble_eq_true rfl⟩) ⟨xB.blind, fun U9 hU9 hW9 => ⟨rfl, xB.mk hPc hK hDc hU9 hW9⟩⟩ rfl rfl hl.1 rfl (lv_room (Nat.le_of_ble_eq_true rfl)) dX8_setRoom_8 ⟨Nat.le_of_ble_eq_true rfl, Nat.le_of_ble_eq_true rfl⟩) hS (fun q _ h => hFc q h) hFc (fun _ t H1 locs ht hvm hw_4 hB hz1 hk1 hS => ?_)
  have hP := xSame hP hk1
  generalize H1 = H at hP hS ⊢
  have hP : va_P (xD g) vwCl [(st, .inr (8, [s0, s1, s2, s3, s4, .ref rm, s6, s7, s8, s9, s10, s11, .ref ag, .ref ya, s14])), (ag, .inr (0, [g0, g1])), (ya, .inr (7, [y0, y1, y2, y3, .ref he, y5, y6, y7, .ref sa, .ref so2, y10])), (he, .inl (xI g, 12, .inl (fun j => nI (hgt j)))), (sa, .inl (xI g, 24, .inl (fun j => iI (stt j)))), (so2, .inl (xI g, 24, .inl (fun j => iI (oo j)))), (rm, .inl (xI g, 16, .inl (fun j => iI (rmz j))))] H := hP
  have hD : va_D A [(st, .inr (8, [s0, s1, s2, s3, s4, .ref rm, s6, s7, s8, s9, s10, s11, .ref ag, .ref ya, s14])), (ag, .inr (0, [g0, g1])), (ya, .inr (7, [y0, y1, y2, y3, .ref he, y5, y6, y7, .ref sa, .ref so2, y10])), (he, .inl (xI g, 12, .inl (fun j => nI (hgt j)))), (sa, .inl (xI g, 24, .inl (fun j => iI (stt j)))), (so2, .inl (xI g, 24, .inl (fun j => iI (oo j)))), (rm, .inl (xI g, 16, .inl (fun j => iI (rmz j))))] := hD
  try dsimp only at hw_4
  refine lv_aload_n hx hb dX8_setRoom_11 rfl (lv_at hl 0 rfl) ?_
  refine va_get (D := xD g) (ci := 8) (v := .ref rm) (C := RX8) (T := TX8) (N := 15) hx hb hts hFX8 hown hK hP 0 rfl rfl 5 (by decide) (hts (.fieldLink RX8 30 "Stevedore" "room" "[I") (by decide +kernel)) (fun _ h9 => h9) rfl dX8_setRoom_12 ?_
  refine lv_iload_n hx hb dX8_setRoom_15 rfl (lv_at hl 1 rfl) ?_
  refine va_iald hx hb hK hP 6 0 rfl rfl (vp_in_nI (by omega) (by omega)) dX8_setRoom_16 ?_
  refine lv_topi (fun v_5 ev => ?_)
  obtain rfl : v_5 = iI (rmz k) := ev.trans (congrArg (fun q9 => iI (rmz q9)) (nI_clamp (by omega)))
  have b_6 := b_rmz k
  refine lv_istore_n (lv' := [(3, .int (iI (rmz k))), (0, .ref st), (1, .int (nI k)), (2, .int (nI q))]) hx hb dX8_setRoom_17 rfl hl (by decide) rfl (fun ls hl => ?_)
  refine lv_aload_n hx hb dX8_setRoom_18 rfl (lv_at hl 1 rfl) ?_
  refine va_get (D := xD g) (ci := 8) (v := .ref rm) (C := RX8) (T := TX8) (N := 15) hx hb hts hFX8 hown hK hP 0 rfl rfl 5 (by decide) (hts (.fieldLink RX8 30 "Stevedore" "room" "[I") (by decide +kernel)) (fun _ h9 => h9) rfl dX8_setRoom_19 ?_
  refine lv_iload_n hx hb dX8_setRoom_22 rfl (lv_at hl 2 rfl) ?_
  refine lv_iload_n hx hb dX8_setRoom_23 rfl (lv_at hl 3 rfl) ?_
  refine va_iast (x := nI q) hx hb hK hP hD hS 6 0 rfl rfl (vp_in_nI (by omega) (by omega)) dX8_setRoom_24 (fun H locs hP hD hS => ?_)
  rw [iU (f := rmz) (k := k) (v := ((q : Nat) : Int)) (nI_clamp (by omega)) (iI_nI _)] at hP hD
  have hb_7 : ∀ j, 0 ≤ (zU rmz k ((q : Nat) : Int)) j ∧ (zU rmz k ((q : Nat) : Int)) j ≤ 6 := zU_all (P := fun q9 => 0 ≤ q9 ∧ q9 ≤ 6) b_rmz (by omega)
  have hP : va_P (xD g) vwCl [(st, .inr (8, [s0, s1, s2, s3, s4, .ref rm, s6, s7, s8, s9, s10, s11, .ref ag, .ref ya, s14])), (ag, .inr (0, [g0, g1])), (ya, .inr (7, [y0, y1, y2, y3, .ref he, y5, y6, y7, .ref sa, .ref so2, y10])), (he, .inl (xI g, 12, .inl (fun j => nI (hgt j)))), (sa, .inl (xI g, 24, .inl (fun j => iI (stt j)))), (so2, .inl (xI g, 24, .inl (fun j => iI (oo j)))), (rm, .inl (xI g, 16, .inl (fun j => iI ((zU rmz k ((q : Nat) : Int)) j))))] H := hP
  have hD : va_D A [(st, .inr (8, [s0, s1, s2, s3, s4, .ref rm, s6, s7, s8, s9, s10, s11, .ref ag, .ref ya, s14])), (ag, .inr (0, [g0, g1])), (ya, .inr (7, [y0, y1, y2, y3, .ref he, y5, y6, y7, .ref sa, .ref so2, y10])), (he, .inl (xI g, 12, .inl (fun j => nI (hgt j)))), (sa, .inl (xI g, 24, .inl (fun j => iI (stt j)))), (so2, .inl (xI g, 24, .inl (fun j => iI (oo j)))), (rm, .inl (xI g, 16, .inl (fun j => iI ((zU rmz k ((q : Nat) : Int)) j))))] := hD
  refine lv_aload_n hx hb dX8_setRoom_25 rfl (lv_at hl 1 rfl) ?_
  have hPc := hP.sub (ws' := [(st, .inr (8, [s0, s1, s2, s3, s4, .ref rm, s6, s7, s8, s9, s10, s11, .ref ag, .ref ya, s14])), (ag, .inr (0, [g0, g1])), (ya, .inr (7, [y0, y1, y2, y3, .ref he, y5, y6, y7, .ref sa, .ref so2, y10])), (he, .inl (xI g, 12, .inl (fun j => nI (hgt j)))), (sa, .inl (xI g, 24, .inl (fun j => iI (stt j)))), (so2, .inl (xI g, 24, .inl (fun j => iI (oo j))))]) [0, 1, 2, 3, 4, 5] rfl
  have hDc := hD.sub (ws' := [(st, .inr (8, [s0, s1, s2, s3, s4, .ref rm, s6, s7, s8, s9, s10, s11, .ref ag, .ref ya, s14])), (ag, .inr (0, [g0, g1])), (ya, .inr (7, [y0, y1, y2, y3, .ref he, y5, y6, y7, .ref sa, .ref so2, y10])), (he, .inl (xI g, 12, .inl (fun j => nI (hgt j)))), (sa, .inl (xI g, 24, .inl (fun j => iI (stt j)))), (so2, .inl (xI g, 24, .inl (fun j => iI (oo j))))]) [0, 1, 2, 3, 4, 5] (by decide) rfl
  have hFc := va_free (wc := [(st, .inr (8, [s0, s1, s2, s3, s4, .ref rm, s6, s7, s8, s9, s10, s11, .ref ag, .ref ya, s14])), (ag, .inr (0, [g0, g1])), (ya, .inr (7, [y0, y1, y2, y3, .ref he, y5, y6, y7, .ref sa, .ref so2, y10])), (he, .inl (xI g, 12, .inl (fun j => nI (hgt j)))), (sa, .inl (xI g, 24, .inl (fun j => iI (stt j)))), (so2, .inl (xI g, 24, .inl (fun j => iI (oo j))))]) hD hS hA [0, 1, 2, 3, 4, 5] rfl
  refine va_callv (va_runV (As := []) (rest := []) ⟨hx, hb, hml, hown, hts⟩ (t_forgetSlots l g H.size st ag ya he sa so2 s0 s1 s2 s3 s4 (.ref rm) s6 s7 s8 s9 s10 s11 s14 g0 g1 y0 y1 y2 y3 y5 y6 y7 y10 hgt stt oo b_hgt b_stt b_oo) (cwV 0 hts gX8_setRoom_X8_forgetSlots rfl rfl rfl (by decide +kernel) ⟨Nat.le_of_ble_eq_true rfl, Nat.le_of_ble_eq_true rfl⟩) ⟨xB.blind, va_recv hK hPc (ci := 8) (q0 := 0) rfl rfl, fun U9 hU9 hW9 => ⟨rfl, xB.mk hPc hK hDc hU9 hW9⟩⟩ rfl rfl hl.1 rfl (lv_room (Nat.le_of_ble_eq_true rfl)) dX8_setRoom_26 ⟨Nat.le_of_ble_eq_true rfl, Nat.le_of_ble_eq_true rfl⟩) hS (fun q _ h => hFc q h) hFc (fun _ t H1 locs ht hvm hw_9 hB hz1 hk1 hS => ?_)
  obtain ⟨hb_10, hb_11, hb_12, hP1, hK1, hD1⟩ := hB
  rw [ht] at hP1
  obtain ⟨hP, hD⟩ := va_join (wr := [(rm, .inl (xI g, 16, .inl (fun j => iI ((zU rmz k ((q : Nat) : Int)) j))))]) (w1 := [(st, .inr (8, [s0, s1, s2, s3, s4, .ref rm, s6, s7, s8, s9, .int 0, s11, .ref ag, .ref ya, s14])), (ag, .inr (0, [.int 0, g1])), (ya, .inr (7, [y0, .int 0, .int 0, y3, .ref he, y5, y6, y7, .ref sa, .ref so2, y10])), (he, .inl (xI g, 12, .inl (fun j => nI ((fun (_ : Nat) => (0 : Nat)) j)))), (sa, .inl (xI g, 24, .inl (fun j => iI ((fun (_ : Nat) => (0 : Int)) j)))), (so2, .inl (xI g, 24, .inl (fun j => iI ((fun (_ : Nat) => (-1 : Int)) j))))]) hP hD [0, 1, 2, 3, 4, 5] [6] rfl rfl (by decide) (by decide) hk1 hFc hP1 hD1
  generalize H1 = H at hP hS ⊢
  have hP : va_P (xD g) vwCl [(rm, .inl (xI g, 16, .inl (fun j => iI ((zU rmz k ((q : Nat) : Int)) j)))), (st, .inr (8, [s0, s1, s2, s3, s4, .ref rm, s6, s7, s8, s9, .int 0, s11, .ref ag, .ref ya, s14])), (ag, .inr (0, [.int 0, g1])), (ya, .inr (7, [y0, .int 0, .int 0, y3, .ref he, y5, y6, y7, .ref sa, .ref so2, y10])), (he, .inl (xI g, 12, .inl (fun j => nI ((fun (_ : Nat) => (0 : Nat)) j)))), (sa, .inl (xI g, 24, .inl (fun j => iI ((fun (_ : Nat) => (0 : Int)) j)))), (so2, .inl (xI g, 24, .inl (fun j => iI ((fun (_ : Nat) => (-1 : Int)) j))))] H := hP
  have hD : va_D A [(rm, .inl (xI g, 16, .inl (fun j => iI ((zU rmz k ((q : Nat) : Int)) j)))), (st, .inr (8, [s0, s1, s2, s3, s4, .ref rm, s6, s7, s8, s9, .int 0, s11, .ref ag, .ref ya, s14])), (ag, .inr (0, [.int 0, g1])), (ya, .inr (7, [y0, .int 0, .int 0, y3, .ref he, y5, y6, y7, .ref sa, .ref so2, y10])), (he, .inl (xI g, 12, .inl (fun j => nI ((fun (_ : Nat) => (0 : Nat)) j)))), (sa, .inl (xI g, 24, .inl (fun j => iI ((fun (_ : Nat) => (0 : Int)) j)))), (so2, .inl (xI g, 24, .inl (fun j => iI ((fun (_ : Nat) => (-1 : Int)) j))))] := hD
  try dsimp only at hw_9
  refine lv_iload_n hx hb dX8_setRoom_29 rfl (lv_at hl 0 rfl) ?_
  have hP9 := hP.sub (ws' := [(st, .inr (8, [s0, s1, s2, s3, s4, .ref rm, s6, s7, s8, s9, .int 0, s11, .ref ag, .ref ya, s14])), (ag, .inr (0, [.int 0, g1])), (ya, .inr (7, [y0, .int 0, .int 0, y3, .ref he, y5, y6, y7, .ref sa, .ref so2, y10])), (he, .inl (xI g, 12, .inl (fun j => nI ((fun (_ : Nat) => (0 : Nat)) j)))), (sa, .inl (xI g, 24, .inl (fun j => iI ((fun (_ : Nat) => (0 : Int)) j)))), (so2, .inl (xI g, 24, .inl (fun j => iI ((fun (_ : Nat) => (-1 : Int)) j)))), (rm, .inl (xI g, 16, .inl (fun j => iI ((zU rmz k ((q : Nat) : Int)) j))))]) [1, 2, 3, 4, 5, 6, 0] rfl
  have hD9 := hD.sub (ws' := [(st, .inr (8, [s0, s1, s2, s3, s4, .ref rm, s6, s7, s8, s9, .int 0, s11, .ref ag, .ref ya, s14])), (ag, .inr (0, [.int 0, g1])), (ya, .inr (7, [y0, .int 0, .int 0, y3, .ref he, y5, y6, y7, .ref sa, .ref so2, y10])), (he, .inl (xI g, 12, .inl (fun j => nI ((fun (_ : Nat) => (0 : Nat)) j)))), (sa, .inl (xI g, 24, .inl (fun j => iI ((fun (_ : Nat) => (0 : Int)) j)))), (so2, .inl (xI g, 24, .inl (fun j => iI ((fun (_ : Nat) => (-1 : Int)) j)))), (rm, .inl (xI g, 16, .inl (fun j => iI ((zU rmz k ((q : Nat) : Int)) j))))]) [1, 2, 3, 4, 5, 6, 0] (by decide) rfl
  exact W.iret (v := iI (rmz k)) hx hb hr (fun t ht hW => ⟨⟨iI (rmz k), (), rfl, (by first | trivial | rfl | assumption | omega), ⟨hb_10, hb_11, hb_12, hb_7, by rw [ht]; exact hP9, va_K.moved hW.alike hK, hD9⟩⟩, hS.F ht⟩) hS.2.2 dX8_setRoom_30
theorem dX8_addStack_0 : decode cX8_addStack 0 = .ok (.iload_n 1, 1) := by decide +kernel
theorem dX8_addStack_1 : decode cX8_addStack 1 = .ok (.iconst 1, 1) := by decide +kernel
theorem dX8_addStack_2 : decode cX8_addStack 2 = .ok (.iconst 5, 1) := by decide +kernel
theorem dX8_addStack_3 : decode cX8_addStack 3 = .ok (.invokestatic 88, 3) := by decide +kernel
set_option maxRecDepth 20000 in
theorem ggX8_addStack_X8_needWithin : GoodIn wsX8_addStack wsX8_needWithin := goodIn_ca (goodIn_r _ [9, 10, 11] rfl (by decide +kernel)) (goodIn_sub (fun _ h => List.mem_cons_of_mem _ (List.mem_append_right _ h)) (by decide +kernel))
set_option maxRecDepth 20000 in
theorem gX8_addStack_X8_needWithin : GoodIn wsX8_addStack (va_wsS RX8 88 yX8_needWithin wsX8_needWithin) := goodIn_app (goodIn_of _ (by decide +kernel)) ggX8_addStack_X8_needWithin
theorem dX8_addStack_6 : decode cX8_addStack 6 = .ok (.aload_n 0, 1) := by decide +kernel
theorem dX8_addStack_7 : decode cX8_addStack 7 = .ok (.getfield 81, 3) := by decide +kernel
theorem dX8_addStack_10 : decode cX8_addStack 10 = .ok (.getfield 162, 3) := by decide +kernel
theorem dX8_addStack_13 : decode cX8_addStack 13 = .ok (.bipush 12, 2) := by decide +kernel
theorem dX8_addStack_15 : decode cX8_addStack 15 = .ok (.if_icmp .lt 13, 3) := by decide +kernel
theorem dX8_addStack_28 : decode cX8_addStack 28 = .ok (.aload_n 0, 1) := by decide +kernel
theorem dX8_addStack_29 : decode cX8_addStack 29 = .ok (.getfield 81, 3) := by decide +kernel
theorem dX8_addStack_32 : decode cX8_addStack 32 = .ok (.getfield 167, 3) := by decide +kernel
theorem dX8_addStack_35 : decode cX8_addStack 35 = .ok (.aload_n 0, 1) := by decide +kernel
theorem dX8_addStack_36 : decode cX8_addStack 36 = .ok (.getfield 81, 3) := by decide +kernel
theorem dX8_addStack_39 : decode cX8_addStack 39 = .ok (.getfield 162, 3) := by decide +kernel
theorem dX8_addStack_42 : decode cX8_addStack 42 = .ok (.iload_n 1, 1) := by decide +kernel
theorem dX8_addStack_43 : decode cX8_addStack 43 = .ok (.iastore, 1) := by decide +kernel
theorem dX8_addStack_44 : decode cX8_addStack 44 = .ok (.aload_n 0, 1) := by decide +kernel
theorem dX8_addStack_45 : decode cX8_addStack 45 = .ok (.getfield 81, 3) := by decide +kernel
theorem dX8_addStack_48 : decode cX8_addStack 48 = .ok (.dup, 1) := by decide +kernel
theorem dX8_addStack_49 : decode cX8_addStack 49 = .ok (.getfield 162, 3) := by decide +kernel
theorem dX8_addStack_52 : decode cX8_addStack 52 = .ok (.iconst 1, 1) := by decide +kernel
theorem dX8_addStack_53 : decode cX8_addStack 53 = .ok (.iadd, 1) := by decide +kernel
theorem dX8_addStack_54 : decode cX8_addStack 54 = .ok (.putfield 162, 3) := by decide +kernel
theorem dX8_addStack_57 : decode cX8_addStack 57 = .ok (.aload_n 0, 1) := by decide +kernel
theorem dX8_addStack_58 : decode cX8_addStack 58 = .ok (.getfield 81, 3) := by decide +kernel
theorem dX8_addStack_61 : decode cX8_addStack 61 = .ok (.invokevirtual 170, 3) := by decide +kernel
set_option maxRecDepth 20000 in
theorem ggX8_addStack_X7_empty : GoodIn wsX8_addStack wsX7_empty := goodIn_r _ [16, 17, 18, 19, 20, 21, 22, 23, 24, 25, 41, 42, 43, 44, 45, 46, 47, 48, 49, 50, 51] rfl (by decide +kernel)
set_option maxRecDepth 20000 in
theorem gX8_addStack_X7_empty : GoodIn wsX8_addStack (wsV RX8 170 RX7 yX7_empty wsX7_empty) := goodIn_app (goodIn_of _ (by decide +kernel)) ggX8_addStack_X7_empty
theorem dX8_addStack_64 : decode cX8_addStack 64 = .ok (.aload_n 0, 1) := by decide +kernel
theorem dX8_addStack_65 : decode cX8_addStack 65 = .ok (.getfield 81, 3) := by decide +kernel
theorem dX8_addStack_68 : decode cX8_addStack 68 = .ok (.getfield 162, 3) := by decide +kernel
theorem dX8_addStack_71 : decode cX8_addStack 71 = .ok (.iconst 1, 1) := by decide +kernel
theorem dX8_addStack_72 : decode cX8_addStack 72 = .ok (.isub, 1) := by decide +kernel
theorem dX8_addStack_73 : decode cX8_addStack 73 = .ok (.ireturn, 1) := by decide +kernel
set_option maxHeartbeats 4000000 in
set_option maxRecDepth 100000 in
theorem t_addStack (l : Launch) (g : xG) (sz : Nat) (st : Nat) (ya : Nat) (li : Nat) (he : Nat) (sa : Nat) (so2 : Nat) (sc : Nat) (h : Nat) (s0 : Value) (s1 : Value) (s2 : Value) (s3 : Value) (s4 : Value) (s5 : Value) (s6 : Value) (s7 : Value) (s8 : Value) (s9 : Value) (s10 : Value) (s11 : Value) (s12 : Value) (s14 : Value) (y1 : Value) (y2 : Value) (y5 : Value) (y6 : Value) (y7 : Value) (y10 : Value) (lim : Nat → Nat) (hgt : Nat → Nat) (stt : Nat → Int) (oo : Nat → Int)  (hsc : sc < 12) (hh : 1 ≤ h ∧ h ≤ 5) (b_lim : ∀ j, lim j ≤ 5) (b_hgt : ∀ j, hgt j ≤ 5) (b_stt : ∀ j, 0 ≤ stt j ∧ stt j ≤ 4) (b_oo : ∀ j, (-1) ≤ oo j ∧ oo j ≤ 11) : Met l yX8_addStack wsX8_addStack ({ frames := 2, cells := 0, slots := 0, locals := 43 }) (va_Pc [.ref st, .int (nI h)] (fun U => xB g [(st, .inr (8, [s0, s1, s2, s3, s4, s5, s6, s7, s8, s9, s10, s11, s12, .ref ya, s14])), (ya, .inr (7, [.int (nI sc), y1, y2, .ref li, .ref he, y5, y6, y7, .ref sa, .ref so2, y10])), (li, .inl (xI g, 12, .inl (fun j => nI (lim j)))), (he, .inl (xI g, 12, .inl (fun j => nI (hgt j)))), (sa, .inl (xI g, 24, .inl (fun j => iI (stt j)))), (so2, .inl (xI g, 24, .inl (fun j => iI (oo j))))] sz U)) (va_Qi (fun (r : Int32) (_ : Unit) => True) (fun (_ : Unit) (t : State) => (∀ j, (nV lim sc h) j ≤ 5) ∧ (∀ j, (fun (_ : Nat) => (0 : Nat)) j ≤ 5) ∧ (∀ j, 0 ≤ (fun (_ : Nat) => (0 : Int)) j ∧ (fun (_ : Nat) => (0 : Int)) j ≤ 4) ∧ (∀ j, (-1) ≤ (fun (_ : Nat) => (-1 : Int)) j ∧ (fun (_ : Nat) => (-1 : Int)) j ≤ 11) ∧ xE g [(st, .inr (8, [s0, s1, s2, s3, s4, s5, s6, s7, s8, s9, s10, s11, s12, .ref ya, s14])), (ya, .inr (7, [.int (nI (sc + 1)), .int 0, .int 0, .ref li, .ref he, y5, y6, y7, .ref sa, .ref so2, y10])), (li, .inl (xI g, 12, .inl (fun j => nI ((nV lim sc h) j)))), (he, .inl (xI g, 12, .inl (fun j => nI ((fun (_ : Nat) => (0 : Nat)) j)))), (sa, .inl (xI g, 24, .inl (fun j => iI ((fun (_ : Nat) => (0 : Int)) j)))), (so2, .inl (xI g, 24, .inl (fun j => iI ((fun (_ : Nat) => (-1 : Int)) j))))] (va_A [(st, .inr (8, [s0, s1, s2, s3, s4, s5, s6, s7, s8, s9, s10, s11, s12, .ref ya, s14])), (ya, .inr (7, [.int (nI sc), y1, y2, .ref li, .ref he, y5, y6, y7, .ref sa, .ref so2, y10])), (li, .inl (xI g, 12, .inl (fun j => nI (lim j)))), (he, .inl (xI g, 12, .inl (fun j => nI (hgt j)))), (sa, .inl (xI g, 24, .inl (fun j => iI (stt j)))), (so2, .inl (xI g, 24, .inl (fun j => iI (oo j))))] sz) t) (va_A [(st, .inr (8, [s0, s1, s2, s3, s4, s5, s6, s7, s8, s9, s10, s11, s12, .ref ya, s14])), (ya, .inr (7, [.int (nI sc), y1, y2, .ref li, .ref he, y5, y6, y7, .ref sa, .ref so2, y10])), (li, .inl (xI g, 12, .inl (fun j => nI (lim j)))), (he, .inl (xI g, 12, .inl (fun j => nI (hgt j)))), (sa, .inl (xI g, 24, .inl (fun j => iI (stt j)))), (so2, .inl (xI g, 24, .inl (fun j => iI (oo j))))] sz)) 0 0 (va_A [(st, .inr (8, [s0, s1, s2, s3, s4, s5, s6, s7, s8, s9, s10, s11, s12, .ref ya, s14])), (ya, .inr (7, [.int (nI sc), y1, y2, .ref li, .ref he, y5, y6, y7, .ref sa, .ref so2, y10])), (li, .inl (xI g, 12, .inl (fun j => nI (lim j)))), (he, .inl (xI g, 12, .inl (fun j => nI (hgt j)))), (sa, .inl (xI g, 24, .inl (fun j => iI (stt j)))), (so2, .inl (xI g, 24, .inl (fun j => iI (oo j))))] sz) := by
  refine Met.ofW (cc := cX8_addStack) (maxL := 2) (ret := (some .int)) (by decide) rfl ?_
  intro p e s m args below meth c s₁ B hml hv
  obtain ⟨rfl, hsz, hP, hK, hD0⟩ := hv
  have hx := B.exec
  have hb := B.bytes
  have hr := B.returns
  have hts := atoms_spec (ws := wsX8_addStack) B.pre
  have hown : s.vm.findClass RX8 = some m.cls := findClass_of_methodNamed B.named
  have hlocks := B.notSynchronized
  subst hsz
  have hD := hD0.self (sz := s.heap.size)
  generalize hAe : va_A [(st, .inr (8, [s0, s1, s2, s3, s4, s5, s6, s7, s8, s9, s10, s11, s12, .ref ya, s14])), (ya, .inr (7, [.int (nI sc), y1, y2, .ref li, .ref he, y5, y6, y7, .ref sa, .ref so2, y10])), (li, .inl (xI g, 12, .inl (fun j => nI (lim j)))), (he, .inl (xI g, 12, .inl (fun j => nI (hgt j)))), (sa, .inl (xI g, 24, .inl (fun j => iI (stt j)))), (so2, .inl (xI g, 24, .inl (fun j => iI (oo j))))] s.heap.size = A at hD ⊢
  have hA : ∀ q : Nat, s.heap.size ≤ q → A q := fun q h => by rw [← hAe]; exact Or.inr h
  have hS : va_S A s.heap s.heap [] := va_S.rf
  have hl := lv_entry ([.ref st, .int (nI h)]) (n := 2) (Nat.le_of_ble_eq_true rfl)
  rw [lg_entry_eq]
  generalize (lg_sl ([.ref st, .int (nI h)]) ++ List.replicate (2 - (lg_sl ([.ref st, .int (nI h)])).length) Slot.unset).toArray = ls at hl ⊢
  have hl : lv_has ls 2 [(0, .ref st), (1, .int (nI h))] := hl
  have hFX7 : ∀ w ∈ u_ws RX7 TX7 11, w ∈ wsX8_addStack := by decide +kernel
  have hFX8 : ∀ w ∈ u_ws RX8 TX8 15, w ∈ wsX8_addStack := by decide +kernel
  refine lv_iload_n hx hb dX8_addStack_0 rfl (lv_at hl 1 rfl) ?_
  refine lv_iconst (v := 1) hx hb dX8_addStack_1 (by decide) ?_
  refine lv_iconst (v := 5) hx hb dX8_addStack_2 (by decide) ?_
  have hPc := hP.sub (ws' := []) [] rfl
  have hDc := hD.sub (ws' := []) [] (by decide) rfl
  have hFc := xFree hS hA
  refine va_callv (va_runS (As := [.int (nI h), .int 1, .int 5]) (rest := []) ⟨hx, hb, hml, hown, hts⟩ (n_within l g s.heap.size ((h : Nat) : Int) 1 5 (by first | assumption | omega) (by first | assumption | omega)) (va_cwS 3 hts gX8_addStack_X8_needWithin rfl rfl rfl (by decide +kernel) ⟨Nat.le_of_ble_eq_true rfl, Nat.le_of_ble_eq_true rfl⟩) ⟨xB.blind, fun U9 hU9 hW9 => ⟨rfl, xB.mk hPc hK hDc hU9 hW9⟩⟩ rfl rfl hl.1 rfl (lv_room (Nat.le_of_ble_eq_true rfl)) dX8_addStack_3 ⟨Nat.le_of_ble_eq_true rfl, Nat.le_of_ble_eq_true rfl⟩) hS (fun q _ h => hFc q h) hFc (fun _ t H1 locs ht hvm hw_2 hB hz1 hk1 hS => ?_)
  have hP := xSame hP hk1
  generalize H1 = H at hP hS ⊢
  have hP : va_P (xD g) vwCl [(st, .inr (8, [s0, s1, s2, s3, s4, s5, s6, s7, s8, s9, s10, s11, s12, .ref ya, s14])), (ya, .inr (7, [.int (nI sc), y1, y2, .ref li, .ref he, y5, y6, y7, .ref sa, .ref so2, y10])), (li, .inl (xI g, 12, .inl (fun j => nI (lim j)))), (he, .inl (xI g, 12, .inl (fun j => nI (hgt j)))), (sa, .inl (xI g, 24, .inl (fun j => iI (stt j)))), (so2, .inl (xI g, 24, .inl (fun j => iI (oo j))))] H := hP
  have hD : va_D A [(st, .inr (8, [s0, s1, s2, s3, s4, s5, s6, s7, s8, s9, s10, s11, s12, .ref ya, s14])), (ya, .inr (7, [.int (nI sc), y1, y2, .ref li, .ref he, y5, y6, y7, .ref sa, .ref so2, y10])), (li, .inl (xI g, 12, .inl (fun j => nI (lim j)))), (he, .inl (xI g, 12, .inl (fun j => nI (hgt j)))), (sa, .inl (xI g, 24, .inl (fun j => iI (stt j)))), (so2, .inl (xI g, 24, .inl (fun j => iI (oo j))))] := hD
  try dsimp only at hw_2
  refine lv_aload_n hx hb dX8_addStack_6 rfl (lv_at hl 0 rfl) ?_
  refine va_get (D := xD g) (ci := 8) (v := .ref ya) (C := RX8) (T := TX8) (N := 15) hx hb hts hFX8 hown hK hP 0 rfl rfl 13 (by decide) (hts (.fieldLink RX8 81 "Stevedore" "yard" "LStevedore$Yard;") (by decide +kernel)) (fun _ h9 => h9) rfl dX8_addStack_7 ?_
  refine va_get (D := xD g) (ci := 7) (v := .int (nI sc)) (C := RX7) (T := TX7) (N := 11) hx hb hts hFX7 hown hK hP 1 rfl rfl 0 (by decide) (hts (.fieldLink RX8 162 "Stevedore$Yard" "stackCount" "I") (by decide +kernel)) (fun _ h9 => h9) rfl dX8_addStack_10 ?_
  refine lv_bipush (v := 12) hx hb dX8_addStack_13 (by decide) ?_
  refine lv_icmp_lt (tgt := 28) hx hb dX8_addStack_15 (by decide) (fun c_3 => ?_) (fun c_3 => ?_)
  · have nc_3 := (nI_ltI (a := sc) (b := 12) (by omega) (by omega)).mp c_3
    refine lv_aload_n hx hb dX8_addStack_28 rfl (lv_at hl 0 rfl) ?_
    refine va_get (D := xD g) (ci := 8) (v := .ref ya) (C := RX8) (T := TX8) (N := 15) hx hb hts hFX8 hown hK hP 0 rfl rfl 13 (by decide) (hts (.fieldLink RX8 81 "Stevedore" "yard" "LStevedore$Yard;") (by decide +kernel)) (fun _ h9 => h9) rfl dX8_addStack_29 ?_
    refine va_get (D := xD g) (ci := 7) (v := .ref li) (C := RX7) (T := TX7) (N := 11) hx hb hts hFX7 hown hK hP 1 rfl rfl 3 (by decide) (hts (.fieldLink RX8 167 "Stevedore$Yard" "limit" "[I") (by decide +kernel)) (fun _ h9 => h9) rfl dX8_addStack_32 ?_
    refine lv_aload_n hx hb dX8_addStack_35 rfl (lv_at hl 0 rfl) ?_
    refine va_get (D := xD g) (ci := 8) (v := .ref ya) (C := RX8) (T := TX8) (N := 15) hx hb hts hFX8 hown hK hP 0 rfl rfl 13 (by decide) (hts (.fieldLink RX8 81 "Stevedore" "yard" "LStevedore$Yard;") (by decide +kernel)) (fun _ h9 => h9) rfl dX8_addStack_36 ?_
    refine va_get (D := xD g) (ci := 7) (v := .int (nI sc)) (C := RX7) (T := TX7) (N := 11) hx hb hts hFX7 hown hK hP 1 rfl rfl 0 (by decide) (hts (.fieldLink RX8 162 "Stevedore$Yard" "stackCount" "I") (by decide +kernel)) (fun _ h9 => h9) rfl dX8_addStack_39 ?_
    refine lv_iload_n hx hb dX8_addStack_42 rfl (lv_at hl 1 rfl) ?_
    refine va_iast (x := nI h) hx hb hK hP hD hS 2 0 rfl rfl (vp_in_nI (by omega) (by omega)) dX8_addStack_43 (fun H locs hP hD hS => ?_)
    rw [nU (f := lim) (k := sc) (v := h) (nI_clamp (by omega)) rfl] at hP hD
    have hb_4 : ∀ j, (nV lim sc h) j ≤ 5 := nV_all (P := fun q9 => q9 ≤ 5) b_lim (by omega)
    have hP : va_P (xD g) vwCl [(st, .inr (8, [s0, s1, s2, s3, s4, s5, s6, s7, s8, s9, s10, s11, s12, .ref ya, s14])), (ya, .inr (7, [.int (nI sc), y1, y2, .ref li, .ref he, y5, y6, y7, .ref sa, .ref so2, y10])), (li, .inl (xI g, 12, .inl (fun j => nI ((nV lim sc h) j)))), (he, .inl (xI g, 12, .inl (fun j => nI (hgt j)))), (sa, .inl (xI g, 24, .inl (fun j => iI (stt j)))), (so2, .inl (xI g, 24, .inl (fun j => iI (oo j))))] H := hP
    have hD : va_D A [(st, .inr (8, [s0, s1, s2, s3, s4, s5, s6, s7, s8, s9, s10, s11, s12, .ref ya, s14])), (ya, .inr (7, [.int (nI sc), y1, y2, .ref li, .ref he, y5, y6, y7, .ref sa, .ref so2, y10])), (li, .inl (xI g, 12, .inl (fun j => nI ((nV lim sc h) j)))), (he, .inl (xI g, 12, .inl (fun j => nI (hgt j)))), (sa, .inl (xI g, 24, .inl (fun j => iI (stt j)))), (so2, .inl (xI g, 24, .inl (fun j => iI (oo j))))] := hD
    refine lv_aload_n hx hb dX8_addStack_44 rfl (lv_at hl 0 rfl) ?_
    refine va_get (D := xD g) (ci := 8) (v := .ref ya) (C := RX8) (T := TX8) (N := 15) hx hb hts hFX8 hown hK hP 0 rfl rfl 13 (by decide) (hts (.fieldLink RX8 81 "Stevedore" "yard" "LStevedore$Yard;") (by decide +kernel)) (fun _ h9 => h9) rfl dX8_addStack_45 ?_
    refine lv_dup hx hb dX8_addStack_48 rfl ?_
    refine va_get (D := xD g) (ci := 7) (v := .int (nI sc)) (C := RX7) (T := TX7) (N := 11) hx hb hts hFX7 hown hK hP 1 rfl rfl 0 (by decide) (hts (.fieldLink RX8 162 "Stevedore$Yard" "stackCount" "I") (by decide +kernel)) (fun _ h9 => h9) rfl dX8_addStack_49 ?_
    refine lv_iconst (v := 1) hx hb dX8_addStack_52 (by decide) ?_
    refine lv_iadd hx hb dX8_addStack_53 ?_
    refine lv_topi (fun v_5 ev => ?_)
    obtain rfl : v_5 = nI (sc + 1) := ev.trans (nI_add sc 1)
    refine va_put (D := xD g) (ci := 7) (v := .int (nI (sc + 1))) (ty := .int) (C := RX7) (T := TX7) (N := 11) hx hb hts hFX7 tyX7 tyX7_ok nmX7 hown hK hP hD hS 1 rfl rfl 0 (by decide) (hts (.fieldLink RX8 162 "Stevedore$Yard" "stackCount" "I") (by decide +kernel)) (fun _ h9 => h9) rfl (by decide +kernel) rfl rfl (Nat.le_of_ble_eq_true rfl) dX8_addStack_54 (fun H locs hP hD hS => ?_)
    have hP : va_P (xD g) vwCl [(st, .inr (8, [s0, s1, s2, s3, s4, s5, s6, s7, s8, s9, s10, s11, s12, .ref ya, s14])), (ya, .inr (7, [.int (nI (sc + 1)), y1, y2, .ref li, .ref he, y5, y6, y7, .ref sa, .ref so2, y10])), (li, .inl (xI g, 12, .inl (fun j => nI ((nV lim sc h) j)))), (he, .inl (xI g, 12, .inl (fun j => nI (hgt j)))), (sa, .inl (xI g, 24, .inl (fun j => iI (stt j)))), (so2, .inl (xI g, 24, .inl (fun j => iI (oo j))))] H := hP
    have hD : va_D A [(st, .inr (8, [s0, s1, s2, s3, s4, s5, s6, s7, s8, s9, s10, s11, s12, .ref ya, s14])), (ya, .inr (7, [.int (nI (sc + 1)), y1, y2, .ref li, .ref he, y5, y6, y7, .ref sa, .ref so2, y10])), (li, .inl (xI g, 12, .inl (fun j => nI ((nV lim sc h) j)))), (he, .inl (xI g, 12, .inl (fun j => nI (hgt j)))), (sa, .inl (xI g, 24, .inl (fun j => iI (stt j)))), (so2, .inl (xI g, 24, .inl (fun j => iI (oo j))))] := hD
    refine lv_aload_n hx hb dX8_addStack_57 rfl (lv_at hl 0 rfl) ?_
    refine va_get (D := xD g) (ci := 8) (v := .ref ya) (C := RX8) (T := TX8) (N := 15) hx hb hts hFX8 hown hK hP 0 rfl rfl 13 (by decide) (hts (.fieldLink RX8 81 "Stevedore" "yard" "LStevedore$Yard;") (by decide +kernel)) (fun _ h9 => h9) rfl dX8_addStack_58 ?_
    have hPc := hP.sub (ws' := [(ya, .inr (7, [.int (nI (sc + 1)), y1, y2, .ref li, .ref he, y5, y6, y7, .ref sa, .ref so2, y10])), (he, .inl (xI g, 12, .inl (fun j => nI (hgt j)))), (sa, .inl (xI g, 24, .inl (fun j => iI (stt j)))), (so2, .inl (xI g, 24, .inl (fun j => iI (oo j))))]) [1, 3, 4, 5] rfl
    have hDc := hD.sub (ws' := [(ya, .inr (7, [.int (nI (sc + 1)), y1, y2, .ref li, .ref he, y5, y6, y7, .ref sa, .ref so2, y10])), (he, .inl (xI g, 12, .inl (fun j => nI (hgt j)))), (sa, .inl (xI g, 24, .inl (fun j => iI (stt j)))), (so2, .inl (xI g, 24, .inl (fun j => iI (oo j))))]) [1, 3, 4, 5] (by decide) rfl
    have hFc := va_free (wc := [(ya, .inr (7, [.int (nI (sc + 1)), y1, y2, .ref li, .ref he, y5, y6, y7, .ref sa, .ref so2, y10])), (he, .inl (xI g, 12, .inl (fun j => nI (hgt j)))), (sa, .inl (xI g, 24, .inl (fun j => iI (stt j)))), (so2, .inl (xI g, 24, .inl (fun j => iI (oo j))))]) hD hS hA [1, 3, 4, 5] rfl
    refine va_callv (va_runV (As := []) (rest := []) ⟨hx, hb, hml, hown, hts⟩ (y_empty l g H.size ya he sa so2 (.int (nI (sc + 1))) y1 y2 (.ref li) y5 y6 y7 y10 hgt stt oo b_hgt b_stt b_oo) (cwV 0 hts gX8_addStack_X7_empty rfl rfl rfl (by decide +kernel) ⟨Nat.le_of_ble_eq_true rfl, Nat.le_of_ble_eq_true rfl⟩) ⟨xB.blind, va_recv hK hPc (ci := 7) (q0 := 0) rfl rfl, fun U9 hU9 hW9 => ⟨rfl, xB.mk hPc hK hDc hU9 hW9⟩⟩ rfl rfl hl.1 rfl (lv_room (Nat.le_of_ble_eq_true rfl)) dX8_addStack_61 ⟨Nat.le_of_ble_eq_true rfl, Nat.le_of_ble_eq_true rfl⟩) hS (fun q _ h => hFc q h) hFc (fun _ t H1 locs ht hvm hw_7 hB hz1 hk1 hS => ?_)
    obtain ⟨hb_8, hb_9, hb_10, hP1, hK1, hD1⟩ := hB
    rw [ht] at hP1
    obtain ⟨hP, hD⟩ := va_join (wr := [(st, .inr (8, [s0, s1, s2, s3, s4, s5, s6, s7, s8, s9, s10, s11, s12, .ref ya, s14])), (li, .inl (xI g, 12, .inl (fun j => nI ((nV lim sc h) j))))]) (w1 := [(ya, .inr (7, [.int (nI (sc + 1)), .int 0, .int 0, .ref li, .ref he, y5, y6, y7, .ref sa, .ref so2, y10])), (he, .inl (xI g, 12, .inl (fun j => nI ((fun (_ : Nat) => (0 : Nat)) j)))), (sa, .inl (xI g, 24, .inl (fun j => iI ((fun (_ : Nat) => (0 : Int)) j)))), (so2, .inl (xI g, 24, .inl (fun j => iI ((fun (_ : Nat) => (-1 : Int)) j))))]) hP hD [1, 3, 4, 5] [0, 2] rfl rfl (by decide) (by decide) hk1 hFc hP1 hD1
    generalize H1 = H at hP hS ⊢
    have hP : va_P (xD g) vwCl [(st, .inr (8, [s0, s1, s2, s3, s4, s5, s6, s7, s8, s9, s10, s11, s12, .ref ya, s14])), (li, .inl (xI g, 12, .inl (fun j => nI ((nV lim sc h) j)))), (ya, .inr (7, [.int (nI (sc + 1)), .int 0, .int 0, .ref li, .ref he, y5, y6, y7, .ref sa, .ref so2, y10])), (he, .inl (xI g, 12, .inl (fun j => nI ((fun (_ : Nat) => (0 : Nat)) j)))), (sa, .inl (xI g, 24, .inl (fun j => iI ((fun (_ : Nat) => (0 : Int)) j)))), (so2, .inl (xI g, 24, .inl (fun j => iI ((fun (_ : Nat) => (-1 : Int)) j))))] H := hP
    have hD : va_D A [(st, .inr (8, [s0, s1, s2, s3, s4, s5, s6, s7, s8, s9, s10, s11, s12, .ref ya, s14])), (li, .inl (xI g, 12, .inl (fun j => nI ((nV lim sc h) j)))), (ya, .inr (7, [.int (nI (sc + 1)), .int 0, .int 0, .ref li, .ref he, y5, y6, y7, .ref sa, .ref so2, y10])), (he, .inl (xI g, 12, .inl (fun j => nI ((fun (_ : Nat) => (0 : Nat)) j)))), (sa, .inl (xI g, 24, .inl (fun j => iI ((fun (_ : Nat) => (0 : Int)) j)))), (so2, .inl (xI g, 24, .inl (fun j => iI ((fun (_ : Nat) => (-1 : Int)) j))))] := hD
    try dsimp only at hw_7
    refine lv_aload_n hx hb dX8_addStack_64 rfl (lv_at hl 0 rfl) ?_
    refine va_get (D := xD g) (ci := 8) (v := .ref ya) (C := RX8) (T := TX8) (N := 15) hx hb hts hFX8 hown hK hP 0 rfl rfl 13 (by decide) (hts (.fieldLink RX8 81 "Stevedore" "yard" "LStevedore$Yard;") (by decide +kernel)) (fun _ h9 => h9) rfl dX8_addStack_65 ?_
    refine va_get (D := xD g) (ci := 7) (v := .int (nI (sc + 1))) (C := RX7) (T := TX7) (N := 11) hx hb hts hFX7 hown hK hP 2 rfl rfl 0 (by decide) (hts (.fieldLink RX8 162 "Stevedore$Yard" "stackCount" "I") (by decide +kernel)) (fun _ h9 => h9) rfl dX8_addStack_68 ?_
    refine lv_iconst (v := 1) hx hb dX8_addStack_71 (by decide) ?_
    refine lv_isub hx hb dX8_addStack_72 ?_
    refine lv_topi (fun v_11 ev => ?_)
    obtain rfl : v_11 = nI ((sc + 1) - 1) := ev.trans (pk_sub (a := sc + 1) (b := 1) (by omega))
    have hP9 := hP.sub (ws' := [(st, .inr (8, [s0, s1, s2, s3, s4, s5, s6, s7, s8, s9, s10, s11, s12, .ref ya, s14])), (ya, .inr (7, [.int (nI (sc + 1)), .int 0, .int 0, .ref li, .ref he, y5, y6, y7, .ref sa, .ref so2, y10])), (li, .inl (xI g, 12, .inl (fun j => nI ((nV lim sc h) j)))), (he, .inl (xI g, 12, .inl (fun j => nI ((fun (_ : Nat) => (0 : Nat)) j)))), (sa, .inl (xI g, 24, .inl (fun j => iI ((fun (_ : Nat) => (0 : Int)) j)))), (so2, .inl (xI g, 24, .inl (fun j => iI ((fun (_ : Nat) => (-1 : Int)) j))))]) [0, 2, 1, 3, 4, 5] rfl
    have hD9 := hD.sub (ws' := [(st, .inr (8, [s0, s1, s2, s3, s4, s5, s6, s7, s8, s9, s10, s11, s12, .ref ya, s14])), (ya, .inr (7, [.int (nI (sc + 1)), .int 0, .int 0, .ref li, .ref he, y5, y6, y7, .ref sa, .ref so2, y10])), (li, .inl (xI g, 12, .inl (fun j => nI ((nV lim sc h) j)))), (he, .inl (xI g, 12, .inl (fun j => nI ((fun (_ : Nat) => (0 : Nat)) j)))), (sa, .inl (xI g, 24, .inl (fun j => iI ((fun (_ : Nat) => (0 : Int)) j)))), (so2, .inl (xI g, 24, .inl (fun j => iI ((fun (_ : Nat) => (-1 : Int)) j))))]) [0, 2, 1, 3, 4, 5] (by decide) rfl
    exact W.iret (v := nI ((sc + 1) - 1)) hx hb hr (fun t ht hW => ⟨⟨nI ((sc + 1) - 1), (), rfl, (by first | trivial | rfl | assumption | omega), ⟨hb_4, hb_8, hb_9, hb_10, by rw [ht]; exact hP9, va_K.moved hW.alike hK, hD9⟩⟩, hS.F ht⟩) hS.2.2 dX8_addStack_73
  · have nc_3 := mt (nI_ltI (a := sc) (b := 12) (by omega) (by omega)).mpr c_3
    (exfalso; omega)
