theorem nI_dec {k : Nat} (h : 0 < k) : nI k + (-1) = nI (k - 1) := by
  obtain ⟨j, rfl⟩ : ∃ j, k = j + 1 := ⟨k - 1, by omega⟩
  exact pk_m1 j
set_option maxHeartbeats 4000000 in
set_option maxRecDepth 100000 in
theorem j_fill0 (l : Launch) (g : xG) (sz : Nat) (a : Nat) (n : Nat) (f : Nat → Nat)  (hn : n < 2147483648) : Met l yJ7_fill_53178 wsJ7_fill_53178 ({ frames := 0, cells := 0, slots := 0, locals := 0 }) (va_Pc [.ref a, .int 0] (fun U => xB g [(a, .inl (xI g, n, .inl (fun j => nI (f j))))] sz U)) (va_Qv (fun (_ : Unit) => True) (fun (_ : Unit) (t : State) => xE g [(a, .inl (xI g, n, .inl (fun j => nI ((fun (_ : Nat) => (0 : Nat)) j))))] (va_A [(a, .inl (xI g, n, .inl (fun j => nI (f j))))] sz) t) (va_A [(a, .inl (xI g, n, .inl (fun j => nI (f j))))] sz)) 0 0 (va_A [(a, .inl (xI g, n, .inl (fun j => nI (f j))))] sz) := by
  refine Met.ofW (cc := cJ7_fill_53178) (maxL := 4) (ret := none) (by decide) rfl ?_
  intro p e s m args below meth c s₁ B hml hv
  obtain ⟨rfl, hsz, hP, hK, hD0⟩ := hv
  have hx := B.exec
  have hb := B.bytes
  have hr := B.returns
  have hts := atoms_spec (ws := wsJ7_fill_53178) B.pre
  have hown : s.vm.findClass RJ7 = some m.cls := findClass_of_methodNamed B.named
  have hlocks := B.notSynchronized
  subst hsz
  have hD := hD0.self (sz := s.heap.size)
  generalize hAe : va_A [(a, .inl (xI g, n, .inl (fun j => nI (f j))))] s.heap.size = A at hD ⊢
  have hA : ∀ q : Nat, s.heap.size ≤ q → A q := fun q h => by rw [← hAe]; exact Or.inr h
  have hS : va_S A s.heap s.heap [] := va_S.rf
  have hl := lv_entry ([.ref a, .int 0]) (n := 4) (Nat.le_of_ble_eq_true rfl)
  rw [lg_entry_eq]
  generalize (lg_sl ([.ref a, .int 0]) ++ List.replicate (4 - (lg_sl ([.ref a, .int 0])).length) Slot.unset).toArray = ls at hl ⊢
  have hl : lv_has ls 4 [(0, .ref a), (1, .int 0)] := hl
  refine lv_iconst (v := 0) hx hb dJ7_fill_53178_0 (by decide) ?_
  refine lv_istore_n (lv' := [(2, .int 0), (0, .ref a), (1, .int 0)]) hx hb dJ7_fill_53178_1 rfl hl (by decide) rfl (fun ls hl => ?_)
  refine lv_aload_n hx hb dJ7_fill_53178_2 rfl (lv_at hl 1 rfl) ?_
  refine va_alen (v := nI n) hx hb hK hP 0 0 rfl rfl rfl dJ7_fill_53178_3 ?_
  refine lv_istore_n (lv' := [(3, .int (nI n)), (2, .int 0), (0, .ref a), (1, .int 0)]) hx hb dJ7_fill_53178_4 rfl hl (by decide) rfl (fun ls hl => ?_)
  have hloop5 : ∀ (n9 : Nat) (k9 : Nat) (g9 : Nat → Nat) (H : Heap) (locs : List Loc) (ls : Array Slot), n - k9 < n9 → (k9 ≤ n) → (∀ j : Nat, j < k9 → g9 j = 0) → va_P (xD g) vwCl [(a, .inl (xI g, n, .inl (fun j => nI (g9 j))))] H → va_D A [(a, .inl (xI g, n, .inl (fun j => nI (g9 j))))] → va_S A s.heap H locs → lv_has ls 4 [(2, .int (nI k9)), (0, .ref a), (1, .int 0), (3, .int (nI n))] → W p l e (headSpec wsJ7_fill_53178 ({ frames := 0, cells := 0, slots := 0, locals := 0 })).room s m ([.ref a, .int 0] : List Value).toArray below meth c H locs 0 0 (MQ below (va_Qv (fun (_ : Unit) => True) (fun (_ : Unit) (t : State) => xE g [(a, .inl (xI g, n, .inl (fun j => nI ((fun (_ : Nat) => (0 : Nat)) j))))] (A) t) (A)) ([.ref a, .int 0] : List Value).toArray s 0 0 A) (F0 m 5 ls []) := by
    intro n9
    induction n9 with
    | zero =>
      intro k9 g9 H locs ls hm hi1 hi2 hP hD hS hl
      exact absurd hm (Nat.not_lt_zero _)
    | succ n9 ih5 =>
      intro k9 g9 H locs ls hm hi1 hi2 hP hD hS hl
      refine lv_iload_n hx hb dJ7_fill_53178_5 rfl (lv_at hl 0 rfl) ?_
      refine lv_iload_n hx hb dJ7_fill_53178_6 rfl (lv_at hl 3 rfl) ?_
      refine lv_icmp_ge (tgt := 20) hx hb dJ7_fill_53178_7 (by decide) (fun c_1 => ?_) (fun c_1 => ?_)
      · have nc_1 := (nI_leI (a := n) (b := k9) (by omega) (by omega)).mp c_1
        have hP := xPnorm (k := 0) (f1 := (fun j => nI ((fun (_ : Nat) => (0 : Nat)) j))) hP rfl (fun j hj => congrArg nI (hi2 j (by omega)))
        have hD := xDnorm (k := 0) (f1 := (fun j => nI ((fun (_ : Nat) => (0 : Nat)) j))) hD rfl
        have hP : va_P (xD g) vwCl [(a, .inl (xI g, n, .inl (fun j => nI ((fun (_ : Nat) => (0 : Nat)) j))))] H := hP
        have hD : va_D A [(a, .inl (xI g, n, .inl (fun j => nI ((fun (_ : Nat) => (0 : Nat)) j))))] := hD
        have hP9 := hP
        have hD9 := hD
        exact W.vret hx hb hr (fun t ht hW => ⟨⟨(), rfl, (by first | trivial | rfl | assumption | omega), ⟨by rw [ht]; exact hP9, va_K.moved hW.alike hK, hD9⟩⟩, hS.F ht⟩) hS.2.2 dJ7_fill_53178_20
      · have nc_1 := mt (nI_leI (a := n) (b := k9) (by omega) (by omega)).mpr c_1
        refine lv_aload_n hx hb dJ7_fill_53178_10 rfl (lv_at hl 1 rfl) ?_
        refine lv_iload_n hx hb dJ7_fill_53178_11 rfl (lv_at hl 0 rfl) ?_
        refine lv_iload_n hx hb dJ7_fill_53178_12 rfl (lv_at hl 2 rfl) ?_
        refine va_iast (x := 0) hx hb hK hP hD hS 0 0 rfl rfl (vp_in_nI (by omega) (by omega)) dJ7_fill_53178_13 (fun H locs hP hD hS => ?_)
        rw [nU (f := g9) (k := k9) (v := 0) (nI_clamp (by omega)) (by decide)] at hP hD
        have hP : va_P (xD g) vwCl [(a, .inl (xI g, n, .inl (fun j => nI ((nV g9 k9 0) j))))] H := hP
        have hD : va_D A [(a, .inl (xI g, n, .inl (fun j => nI ((nV g9 k9 0) j))))] := hD
        refine lv_iinc (v := nI (k9 + 1)) (lv' := [(2, .int (nI (k9 + 1))), (0, .ref a), (1, .int 0), (3, .int (nI n))]) hx hb dJ7_fill_53178_14 hl (k := 0) rfl (nI_add k9 1) (by decide) rfl (fun ls hl => ?_)
        refine lv_goto (tgt := 5) hx hb dJ7_fill_53178_17 (by decide) ?_
        exact ih5 (k9 + 1) (nV g9 k9 0) _ _ _ (by omega) (by omega) (by intro j hj; simp only [nV]; by_cases q : j = k9; (rw [if_pos q]); (rw [if_neg q]; exact hi2 j (by omega))) hP hD hS (lv_sub hl [0, 1, 2, 3] rfl)
  exact hloop5 (n + 1) 0 f _ _ _ (by omega) (Nat.zero_le n) (fun j hj => absurd hj (Nat.not_lt_zero j)) hP hD hS (by rw [(show nI 0 = (0 : Int32) from by decide)]; exact lv_sub hl [1, 2, 3, 0] rfl)
theorem dX7_empty_0 : decode cX7_empty 0 = .ok (.aload_n 0, 1) := by decide +kernel
theorem dX7_empty_1 : decode cX7_empty 1 = .ok (.iconst 0, 1) := by decide +kernel
theorem dX7_empty_2 : decode cX7_empty 2 = .ok (.putfield 44, 3) := by decide +kernel
theorem dX7_empty_5 : decode cX7_empty 5 = .ok (.aload_n 0, 1) := by decide +kernel
theorem dX7_empty_6 : decode cX7_empty 6 = .ok (.iconst 0, 1) := by decide +kernel
theorem dX7_empty_7 : decode cX7_empty 7 = .ok (.putfield 48, 3) := by decide +kernel
theorem dX7_empty_10 : decode cX7_empty 10 = .ok (.aload_n 0, 1) := by decide +kernel
theorem dX7_empty_11 : decode cX7_empty 11 = .ok (.getfield 15, 3) := by decide +kernel
theorem dX7_empty_14 : decode cX7_empty 14 = .ok (.iconst 0, 1) := by decide +kernel
theorem dX7_empty_15 : decode cX7_empty 15 = .ok (.invokestatic 38, 3) := by decide +kernel
set_option maxRecDepth 20000 in
theorem ggX7_empty_J7_fill_53178 : GoodIn wsX7_empty wsJ7_fill_53178 := goodIn_r _ [9] rfl (by decide +kernel)
set_option maxRecDepth 20000 in
theorem gX7_empty_J7_fill_53178 : GoodIn wsX7_empty (va_wsS RX7 38 yJ7_fill_53178 wsJ7_fill_53178) := goodIn_app (goodIn_of _ (by decide +kernel)) ggX7_empty_J7_fill_53178
theorem dX7_empty_18 : decode cX7_empty 18 = .ok (.aload_n 0, 1) := by decide +kernel
theorem dX7_empty_19 : decode cX7_empty 19 = .ok (.getfield 29, 3) := by decide +kernel
theorem dX7_empty_22 : decode cX7_empty 22 = .ok (.iconst 0, 1) := by decide +kernel
theorem dX7_empty_23 : decode cX7_empty 23 = .ok (.invokestatic 38, 3) := by decide +kernel
theorem dX7_empty_26 : decode cX7_empty 26 = .ok (.aload_n 0, 1) := by decide +kernel
theorem dX7_empty_27 : decode cX7_empty 27 = .ok (.getfield 32, 3) := by decide +kernel
theorem dX7_empty_30 : decode cX7_empty 30 = .ok (.iconst (-1), 1) := by decide +kernel
theorem dX7_empty_31 : decode cX7_empty 31 = .ok (.invokestatic 38, 3) := by decide +kernel
theorem dX7_empty_34 : decode cX7_empty 34 = .ok (.return_, 1) := by decide +kernel
set_option maxHeartbeats 4000000 in
set_option maxRecDepth 100000 in
theorem y_empty (l : Launch) (g : xG) (sz : Nat) (ya : Nat) (he : Nat) (sa : Nat) (so2 : Nat) (y0 : Value) (y1 : Value) (y2 : Value) (y3 : Value) (y5 : Value) (y6 : Value) (y7 : Value) (y10 : Value) (hgt : Nat → Nat) (stt : Nat → Int) (oo : Nat → Int)  (b_hgt : ∀ j, hgt j ≤ 5) (b_stt : ∀ j, 0 ≤ stt j ∧ stt j ≤ 4) (b_oo : ∀ j, (-1) ≤ oo j ∧ oo j ≤ 11) : Met l yX7_empty wsX7_empty ({ frames := 1, cells := 0, slots := 0, locals := 23 }) (va_Pc [.ref ya] (fun U => xB g [(ya, .inr (7, [y0, y1, y2, y3, .ref he, y5, y6, y7, .ref sa, .ref so2, y10])), (he, .inl (xI g, 12, .inl (fun j => nI (hgt j)))), (sa, .inl (xI g, 24, .inl (fun j => iI (stt j)))), (so2, .inl (xI g, 24, .inl (fun j => iI (oo j))))] sz U)) (va_Qv (fun (_ : Unit) => True) (fun (_ : Unit) (t : State) => (∀ j, (fun (_ : Nat) => (0 : Nat)) j ≤ 5) ∧ (∀ j, 0 ≤ (fun (_ : Nat) => (0 : Int)) j ∧ (fun (_ : Nat) => (0 : Int)) j ≤ 4) ∧ (∀ j, (-1) ≤ (fun (_ : Nat) => (-1 : Int)) j ∧ (fun (_ : Nat) => (-1 : Int)) j ≤ 11) ∧ xE g [(ya, .inr (7, [y0, .int 0, .int 0, y3, .ref he, y5, y6, y7, .ref sa, .ref so2, y10])), (he, .inl (xI g, 12, .inl (fun j => nI ((fun (_ : Nat) => (0 : Nat)) j)))), (sa, .inl (xI g, 24, .inl (fun j => iI ((fun (_ : Nat) => (0 : Int)) j)))), (so2, .inl (xI g, 24, .inl (fun j => iI ((fun (_ : Nat) => (-1 : Int)) j))))] (va_A [(ya, .inr (7, [y0, y1, y2, y3, .ref he, y5, y6, y7, .ref sa, .ref so2, y10])), (he, .inl (xI g, 12, .inl (fun j => nI (hgt j)))), (sa, .inl (xI g, 24, .inl (fun j => iI (stt j)))), (so2, .inl (xI g, 24, .inl (fun j => iI (oo j))))] sz) t) (va_A [(ya, .inr (7, [y0, y1, y2, y3, .ref he, y5, y6, y7, .ref sa, .ref so2, y10])), (he, .inl (xI g, 12, .inl (fun j => nI (hgt j)))), (sa, .inl (xI g, 24, .inl (fun j => iI (stt j)))), (so2, .inl (xI g, 24, .inl (fun j => iI (oo j))))] sz)) 0 0 (va_A [(ya, .inr (7, [y0, y1, y2, y3, .ref he, y5, y6, y7, .ref sa, .ref so2, y10])), (he, .inl (xI g, 12, .inl (fun j => nI (hgt j)))), (sa, .inl (xI g, 24, .inl (fun j => iI (stt j)))), (so2, .inl (xI g, 24, .inl (fun j => iI (oo j))))] sz) := by
  refine Met.ofW (cc := cX7_empty) (maxL := 1) (ret := none) (by decide) rfl ?_
  intro p e s m args below meth c s₁ B hml hv
  obtain ⟨rfl, hsz, hP, hK, hD0⟩ := hv
  have hx := B.exec
  have hb := B.bytes
  have hr := B.returns
  have hts := atoms_spec (ws := wsX7_empty) B.pre
  have hown : s.vm.findClass RX7 = some m.cls := findClass_of_methodNamed B.named
  have hlocks := B.notSynchronized
  subst hsz
  have hD := hD0.self (sz := s.heap.size)
  generalize hAe : va_A [(ya, .inr (7, [y0, y1, y2, y3, .ref he, y5, y6, y7, .ref sa, .ref so2, y10])), (he, .inl (xI g, 12, .inl (fun j => nI (hgt j)))), (sa, .inl (xI g, 24, .inl (fun j => iI (stt j)))), (so2, .inl (xI g, 24, .inl (fun j => iI (oo j))))] s.heap.size = A at hD ⊢
  have hA : ∀ q : Nat, s.heap.size ≤ q → A q := fun q h => by rw [← hAe]; exact Or.inr h
  have hS : va_S A s.heap s.heap [] := va_S.rf
  have hl := lv_entry ([.ref ya]) (n := 1) (Nat.le_of_ble_eq_true rfl)
  rw [lg_entry_eq]
  generalize (lg_sl ([.ref ya]) ++ List.replicate (1 - (lg_sl ([.ref ya])).length) Slot.unset).toArray = ls at hl ⊢
  have hl : lv_has ls 1 [(0, .ref ya)] := hl
  have hFX7 : ∀ w ∈ u_ws RX7 TX7 11, w ∈ wsX7_empty := by decide +kernel
  refine lv_aload_n hx hb dX7_empty_0 rfl (lv_at hl 0 rfl) ?_
  refine lv_iconst (v := 0) hx hb dX7_empty_1 (by decide) ?_
  refine va_put (D := xD g) (ci := 7) (v := .int 0) (ty := .int) (C := RX7) (T := TX7) (N := 11) hx hb hts hFX7 tyX7 tyX7_ok nmX7 hown hK hP hD hS 0 rfl rfl 1 (by decide) (hts (.fieldLink RX7 44 "Stevedore$Yard" "reshuffleCount" "I") (by decide +kernel)) (fun _ h9 => h9) rfl (by decide +kernel) rfl rfl (Nat.le_of_ble_eq_true rfl) dX7_empty_2 (fun H locs hP hD hS => ?_)
  have hP : va_P (xD g) vwCl [(ya, .inr (7, [y0, .int 0, y2, y3, .ref he, y5, y6, y7, .ref sa, .ref so2, y10])), (he, .inl (xI g, 12, .inl (fun j => nI (hgt j)))), (sa, .inl (xI g, 24, .inl (fun j => iI (stt j)))), (so2, .inl (xI g, 24, .inl (fun j => iI (oo j))))] H := hP
  have hD : va_D A [(ya, .inr (7, [y0, .int 0, y2, y3, .ref he, y5, y6, y7, .ref sa, .ref so2, y10])), (he, .inl (xI g, 12, .inl (fun j => nI (hgt j)))), (sa, .inl (xI g, 24, .inl (fun j => iI (stt j)))), (so2, .inl (xI g, 24, .inl (fun j => iI (oo j))))] := hD
  refine lv_aload_n hx hb dX7_empty_5 rfl (lv_at hl 0 rfl) ?_
  refine lv_iconst (v := 0) hx hb dX7_empty_6 (by decide) ?_
  refine va_put (D := xD g) (ci := 7) (v := .int 0) (ty := .int) (C := RX7) (T := TX7) (N := 11) hx hb hts hFX7 tyX7 tyX7_ok nmX7 hown hK hP hD hS 0 rfl rfl 2 (by decide) (hts (.fieldLink RX7 48 "Stevedore$Yard" "workedOff" "I") (by decide +kernel)) (fun _ h9 => h9) rfl (by decide +kernel) rfl rfl (Nat.le_of_ble_eq_true rfl) dX7_empty_7 (fun H locs hP hD hS => ?_)
  have hP : va_P (xD g) vwCl [(ya, .inr (7, [y0, .int 0, .int 0, y3, .ref he, y5, y6, y7, .ref sa, .ref so2, y10])), (he, .inl (xI g, 12, .inl (fun j => nI (hgt j)))), (sa, .inl (xI g, 24, .inl (fun j => iI (stt j)))), (so2, .inl (xI g, 24, .inl (fun j => iI (oo j))))] H := hP
  have hD : va_D A [(ya, .inr (7, [y0, .int 0, .int 0, y3, .ref he, y5, y6, y7, .ref sa, .ref so2, y10])), (he, .inl (xI g, 12, .inl (fun j => nI (hgt j)))), (sa, .inl (xI g, 24, .inl (fun j => iI (stt j)))), (so2, .inl (xI g, 24, .inl (fun j => iI (oo j))))] := hD
  refine lv_aload_n hx hb dX7_empty_10 rfl (lv_at hl 0 rfl) ?_
  refine va_get (D := xD g) (ci := 7) (v := .ref he) (C := RX7) (T := TX7) (N := 11) hx hb hts hFX7 hown hK hP 0 rfl rfl 4 (by decide) (hts (.fieldLink RX7 15 "Stevedore$Yard" "height" "[I") (by decide +kernel)) (fun _ h9 => h9) rfl dX7_empty_11 ?_
  refine lv_iconst (v := 0) hx hb dX7_empty_14 (by decide) ?_
  have hPc := hP.sub (ws' := [(he, .inl (xI g, 12, .inl (fun j => nI (hgt j))))]) [1] rfl
  have hDc := hD.sub (ws' := [(he, .inl (xI g, 12, .inl (fun j => nI (hgt j))))]) [1] (by decide) rfl
  have hFc := va_free (wc := [(he, .inl (xI g, 12, .inl (fun j => nI (hgt j))))]) hD hS hA [1] rfl
  refine va_callv (va_runS (As := [.ref he, .int 0]) (rest := []) ⟨hx, hb, hml, hown, hts⟩ (j_fill0 l g H.size he 12 hgt (by first | assumption | omega)) (va_cwS 2 hts gX7_empty_J7_fill_53178 rfl rfl rfl (by decide +kernel) ⟨Nat.le_of_ble_eq_true rfl, Nat.le_of_ble_eq_true rfl⟩) ⟨xB.blind, fun U9 hU9 hW9 => ⟨rfl, xB.mk hPc hK hDc hU9 hW9⟩⟩ rfl rfl hl.1 rfl (lv_room (Nat.le_of_ble_eq_true rfl)) dX7_empty_15 ⟨Nat.le_of_ble_eq_true rfl, Nat.le_of_ble_eq_true rfl⟩) hS (fun q _ h => hFc q h) hFc (fun _ t H1 locs ht hvm hw_2 hB hz1 hk1 hS => ?_)
  obtain ⟨hP1, hK1, hD1⟩ := hB
  rw [ht] at hP1
  obtain ⟨hP, hD⟩ := va_join (wr := [(ya, .inr (7, [y0, .int 0, .int 0, y3, .ref he, y5, y6, y7, .ref sa, .ref so2, y10])), (sa, .inl (xI g, 24, .inl (fun j => iI (stt j)))), (so2, .inl (xI g, 24, .inl (fun j => iI (oo j))))]) (w1 := [(he, .inl (xI g, 12, .inl (fun j => nI ((fun (_ : Nat) => (0 : Nat)) j))))]) hP hD [1] [0, 2, 3] rfl rfl (by decide) (by decide) hk1 hFc hP1 hD1
  generalize H1 = H at hP hS ⊢
  have hP : va_P (xD g) vwCl [(ya, .inr (7, [y0, .int 0, .int 0, y3, .ref he, y5, y6, y7, .ref sa, .ref so2, y10])), (sa, .inl (xI g, 24, .inl (fun j => iI (stt j)))), (so2, .inl (xI g, 24, .inl (fun j => iI (oo j)))), (he, .inl (xI g, 12, .inl (fun j => nI ((fun (_ : Nat) => (0 : Nat)) j))))] H := hP
  have hD : va_D A [(ya, .inr (7, [y0, .int 0, .int 0, y3, .ref he, y5, y6, y7, .ref sa, .ref so2, y10])), (sa, .inl (xI g, 24, .inl (fun j => iI (stt j)))), (so2, .inl (xI g, 24, .inl (fun j => iI (oo j)))), (he, .inl (xI g, 12, .inl (fun j => nI ((fun (_ : Nat) => (0 : Nat)) j))))] := hD
  try dsimp only at hw_2
  have hb_3 : ∀ j, (fun (_ : Nat) => (0 : Nat)) j ≤ 5 := (fun j => by dsimp only; omega)
  refine lv_aload_n hx hb dX7_empty_18 rfl (lv_at hl 0 rfl) ?_
  refine va_get (D := xD g) (ci := 7) (v := .ref sa) (C := RX7) (T := TX7) (N := 11) hx hb hts hFX7 hown hK hP 0 rfl rfl 8 (by decide) (hts (.fieldLink RX7 29 "Stevedore$Yard" "state" "[I") (by decide +kernel)) (fun _ h9 => h9) rfl dX7_empty_19 ?_
  refine lv_iconst (v := 0) hx hb dX7_empty_22 (by decide) ?_
  have hPc := hP.sub (ws' := [(sa, .inl (xI g, 24, .inl (fun j => iI (stt j))))]) [1] rfl
  have hDc := hD.sub (ws' := [(sa, .inl (xI g, 24, .inl (fun j => iI (stt j))))]) [1] (by decide) rfl
  have hFc := va_free (wc := [(sa, .inl (xI g, 24, .inl (fun j => iI (stt j))))]) hD hS hA [1] rfl
  refine va_callv (va_runS (As := [.ref sa, .int 0]) (rest := []) ⟨hx, hb, hml, hown, hts⟩ (j_fill l g H.size sa 24 0 stt (by first | assumption | omega)) (va_cwS 2 hts gX7_empty_J7_fill_53178 rfl rfl rfl (by decide +kernel) ⟨Nat.le_of_ble_eq_true rfl, Nat.le_of_ble_eq_true rfl⟩) ⟨xB.blind, fun U9 hU9 hW9 => ⟨rfl, xB.mk hPc hK hDc hU9 hW9⟩⟩ rfl rfl hl.1 rfl (lv_room (Nat.le_of_ble_eq_true rfl)) dX7_empty_23 ⟨Nat.le_of_ble_eq_true rfl, Nat.le_of_ble_eq_true rfl⟩) hS (fun q _ h => hFc q h) hFc (fun _ t H1 locs ht hvm hw_5 hB hz1 hk1 hS => ?_)
  obtain ⟨hP1, hK1, hD1⟩ := hB
  rw [ht] at hP1
  obtain ⟨hP, hD⟩ := va_join (wr := [(ya, .inr (7, [y0, .int 0, .int 0, y3, .ref he, y5, y6, y7, .ref sa, .ref so2, y10])), (so2, .inl (xI g, 24, .inl (fun j => iI (oo j)))), (he, .inl (xI g, 12, .inl (fun j => nI ((fun (_ : Nat) => (0 : Nat)) j))))]) (w1 := [(sa, .inl (xI g, 24, .inl (fun j => iI ((fun (_ : Nat) => (0 : Int)) j))))]) hP hD [1] [0, 2, 3] rfl rfl (by decide) (by decide) hk1 hFc hP1 hD1
  generalize H1 = H at hP hS ⊢
  have hP : va_P (xD g) vwCl [(ya, .inr (7, [y0, .int 0, .int 0, y3, .ref he, y5, y6, y7, .ref sa, .ref so2, y10])), (so2, .inl (xI g, 24, .inl (fun j => iI (oo j)))), (he, .inl (xI g, 12, .inl (fun j => nI ((fun (_ : Nat) => (0 : Nat)) j)))), (sa, .inl (xI g, 24, .inl (fun j => iI ((fun (_ : Nat) => (0 : Int)) j))))] H := hP
  have hD : va_D A [(ya, .inr (7, [y0, .int 0, .int 0, y3, .ref he, y5, y6, y7, .ref sa, .ref so2, y10])), (so2, .inl (xI g, 24, .inl (fun j => iI (oo j)))), (he, .inl (xI g, 12, .inl (fun j => nI ((fun (_ : Nat) => (0 : Nat)) j)))), (sa, .inl (xI g, 24, .inl (fun j => iI ((fun (_ : Nat) => (0 : Int)) j))))] := hD
  try dsimp only at hw_5
  have hb_6 : ∀ j, 0 ≤ (fun (_ : Nat) => (0 : Int)) j ∧ (fun (_ : Nat) => (0 : Int)) j ≤ 4 := (fun j => by dsimp only; omega)
  refine lv_aload_n hx hb dX7_empty_26 rfl (lv_at hl 0 rfl) ?_
  refine va_get (D := xD g) (ci := 7) (v := .ref so2) (C := RX7) (T := TX7) (N := 11) hx hb hts hFX7 hown hK hP 0 rfl rfl 9 (by decide) (hts (.fieldLink RX7 32 "Stevedore$Yard" "stackOfContainer" "[I") (by decide +kernel)) (fun _ h9 => h9) rfl dX7_empty_27 ?_
  refine lv_iconst (v := (-1)) hx hb dX7_empty_30 (by decide) ?_
  have hPc := hP.sub (ws' := [(so2, .inl (xI g, 24, .inl (fun j => iI (oo j))))]) [1] rfl
  have hDc := hD.sub (ws' := [(so2, .inl (xI g, 24, .inl (fun j => iI (oo j))))]) [1] (by decide) rfl
  have hFc := va_free (wc := [(so2, .inl (xI g, 24, .inl (fun j => iI (oo j))))]) hD hS hA [1] rfl
  refine va_callv (va_runS (As := [.ref so2, .int (-1)]) (rest := []) ⟨hx, hb, hml, hown, hts⟩ (j_fill l g H.size so2 24 (-1) oo (by first | assumption | omega)) (va_cwS 2 hts gX7_empty_J7_fill_53178 rfl rfl rfl (by decide +kernel) ⟨Nat.le_of_ble_eq_true rfl, Nat.le_of_ble_eq_true rfl⟩) ⟨xB.blind, fun U9 hU9 hW9 => ⟨rfl, xB.mk hPc hK hDc hU9 hW9⟩⟩ rfl rfl hl.1 rfl (lv_room (Nat.le_of_ble_eq_true rfl)) dX7_empty_31 ⟨Nat.le_of_ble_eq_true rfl, Nat.le_of_ble_eq_true rfl⟩) hS (fun q _ h => hFc q h) hFc (fun _ t H1 locs ht hvm hw_8 hB hz1 hk1 hS => ?_)
  obtain ⟨hP1, hK1, hD1⟩ := hB
  rw [ht] at hP1
  obtain ⟨hP, hD⟩ := va_join (wr := [(ya, .inr (7, [y0, .int 0, .int 0, y3, .ref he, y5, y6, y7, .ref sa, .ref so2, y10])), (he, .inl (xI g, 12, .inl (fun j => nI ((fun (_ : Nat) => (0 : Nat)) j)))), (sa, .inl (xI g, 24, .inl (fun j => iI ((fun (_ : Nat) => (0 : Int)) j))))]) (w1 := [(so2, .inl (xI g, 24, .inl (fun j => iI ((fun (_ : Nat) => ((-1) : Int)) j))))]) hP hD [1] [0, 2, 3] rfl rfl (by decide) (by decide) hk1 hFc hP1 hD1
  generalize H1 = H at hP hS ⊢
  have hP : va_P (xD g) vwCl [(ya, .inr (7, [y0, .int 0, .int 0, y3, .ref he, y5, y6, y7, .ref sa, .ref so2, y10])), (he, .inl (xI g, 12, .inl (fun j => nI ((fun (_ : Nat) => (0 : Nat)) j)))), (sa, .inl (xI g, 24, .inl (fun j => iI ((fun (_ : Nat) => (0 : Int)) j)))), (so2, .inl (xI g, 24, .inl (fun j => iI ((fun (_ : Nat) => ((-1) : Int)) j))))] H := hP
  have hD : va_D A [(ya, .inr (7, [y0, .int 0, .int 0, y3, .ref he, y5, y6, y7, .ref sa, .ref so2, y10])), (he, .inl (xI g, 12, .inl (fun j => nI ((fun (_ : Nat) => (0 : Nat)) j)))), (sa, .inl (xI g, 24, .inl (fun j => iI ((fun (_ : Nat) => (0 : Int)) j)))), (so2, .inl (xI g, 24, .inl (fun j => iI ((fun (_ : Nat) => ((-1) : Int)) j))))] := hD
  try dsimp only at hw_8
  have hb_9 : ∀ j, (-1) ≤ (fun (_ : Nat) => ((-1) : Int)) j ∧ (fun (_ : Nat) => ((-1) : Int)) j ≤ 11 := (fun j => by dsimp only; omega)
  have hP9 := hP
  have hD9 := hD
  exact W.vret hx hb hr (fun t ht hW => ⟨⟨(), rfl, (by first | trivial | rfl | assumption | omega), ⟨hb_3, hb_6, hb_9, by rw [ht]; exact hP9, va_K.moved hW.alike hK, hD9⟩⟩, hS.F ht⟩) hS.2.2 dX7_empty_34
theorem dX0_add_0 : decode cX0_add 0 = .ok (.aload_n 0, 1) := by decide +kernel
theorem dX0_add_1 : decode cX0_add 1 = .ok (.getfield 15, 3) := by decide +kernel
theorem dX0_add_4 : decode cX0_add 4 = .ok (.aload_n 0, 1) := by decide +kernel
theorem dX0_add_5 : decode cX0_add 5 = .ok (.getfield 9, 3) := by decide +kernel
theorem dX0_add_8 : decode cX0_add 8 = .ok (.arraylength, 1) := by decide +kernel
theorem dX0_add_9 : decode cX0_add 9 = .ok (.if_icmp .lt 4, 3) := by decide +kernel
theorem dX0_add_13 : decode cX0_add 13 = .ok (.iload_n 1, 1) := by decide +kernel
theorem dX0_add_14 : decode cX0_add 14 = .ok (.iconst 4, 1) := by decide +kernel
theorem dX0_add_15 : decode cX0_add 15 = .ok (.imul, 1) := by decide +kernel
theorem dX0_add_16 : decode cX0_add 16 = .ok (.iload_n 2, 1) := by decide +kernel
theorem dX0_add_17 : decode cX0_add 17 = .ok (.iadd, 1) := by decide +kernel
theorem dX0_add_18 : decode cX0_add 18 = .ok (.bipush 32, 2) := by decide +kernel
theorem dX0_add_20 : decode cX0_add 20 = .ok (.imul, 1) := by decide +kernel
theorem dX0_add_21 : decode cX0_add 21 = .ok (.iload_n 3, 1) := by decide +kernel
theorem dX0_add_22 : decode cX0_add 22 = .ok (.iadd, 1) := by decide +kernel
theorem dX0_add_23 : decode cX0_add 23 = .ok (.istore 4, 2) := by decide +kernel
theorem dX0_add_25 : decode cX0_add 25 = .ok (.aload_n 0, 1) := by decide +kernel
theorem dX0_add_26 : decode cX0_add 26 = .ok (.getfield 15, 3) := by decide +kernel
theorem dX0_add_29 : decode cX0_add 29 = .ok (.istore 5, 2) := by decide +kernel
theorem dX0_add_31 : decode cX0_add 31 = .ok (.iload 5, 2) := by decide +kernel
theorem dX0_add_33 : decode cX0_add 33 = .ok (.ifCond .le 39, 3) := by decide +kernel
theorem dX0_add_72 : decode cX0_add 72 = .ok (.aload_n 0, 1) := by decide +kernel
theorem dX0_add_73 : decode cX0_add 73 = .ok (.getfield 9, 3) := by decide +kernel
theorem dX0_add_76 : decode cX0_add 76 = .ok (.iload 5, 2) := by decide +kernel
theorem dX0_add_78 : decode cX0_add 78 = .ok (.iload 4, 2) := by decide +kernel
theorem dX0_add_80 : decode cX0_add 80 = .ok (.iastore, 1) := by decide +kernel
theorem dX0_add_81 : decode cX0_add 81 = .ok (.aload_n 0, 1) := by decide +kernel
theorem dX0_add_82 : decode cX0_add 82 = .ok (.dup, 1) := by decide +kernel
theorem dX0_add_83 : decode cX0_add 83 = .ok (.getfield 15, 3) := by decide +kernel
theorem dX0_add_86 : decode cX0_add 86 = .ok (.iconst 1, 1) := by decide +kernel
theorem dX0_add_87 : decode cX0_add 87 = .ok (.iadd, 1) := by decide +kernel
theorem dX0_add_88 : decode cX0_add 88 = .ok (.putfield 15, 3) := by decide +kernel
theorem dX0_add_91 : decode cX0_add 91 = .ok (.return_, 1) := by decide +kernel
theorem dX0_add_36 : decode cX0_add 36 = .ok (.aload_n 0, 1) := by decide +kernel
theorem dX0_add_37 : decode cX0_add 37 = .ok (.getfield 9, 3) := by decide +kernel
theorem dX0_add_40 : decode cX0_add 40 = .ok (.iload 5, 2) := by decide +kernel
theorem dX0_add_42 : decode cX0_add 42 = .ok (.iconst 1, 1) := by decide +kernel
theorem dX0_add_43 : decode cX0_add 43 = .ok (.isub, 1) := by decide +kernel
theorem dX0_add_44 : decode cX0_add 44 = .ok (.iaload, 1) := by decide +kernel
theorem dX0_add_45 : decode cX0_add 45 = .ok (.iload 4, 2) := by decide +kernel
theorem dX0_add_47 : decode cX0_add 47 = .ok (.if_icmp .le 25, 3) := by decide +kernel
theorem dX0_add_50 : decode cX0_add 50 = .ok (.aload_n 0, 1) := by decide +kernel
theorem dX0_add_51 : decode cX0_add 51 = .ok (.getfield 9, 3) := by decide +kernel
theorem dX0_add_54 : decode cX0_add 54 = .ok (.iload 5, 2) := by decide +kernel
theorem dX0_add_56 : decode cX0_add 56 = .ok (.aload_n 0, 1) := by decide +kernel
theorem dX0_add_57 : decode cX0_add 57 = .ok (.getfield 9, 3) := by decide +kernel
theorem dX0_add_60 : decode cX0_add 60 = .ok (.iload 5, 2) := by decide +kernel
theorem dX0_add_62 : decode cX0_add 62 = .ok (.iconst 1, 1) := by decide +kernel
theorem dX0_add_63 : decode cX0_add 63 = .ok (.isub, 1) := by decide +kernel
theorem dX0_add_64 : decode cX0_add 64 = .ok (.iaload, 1) := by decide +kernel
theorem dX0_add_65 : decode cX0_add 65 = .ok (.iastore, 1) := by decide +kernel
theorem dX0_add_66 : decode cX0_add 66 = .ok (.iinc 5 (-1), 3) := by decide +kernel
theorem dX0_add_69 : decode cX0_add 69 = .ok (.goto (-38), 3) := by decide +kernel
set_option maxHeartbeats 4000000 in
set_option maxRecDepth 100000 in
theorem a_add (l : Launch) (g : xG) (sz : Nat) (ag : Nat) (ky : Nat) (cnt : Nat) (ti : Nat) (ki : Nat) (cn : Nat) (kf : Nat → Nat)  (hcnt : cnt < 48) (hti : ti ≤ 200000) (hki : ki < 4) (hcn : cn < 32) (b_kf : ∀ j, kf j ≤ 100000000) : Met l yX0_add wsX0_add ({ frames := 0, cells := 0, slots := 0, locals := 0 }) (va_Pc [.ref ag, .int (nI ti), .int (nI ki), .int (nI cn)] (fun U => xB g [(ag, .inr (0, [.int (nI cnt), .ref ky])), (ky, .inl (xI g, 48, .inl (fun j => nI (kf j))))] sz U)) (va_Qv (fun (_ : Unit) => True) (fun (_ : Unit) (t : State) => ∃ (kf2 : Nat → Nat), (∃ q, q ≤ cnt ∧ (∀ j, j < q → kf2 j = kf j) ∧ kf2 q = ((ti * 4 + ki) * 32 + cn) ∧ (∀ j, q < j → j ≤ cnt → kf2 j = kf (j - 1)) ∧ (q = 0 ∨ kf (q - 1) ≤ ((ti * 4 + ki) * 32 + cn)) ∧ (∀ j, q ≤ j → j < cnt → ((ti * 4 + ki) * 32 + cn) < kf j)) ∧ (∀ j, kf2 j ≤ 100000000) ∧ xE g [(ag, .inr (0, [.int (nI (cnt + 1)), .ref ky])), (ky, .inl (xI g, 48, .inl (fun j => nI (kf2 j))))] (va_A [(ag, .inr (0, [.int (nI cnt), .ref ky])), (ky, .inl (xI g, 48, .inl (fun j => nI (kf j))))] sz) t) (va_A [(ag, .inr (0, [.int (nI cnt), .ref ky])), (ky, .inl (xI g, 48, .inl (fun j => nI (kf j))))] sz)) 0 0 (va_A [(ag, .inr (0, [.int (nI cnt), .ref ky])), (ky, .inl (xI g, 48, .inl (fun j => nI (kf j))))] sz) := by
  refine Met.ofW (cc := cX0_add) (maxL := 6) (ret := none) (by decide) rfl ?_
  intro p e s m args below meth c s₁ B hml hv
  obtain ⟨rfl, hsz, hP, hK, hD0⟩ := hv
  have hx := B.exec
  have hb := B.bytes
  have hr := B.returns
  have hts := atoms_spec (ws := wsX0_add) B.pre
  have hown : s.vm.findClass RX0 = some m.cls := findClass_of_methodNamed B.named
  have hlocks := B.notSynchronized
  subst hsz
  have hD := hD0.self (sz := s.heap.size)
  generalize hAe : va_A [(ag, .inr (0, [.int (nI cnt), .ref ky])), (ky, .inl (xI g, 48, .inl (fun j => nI (kf j))))] s.heap.size = A at hD ⊢
  have hA : ∀ q : Nat, s.heap.size ≤ q → A q := fun q h => by rw [← hAe]; exact Or.inr h
  have hS : va_S A s.heap s.heap [] := va_S.rf
  have hl := lv_entry ([.ref ag, .int (nI ti), .int (nI ki), .int (nI cn)]) (n := 6) (Nat.le_of_ble_eq_true rfl)
  rw [lg_entry_eq]
  generalize (lg_sl ([.ref ag, .int (nI ti), .int (nI ki), .int (nI cn)]) ++ List.replicate (6 - (lg_sl ([.ref ag, .int (nI ti), .int (nI ki), .int (nI cn)])).length) Slot.unset).toArray = ls at hl ⊢
  have hl : lv_has ls 6 [(0, .ref ag), (1, .int (nI ti)), (2, .int (nI ki)), (3, .int (nI cn))] := hl
  have hFX0 : ∀ w ∈ u_ws RX0 TX0 2, w ∈ wsX0_add := by decide +kernel
  refine lv_aload_n hx hb dX0_add_0 rfl (lv_at hl 0 rfl) ?_
  refine va_get (D := xD g) (ci := 0) (v := .int (nI cnt)) (C := RX0) (T := TX0) (N := 2) hx hb hts hFX0 hown hK hP 0 rfl rfl 0 (by decide) (hts (.fieldLink RX0 15 "Stevedore$Agenda" "count" "I") (by decide +kernel)) (fun _ h9 => h9) rfl dX0_add_1 ?_
  refine lv_aload_n hx hb dX0_add_4 rfl (lv_at hl 0 rfl) ?_
  refine va_get (D := xD g) (ci := 0) (v := .ref ky) (C := RX0) (T := TX0) (N := 2) hx hb hts hFX0 hown hK hP 0 rfl rfl 1 (by decide) (hts (.fieldLink RX0 9 "Stevedore$Agenda" "key" "[I") (by decide +kernel)) (fun _ h9 => h9) rfl dX0_add_5 ?_
  refine va_alen (v := 48) hx hb hK hP 1 0 rfl rfl rfl dX0_add_8 ?_
  refine lv_icmp_lt (tgt := 13) hx hb dX0_add_9 (by decide) (fun c_1 => ?_) (fun c_1 => ?_)
  · have nc_1 := (nI_ltI (a := cnt) (b := 48) (by omega) (by omega)).mp c_1
    refine lv_iload_n hx hb dX0_add_13 rfl (lv_at hl 1 rfl) ?_
    refine lv_iconst (v := 4) hx hb dX0_add_14 (by decide) ?_
    refine lv_imul hx hb dX0_add_15 ?_
    refine lv_topi (fun v_2 ev => ?_)
    obtain rfl : v_2 = nI (ti * 4) := ev.trans (pk_mul ti 4)
    refine lv_iload_n hx hb dX0_add_16 rfl (lv_at hl 2 rfl) ?_
    refine lv_iadd hx hb dX0_add_17 ?_
    refine lv_topi (fun v_3 ev => ?_)
    obtain rfl : v_3 = nI ((ti * 4) + ki) := ev.trans (nI_add (ti * 4) ki)
    refine lv_bipush (v := 32) hx hb dX0_add_18 (by decide) ?_
    refine lv_imul hx hb dX0_add_20 ?_
    refine lv_topi (fun v_4 ev => ?_)
    obtain rfl : v_4 = nI (((ti * 4) + ki) * 32) := ev.trans (pk_mul ((ti * 4) + ki) 32)
    refine lv_iload_n hx hb dX0_add_21 rfl (lv_at hl 3 rfl) ?_
    refine lv_iadd hx hb dX0_add_22 ?_
    refine lv_topi (fun v_5 ev => ?_)
    obtain rfl : v_5 = nI ((((ti * 4) + ki) * 32) + cn) := ev.trans (nI_add (((ti * 4) + ki) * 32) cn)
    refine lv_istore (lv' := [(4, .int (nI ((((ti * 4) + ki) * 32) + cn))), (0, .ref ag), (1, .int (nI ti)), (2, .int (nI ki)), (3, .int (nI cn))]) hx hb dX0_add_23 hl (by decide) rfl (fun ls hl => ?_)
    refine lv_aload_n hx hb dX0_add_25 rfl (lv_at hl 1 rfl) ?_
    refine va_get (D := xD g) (ci := 0) (v := .int (nI cnt)) (C := RX0) (T := TX0) (N := 2) hx hb hts hFX0 hown hK hP 0 rfl rfl 0 (by decide) (hts (.fieldLink RX0 15 "Stevedore$Agenda" "count" "I") (by decide +kernel)) (fun _ h9 => h9) rfl dX0_add_26 ?_
    refine lv_istore (lv' := [(5, .int (nI cnt)), (4, .int (nI ((((ti * 4) + ki) * 32) + cn))), (0, .ref ag), (1, .int (nI ti)), (2, .int (nI ki)), (3, .int (nI cn))]) hx hb dX0_add_29 hl (by decide) rfl (fun ls hl => ?_)
    have hloop31 : ∀ (n9 : Nat) (q : Nat) (kq : Nat → Nat) (H : Heap) (locs : List Loc) (ls : Array Slot), q < n9 → (q ≤ cnt) → (∀ j, j < q → kq j = kf j) → (∀ j, q < j → j ≤ cnt → kq j = kf (j - 1)) → (∀ j, q ≤ j → j < cnt → ((ti * 4 + ki) * 32 + cn) < kf j) → (∀ j, kq j ≤ 100000000) → va_P (xD g) vwCl [(ag, .inr (0, [.int (nI cnt), .ref ky])), (ky, .inl (xI g, 48, .inl (fun j => nI (kq j))))] H → va_D A [(ag, .inr (0, [.int (nI cnt), .ref ky])), (ky, .inl (xI g, 48, .inl (fun j => nI (kq j))))] → va_S A s.heap H locs → lv_has ls 6 [(5, .int (nI q)), (0, .ref ag), (4, .int (nI ((ti * 4 + ki) * 32 + cn)))] → W p l e (headSpec wsX0_add ({ frames := 0, cells := 0, slots := 0, locals := 0 })).room s m ([.ref ag, .int (nI ti), .int (nI ki), .int (nI cn)] : List Value).toArray below meth c H locs 0 0 (MQ below (va_Qv (fun (_ : Unit) => True) (fun (_ : Unit) (t : State) => ∃ (kf2 : Nat → Nat), (∃ q, q ≤ cnt ∧ (∀ j, j < q → kf2 j = kf j) ∧ kf2 q = ((ti * 4 + ki) * 32 + cn) ∧ (∀ j, q < j → j ≤ cnt → kf2 j = kf (j - 1)) ∧ (q = 0 ∨ kf (q - 1) ≤ ((ti * 4 + ki) * 32 + cn)) ∧ (∀ j, q ≤ j → j < cnt → ((ti * 4 + ki) * 32 + cn) < kf j)) ∧ (∀ j, kf2 j ≤ 100000000) ∧ xE g [(ag, .inr (0, [.int (nI (cnt + 1)), .ref ky])), (ky, .inl (xI g, 48, .inl (fun j => nI (kf2 j))))] (A) t) (A)) ([.ref ag, .int (nI ti), .int (nI ki), .int (nI cn)] : List Value).toArray s 0 0 A) (F0 m 31 ls []) := by
      intro n9
      induction n9 with
      | zero =>
        intro q kq H locs ls hm hq9 h1 h2 h3 bb_kq hP hD hS hl
        exact absurd hm (Nat.not_lt_zero _)
      | succ n9 ih31 =>
        intro q kq H locs ls hm hq9 h1 h2 h3 bb_kq hP hD hS hl
        have hbq := bb_kq (q - 1)
        refine lv_iload hx hb dX0_add_31 (lv_at hl 0 rfl) ?_
        refine lv_if_le (tgt := 72) hx hb dX0_add_33 (by decide) (fun c_6 => ?_) (fun c_6 => ?_)
        · have nc_6 := (nI_leI (a := q) (b := 0) (by omega) (by omega)).mp c_6
          refine lv_aload_n hx hb dX0_add_72 rfl (lv_at hl 1 rfl) ?_
          refine va_get (D := xD g) (ci := 0) (v := .ref ky) (C := RX0) (T := TX0) (N := 2) hx hb hts hFX0 hown hK hP 0 rfl rfl 1 (by decide) (hts (.fieldLink RX0 9 "Stevedore$Agenda" "key" "[I") (by decide +kernel)) (fun _ h9 => h9) rfl dX0_add_73 ?_
          refine lv_iload hx hb dX0_add_76 (lv_at hl 0 rfl) ?_
          refine lv_iload hx hb dX0_add_78 (lv_at hl 2 rfl) ?_
          refine va_iast (x := nI ((ti * 4 + ki) * 32 + cn)) hx hb hK hP hD hS 1 0 rfl rfl (vp_in_nI (by omega) (by omega)) dX0_add_80 (fun H locs hP hD hS => ?_)
          rw [nU (f := kq) (k := q) (v := (ti * 4 + ki) * 32 + cn) (nI_clamp (by omega)) rfl] at hP hD
          have hb_7 : ∀ j, (nV kq q ((ti * 4 + ki) * 32 + cn)) j ≤ 100000000 := nV_all (P := fun q9 => q9 ≤ 100000000) bb_kq (by omega)
          have hP : va_P (xD g) vwCl [(ag, .inr (0, [.int (nI cnt), .ref ky])), (ky, .inl (xI g, 48, .inl (fun j => nI ((nV kq q ((ti * 4 + ki) * 32 + cn)) j))))] H := hP
          have hD : va_D A [(ag, .inr (0, [.int (nI cnt), .ref ky])), (ky, .inl (xI g, 48, .inl (fun j => nI ((nV kq q ((ti * 4 + ki) * 32 + cn)) j))))] := hD
          refine lv_aload_n hx hb dX0_add_81 rfl (lv_at hl 1 rfl) ?_
          refine lv_dup hx hb dX0_add_82 rfl ?_
          refine va_get (D := xD g) (ci := 0) (v := .int (nI cnt)) (C := RX0) (T := TX0) (N := 2) hx hb hts hFX0 hown hK hP 0 rfl rfl 0 (by decide) (hts (.fieldLink RX0 15 "Stevedore$Agenda" "count" "I") (by decide +kernel)) (fun _ h9 => h9) rfl dX0_add_83 ?_
          refine lv_iconst (v := 1) hx hb dX0_add_86 (by decide) ?_
          refine lv_iadd hx hb dX0_add_87 ?_
          refine lv_topi (fun v_8 ev => ?_)
          obtain rfl : v_8 = nI (cnt + 1) := ev.trans (nI_add cnt 1)
          refine va_put (D := xD g) (ci := 0) (v := .int (nI (cnt + 1))) (ty := .int) (C := RX0) (T := TX0) (N := 2) hx hb hts hFX0 tyX0 tyX0_ok nmX0 hown hK hP hD hS 0 rfl rfl 0 (by decide) (hts (.fieldLink RX0 15 "Stevedore$Agenda" "count" "I") (by decide +kernel)) (fun _ h9 => h9) rfl (by decide +kernel) rfl rfl (Nat.le_of_ble_eq_true rfl) dX0_add_88 (fun H locs hP hD hS => ?_)
          have hP : va_P (xD g) vwCl [(ag, .inr (0, [.int (nI (cnt + 1)), .ref ky])), (ky, .inl (xI g, 48, .inl (fun j => nI ((nV kq q ((ti * 4 + ki) * 32 + cn)) j))))] H := hP
          have hD : va_D A [(ag, .inr (0, [.int (nI (cnt + 1)), .ref ky])), (ky, .inl (xI g, 48, .inl (fun j => nI ((nV kq q ((ti * 4 + ki) * 32 + cn)) j))))] := hD
          have hP9 := hP
          have hD9 := hD
          exact W.vret hx hb hr (fun t ht hW => ⟨⟨(), rfl, (by first | trivial | rfl | assumption | omega), ⟨(nV kq q ((ti * 4 + ki) * 32 + cn)), ⟨q, hq9, (fun j hj => by simp only [nV]; rw [if_neg (by omega)]; exact h1 j hj), (by simp only [nV, if_true]), (fun j hj hj2 => by simp only [nV]; rw [if_neg (by omega)]; exact h2 j hj hj2), (by by_cases z : q = 0; (exact Or.inl z); (refine Or.inr ?_; rw [← h1 (q - 1) (by omega)]; omega)), h3⟩, hb_7, by rw [ht]; exact hP9, va_K.moved hW.alike hK, hD9⟩⟩, hS.F ht⟩) hS.2.2 dX0_add_91
        · have nc_6 := mt (nI_leI (a := q) (b := 0) (by omega) (by omega)).mpr c_6
          refine lv_aload_n hx hb dX0_add_36 rfl (lv_at hl 1 rfl) ?_
          refine va_get (D := xD g) (ci := 0) (v := .ref ky) (C := RX0) (T := TX0) (N := 2) hx hb hts hFX0 hown hK hP 0 rfl rfl 1 (by decide) (hts (.fieldLink RX0 9 "Stevedore$Agenda" "key" "[I") (by decide +kernel)) (fun _ h9 => h9) rfl dX0_add_37 ?_
          refine lv_iload hx hb dX0_add_40 (lv_at hl 0 rfl) ?_
          refine lv_iconst (v := 1) hx hb dX0_add_42 (by decide) ?_
          refine lv_isub hx hb dX0_add_43 ?_
          refine lv_topi (fun v_9 ev => ?_)
          obtain rfl : v_9 = nI (q - 1) := ev.trans (pk_sub (a := q) (b := 1) (by omega))
          refine va_iald hx hb hK hP 1 0 rfl rfl (vp_in_nI (by omega) (by omega)) dX0_add_44 ?_
          refine lv_topi (fun v_10 ev => ?_)
          obtain rfl : v_10 = nI (kq (q - 1)) := ev.trans (congrArg (fun q9 => nI (kq q9)) (nI_clamp (by omega)))
          have b_11 := bb_kq (q - 1)
          refine lv_iload hx hb dX0_add_45 (lv_at hl 2 rfl) ?_
          refine lv_icmp_le (tgt := 72) hx hb dX0_add_47 (by decide) (fun c_12 => ?_) (fun c_12 => ?_)
          · have nc_12 := (nI_leI (a := kq (q - 1)) (b := (ti * 4 + ki) * 32 + cn) (by omega) (by omega)).mp c_12
            refine lv_aload_n hx hb dX0_add_72 rfl (lv_at hl 1 rfl) ?_
            refine va_get (D := xD g) (ci := 0) (v := .ref ky) (C := RX0) (T := TX0) (N := 2) hx hb hts hFX0 hown hK hP 0 rfl rfl 1 (by decide) (hts (.fieldLink RX0 9 "Stevedore$Agenda" "key" "[I") (by decide +kernel)) (fun _ h9 => h9) rfl dX0_add_73 ?_
            refine lv_iload hx hb dX0_add_76 (lv_at hl 0 rfl) ?_
            refine lv_iload hx hb dX0_add_78 (lv_at hl 2 rfl) ?_
            refine va_iast (x := nI ((ti * 4 + ki) * 32 + cn)) hx hb hK hP hD hS 1 0 rfl rfl (vp_in_nI (by omega) (by omega)) dX0_add_80 (fun H locs hP hD hS => ?_)
            rw [nU (f := kq) (k := q) (v := (ti * 4 + ki) * 32 + cn) (nI_clamp (by omega)) rfl] at hP hD
            have hb_13 : ∀ j, (nV kq q ((ti * 4 + ki) * 32 + cn)) j ≤ 100000000 := nV_all (P := fun q9 => q9 ≤ 100000000) bb_kq (by omega)
            have hP : va_P (xD g) vwCl [(ag, .inr (0, [.int (nI cnt), .ref ky])), (ky, .inl (xI g, 48, .inl (fun j => nI ((nV kq q ((ti * 4 + ki) * 32 + cn)) j))))] H := hP
            have hD : va_D A [(ag, .inr (0, [.int (nI cnt), .ref ky])), (ky, .inl (xI g, 48, .inl (fun j => nI ((nV kq q ((ti * 4 + ki) * 32 + cn)) j))))] := hD
            refine lv_aload_n hx hb dX0_add_81 rfl (lv_at hl 1 rfl) ?_
            refine lv_dup hx hb dX0_add_82 rfl ?_
            refine va_get (D := xD g) (ci := 0) (v := .int (nI cnt)) (C := RX0) (T := TX0) (N := 2) hx hb hts hFX0 hown hK hP 0 rfl rfl 0 (by decide) (hts (.fieldLink RX0 15 "Stevedore$Agenda" "count" "I") (by decide +kernel)) (fun _ h9 => h9) rfl dX0_add_83 ?_
            refine lv_iconst (v := 1) hx hb dX0_add_86 (by decide) ?_
            refine lv_iadd hx hb dX0_add_87 ?_
            refine lv_topi (fun v_14 ev => ?_)
            obtain rfl : v_14 = nI (cnt + 1) := ev.trans (nI_add cnt 1)
            refine va_put (D := xD g) (ci := 0) (v := .int (nI (cnt + 1))) (ty := .int) (C := RX0) (T := TX0) (N := 2) hx hb hts hFX0 tyX0 tyX0_ok nmX0 hown hK hP hD hS 0 rfl rfl 0 (by decide) (hts (.fieldLink RX0 15 "Stevedore$Agenda" "count" "I") (by decide +kernel)) (fun _ h9 => h9) rfl (by decide +kernel) rfl rfl (Nat.le_of_ble_eq_true rfl) dX0_add_88 (fun H locs hP hD hS => ?_)
            have hP : va_P (xD g) vwCl [(ag, .inr (0, [.int (nI (cnt + 1)), .ref ky])), (ky, .inl (xI g, 48, .inl (fun j => nI ((nV kq q ((ti * 4 + ki) * 32 + cn)) j))))] H := hP
            have hD : va_D A [(ag, .inr (0, [.int (nI (cnt + 1)), .ref ky])), (ky, .inl (xI g, 48, .inl (fun j => nI ((nV kq q ((ti * 4 + ki) * 32 + cn)) j))))] := hD
            have hP9 := hP
            have hD9 := hD
            exact W.vret hx hb hr (fun t ht hW => ⟨⟨(), rfl, (by first | trivial | rfl | assumption | omega), ⟨(nV kq q ((ti * 4 + ki) * 32 + cn)), ⟨q, hq9, (fun j hj => by simp only [nV]; rw [if_neg (by omega)]; exact h1 j hj), (by simp only [nV, if_true]), (fun j hj hj2 => by simp only [nV]; rw [if_neg (by omega)]; exact h2 j hj hj2), (by by_cases z : q = 0; (exact Or.inl z); (refine Or.inr ?_; rw [← h1 (q - 1) (by omega)]; omega)), h3⟩, hb_13, by rw [ht]; exact hP9, va_K.moved hW.alike hK, hD9⟩⟩, hS.F ht⟩) hS.2.2 dX0_add_91
          · have nc_12 := mt (nI_leI (a := kq (q - 1)) (b := (ti * 4 + ki) * 32 + cn) (by omega) (by omega)).mpr c_12
            refine lv_aload_n hx hb dX0_add_50 rfl (lv_at hl 1 rfl) ?_
            refine va_get (D := xD g) (ci := 0) (v := .ref ky) (C := RX0) (T := TX0) (N := 2) hx hb hts hFX0 hown hK hP 0 rfl rfl 1 (by decide) (hts (.fieldLink RX0 9 "Stevedore$Agenda" "key" "[I") (by decide +kernel)) (fun _ h9 => h9) rfl dX0_add_51 ?_
            refine lv_iload hx hb dX0_add_54 (lv_at hl 0 rfl) ?_
            refine lv_aload_n hx hb dX0_add_56 rfl (lv_at hl 1 rfl) ?_
            refine va_get (D := xD g) (ci := 0) (v := .ref ky) (C := RX0) (T := TX0) (N := 2) hx hb hts hFX0 hown hK hP 0 rfl rfl 1 (by decide) (hts (.fieldLink RX0 9 "Stevedore$Agenda" "key" "[I") (by decide +kernel)) (fun _ h9 => h9) rfl dX0_add_57 ?_
            refine lv_iload hx hb dX0_add_60 (lv_at hl 0 rfl) ?_
            refine lv_iconst (v := 1) hx hb dX0_add_62 (by decide) ?_
            refine lv_isub hx hb dX0_add_63 ?_
            refine lv_topi (fun v_15 ev => ?_)
            obtain rfl : v_15 = nI (q - 1) := ev.trans (pk_sub (a := q) (b := 1) (by omega))
            refine va_iald hx hb hK hP 1 0 rfl rfl (vp_in_nI (by omega) (by omega)) dX0_add_64 ?_
            refine lv_topi (fun v_16 ev => ?_)
            obtain rfl : v_16 = nI (kq (q - 1)) := ev.trans (congrArg (fun q9 => nI (kq q9)) (nI_clamp (by omega)))
            have b_17 := bb_kq (q - 1)
            refine va_iast (x := nI (kq (q - 1))) hx hb hK hP hD hS 1 0 rfl rfl (vp_in_nI (by omega) (by omega)) dX0_add_65 (fun H locs hP hD hS => ?_)
            rw [nU (f := kq) (k := q) (v := kq (q - 1)) (nI_clamp (by omega)) rfl] at hP hD
            have hb_18 : ∀ j, (nV kq q (kq (q - 1))) j ≤ 100000000 := nV_all (P := fun q9 => q9 ≤ 100000000) bb_kq (by omega)
            have hP : va_P (xD g) vwCl [(ag, .inr (0, [.int (nI cnt), .ref ky])), (ky, .inl (xI g, 48, .inl (fun j => nI ((nV kq q (kq (q - 1))) j))))] H := hP
            have hD : va_D A [(ag, .inr (0, [.int (nI cnt), .ref ky])), (ky, .inl (xI g, 48, .inl (fun j => nI ((nV kq q (kq (q - 1))) j))))] := hD
            refine lv_iinc (v := nI (q - 1)) (lv' := [(5, .int (nI (q - 1))), (0, .ref ag), (4, .int (nI ((ti * 4 + ki) * 32 + cn)))]) hx hb dX0_add_66 hl (k := 0) rfl (nI_dec (by omega)) (by decide) rfl (fun ls hl => ?_)
            refine lv_goto (tgt := 31) hx hb dX0_add_69 (by decide) ?_
            exact ih31 (q - 1) (nV kq q (kq (q - 1))) _ _ _ (by omega) (by omega) (by intro j hj; simp only [nV]; rw [if_neg (by omega)]; exact h1 j (by omega)) (by intro j hj hj2; simp only [nV]; by_cases z : j = q; (rw [if_pos z, z]; exact h1 (q - 1) (by omega)); (rw [if_neg z]; exact h2 j (by omega) hj2)) (by intro j hj hj2; by_cases z : j = q - 1; (rw [z, ← h1 (q - 1) (by omega)]; omega); (exact h3 j (by omega) hj2)) hb_18 hP hD hS (lv_sub hl [0, 1, 2] rfl)
    exact hloop31 (cnt + 1) cnt kf _ _ _ (by omega) (Nat.le_refl _) (fun _ _ => rfl) (fun j hj hj2 => absurd hj (by omega)) (fun j hj hj2 => absurd hj2 (by omega)) b_kf hP hD hS (lv_sub hl [0, 2, 1] rfl)
  · have nc_1 := mt (nI_ltI (a := cnt) (b := 48) (by omega) (by omega)).mpr c_1
    exfalso; omega
