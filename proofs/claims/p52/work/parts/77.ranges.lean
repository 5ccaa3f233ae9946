theorem dX3_chooseRanges_0 : decode cX3_chooseRanges 0 = .ok (.iconst 0, 1) := by decide +kernel
theorem dX3_chooseRanges_1 : decode cX3_chooseRanges 1 = .ok (.istore_n 2, 1) := by decide +kernel
theorem dX3_chooseRanges_2 : decode cX3_chooseRanges 2 = .ok (.iconst 0, 1) := by decide +kernel
theorem dX3_chooseRanges_3 : decode cX3_chooseRanges 3 = .ok (.istore_n 3, 1) := by decide +kernel
theorem dX3_chooseRanges_4 : decode cX3_chooseRanges 4 = .ok (.iload_n 3, 1) := by decide +kernel
theorem dX3_chooseRanges_5 : decode cX3_chooseRanges 5 = .ok (.aload_n 1, 1) := by decide +kernel
theorem dX3_chooseRanges_6 : decode cX3_chooseRanges 6 = .ok (.getfield 67, 3) := by decide +kernel
theorem dX3_chooseRanges_9 : decode cX3_chooseRanges 9 = .ok (.if_icmp .ge 31, 3) := by decide +kernel
theorem dX3_chooseRanges_40 : decode cX3_chooseRanges 40 = .ok (.return_, 1) := by decide +kernel
theorem dX3_chooseRanges_12 : decode cX3_chooseRanges 12 = .ok (.aload_n 1, 1) := by decide +kernel
theorem dX3_chooseRanges_13 : decode cX3_chooseRanges 13 = .ok (.getfield 73, 3) := by decide +kernel
theorem dX3_chooseRanges_16 : decode cX3_chooseRanges 16 = .ok (.iload_n 3, 1) := by decide +kernel
theorem dX3_chooseRanges_17 : decode cX3_chooseRanges 17 = .ok (.iload_n 2, 1) := by decide +kernel
theorem dX3_chooseRanges_18 : decode cX3_chooseRanges 18 = .ok (.iastore, 1) := by decide +kernel
theorem dX3_chooseRanges_19 : decode cX3_chooseRanges 19 = .ok (.aload_n 0, 1) := by decide +kernel
theorem dX3_chooseRanges_20 : decode cX3_chooseRanges 20 = .ok (.aload_n 1, 1) := by decide +kernel
theorem dX3_chooseRanges_21 : decode cX3_chooseRanges 21 = .ok (.iload_n 2, 1) := by decide +kernel
theorem dX3_chooseRanges_22 : decode cX3_chooseRanges 22 = .ok (.aload_n 1, 1) := by decide +kernel
theorem dX3_chooseRanges_23 : decode cX3_chooseRanges 23 = .ok (.getfield 67, 3) := by decide +kernel
theorem dX3_chooseRanges_26 : decode cX3_chooseRanges 26 = .ok (.iload_n 3, 1) := by decide +kernel
theorem dX3_chooseRanges_27 : decode cX3_chooseRanges 27 = .ok (.isub, 1) := by decide +kernel
theorem dX3_chooseRanges_28 : decode cX3_chooseRanges 28 = .ok (.iconst 1, 1) := by decide +kernel
theorem dX3_chooseRanges_29 : decode cX3_chooseRanges 29 = .ok (.isub, 1) := by decide +kernel
theorem dX3_chooseRanges_30 : decode cX3_chooseRanges 30 = .ok (.invokevirtual 76, 3) := by decide +kernel
set_option maxRecDepth 20000 in
theorem ggX3_chooseRanges_X3_endOfShortest : GoodIn wsX3_chooseRanges wsX3_endOfShortest := goodIn_r _ [7, 8, 9, 10, 11, 12, 13, 14, 15, 16, 17, 18, 19, 20, 21, 22, 23, 24, 25] rfl (by decide +kernel)
set_option maxRecDepth 20000 in
theorem gX3_chooseRanges_X3_endOfShortest : GoodIn wsX3_chooseRanges (wsV RX3 76 RX3 yX3_endOfShortest wsX3_endOfShortest) := goodIn_app (goodIn_of _ (by decide +kernel)) ggX3_chooseRanges_X3_endOfShortest
theorem dX3_chooseRanges_33 : decode cX3_chooseRanges 33 = .ok (.istore_n 2, 1) := by decide +kernel
theorem dX3_chooseRanges_34 : decode cX3_chooseRanges 34 = .ok (.iinc 3 1, 3) := by decide +kernel
theorem dX3_chooseRanges_37 : decode cX3_chooseRanges 37 = .ok (.goto (-33), 3) := by decide +kernel
set_option maxHeartbeats 4000000 in
set_option maxRecDepth 100000 in
theorem s_chooseRanges (l : Launch) (g : xG) (sz : Nat) (cw : Nat) (lo_ : Nat) (ve : Nat) (fr : Nat) (Nb : Nat) (R : Nat) (Wn : Nat) (gl : Int) (lr : Nat → Nat) (w1 : Value) (w2 : Value) (w3 : Value) (v0 : Value) (v2 : Value) (v3 : Value) (v6 : Value) (v7 : Value) (v8 : Value) (v10 : Value) (lz : Nat → Nat → Int) (frh : Nat → Nat)  (hN1 : 1 ≤ Nb) (hN : Nb ≤ 10) (hR1 : 1 ≤ R) (hRW : R ≤ Wn) (hW4 : Wn ≤ 4) (hT : vTb lz Nb (Wn + 1)) (hg : gl < 1000000) (hg0 : 0 ≤ gl) (hgl : lz R 0 ≤ gl) (b_lz : ∀ i j, 0 ≤ lz i j ∧ lz i j ≤ 1000000) (b_frh : ∀ j, frh j ≤ 10) : Met l yX3_chooseRanges wsX3_chooseRanges ({ frames := 1, cells := 0, slots := 0, locals := 24 }) (va_Pc [.ref cw, .ref ve] (fun U => xB g ([(cw, .inr (3, [.ref lo_, w1, w2, w3])), (lo_, .inl (xM g, 5, .inr (.inr (.inr (.inr (fun i => if i < 5 then some (lr i) else none))))))] ++ (xRI (xI g) 5 11 lr lz ++ [(ve, .inr (6, [v0, .int (nI Nb), v2, v3, .int (nI R), .int (iI gl), v6, v7, v8, .ref fr, v10])), (fr, .inl (xI g, 4, .inl (fun j => nI (frh j))))])) sz U)) (va_Qv (fun (_ : Unit) => True) (fun (_ : Unit) (t : State) => ∃ (frh2 : Nat → Nat), (vRg frh2 R Nb) ∧ (∀ j, frh2 j ≤ 10) ∧ xE g ([(cw, .inr (3, [.ref lo_, w1, w2, w3])), (lo_, .inl (xM g, 5, .inr (.inr (.inr (.inr (fun i => if i < 5 then some (lr i) else none))))))] ++ (xRI (xI g) 5 11 lr lz ++ [(ve, .inr (6, [v0, .int (nI Nb), v2, v3, .int (nI R), .int (iI gl), v6, v7, v8, .ref fr, v10])), (fr, .inl (xI g, 4, .inl (fun j => nI (frh2 j))))])) (va_A ([(cw, .inr (3, [.ref lo_, w1, w2, w3])), (lo_, .inl (xM g, 5, .inr (.inr (.inr (.inr (fun i => if i < 5 then some (lr i) else none))))))] ++ (xRI (xI g) 5 11 lr lz ++ [(ve, .inr (6, [v0, .int (nI Nb), v2, v3, .int (nI R), .int (iI gl), v6, v7, v8, .ref fr, v10])), (fr, .inl (xI g, 4, .inl (fun j => nI (frh j))))])) sz) t) (va_A ([(cw, .inr (3, [.ref lo_, w1, w2, w3])), (lo_, .inl (xM g, 5, .inr (.inr (.inr (.inr (fun i => if i < 5 then some (lr i) else none))))))] ++ (xRI (xI g) 5 11 lr lz ++ [(ve, .inr (6, [v0, .int (nI Nb), v2, v3, .int (nI R), .int (iI gl), v6, v7, v8, .ref fr, v10])), (fr, .inl (xI g, 4, .inl (fun j => nI (frh j))))])) sz)) 0 0 (va_A ([(cw, .inr (3, [.ref lo_, w1, w2, w3])), (lo_, .inl (xM g, 5, .inr (.inr (.inr (.inr (fun i => if i < 5 then some (lr i) else none))))))] ++ (xRI (xI g) 5 11 lr lz ++ [(ve, .inr (6, [v0, .int (nI Nb), v2, v3, .int (nI R), .int (iI gl), v6, v7, v8, .ref fr, v10])), (fr, .inl (xI g, 4, .inl (fun j => nI (frh j))))])) sz) := by
  refine Met.ofW (cc := cX3_chooseRanges) (maxL := 4) (ret := none) (by decide) rfl ?_
  intro p e s m args below meth c s₁ B hml hv
  obtain ⟨rfl, hsz, hP, hK, hD0⟩ := hv
  have hx := B.exec
  have hb := B.bytes
  have hr := B.returns
  have hts := atoms_spec (ws := wsX3_chooseRanges) B.pre
  have hown : s.vm.findClass RX3 = some m.cls := findClass_of_methodNamed B.named
  have hlocks := B.notSynchronized
  subst hsz
  have hD := hD0.self (sz := s.heap.size)
  generalize hAe : va_A ([(cw, .inr (3, [.ref lo_, w1, w2, w3])), (lo_, .inl (xM g, 5, .inr (.inr (.inr (.inr (fun i => if i < 5 then some (lr i) else none))))))] ++ (xRI (xI g) 5 11 lr lz ++ [(ve, .inr (6, [v0, .int (nI Nb), v2, v3, .int (nI R), .int (iI gl), v6, v7, v8, .ref fr, v10])), (fr, .inl (xI g, 4, .inl (fun j => nI (frh j))))])) s.heap.size = A at hD ⊢
  have hA : ∀ q : Nat, s.heap.size ≤ q → A q := fun q h => by rw [← hAe]; exact Or.inr h
  have hS : va_S A s.heap s.heap [] := va_S.rf
  have hl := lv_entry ([.ref cw, .ref ve]) (n := 4) (Nat.le_of_ble_eq_true rfl)
  rw [lg_entry_eq]
  generalize (lg_sl ([.ref cw, .ref ve]) ++ List.replicate (4 - (lg_sl ([.ref cw, .ref ve])).length) Slot.unset).toArray = ls at hl ⊢
  have hl : lv_has ls 4 [(0, .ref cw), (1, .ref ve)] := hl
  have hFX6 : ∀ w ∈ u_ws RX6 TX6 11, w ∈ wsX3_chooseRanges := by decide +kernel
  refine lv_iconst (v := 0) hx hb dX3_chooseRanges_0 (by decide) ?_
  refine lv_istore_n (lv' := [(2, .int 0), (0, .ref cw), (1, .ref ve)]) hx hb dX3_chooseRanges_1 rfl hl (by decide) rfl (fun ls hl => ?_)
  refine lv_iconst (v := 0) hx hb dX3_chooseRanges_2 (by decide) ?_
  refine lv_istore_n (lv' := [(3, .int 0), (2, .int 0), (0, .ref cw), (1, .ref ve)]) hx hb dX3_chooseRanges_3 rfl hl (by decide) rfl (fun ls hl => ?_)
  have hloop4 : ∀ (n9 : Nat) (k : Nat) (f : Nat) (frk : Nat → Nat) (H : Heap) (locs : List Loc) (ls : Array Slot), R - k < n9 → (k ≤ R) → (k < R → f < Nb ∧ lz (R - k) f ≤ gl) → (f ≤ 10) → (∀ i, i < k → frk i < Nb) → (∀ i, i + 1 < k → frk i < frk (i + 1)) → (0 < k → frk 0 = 0) → (0 < k → k < R → frk (k - 1) < f) → (k = 0 → f = 0) → (∀ j, frk j ≤ 10) → va_P (xD g) vwCl ([(cw, .inr (3, [.ref lo_, w1, w2, w3])), (lo_, .inl (xM g, 5, .inr (.inr (.inr (.inr (fun i => if i < 5 then some (lr i) else none))))))] ++ (xRI (xI g) 5 11 lr lz ++ [(ve, .inr (6, [v0, .int (nI Nb), v2, v3, .int (nI R), .int (iI gl), v6, v7, v8, .ref fr, v10])), (fr, .inl (xI g, 4, .inl (fun j => nI (frk j))))])) H → va_D A ([(cw, .inr (3, [.ref lo_, w1, w2, w3])), (lo_, .inl (xM g, 5, .inr (.inr (.inr (.inr (fun i => if i < 5 then some (lr i) else none))))))] ++ (xRI (xI g) 5 11 lr lz ++ [(ve, .inr (6, [v0, .int (nI Nb), v2, v3, .int (nI R), .int (iI gl), v6, v7, v8, .ref fr, v10])), (fr, .inl (xI g, 4, .inl (fun j => nI (frk j))))])) → va_S A s.heap H locs → lv_has ls 4 [(3, .int (nI k)), (0, .ref cw), (1, .ref ve), (2, .int (nI f))] → W p l e (headSpec wsX3_chooseRanges ({ frames := 1, cells := 0, slots := 0, locals := 24 })).room s m ([.ref cw, .ref ve] : List Value).toArray below meth c H locs 0 0 (MQ below (va_Qv (fun (_ : Unit) => True) (fun (_ : Unit) (t : State) => ∃ (frh2 : Nat → Nat), (vRg frh2 R Nb) ∧ (∀ j, frh2 j ≤ 10) ∧ xE g ([(cw, .inr (3, [.ref lo_, w1, w2, w3])), (lo_, .inl (xM g, 5, .inr (.inr (.inr (.inr (fun i => if i < 5 then some (lr i) else none))))))] ++ (xRI (xI g) 5 11 lr lz ++ [(ve, .inr (6, [v0, .int (nI Nb), v2, v3, .int (nI R), .int (iI gl), v6, v7, v8, .ref fr, v10])), (fr, .inl (xI g, 4, .inl (fun j => nI (frh2 j))))])) (A) t) (A)) ([.ref cw, .ref ve] : List Value).toArray s 0 0 A) (F0 m 4 ls []) := by
    intro n9
    induction n9 with
    | zero =>
      intro k f frk H locs ls hm h1 h2 h3 h4 h5 h6 h7 h8 bb_frk hP hD hS hl
      exact absurd hm (Nat.not_lt_zero _)
    | succ n9 ih4 =>
      intro k f frk H locs ls hm h1 h2 h3 h4 h5 h6 h7 h8 bb_frk hP hD hS hl
      refine lv_iload_n hx hb dX3_chooseRanges_4 rfl (lv_at hl 0 rfl) ?_
      refine lv_aload_n hx hb dX3_chooseRanges_5 rfl (lv_at hl 2 rfl) ?_
      refine va_get (D := xD g) (ci := 6) (v := .int (nI R)) (C := RX6) (T := TX6) (N := 11) hx hb hts hFX6 hown hK hP 7 rfl rfl 4 (by decide) (hts (.fieldLink RX3 67 "Stevedore$Vessel" "rangeCount" "I") (by decide +kernel)) (fun _ h9 => h9) rfl dX3_chooseRanges_6 ?_
      refine lv_icmp_ge (tgt := 40) hx hb dX3_chooseRanges_9 (by decide) (fun c_1 => ?_) (fun c_1 => ?_)
      · have nc_1 := (nI_leI (a := R) (b := k) (by omega) (by omega)).mp c_1
        have hP9 := hP
        have hD9 := hD
        exact W.vret hx hb hr (fun t ht hW => ⟨⟨(), rfl, (by first | trivial | rfl | assumption | omega), ⟨frk, (by obtain rfl : k = R := (by omega); exact ⟨h6 (by omega), h4, h5⟩), bb_frk, by rw [ht]; exact hP9, va_K.moved hW.alike hK, hD9⟩⟩, hS.F ht⟩) hS.2.2 dX3_chooseRanges_40
      · have nc_1 := mt (nI_leI (a := R) (b := k) (by omega) (by omega)).mpr c_1
        refine lv_aload_n hx hb dX3_chooseRanges_12 rfl (lv_at hl 2 rfl) ?_
        refine va_get (D := xD g) (ci := 6) (v := .ref fr) (C := RX6) (T := TX6) (N := 11) hx hb hts hFX6 hown hK hP 7 rfl rfl 9 (by decide) (hts (.fieldLink RX3 73 "Stevedore$Vessel" "firstOfRange" "[I") (by decide +kernel)) (fun _ h9 => h9) rfl dX3_chooseRanges_13 ?_
        refine lv_iload_n hx hb dX3_chooseRanges_16 rfl (lv_at hl 0 rfl) ?_
        refine lv_iload_n hx hb dX3_chooseRanges_17 rfl (lv_at hl 3 rfl) ?_
        refine va_iast (x := nI f) hx hb hK hP hD hS 8 0 rfl rfl (vp_in_nI (by omega) (by omega)) dX3_chooseRanges_18 (fun H locs hP hD hS => ?_)
        rw [nU (f := frk) (k := k) (v := f) (nI_clamp (by omega)) rfl] at hP hD
        have hb_2 : ∀ j, (nV frk k f) j ≤ 10 := nV_all (P := fun q9 => q9 ≤ 10) bb_frk (by omega)
        have hP : va_P (xD g) vwCl ([(cw, .inr (3, [.ref lo_, w1, w2, w3])), (lo_, .inl (xM g, 5, .inr (.inr (.inr (.inr (fun i => if i < 5 then some (lr i) else none))))))] ++ (xRI (xI g) 5 11 lr lz ++ [(ve, .inr (6, [v0, .int (nI Nb), v2, v3, .int (nI R), .int (iI gl), v6, v7, v8, .ref fr, v10])), (fr, .inl (xI g, 4, .inl (fun j => nI ((nV frk k f) j))))])) H := hP
        have hD : va_D A ([(cw, .inr (3, [.ref lo_, w1, w2, w3])), (lo_, .inl (xM g, 5, .inr (.inr (.inr (.inr (fun i => if i < 5 then some (lr i) else none))))))] ++ (xRI (xI g) 5 11 lr lz ++ [(ve, .inr (6, [v0, .int (nI Nb), v2, v3, .int (nI R), .int (iI gl), v6, v7, v8, .ref fr, v10])), (fr, .inl (xI g, 4, .inl (fun j => nI ((nV frk k f) j))))])) := hD
        refine lv_aload_n hx hb dX3_chooseRanges_19 rfl (lv_at hl 1 rfl) ?_
        refine lv_aload_n hx hb dX3_chooseRanges_20 rfl (lv_at hl 2 rfl) ?_
        refine lv_iload_n hx hb dX3_chooseRanges_21 rfl (lv_at hl 3 rfl) ?_
        refine lv_aload_n hx hb dX3_chooseRanges_22 rfl (lv_at hl 2 rfl) ?_
        refine va_get (D := xD g) (ci := 6) (v := .int (nI R)) (C := RX6) (T := TX6) (N := 11) hx hb hts hFX6 hown hK hP 7 rfl rfl 4 (by decide) (hts (.fieldLink RX3 67 "Stevedore$Vessel" "rangeCount" "I") (by decide +kernel)) (fun _ h9 => h9) rfl dX3_chooseRanges_23 ?_
        refine lv_iload_n hx hb dX3_chooseRanges_26 rfl (lv_at hl 0 rfl) ?_
        refine lv_isub hx hb dX3_chooseRanges_27 ?_
        refine lv_topi (fun v_3 ev => ?_)
        obtain rfl : v_3 = nI (R - k) := ev.trans (pk_sub (a := R) (b := k) (by omega))
        refine lv_iconst (v := 1) hx hb dX3_chooseRanges_28 (by decide) ?_
        refine lv_isub hx hb dX3_chooseRanges_29 ?_
        refine lv_topi (fun v_4 ev => ?_)
        obtain rfl : v_4 = nI ((R - k) - 1) := ev.trans (pk_sub (a := R - k) (b := 1) (by omega))
        have hPc := hP.sub (ws' := ([(cw, .inr (3, [.ref lo_, w1, w2, w3])), (lo_, .inl (xM g, 5, .inr (.inr (.inr (.inr (fun i => if i < 5 then some (lr i) else none))))))] ++ (xRI (xI g) 5 11 lr lz ++ [(ve, .inr (6, [v0, .int (nI Nb), v2, v3, .int (nI R), .int (iI gl), v6, v7, v8, .ref fr, v10]))]))) [0, 1, 2, 3, 4, 5, 6, 7] rfl
        have hDc := hD.sub (ws' := ([(cw, .inr (3, [.ref lo_, w1, w2, w3])), (lo_, .inl (xM g, 5, .inr (.inr (.inr (.inr (fun i => if i < 5 then some (lr i) else none))))))] ++ (xRI (xI g) 5 11 lr lz ++ [(ve, .inr (6, [v0, .int (nI Nb), v2, v3, .int (nI R), .int (iI gl), v6, v7, v8, .ref fr, v10]))]))) [0, 1, 2, 3, 4, 5, 6, 7] (by decide) rfl
        have hFc := xFree hS hA
        refine va_calli (va_runV (As := [.ref ve, .int (nI f), .int (nI ((R - k) - 1))]) (rest := []) ⟨hx, hb, hml, hown, hts⟩ (s_endOfShortest l g H.size cw lo_ ve Nb f ((R - k) - 1) gl lr w1 w2 w3 v0 v2 v3 (.int (nI R)) v6 v7 v8 (.ref fr) v10 lz (by first | assumption | omega) ((h2 (by omega)).1) (by first | assumption | omega) (by first | assumption | omega) b_lz) (cwV 3 hts gX3_chooseRanges_X3_endOfShortest rfl rfl rfl (by decide +kernel) ⟨Nat.le_of_ble_eq_true rfl, Nat.le_of_ble_eq_true rfl⟩) ⟨xB.blind, va_recv hK hPc (ci := 3) (q0 := 0) rfl rfl, fun U9 hU9 hW9 => ⟨rfl, xB.mk hPc hK hDc hU9 hW9⟩⟩ rfl rfl hl.1 rfl (lv_room (Nat.le_of_ble_eq_true rfl)) dX3_chooseRanges_30 ⟨Nat.le_of_ble_eq_true rfl, Nat.le_of_ble_eq_true rfl⟩) hS (fun q _ h => hFc q h) hFc (fun r_5 _ t H1 locs ht hvm hw_6 hB hz1 hk1 hS => ?_)
        have hP := xSame hP hk1
        generalize H1 = H at hP hS ⊢
        have hP : va_P (xD g) vwCl ([(cw, .inr (3, [.ref lo_, w1, w2, w3])), (lo_, .inl (xM g, 5, .inr (.inr (.inr (.inr (fun i => if i < 5 then some (lr i) else none))))))] ++ (xRI (xI g) 5 11 lr lz ++ [(ve, .inr (6, [v0, .int (nI Nb), v2, v3, .int (nI R), .int (iI gl), v6, v7, v8, .ref fr, v10])), (fr, .inl (xI g, 4, .inl (fun j => nI ((nV frk k f) j))))])) H := hP
        have hD : va_D A ([(cw, .inr (3, [.ref lo_, w1, w2, w3])), (lo_, .inl (xM g, 5, .inr (.inr (.inr (.inr (fun i => if i < 5 then some (lr i) else none))))))] ++ (xRI (xI g) 5 11 lr lz ++ [(ve, .inr (6, [v0, .int (nI Nb), v2, v3, .int (nI R), .int (iI gl), v6, v7, v8, .ref fr, v10])), (fr, .inl (xI g, 4, .inl (fun j => nI ((nV frk k f) j))))])) := hD
        try dsimp only at hw_6
        obtain ⟨E9, rfl, he1, he2, he3, he4⟩ := hw_6
        have hnx : k + 1 < R → E9 < Nb ∧ lz (R - (k + 1)) E9 ≤ gl := fun q => by have z := he4 (vTb_next hT (by omega) (by omega) (h2 (by omega)).1 (h2 (by omega)).2 hg); exact ⟨z, he3 z⟩
        refine lv_istore_n (lv' := [(2, .int (nI E9)), (3, .int (nI k)), (0, .ref cw), (1, .ref ve)]) hx hb dX3_chooseRanges_33 rfl hl (by decide) rfl (fun ls hl => ?_)
        refine lv_iinc (v := nI (k + 1)) (lv' := [(3, .int (nI (k + 1))), (2, .int (nI E9)), (0, .ref cw), (1, .ref ve)]) hx hb dX3_chooseRanges_34 hl (k := 1) rfl (nI_add k 1) (by decide) rfl (fun ls hl => ?_)
        refine lv_goto (tgt := 4) hx hb dX3_chooseRanges_37 (by decide) ?_
        exact ih4 (k + 1) E9 (nV frk k f) _ _ _ (by omega) (by omega) hnx (by omega) (by intro i hi; simp only [nV]; by_cases q : i = k; (rw [if_pos q]; exact (h2 (by omega)).1); (rw [if_neg q]; exact h4 i (by omega))) (by intro i hi; simp only [nV]; rw [if_neg (by omega)]; by_cases q : i + 1 = k; (rw [if_pos q]; have z := h7 (by omega) (by omega); rw [show i = k - 1 by omega]; exact z); (rw [if_neg q]; exact h5 i (by omega))) (by intro _; simp only [nV]; by_cases q : 0 = k; (rw [if_pos q]; exact h8 q.symm); (rw [if_neg q]; exact h6 (by omega))) (by intro _ _; simp only [nV, Nat.add_sub_cancel, if_true]; exact he1) (fun q => absurd q (Nat.succ_ne_zero _)) hb_2 hP hD hS (lv_sub hl [0, 2, 3, 1] rfl)
  exact hloop4 (R + 1) 0 0 frh _ _ _ (by omega) (Nat.zero_le _) (fun _ => ⟨by omega, hgl⟩) (by omega) (fun i hi => absurd hi (Nat.not_lt_zero _)) (fun i hi => absurd hi (Nat.not_lt_zero _)) (fun q => absurd q (Nat.lt_irrefl _)) (fun q => absurd q (Nat.lt_irrefl _)) (fun _ => rfl) b_frh hP hD hS (by rw [(show nI 0 = (0 : Int32) from by decide)]; exact lv_sub hl [0, 2, 3, 1] rfl)
theorem dX3_isBarred_0 : decode cX3_isBarred 0 = .ok (.iload_n 2, 1) := by decide +kernel
theorem dX3_isBarred_1 : decode cX3_isBarred 1 = .ok (.iconst 1, 1) := by decide +kernel
theorem dX3_isBarred_2 : decode cX3_isBarred 2 = .ok (.iadd, 1) := by decide +kernel
theorem dX3_isBarred_3 : decode cX3_isBarred 3 = .ok (.istore_n 3, 1) := by decide +kernel
theorem dX3_isBarred_4 : decode cX3_isBarred 4 = .ok (.iload_n 3, 1) := by decide +kernel
theorem dX3_isBarred_5 : decode cX3_isBarred 5 = .ok (.aload_n 1, 1) := by decide +kernel
theorem dX3_isBarred_6 : decode cX3_isBarred 6 = .ok (.getfield 67, 3) := by decide +kernel
theorem dX3_isBarred_9 : decode cX3_isBarred 9 = .ok (.if_icmp .ge 33, 3) := by decide +kernel
theorem dX3_isBarred_42 : decode cX3_isBarred 42 = .ok (.iconst 0, 1) := by decide +kernel
theorem dX3_isBarred_43 : decode cX3_isBarred 43 = .ok (.ireturn, 1) := by decide +kernel
theorem dX3_isBarred_12 : decode cX3_isBarred 12 = .ok (.aload_n 0, 1) := by decide +kernel
theorem dX3_isBarred_13 : decode cX3_isBarred 13 = .ok (.getfield 20, 3) := by decide +kernel
theorem dX3_isBarred_16 : decode cX3_isBarred 16 = .ok (.iload_n 3, 1) := by decide +kernel
theorem dX3_isBarred_17 : decode cX3_isBarred 17 = .ok (.baload, 1) := by decide +kernel
theorem dX3_isBarred_18 : decode cX3_isBarred 18 = .ok (.ifCond .eq 24, 3) := by decide +kernel
theorem dX3_isBarred_21 : decode cX3_isBarred 21 = .ok (.aload_n 0, 1) := by decide +kernel
theorem dX3_isBarred_22 : decode cX3_isBarred 22 = .ok (.getfield 16, 3) := by decide +kernel
theorem dX3_isBarred_25 : decode cX3_isBarred 25 = .ok (.iload_n 3, 1) := by decide +kernel
theorem dX3_isBarred_26 : decode cX3_isBarred 26 = .ok (.iaload, 1) := by decide +kernel
theorem dX3_isBarred_27 : decode cX3_isBarred 27 = .ok (.aload_n 0, 1) := by decide +kernel
theorem dX3_isBarred_28 : decode cX3_isBarred 28 = .ok (.getfield 16, 3) := by decide +kernel
theorem dX3_isBarred_31 : decode cX3_isBarred 31 = .ok (.iload_n 2, 1) := by decide +kernel
theorem dX3_isBarred_32 : decode cX3_isBarred 32 = .ok (.iaload, 1) := by decide +kernel
theorem dX3_isBarred_33 : decode cX3_isBarred 33 = .ok (.iconst 1, 1) := by decide +kernel
theorem dX3_isBarred_34 : decode cX3_isBarred 34 = .ok (.iadd, 1) := by decide +kernel
theorem dX3_isBarred_35 : decode cX3_isBarred 35 = .ok (.if_icmp .ne 7, 3) := by decide +kernel
theorem dX3_isBarred_38 : decode cX3_isBarred 38 = .ok (.iconst 1, 1) := by decide +kernel
theorem dX3_isBarred_39 : decode cX3_isBarred 39 = .ok (.goto 4, 3) := by decide +kernel
set_option maxHeartbeats 4000000 in
set_option maxRecDepth 100000 in
theorem s_isBarred (l : Launch) (g : xG) (sz : Nat) (cw : Nat) (bc : Nat) (ii : Nat) (ve : Nat) (R : Nat) (x : Nat) (w0 : Value) (w3 : Value) (v0 : Value) (v1 : Value) (v2 : Value) (v3 : Value) (v5 : Value) (v6 : Value) (v7 : Value) (v8 : Value) (v9 : Value) (v10 : Value) (bch : Nat → Nat) (iz : Nat → Int)  (hx4 : x < 4) (hR4 : R ≤ 4) (b_bch : ∀ j, bch j ≤ 10) (b_iz : ∀ j, 0 ≤ iz j ∧ iz j ≤ 1) : Met l yX3_isBarred wsX3_isBarred ({ frames := 0, cells := 0, slots := 0, locals := 0 }) (va_Pc [.ref cw, .ref ve, .int (nI x)] (fun U => xB g [(cw, .inr (3, [w0, .ref bc, .ref ii, w3])), (bc, .inl (xI g, 4, .inl (fun j => nI (bch j)))), (ii, .inl (xZ g, 4, .inl (fun j => iI (iz j)))), (ve, .inr (6, [v0, v1, v2, v3, .int (nI R), v5, v6, v7, v8, v9, v10]))] sz U)) (va_Qi (fun (r : Int32) (_ : Unit) => (r = 1 ∧ (x + 1 < R ∧ iz (x + 1) = 1 ∧ bch (x + 1) = bch x + 1)) ∨ (r = 0 ∧ ¬ (x + 1 < R ∧ iz (x + 1) = 1 ∧ bch (x + 1) = bch x + 1))) (fun (_ : Unit) (_ : State) => True) (va_A [] sz)) 0 0 (va_A [] sz) := by
  refine Met.ofW (cc := cX3_isBarred) (maxL := 4) (ret := (some .boolean)) (by decide) rfl ?_
  intro p e s m args below meth c s₁ B hml hv
  obtain ⟨rfl, hsz, hP, hK, hD0⟩ := hv
  have hx := B.exec
  have hb := B.bytes
  have hr := B.returns
  have hts := atoms_spec (ws := wsX3_isBarred) B.pre
  have hown : s.vm.findClass RX3 = some m.cls := findClass_of_methodNamed B.named
  have hlocks := B.notSynchronized
  subst hsz
  have hD := hD0
  generalize hAe : va_A [] s.heap.size = A
  have hA : ∀ q : Nat, s.heap.size ≤ q → A q := fun q h => by rw [← hAe]; exact Or.inr h
  have hS : va_S A s.heap s.heap [] := va_S.rf
  have hl := lv_entry ([.ref cw, .ref ve, .int (nI x)]) (n := 4) (Nat.le_of_ble_eq_true rfl)
  rw [lg_entry_eq]
  generalize (lg_sl ([.ref cw, .ref ve, .int (nI x)]) ++ List.replicate (4 - (lg_sl ([.ref cw, .ref ve, .int (nI x)])).length) Slot.unset).toArray = ls at hl ⊢
  have hl : lv_has ls 4 [(0, .ref cw), (1, .ref ve), (2, .int (nI x))] := hl
  have hFX3 : ∀ w ∈ u_ws RX3 TX3 4, w ∈ wsX3_isBarred := by decide +kernel
  have hFX6 : ∀ w ∈ u_ws RX6 TX6 11, w ∈ wsX3_isBarred := by decide +kernel
  refine lv_iload_n hx hb dX3_isBarred_0 rfl (lv_at hl 2 rfl) ?_
  refine lv_iconst (v := 1) hx hb dX3_isBarred_1 (by decide) ?_
  refine lv_iadd hx hb dX3_isBarred_2 ?_
  refine lv_topi (fun v_1 ev => ?_)
  obtain rfl : v_1 = nI (x + 1) := ev.trans (nI_add x 1)
  refine lv_istore_n (lv' := [(3, .int (nI (x + 1))), (0, .ref cw), (1, .ref ve), (2, .int (nI x))]) hx hb dX3_isBarred_3 rfl hl (by decide) rfl (fun ls hl => ?_)
  refine lv_iload_n hx hb dX3_isBarred_4 rfl (lv_at hl 0 rfl) ?_
  refine lv_aload_n hx hb dX3_isBarred_5 rfl (lv_at hl 2 rfl) ?_
  refine va_get (D := xD g) (ci := 6) (v := .int (nI R)) (C := RX6) (T := TX6) (N := 11) hx hb hts hFX6 hown hK hP 3 rfl rfl 4 (by decide) (hts (.fieldLink RX3 67 "Stevedore$Vessel" "rangeCount" "I") (by decide +kernel)) (fun _ h9 => h9) rfl dX3_isBarred_6 ?_
  refine lv_icmp_ge (tgt := 42) hx hb dX3_isBarred_9 (by decide) (fun c_2 => ?_) (fun c_2 => ?_)
  · have nc_2 := (nI_leI (a := R) (b := x + 1) (by omega) (by omega)).mp c_2
    refine lv_iconst (v := 0) hx hb dX3_isBarred_42 (by decide) ?_
    exact W.zret (v := 0) hx hb hr (by rfl) (fun t ht hW => ⟨⟨0, (), rfl, (by first | (refine Or.inl ⟨rfl, ?_⟩; omega) | (refine Or.inr ⟨rfl, ?_⟩; omega)), trivial⟩, hS.F ht⟩) hS.2.2 dX3_isBarred_43
  · have nc_2 := mt (nI_leI (a := R) (b := x + 1) (by omega) (by omega)).mpr c_2
    refine lv_aload_n hx hb dX3_isBarred_12 rfl (lv_at hl 1 rfl) ?_
    refine va_get (D := xD g) (ci := 3) (v := .ref ii) (C := RX3) (T := TX3) (N := 4) hx hb hts hFX3 hown hK hP 0 rfl rfl 2 (by decide) (hts (.fieldLink RX3 20 "Stevedore$CraneWalk" "isInside" "[Z") (by decide +kernel)) (fun _ h9 => h9) rfl dX3_isBarred_13 ?_
    refine lv_iload_n hx hb dX3_isBarred_16 rfl (lv_at hl 0 rfl) ?_
    refine va_zald hx hb hK hP 2 1 rfl rfl (vp_in_nI (by omega) (by omega)) dX3_isBarred_17 ?_
    refine lv_topi (fun v_3 ev => ?_)
    obtain rfl : v_3 = iI (iz (x + 1)) := ev.trans (congrArg (fun q9 => iI (iz q9)) (nI_clamp (by omega)))
    have b_4 := b_iz (x + 1)
    refine lv_if_eq (tgt := 42) hx hb dX3_isBarred_18 (by decide) (fun c_5 => ?_) (fun c_5 => ?_)
    · have nc_5 := (iEq (a := iz (x + 1)) (b := 0) rfl (by decide) (by omega)).mp c_5
      refine lv_iconst (v := 0) hx hb dX3_isBarred_42 (by decide) ?_
      exact W.zret (v := 0) hx hb hr (by rfl) (fun t ht hW => ⟨⟨0, (), rfl, (by first | (refine Or.inl ⟨rfl, ?_⟩; omega) | (refine Or.inr ⟨rfl, ?_⟩; omega)), trivial⟩, hS.F ht⟩) hS.2.2 dX3_isBarred_43
    · have nc_5 := mt (iEq (a := iz (x + 1)) (b := 0) rfl (by decide) (by omega)).mpr c_5
      refine lv_aload_n hx hb dX3_isBarred_21 rfl (lv_at hl 1 rfl) ?_
      refine va_get (D := xD g) (ci := 3) (v := .ref bc) (C := RX3) (T := TX3) (N := 4) hx hb hts hFX3 hown hK hP 0 rfl rfl 1 (by decide) (hts (.fieldLink RX3 16 "Stevedore$CraneWalk" "bayOfCrane" "[I") (by decide +kernel)) (fun _ h9 => h9) rfl dX3_isBarred_22 ?_
      refine lv_iload_n hx hb dX3_isBarred_25 rfl (lv_at hl 0 rfl) ?_
      refine va_iald hx hb hK hP 1 0 rfl rfl (vp_in_nI (by omega) (by omega)) dX3_isBarred_26 ?_
      refine lv_topi (fun v_6 ev => ?_)
      obtain rfl : v_6 = nI (bch (x + 1)) := ev.trans (congrArg (fun q9 => nI (bch q9)) (nI_clamp (by omega)))
      have b_7 := b_bch (x + 1)
      refine lv_aload_n hx hb dX3_isBarred_27 rfl (lv_at hl 1 rfl) ?_
      refine va_get (D := xD g) (ci := 3) (v := .ref bc) (C := RX3) (T := TX3) (N := 4) hx hb hts hFX3 hown hK hP 0 rfl rfl 1 (by decide) (hts (.fieldLink RX3 16 "Stevedore$CraneWalk" "bayOfCrane" "[I") (by decide +kernel)) (fun _ h9 => h9) rfl dX3_isBarred_28 ?_
      refine lv_iload_n hx hb dX3_isBarred_31 rfl (lv_at hl 3 rfl) ?_
      refine va_iald hx hb hK hP 1 0 rfl rfl (vp_in_nI (by omega) (by omega)) dX3_isBarred_32 ?_
      refine lv_topi (fun v_8 ev => ?_)
      obtain rfl : v_8 = nI (bch x) := ev.trans (congrArg (fun q9 => nI (bch q9)) (nI_clamp (by omega)))
      have b_9 := b_bch x
      refine lv_iconst (v := 1) hx hb dX3_isBarred_33 (by decide) ?_
      refine lv_iadd hx hb dX3_isBarred_34 ?_
      refine lv_topi (fun v_10 ev => ?_)
      obtain rfl : v_10 = nI (bch x + 1) := ev.trans (nI_add (bch x) 1)
      refine lv_icmp_ne (tgt := 42) hx hb dX3_isBarred_35 (by decide) (fun c_11 => ?_) (fun c_11 => ?_)
      · have nc_11 := mt (nI_eq (a := bch (x + 1)) (b := bch x + 1) (by omega) (by omega)).mpr c_11
        refine lv_iconst (v := 0) hx hb dX3_isBarred_42 (by decide) ?_
        exact W.zret (v := 0) hx hb hr (by rfl) (fun t ht hW => ⟨⟨0, (), rfl, (by first | (refine Or.inl ⟨rfl, ?_⟩; omega) | (refine Or.inr ⟨rfl, ?_⟩; omega)), trivial⟩, hS.F ht⟩) hS.2.2 dX3_isBarred_43
      · have nc_11 := (nI_eq (a := bch (x + 1)) (b := bch x + 1) (by omega) (by omega)).mp c_11
        refine lv_iconst (v := 1) hx hb dX3_isBarred_38 (by decide) ?_
        refine lv_goto (tgt := 43) hx hb dX3_isBarred_39 (by decide) ?_
        exact W.zret (v := 1) hx hb hr (by rfl) (fun t ht hW => ⟨⟨1, (), rfl, (by first | (refine Or.inl ⟨rfl, ?_⟩; omega) | (refine Or.inr ⟨rfl, ?_⟩; omega)), trivial⟩, hS.F ht⟩) hS.2.2 dX3_isBarred_43
theorem dX3_step_0 : decode cX3_step 0 = .ok (.aload_n 0, 1) := by decide +kernel
theorem dX3_step_1 : decode cX3_step 1 = .ok (.getfield 16, 3) := by decide +kernel
theorem dX3_step_4 : decode cX3_step 4 = .ok (.iload_n 2, 1) := by decide +kernel
theorem dX3_step_5 : decode cX3_step 5 = .ok (.iaload, 1) := by decide +kernel
theorem dX3_step_6 : decode cX3_step 6 = .ok (.istore 4, 2) := by decide +kernel
theorem dX3_step_8 : decode cX3_step 8 = .ok (.aload_n 0, 1) := by decide +kernel
theorem dX3_step_9 : decode cX3_step 9 = .ok (.getfield 20, 3) := by decide +kernel
theorem dX3_step_12 : decode cX3_step 12 = .ok (.iload_n 2, 1) := by decide +kernel
theorem dX3_step_13 : decode cX3_step 13 = .ok (.baload, 1) := by decide +kernel
theorem dX3_step_14 : decode cX3_step 14 = .ok (.ifCond .eq 45, 3) := by decide +kernel
theorem dX3_step_59 : decode cX3_step 59 = .ok (.aload_n 0, 1) := by decide +kernel
theorem dX3_step_60 : decode cX3_step 60 = .ok (.aload_n 1, 1) := by decide +kernel
theorem dX3_step_61 : decode cX3_step 61 = .ok (.iload_n 2, 1) := by decide +kernel
theorem dX3_step_62 : decode cX3_step 62 = .ok (.invokevirtual 92, 3) := by decide +kernel
set_option maxRecDepth 20000 in
theorem ggX3_step_X3_isBarred : GoodIn wsX3_step wsX3_isBarred := goodIn_r _ [16, 17, 2, 1, 34, 35, 36, 37, 38, 39, 40, 41, 42, 43, 44, 30, 31, 32, 33] rfl (by decide +kernel)
set_option maxRecDepth 20000 in
theorem gX3_step_X3_isBarred : GoodIn wsX3_step (wsV RX3 92 RX3 yX3_isBarred wsX3_isBarred) := goodIn_app (goodIn_of _ (by decide +kernel)) ggX3_step_X3_isBarred
theorem dX3_step_65 : decode cX3_step 65 = .ok (.ifCond .eq 16, 3) := by decide +kernel
theorem dX3_step_68 : decode cX3_step 68 = .ok (.aload_n 1, 1) := by decide +kernel
theorem dX3_step_69 : decode cX3_step 69 = .ok (.dup, 1) := by decide +kernel
theorem dX3_step_70 : decode cX3_step 70 = .ok (.getfield 82, 3) := by decide +kernel
theorem dX3_step_73 : decode cX3_step 73 = .ok (.iconst 1, 1) := by decide +kernel
theorem dX3_step_74 : decode cX3_step 74 = .ok (.iadd, 1) := by decide +kernel
theorem dX3_step_75 : decode cX3_step 75 = .ok (.putfield 82, 3) := by decide +kernel
theorem dX3_step_78 : decode cX3_step 78 = .ok (.goto 54, 3) := by decide +kernel
theorem dX3_step_132 : decode cX3_step 132 = .ok (.return_, 1) := by decide +kernel
theorem dX3_step_81 : decode cX3_step 81 = .ok (.aload_n 0, 1) := by decide +kernel
theorem dX3_step_82 : decode cX3_step 82 = .ok (.getfield 20, 3) := by decide +kernel
theorem dX3_step_85 : decode cX3_step 85 = .ok (.iload_n 2, 1) := by decide +kernel
theorem dX3_step_86 : decode cX3_step 86 = .ok (.iconst 1, 1) := by decide +kernel
theorem dX3_step_87 : decode cX3_step 87 = .ok (.bastore, 1) := by decide +kernel
theorem dX3_step_88 : decode cX3_step 88 = .ok (.aload_n 0, 1) := by decide +kernel
theorem dX3_step_89 : decode cX3_step 89 = .ok (.getfield 24, 3) := by decide +kernel
theorem dX3_step_92 : decode cX3_step 92 = .ok (.iload_n 2, 1) := by decide +kernel
theorem dX3_step_93 : decode cX3_step 93 = .ok (.iconst 0, 1) := by decide +kernel
theorem dX3_step_94 : decode cX3_step 94 = .ok (.aload_n 1, 1) := by decide +kernel
theorem dX3_step_95 : decode cX3_step 95 = .ok (.getfield 96, 3) := by decide +kernel
theorem dX3_step_98 : decode cX3_step 98 = .ok (.iload 4, 2) := by decide +kernel
theorem dX3_step_100 : decode cX3_step 100 = .ok (.iaload, 1) := by decide +kernel
theorem dX3_step_101 : decode cX3_step 101 = .ok (.iconst 1, 1) := by decide +kernel
theorem dX3_step_102 : decode cX3_step 102 = .ok (.isub, 1) := by decide +kernel
theorem dX3_step_103 : decode cX3_step 103 = .ok (.invokestatic 58, 3) := by decide +kernel
theorem dX3_step_106 : decode cX3_step 106 = .ok (.iastore, 1) := by decide +kernel
theorem dX3_step_107 : decode cX3_step 107 = .ok (.aload_n 1, 1) := by decide +kernel
theorem dX3_step_108 : decode cX3_step 108 = .ok (.getfield 99, 3) := by decide +kernel
theorem dX3_step_111 : decode cX3_step 111 = .ok (.iload 4, 2) := by decide +kernel
theorem dX3_step_113 : decode cX3_step 113 = .ok (.iload_n 3, 1) := by decide +kernel
theorem dX3_step_114 : decode cX3_step 114 = .ok (.iastore, 1) := by decide +kernel
theorem dX3_step_115 : decode cX3_step 115 = .ok (.aload_n 1, 1) := by decide +kernel
theorem dX3_step_116 : decode cX3_step 116 = .ok (.aload_n 1, 1) := by decide +kernel
theorem dX3_step_117 : decode cX3_step 117 = .ok (.getfield 79, 3) := by decide +kernel
theorem dX3_step_120 : decode cX3_step 120 = .ok (.aload_n 1, 1) := by decide +kernel
theorem dX3_step_121 : decode cX3_step 121 = .ok (.iload 4, 2) := by decide +kernel
theorem dX3_step_123 : decode cX3_step 123 = .ok (.invokevirtual 102, 3) := by decide +kernel
set_option maxRecDepth 20000 in
theorem ggX3_step_X6_end : GoodIn wsX3_step wsX6_end := goodIn_r _ [22, 23, 24, 25, 26, 21, 27, 28, 29, 7, 8, 9, 34, 35, 36, 37, 38, 39, 40, 41, 42, 43, 44] rfl (by decide +kernel)
set_option maxRecDepth 20000 in
theorem gX3_step_X6_end : GoodIn wsX3_step (wsV RX3 102 RX6 yX6_end wsX6_end) := goodIn_app (goodIn_of _ (by decide +kernel)) ggX3_step_X6_end
theorem dX3_step_126 : decode cX3_step 126 = .ok (.invokestatic 58, 3) := by decide +kernel
theorem dX3_step_129 : decode cX3_step 129 = .ok (.putfield 79, 3) := by decide +kernel
theorem dX3_step_17 : decode cX3_step 17 = .ok (.aload_n 0, 1) := by decide +kernel
theorem dX3_step_18 : decode cX3_step 18 = .ok (.getfield 24, 3) := by decide +kernel
theorem dX3_step_21 : decode cX3_step 21 = .ok (.iload_n 2, 1) := by decide +kernel
theorem dX3_step_22 : decode cX3_step 22 = .ok (.iaload, 1) := by decide +kernel
theorem dX3_step_23 : decode cX3_step 23 = .ok (.ifCond .le 16, 3) := by decide +kernel
theorem dX3_step_39 : decode cX3_step 39 = .ok (.aload_n 0, 1) := by decide +kernel
theorem dX3_step_40 : decode cX3_step 40 = .ok (.getfield 20, 3) := by decide +kernel
theorem dX3_step_43 : decode cX3_step 43 = .ok (.iload_n 2, 1) := by decide +kernel
theorem dX3_step_44 : decode cX3_step 44 = .ok (.iconst 0, 1) := by decide +kernel
theorem dX3_step_45 : decode cX3_step 45 = .ok (.bastore, 1) := by decide +kernel
theorem dX3_step_46 : decode cX3_step 46 = .ok (.aload_n 0, 1) := by decide +kernel
theorem dX3_step_47 : decode cX3_step 47 = .ok (.getfield 16, 3) := by decide +kernel
theorem dX3_step_50 : decode cX3_step 50 = .ok (.iload_n 2, 1) := by decide +kernel
theorem dX3_step_51 : decode cX3_step 51 = .ok (.dup2, 1) := by decide +kernel
theorem dX3_step_52 : decode cX3_step 52 = .ok (.iaload, 1) := by decide +kernel
theorem dX3_step_53 : decode cX3_step 53 = .ok (.iconst 1, 1) := by decide +kernel
theorem dX3_step_54 : decode cX3_step 54 = .ok (.iadd, 1) := by decide +kernel
theorem dX3_step_55 : decode cX3_step 55 = .ok (.iastore, 1) := by decide +kernel
theorem dX3_step_56 : decode cX3_step 56 = .ok (.goto 76, 3) := by decide +kernel
theorem dX3_step_26 : decode cX3_step 26 = .ok (.aload_n 0, 1) := by decide +kernel
theorem dX3_step_27 : decode cX3_step 27 = .ok (.getfield 24, 3) := by decide +kernel
theorem dX3_step_30 : decode cX3_step 30 = .ok (.iload_n 2, 1) := by decide +kernel
theorem dX3_step_31 : decode cX3_step 31 = .ok (.dup2, 1) := by decide +kernel
theorem dX3_step_32 : decode cX3_step 32 = .ok (.iaload, 1) := by decide +kernel
theorem dX3_step_33 : decode cX3_step 33 = .ok (.iconst 1, 1) := by decide +kernel
theorem dX3_step_34 : decode cX3_step 34 = .ok (.isub, 1) := by decide +kernel
theorem dX3_step_35 : decode cX3_step 35 = .ok (.iastore, 1) := by decide +kernel
theorem dX3_step_36 : decode cX3_step 36 = .ok (.goto 96, 3) := by decide +kernel
set_option maxHeartbeats 4000000 in
set_option maxRecDepth 100000 in
theorem s_step (l : Launch) (g : xG) (sz : Nat) (cw : Nat) (bc : Nat) (ii : Nat) (wl : Nat) (ve : Nat) (wb : Nat) (bg : Nat) (R : Nat) (x : Nat) (tk : Nat) (hd : Int) (wt : Int) (w0 : Value) (v0 : Value) (v1 : Value) (v2 : Value) (v3 : Value) (v5 : Value) (v9 : Value) (bch : Nat → Nat) (iz : Nat → Int) (wlz : Nat → Int) (wbz : Nat → Int) (bgz : Nat → Int)  (hxR : x < R) (hR4 : R ≤ 4) (hy10 : bch x < 10) (htk : tk < 10000) (hhd : 0 ≤ hd ∧ hd ≤ 10100) (hwt : 0 ≤ wt ∧ wt ≤ 1000000) (b_bch : ∀ j, bch j ≤ 10) (b_iz : ∀ j, 0 ≤ iz j ∧ iz j ≤ 1) (b_wlz : ∀ j, 0 ≤ wlz j ∧ wlz j ≤ 100) (b_wbz : ∀ j, 0 ≤ wbz j ∧ wbz j ≤ 100) (b_bgz : ∀ j, 0 ≤ bgz j ∧ bgz j ≤ 10000) : Met l yX3_step wsX3_step ({ frames := 3, cells := 0, slots := 0, locals := 66 }) (va_Pc [.ref cw, .ref ve, .int (nI x), .int (nI tk)] (fun U => xB g [(cw, .inr (3, [w0, .ref bc, .ref ii, .ref wl])), (bc, .inl (xI g, 4, .inl (fun j => nI (bch j)))), (ii, .inl (xZ g, 4, .inl (fun j => iI (iz j)))), (wl, .inl (xI g, 4, .inl (fun j => iI (wlz j)))), (ve, .inr (6, [v0, v1, v2, v3, .int (nI R), v5, .int (iI hd), .int (iI wt), .ref wb, v9, .ref bg])), (wb, .inl (xI g, 10, .inl (fun j => iI (wbz j)))), (bg, .inl (xI g, 10, .inl (fun j => iI (bgz j))))] sz U)) (va_Qv (fun (_ : Unit) => True) (fun (_ : Unit) (t : State) => ∃ (bch2 : Nat → Nat) (iz2 : Nat → Int) (wlz2 : Nat → Int) (bgz2 : Nat → Int) (hd2 : Int) (wt2 : Int), (hd ≤ hd2 ∧ hd2 ≤ 10100 ∧ wt ≤ wt2 ∧ wt2 ≤ wt + 1 ∧ (iz x = 0 → x + 1 = R → 1 ≤ hd2)) ∧ (∀ j, bch2 j ≤ 10) ∧ (∀ j, 0 ≤ iz2 j ∧ iz2 j ≤ 1) ∧ (∀ j, 0 ≤ wlz2 j ∧ wlz2 j ≤ 100) ∧ (∀ j, 0 ≤ bgz2 j ∧ bgz2 j ≤ 10000) ∧ xE g [(cw, .inr (3, [w0, .ref bc, .ref ii, .ref wl])), (bc, .inl (xI g, 4, .inl (fun j => nI (bch2 j)))), (ii, .inl (xZ g, 4, .inl (fun j => iI (iz2 j)))), (wl, .inl (xI g, 4, .inl (fun j => iI (wlz2 j)))), (ve, .inr (6, [v0, v1, v2, v3, .int (nI R), v5, .int (iI hd2), .int (iI wt2), .ref wb, v9, .ref bg])), (wb, .inl (xI g, 10, .inl (fun j => iI (wbz j)))), (bg, .inl (xI g, 10, .inl (fun j => iI (bgz2 j))))] (va_A [(cw, .inr (3, [w0, .ref bc, .ref ii, .ref wl])), (bc, .inl (xI g, 4, .inl (fun j => nI (bch j)))), (ii, .inl (xZ g, 4, .inl (fun j => iI (iz j)))), (wl, .inl (xI g, 4, .inl (fun j => iI (wlz j)))), (ve, .inr (6, [v0, v1, v2, v3, .int (nI R), v5, .int (iI hd), .int (iI wt), .ref wb, v9, .ref bg])), (wb, .inl (xI g, 10, .inl (fun j => iI (wbz j)))), (bg, .inl (xI g, 10, .inl (fun j => iI (bgz j))))] sz) t) (va_A [(cw, .inr (3, [w0, .ref bc, .ref ii, .ref wl])), (bc, .inl (xI g, 4, .inl (fun j => nI (bch j)))), (ii, .inl (xZ g, 4, .inl (fun j => iI (iz j)))), (wl, .inl (xI g, 4, .inl (fun j => iI (wlz j)))), (ve, .inr (6, [v0, v1, v2, v3, .int (nI R), v5, .int (iI hd), .int (iI wt), .ref wb, v9, .ref bg])), (wb, .inl (xI g, 10, .inl (fun j => iI (wbz j)))), (bg, .inl (xI g, 10, .inl (fun j => iI (bgz j))))] sz)) 0 0 (va_A [(cw, .inr (3, [w0, .ref bc, .ref ii, .ref wl])), (bc, .inl (xI g, 4, .inl (fun j => nI (bch j)))), (ii, .inl (xZ g, 4, .inl (fun j => iI (iz j)))), (wl, .inl (xI g, 4, .inl (fun j => iI (wlz j)))), (ve, .inr (6, [v0, v1, v2, v3, .int (nI R), v5, .int (iI hd), .int (iI wt), .ref wb, v9, .ref bg])), (wb, .inl (xI g, 10, .inl (fun j => iI (wbz j)))), (bg, .inl (xI g, 10, .inl (fun j => iI (bgz j))))] sz) := by
  refine Met.ofW (cc := cX3_step) (maxL := 5) (ret := none) (by decide) rfl ?_
  intro p e s m args below meth c s₁ B hml hv
  obtain ⟨rfl, hsz, hP, hK, hD0⟩ := hv
  have hx := B.exec
  have hb := B.bytes
  have hr := B.returns
  have hts := atoms_spec (ws := wsX3_step) B.pre
  have hown : s.vm.findClass RX3 = some m.cls := findClass_of_methodNamed B.named
  have hlocks := B.notSynchronized
  subst hsz
  have hD := hD0.self (sz := s.heap.size)
  generalize hAe : va_A [(cw, .inr (3, [w0, .ref bc, .ref ii, .ref wl])), (bc, .inl (xI g, 4, .inl (fun j => nI (bch j)))), (ii, .inl (xZ g, 4, .inl (fun j => iI (iz j)))), (wl, .inl (xI g, 4, .inl (fun j => iI (wlz j)))), (ve, .inr (6, [v0, v1, v2, v3, .int (nI R), v5, .int (iI hd), .int (iI wt), .ref wb, v9, .ref bg])), (wb, .inl (xI g, 10, .inl (fun j => iI (wbz j)))), (bg, .inl (xI g, 10, .inl (fun j => iI (bgz j))))] s.heap.size = A at hD ⊢
  have hA : ∀ q : Nat, s.heap.size ≤ q → A q := fun q h => by rw [← hAe]; exact Or.inr h
  have hS : va_S A s.heap s.heap [] := va_S.rf
  have hl := lv_entry ([.ref cw, .ref ve, .int (nI x), .int (nI tk)]) (n := 5) (Nat.le_of_ble_eq_true rfl)
  rw [lg_entry_eq]
  generalize (lg_sl ([.ref cw, .ref ve, .int (nI x), .int (nI tk)]) ++ List.replicate (5 - (lg_sl ([.ref cw, .ref ve, .int (nI x), .int (nI tk)])).length) Slot.unset).toArray = ls at hl ⊢
  have hl : lv_has ls 5 [(0, .ref cw), (1, .ref ve), (2, .int (nI x)), (3, .int (nI tk))] := hl
  have hFX3 : ∀ w ∈ u_ws RX3 TX3 4, w ∈ wsX3_step := by decide +kernel
  have hFX6 : ∀ w ∈ u_ws RX6 TX6 11, w ∈ wsX3_step := by decide +kernel
  refine lv_aload_n hx hb dX3_step_0 rfl (lv_at hl 0 rfl) ?_
  refine va_get (D := xD g) (ci := 3) (v := .ref bc) (C := RX3) (T := TX3) (N := 4) hx hb hts hFX3 hown hK hP 0 rfl rfl 1 (by decide) (hts (.fieldLink RX3 16 "Stevedore$CraneWalk" "bayOfCrane" "[I") (by decide +kernel)) (fun _ h9 => h9) rfl dX3_step_1 ?_
  refine lv_iload_n hx hb dX3_step_4 rfl (lv_at hl 2 rfl) ?_
  refine va_iald hx hb hK hP 1 0 rfl rfl (vp_in_nI (by omega) (by omega)) dX3_step_5 ?_
  refine lv_topi (fun v_1 ev => ?_)
  obtain rfl : v_1 = nI (bch x) := ev.trans (congrArg (fun q9 => nI (bch q9)) (nI_clamp (by omega)))
  have b_2 := b_bch x
  refine lv_istore (lv' := [(4, .int (nI (bch x))), (0, .ref cw), (1, .ref ve), (2, .int (nI x)), (3, .int (nI tk))]) hx hb dX3_step_6 hl (by decide) rfl (fun ls hl => ?_)
  refine lv_aload_n hx hb dX3_step_8 rfl (lv_at hl 1 rfl) ?_
  refine va_get (D := xD g) (ci := 3) (v := .ref ii) (C := RX3) (T := TX3) (N := 4) hx hb hts hFX3 hown hK hP 0 rfl rfl 2 (by decide) (hts (.fieldLink RX3 20 "Stevedore$CraneWalk" "isInside" "[Z") (by decide +kernel)) (fun _ h9 => h9) rfl dX3_step_9 ?_
  refine lv_iload_n hx hb dX3_step_12 rfl (lv_at hl 3 rfl) ?_
  refine va_zald hx hb hK hP 2 1 rfl rfl (vp_in_nI (by omega) (by omega)) dX3_step_13 ?_
  refine lv_topi (fun v_3 ev => ?_)
  obtain rfl : v_3 = iI (iz x) := ev.trans (congrArg (fun q9 => iI (iz q9)) (nI_clamp (by omega)))
  have b_4 := b_iz x
  refine lv_if_eq (tgt := 59) hx hb dX3_step_14 (by decide) (fun c_5 => ?_) (fun c_5 => ?_)
  · have nc_5 := (iEq (a := iz x) (b := 0) rfl (by decide) (by omega)).mp c_5
    refine lv_aload_n hx hb dX3_step_59 rfl (lv_at hl 1 rfl) ?_
    refine lv_aload_n hx hb dX3_step_60 rfl (lv_at hl 2 rfl) ?_
    refine lv_iload_n hx hb dX3_step_61 rfl (lv_at hl 3 rfl) ?_
    have hPc := hP.sub (ws' := [(cw, .inr (3, [w0, .ref bc, .ref ii, .ref wl])), (bc, .inl (xI g, 4, .inl (fun j => nI (bch j)))), (ii, .inl (xZ g, 4, .inl (fun j => iI (iz j)))), (ve, .inr (6, [v0, v1, v2, v3, .int (nI R), v5, .int (iI hd), .int (iI wt), .ref wb, v9, .ref bg]))]) [0, 1, 2, 4] rfl
    have hDc := hD.sub (ws' := [(cw, .inr (3, [w0, .ref bc, .ref ii, .ref wl])), (bc, .inl (xI g, 4, .inl (fun j => nI (bch j)))), (ii, .inl (xZ g, 4, .inl (fun j => iI (iz j)))), (ve, .inr (6, [v0, v1, v2, v3, .int (nI R), v5, .int (iI hd), .int (iI wt), .ref wb, v9, .ref bg]))]) [0, 1, 2, 4] (by decide) rfl
    have hFc := xFree hS hA
    refine va_calli (va_runV (As := [.ref ve, .int (nI x)]) (rest := []) ⟨hx, hb, hml, hown, hts⟩ (s_isBarred l g s.heap.size cw bc ii ve R x w0 (.ref wl) v0 v1 v2 v3 v5 (.int (iI hd)) (.int (iI wt)) (.ref wb) v9 (.ref bg) bch iz (by first | assumption | omega) (by first | assumption | omega) b_bch b_iz) (cwV 2 hts gX3_step_X3_isBarred rfl rfl rfl (by decide +kernel) ⟨Nat.le_of_ble_eq_true rfl, Nat.le_of_ble_eq_true rfl⟩) ⟨xB.blind, va_recv hK hPc (ci := 3) (q0 := 0) rfl rfl, fun U9 hU9 hW9 => ⟨rfl, xB.mk hPc hK hDc hU9 hW9⟩⟩ rfl rfl hl.1 rfl (lv_room (Nat.le_of_ble_eq_true rfl)) dX3_step_62 ⟨Nat.le_of_ble_eq_true rfl, Nat.le_of_ble_eq_true rfl⟩) hS (fun q _ h => hFc q h) hFc (fun r_6 _ t H1 locs ht hvm hw_7 hB hz1 hk1 hS => ?_)
    have hP := xSame hP hk1
    generalize H1 = H at hP hS ⊢
    have hP : va_P (xD g) vwCl [(cw, .inr (3, [w0, .ref bc, .ref ii, .ref wl])), (bc, .inl (xI g, 4, .inl (fun j => nI (bch j)))), (ii, .inl (xZ g, 4, .inl (fun j => iI (iz j)))), (wl, .inl (xI g, 4, .inl (fun j => iI (wlz j)))), (ve, .inr (6, [v0, v1, v2, v3, .int (nI R), v5, .int (iI hd), .int (iI wt), .ref wb, v9, .ref bg])), (wb, .inl (xI g, 10, .inl (fun j => iI (wbz j)))), (bg, .inl (xI g, 10, .inl (fun j => iI (bgz j))))] H := hP
    have hD : va_D A [(cw, .inr (3, [w0, .ref bc, .ref ii, .ref wl])), (bc, .inl (xI g, 4, .inl (fun j => nI (bch j)))), (ii, .inl (xZ g, 4, .inl (fun j => iI (iz j)))), (wl, .inl (xI g, 4, .inl (fun j => iI (wlz j)))), (ve, .inr (6, [v0, v1, v2, v3, .int (nI R), v5, .int (iI hd), .int (iI wt), .ref wb, v9, .ref bg])), (wb, .inl (xI g, 10, .inl (fun j => iI (wbz j)))), (bg, .inl (xI g, 10, .inl (fun j => iI (bgz j))))] := hD
    try dsimp only at hw_7
    rcases hw_7 with ⟨rfl, hw_7⟩ | ⟨rfl, hw_7⟩
    · refine lv_if_eq (tgt := 81) hx hb dX3_step_65 (by decide) (fun c0 => absurd c0 (by decide)) (fun _ => ?_)
      refine lv_aload_n hx hb dX3_step_68 rfl (lv_at hl 2 rfl) ?_
      refine lv_dup hx hb dX3_step_69 rfl ?_
      refine va_get (D := xD g) (ci := 6) (v := .int (iI wt)) (C := RX6) (T := TX6) (N := 11) hx hb hts hFX6 hown hK hP 4 rfl rfl 7 (by decide) (hts (.fieldLink RX3 82 "Stevedore$Vessel" "waitTicks" "I") (by decide +kernel)) (fun _ h9 => h9) rfl dX3_step_70 ?_
      refine lv_iconst (v := 1) hx hb dX3_step_73 (by decide) ?_
      refine lv_iadd hx hb dX3_step_74 ?_
      refine lv_topi (fun v_8 ev => ?_)
      obtain rfl : v_8 = iI (wt + 1) := ev.trans (iA rfl (by decide))
      refine va_put (D := xD g) (ci := 6) (v := .int (iI (wt + 1))) (ty := .int) (C := RX6) (T := TX6) (N := 11) hx hb hts hFX6 tyX6 tyX6_ok nmX6 hown hK hP hD hS 4 rfl rfl 7 (by decide) (hts (.fieldLink RX3 82 "Stevedore$Vessel" "waitTicks" "I") (by decide +kernel)) (fun _ h9 => h9) rfl (by decide +kernel) rfl rfl (Nat.le_of_ble_eq_true rfl) dX3_step_75 (fun H locs hP hD hS => ?_)
      have hP : va_P (xD g) vwCl [(cw, .inr (3, [w0, .ref bc, .ref ii, .ref wl])), (bc, .inl (xI g, 4, .inl (fun j => nI (bch j)))), (ii, .inl (xZ g, 4, .inl (fun j => iI (iz j)))), (wl, .inl (xI g, 4, .inl (fun j => iI (wlz j)))), (ve, .inr (6, [v0, v1, v2, v3, .int (nI R), v5, .int (iI hd), .int (iI (wt + 1)), .ref wb, v9, .ref bg])), (wb, .inl (xI g, 10, .inl (fun j => iI (wbz j)))), (bg, .inl (xI g, 10, .inl (fun j => iI (bgz j))))] H := hP
      have hD : va_D A [(cw, .inr (3, [w0, .ref bc, .ref ii, .ref wl])), (bc, .inl (xI g, 4, .inl (fun j => nI (bch j)))), (ii, .inl (xZ g, 4, .inl (fun j => iI (iz j)))), (wl, .inl (xI g, 4, .inl (fun j => iI (wlz j)))), (ve, .inr (6, [v0, v1, v2, v3, .int (nI R), v5, .int (iI hd), .int (iI (wt + 1)), .ref wb, v9, .ref bg])), (wb, .inl (xI g, 10, .inl (fun j => iI (wbz j)))), (bg, .inl (xI g, 10, .inl (fun j => iI (bgz j))))] := hD
      refine lv_goto (tgt := 132) hx hb dX3_step_78 (by decide) ?_
      have hP9 := hP
      have hD9 := hD
      exact W.vret hx hb hr (fun t ht hW => ⟨⟨(), rfl, (by first | trivial | rfl | assumption | omega), ⟨bch, iz, wlz, bgz, hd, (wt + 1), (by refine ⟨by omega, by omega, by omega, by omega, fun q1 q2 => by omega⟩), b_bch, b_iz, b_wlz, b_bgz, by rw [ht]; exact hP9, va_K.moved hW.alike hK, hD9⟩⟩, hS.F ht⟩) hS.2.2 dX3_step_132
    · refine lv_if_eq (tgt := 81) hx hb dX3_step_65 (by decide) (fun _ => ?_) (fun c0 => absurd (by decide) c0)
      refine lv_aload_n hx hb dX3_step_81 rfl (lv_at hl 1 rfl) ?_
      refine va_get (D := xD g) (ci := 3) (v := .ref ii) (C := RX3) (T := TX3) (N := 4) hx hb hts hFX3 hown hK hP 0 rfl rfl 2 (by decide) (hts (.fieldLink RX3 20 "Stevedore$CraneWalk" "isInside" "[Z") (by decide +kernel)) (fun _ h9 => h9) rfl dX3_step_82 ?_
      refine lv_iload_n hx hb dX3_step_85 rfl (lv_at hl 3 rfl) ?_
      refine lv_iconst (v := 1) hx hb dX3_step_86 (by decide) ?_
      refine va_zast (x := 1) hx hb hK hP hD hS 2 1 rfl rfl (vp_in_nI (by omega) (by omega)) dX3_step_87 (fun H locs hP hD hS => ?_)
      rw [iU (f := iz) (k := x) (v := 1) (nI_clamp (by omega)) (by decide)] at hP hD
      have hb_9 : ∀ j, 0 ≤ (zU iz x 1) j ∧ (zU iz x 1) j ≤ 1 := zU_all (P := fun q9 => 0 ≤ q9 ∧ q9 ≤ 1) b_iz (by omega)
      have hP : va_P (xD g) vwCl [(cw, .inr (3, [w0, .ref bc, .ref ii, .ref wl])), (bc, .inl (xI g, 4, .inl (fun j => nI (bch j)))), (ii, .inl (xZ g, 4, .inl (fun j => iI ((zU iz x 1) j)))), (wl, .inl (xI g, 4, .inl (fun j => iI (wlz j)))), (ve, .inr (6, [v0, v1, v2, v3, .int (nI R), v5, .int (iI hd), .int (iI wt), .ref wb, v9, .ref bg])), (wb, .inl (xI g, 10, .inl (fun j => iI (wbz j)))), (bg, .inl (xI g, 10, .inl (fun j => iI (bgz j))))] H := hP
      have hD : va_D A [(cw, .inr (3, [w0, .ref bc, .ref ii, .ref wl])), (bc, .inl (xI g, 4, .inl (fun j => nI (bch j)))), (ii, .inl (xZ g, 4, .inl (fun j => iI ((zU iz x 1) j)))), (wl, .inl (xI g, 4, .inl (fun j => iI (wlz j)))), (ve, .inr (6, [v0, v1, v2, v3, .int (nI R), v5, .int (iI hd), .int (iI wt), .ref wb, v9, .ref bg])), (wb, .inl (xI g, 10, .inl (fun j => iI (wbz j)))), (bg, .inl (xI g, 10, .inl (fun j => iI (bgz j))))] := hD
      refine lv_aload_n hx hb dX3_step_88 rfl (lv_at hl 1 rfl) ?_
      refine va_get (D := xD g) (ci := 3) (v := .ref wl) (C := RX3) (T := TX3) (N := 4) hx hb hts hFX3 hown hK hP 0 rfl rfl 3 (by decide) (hts (.fieldLink RX3 24 "Stevedore$CraneWalk" "workLeft" "[I") (by decide +kernel)) (fun _ h9 => h9) rfl dX3_step_89 ?_
      refine lv_iload_n hx hb dX3_step_92 rfl (lv_at hl 3 rfl) ?_
      refine lv_iconst (v := 0) hx hb dX3_step_93 (by decide) ?_
      refine lv_aload_n hx hb dX3_step_94 rfl (lv_at hl 2 rfl) ?_
      refine va_get (D := xD g) (ci := 6) (v := .ref wb) (C := RX6) (T := TX6) (N := 11) hx hb hts hFX6 hown hK hP 4 rfl rfl 8 (by decide) (hts (.fieldLink RX3 96 "Stevedore$Vessel" "workOfBay" "[I") (by decide +kernel)) (fun _ h9 => h9) rfl dX3_step_95 ?_
      refine lv_iload hx hb dX3_step_98 (lv_at hl 0 rfl) ?_
      refine va_iald hx hb hK hP 5 0 rfl rfl (vp_in_nI (by omega) (by omega)) dX3_step_100 ?_
      refine lv_topi (fun v_10 ev => ?_)
      obtain rfl : v_10 = iI (wbz (bch x)) := ev.trans (congrArg (fun q9 => iI (wbz q9)) (nI_clamp (by omega)))
      have b_11 := b_wbz (bch x)
      refine lv_iconst (v := 1) hx hb dX3_step_101 (by decide) ?_
      refine lv_isub hx hb dX3_step_102 ?_
      refine lv_topi (fun v_12 ev => ?_)
      obtain rfl : v_12 = iI (wbz (bch x) - 1) := ev.trans (iS rfl (by decide))
      refine va_mmax hx hb (by rw [hml]; exact hl.1.symm) hown (hts (.methodLink RX3 58 Lib.Math.max.name) (by decide +kernel)) (hts (.static Lib.Math.max.name) (by decide +kernel)) (hts (.initialized "java/lang/Math") (by decide +kernel)) (hts (.code Lib.Math.max.name Lib.Math.max.code 2 (some .int)) (by decide +kernel)) (Nat.le_of_ble_eq_true rfl) (Nat.le_of_ble_eq_true rfl) (Nat.le_of_ble_eq_true rfl) (Nat.le_of_ble_eq_true rfl) dX3_step_103 ?_
      refine lv_topi (fun v_14 ev => ?_)
      obtain rfl : v_14 = iI (if 0 < wbz (bch x) - 1 then wbz (bch x) - 1 else 0) := ev.trans (iI_max (by decide) rfl (by omega))
      obtain ⟨z_13, ez_13⟩ : ∃ y : Int, y = if 0 < wbz (bch x) - 1 then wbz (bch x) - 1 else 0 := ⟨_, rfl⟩
      rw [← ez_13]
      have fz_13 : 0 ≤ z_13 ∧ wbz (bch x) - 1 ≤ z_13 ∧ (z_13 = 0 ∨ z_13 = wbz (bch x) - 1) := by rw [ez_13]; split <;> omega
      refine va_iast (x := iI z_13) hx hb hK hP hD hS 3 0 rfl rfl (vp_in_nI (by omega) (by omega)) dX3_step_106 (fun H locs hP hD hS => ?_)
      rw [iU (f := wlz) (k := x) (v := z_13) (nI_clamp (by omega)) rfl] at hP hD
      have hb_15 : ∀ j, 0 ≤ (zU wlz x z_13) j ∧ (zU wlz x z_13) j ≤ 100 := zU_all (P := fun q9 => 0 ≤ q9 ∧ q9 ≤ 100) b_wlz (by omega)
      have hP : va_P (xD g) vwCl [(cw, .inr (3, [w0, .ref bc, .ref ii, .ref wl])), (bc, .inl (xI g, 4, .inl (fun j => nI (bch j)))), (ii, .inl (xZ g, 4, .inl (fun j => iI ((zU iz x 1) j)))), (wl, .inl (xI g, 4, .inl (fun j => iI ((zU wlz x z_13) j)))), (ve, .inr (6, [v0, v1, v2, v3, .int (nI R), v5, .int (iI hd), .int (iI wt), .ref wb, v9, .ref bg])), (wb, .inl (xI g, 10, .inl (fun j => iI (wbz j)))), (bg, .inl (xI g, 10, .inl (fun j => iI (bgz j))))] H := hP
      have hD : va_D A [(cw, .inr (3, [w0, .ref bc, .ref ii, .ref wl])), (bc, .inl (xI g, 4, .inl (fun j => nI (bch j)))), (ii, .inl (xZ g, 4, .inl (fun j => iI ((zU iz x 1) j)))), (wl, .inl (xI g, 4, .inl (fun j => iI ((zU wlz x z_13) j)))), (ve, .inr (6, [v0, v1, v2, v3, .int (nI R), v5, .int (iI hd), .int (iI wt), .ref wb, v9, .ref bg])), (wb, .inl (xI g, 10, .inl (fun j => iI (wbz j)))), (bg, .inl (xI g, 10, .inl (fun j => iI (bgz j))))] := hD
      refine lv_aload_n hx hb dX3_step_107 rfl (lv_at hl 2 rfl) ?_
      refine va_get (D := xD g) (ci := 6) (v := .ref bg) (C := RX6) (T := TX6) (N := 11) hx hb hts hFX6 hown hK hP 4 rfl rfl 10 (by decide) (hts (.fieldLink RX3 99 "Stevedore$Vessel" "begin" "[I") (by decide +kernel)) (fun _ h9 => h9) rfl dX3_step_108 ?_
      refine lv_iload hx hb dX3_step_111 (lv_at hl 0 rfl) ?_
      refine lv_iload_n hx hb dX3_step_113 rfl (lv_at hl 4 rfl) ?_
      refine va_iast (x := nI tk) hx hb hK hP hD hS 6 0 rfl rfl (vp_in_nI (by omega) (by omega)) dX3_step_114 (fun H locs hP hD hS => ?_)
      rw [iU (f := bgz) (k := bch x) (v := ((tk : Nat) : Int)) (nI_clamp (by omega)) (iI_nI _)] at hP hD
      have hb_16 : ∀ j, 0 ≤ (zU bgz (bch x) ((tk : Nat) : Int)) j ∧ (zU bgz (bch x) ((tk : Nat) : Int)) j ≤ 10000 := zU_all (P := fun q9 => 0 ≤ q9 ∧ q9 ≤ 10000) b_bgz (by omega)
      have hP : va_P (xD g) vwCl [(cw, .inr (3, [w0, .ref bc, .ref ii, .ref wl])), (bc, .inl (xI g, 4, .inl (fun j => nI (bch j)))), (ii, .inl (xZ g, 4, .inl (fun j => iI ((zU iz x 1) j)))), (wl, .inl (xI g, 4, .inl (fun j => iI ((zU wlz x z_13) j)))), (ve, .inr (6, [v0, v1, v2, v3, .int (nI R), v5, .int (iI hd), .int (iI wt), .ref wb, v9, .ref bg])), (wb, .inl (xI g, 10, .inl (fun j => iI (wbz j)))), (bg, .inl (xI g, 10, .inl (fun j => iI ((zU bgz (bch x) ((tk : Nat) : Int)) j))))] H := hP
      have hD : va_D A [(cw, .inr (3, [w0, .ref bc, .ref ii, .ref wl])), (bc, .inl (xI g, 4, .inl (fun j => nI (bch j)))), (ii, .inl (xZ g, 4, .inl (fun j => iI ((zU iz x 1) j)))), (wl, .inl (xI g, 4, .inl (fun j => iI ((zU wlz x z_13) j)))), (ve, .inr (6, [v0, v1, v2, v3, .int (nI R), v5, .int (iI hd), .int (iI wt), .ref wb, v9, .ref bg])), (wb, .inl (xI g, 10, .inl (fun j => iI (wbz j)))), (bg, .inl (xI g, 10, .inl (fun j => iI ((zU bgz (bch x) ((tk : Nat) : Int)) j))))] := hD
      refine lv_aload_n hx hb dX3_step_115 rfl (lv_at hl 2 rfl) ?_
      refine lv_aload_n hx hb dX3_step_116 rfl (lv_at hl 2 rfl) ?_
      refine va_get (D := xD g) (ci := 6) (v := .int (iI hd)) (C := RX6) (T := TX6) (N := 11) hx hb hts hFX6 hown hK hP 4 rfl rfl 6 (by decide) (hts (.fieldLink RX3 79 "Stevedore$Vessel" "handlingTicks" "I") (by decide +kernel)) (fun _ h9 => h9) rfl dX3_step_117 ?_
      refine lv_aload_n hx hb dX3_step_120 rfl (lv_at hl 2 rfl) ?_
      refine lv_iload hx hb dX3_step_121 (lv_at hl 0 rfl) ?_
      have hPc := hP.sub (ws' := [(ve, .inr (6, [v0, v1, v2, v3, .int (nI R), v5, .int (iI hd), .int (iI wt), .ref wb, v9, .ref bg])), (wb, .inl (xI g, 10, .inl (fun j => iI (wbz j)))), (bg, .inl (xI g, 10, .inl (fun j => iI ((zU bgz (bch x) ((tk : Nat) : Int)) j))))]) [4, 5, 6] rfl
      have hDc := hD.sub (ws' := [(ve, .inr (6, [v0, v1, v2, v3, .int (nI R), v5, .int (iI hd), .int (iI wt), .ref wb, v9, .ref bg])), (wb, .inl (xI g, 10, .inl (fun j => iI (wbz j)))), (bg, .inl (xI g, 10, .inl (fun j => iI ((zU bgz (bch x) ((tk : Nat) : Int)) j))))]) [4, 5, 6] (by decide) rfl
      have hFc := xFree hS hA
      refine va_calli (va_runV (As := [.int (nI (bch x))]) (rest := [.int (iI hd), .ref ve]) ⟨hx, hb, hml, hown, hts⟩ (s_end l g H.size ve wb bg (bch x) v0 v1 v2 v3 (.int (nI R)) v5 (.int (iI hd)) (.int (iI wt)) v9 wbz (zU bgz (bch x) ((tk : Nat) : Int)) (by first | assumption | omega) b_wbz hb_16) (cwV 1 hts gX3_step_X6_end rfl rfl rfl (by decide +kernel) ⟨Nat.le_of_ble_eq_true rfl, Nat.le_of_ble_eq_true rfl⟩) ⟨xB.blind, va_recv hK hPc (ci := 6) (q0 := 0) rfl rfl, fun U9 hU9 hW9 => ⟨rfl, xB.mk hPc hK hDc hU9 hW9⟩⟩ rfl rfl hl.1 rfl (lv_room (Nat.le_of_ble_eq_true rfl)) dX3_step_123 ⟨Nat.le_of_ble_eq_true rfl, Nat.le_of_ble_eq_true rfl⟩) hS (fun q _ h => hFc q h) hFc (fun r_17 _ t H1 locs ht hvm hw_18 hB hz1 hk1 hS => ?_)
      have hP := xSame hP hk1
      generalize H1 = H at hP hS ⊢
      have hP : va_P (xD g) vwCl [(cw, .inr (3, [w0, .ref bc, .ref ii, .ref wl])), (bc, .inl (xI g, 4, .inl (fun j => nI (bch j)))), (ii, .inl (xZ g, 4, .inl (fun j => iI ((zU iz x 1) j)))), (wl, .inl (xI g, 4, .inl (fun j => iI ((zU wlz x z_13) j)))), (ve, .inr (6, [v0, v1, v2, v3, .int (nI R), v5, .int (iI hd), .int (iI wt), .ref wb, v9, .ref bg])), (wb, .inl (xI g, 10, .inl (fun j => iI (wbz j)))), (bg, .inl (xI g, 10, .inl (fun j => iI ((zU bgz (bch x) ((tk : Nat) : Int)) j))))] H := hP
      have hD : va_D A [(cw, .inr (3, [w0, .ref bc, .ref ii, .ref wl])), (bc, .inl (xI g, 4, .inl (fun j => nI (bch j)))), (ii, .inl (xZ g, 4, .inl (fun j => iI ((zU iz x 1) j)))), (wl, .inl (xI g, 4, .inl (fun j => iI ((zU wlz x z_13) j)))), (ve, .inr (6, [v0, v1, v2, v3, .int (nI R), v5, .int (iI hd), .int (iI wt), .ref wb, v9, .ref bg])), (wb, .inl (xI g, 10, .inl (fun j => iI (wbz j)))), (bg, .inl (xI g, 10, .inl (fun j => iI ((zU bgz (bch x) ((tk : Nat) : Int)) j))))] := hD
      try dsimp only at hw_18
      obtain rfl : r_17 = iI ((zU bgz (bch x) ((tk : Nat) : Int)) (bch x) + vTk wbz (bch x)) := hw_18
      have hvt := vTk_bd b_wbz (bch x)
      have hbq := hb_16 (bch x)
      refine va_mmax hx hb (by rw [hml]; exact hl.1.symm) hown (hts (.methodLink RX3 58 Lib.Math.max.name) (by decide +kernel)) (hts (.static Lib.Math.max.name) (by decide +kernel)) (hts (.initialized "java/lang/Math") (by decide +kernel)) (hts (.code Lib.Math.max.name Lib.Math.max.code 2 (some .int)) (by decide +kernel)) (Nat.le_of_ble_eq_true rfl) (Nat.le_of_ble_eq_true rfl) (Nat.le_of_ble_eq_true rfl) (Nat.le_of_ble_eq_true rfl) dX3_step_126 ?_
      refine lv_topi (fun v_20 ev => ?_)
      obtain rfl : v_20 = iI (if hd < (zU bgz (bch x) ((tk : Nat) : Int)) (bch x) + vTk wbz (bch x) then (zU bgz (bch x) ((tk : Nat) : Int)) (bch x) + vTk wbz (bch x) else hd) := ev.trans (iI_max rfl rfl (by omega))
      obtain ⟨z_19, ez_19⟩ : ∃ y : Int, y = if hd < (zU bgz (bch x) ((tk : Nat) : Int)) (bch x) + vTk wbz (bch x) then (zU bgz (bch x) ((tk : Nat) : Int)) (bch x) + vTk wbz (bch x) else hd := ⟨_, rfl⟩
      rw [← ez_19]
      have fz_19 : hd ≤ z_19 ∧ (zU bgz (bch x) ((tk : Nat) : Int)) (bch x) + vTk wbz (bch x) ≤ z_19 ∧ (z_19 = hd ∨ z_19 = (zU bgz (bch x) ((tk : Nat) : Int)) (bch x) + vTk wbz (bch x)) := by rw [ez_19]; split <;> omega
      refine va_put (D := xD g) (ci := 6) (v := .int (iI z_19)) (ty := .int) (C := RX6) (T := TX6) (N := 11) hx hb hts hFX6 tyX6 tyX6_ok nmX6 hown hK hP hD hS 4 rfl rfl 6 (by decide) (hts (.fieldLink RX3 79 "Stevedore$Vessel" "handlingTicks" "I") (by decide +kernel)) (fun _ h9 => h9) rfl (by decide +kernel) rfl rfl (Nat.le_of_ble_eq_true rfl) dX3_step_129 (fun H locs hP hD hS => ?_)
      have hP : va_P (xD g) vwCl [(cw, .inr (3, [w0, .ref bc, .ref ii, .ref wl])), (bc, .inl (xI g, 4, .inl (fun j => nI (bch j)))), (ii, .inl (xZ g, 4, .inl (fun j => iI ((zU iz x 1) j)))), (wl, .inl (xI g, 4, .inl (fun j => iI ((zU wlz x z_13) j)))), (ve, .inr (6, [v0, v1, v2, v3, .int (nI R), v5, .int (iI z_19), .int (iI wt), .ref wb, v9, .ref bg])), (wb, .inl (xI g, 10, .inl (fun j => iI (wbz j)))), (bg, .inl (xI g, 10, .inl (fun j => iI ((zU bgz (bch x) ((tk : Nat) : Int)) j))))] H := hP
      have hD : va_D A [(cw, .inr (3, [w0, .ref bc, .ref ii, .ref wl])), (bc, .inl (xI g, 4, .inl (fun j => nI (bch j)))), (ii, .inl (xZ g, 4, .inl (fun j => iI ((zU iz x 1) j)))), (wl, .inl (xI g, 4, .inl (fun j => iI ((zU wlz x z_13) j)))), (ve, .inr (6, [v0, v1, v2, v3, .int (nI R), v5, .int (iI z_19), .int (iI wt), .ref wb, v9, .ref bg])), (wb, .inl (xI g, 10, .inl (fun j => iI (wbz j)))), (bg, .inl (xI g, 10, .inl (fun j => iI ((zU bgz (bch x) ((tk : Nat) : Int)) j))))] := hD
      have hP9 := hP
      have hD9 := hD
      exact W.vret hx hb hr (fun t ht hW => ⟨⟨(), rfl, (by first | trivial | rfl | assumption | omega), ⟨bch, (zU iz x 1), (zU wlz x z_13), (zU bgz (bch x) ((tk : Nat) : Int)), z_19, wt, (by refine ⟨by omega, by omega, by omega, by omega, fun q1 q2 => by omega⟩), b_bch, hb_9, hb_15, hb_16, by rw [ht]; exact hP9, va_K.moved hW.alike hK, hD9⟩⟩, hS.F ht⟩) hS.2.2 dX3_step_132
  · have nc_5 := mt (iEq (a := iz x) (b := 0) rfl (by decide) (by omega)).mpr c_5
    refine lv_aload_n hx hb dX3_step_17 rfl (lv_at hl 1 rfl) ?_
    refine va_get (D := xD g) (ci := 3) (v := .ref wl) (C := RX3) (T := TX3) (N := 4) hx hb hts hFX3 hown hK hP 0 rfl rfl 3 (by decide) (hts (.fieldLink RX3 24 "Stevedore$CraneWalk" "workLeft" "[I") (by decide +kernel)) (fun _ h9 => h9) rfl dX3_step_18 ?_
    refine lv_iload_n hx hb dX3_step_21 rfl (lv_at hl 3 rfl) ?_
    refine va_iald hx hb hK hP 3 0 rfl rfl (vp_in_nI (by omega) (by omega)) dX3_step_22 ?_
    refine lv_topi (fun v_21 ev => ?_)
    obtain rfl : v_21 = iI (wlz x) := ev.trans (congrArg (fun q9 => iI (wlz q9)) (nI_clamp (by omega)))
    have b_22 := b_wlz x
    refine lv_if_le (tgt := 39) hx hb dX3_step_23 (by decide) (fun c_23 => ?_) (fun c_23 => ?_)
    · have nc_23 := (iLe (a := wlz x) (b := 0) rfl (by decide) (by omega)).mp c_23
      refine lv_aload_n hx hb dX3_step_39 rfl (lv_at hl 1 rfl) ?_
      refine va_get (D := xD g) (ci := 3) (v := .ref ii) (C := RX3) (T := TX3) (N := 4) hx hb hts hFX3 hown hK hP 0 rfl rfl 2 (by decide) (hts (.fieldLink RX3 20 "Stevedore$CraneWalk" "isInside" "[Z") (by decide +kernel)) (fun _ h9 => h9) rfl dX3_step_40 ?_
      refine lv_iload_n hx hb dX3_step_43 rfl (lv_at hl 3 rfl) ?_
      refine lv_iconst (v := 0) hx hb dX3_step_44 (by decide) ?_
      refine va_zast (x := 0) hx hb hK hP hD hS 2 1 rfl rfl (vp_in_nI (by omega) (by omega)) dX3_step_45 (fun H locs hP hD hS => ?_)
      rw [iU (f := iz) (k := x) (v := 0) (nI_clamp (by omega)) (by decide)] at hP hD
      have hb_24 : ∀ j, 0 ≤ (zU iz x 0) j ∧ (zU iz x 0) j ≤ 1 := zU_all (P := fun q9 => 0 ≤ q9 ∧ q9 ≤ 1) b_iz (by omega)
      have hP : va_P (xD g) vwCl [(cw, .inr (3, [w0, .ref bc, .ref ii, .ref wl])), (bc, .inl (xI g, 4, .inl (fun j => nI (bch j)))), (ii, .inl (xZ g, 4, .inl (fun j => iI ((zU iz x 0) j)))), (wl, .inl (xI g, 4, .inl (fun j => iI (wlz j)))), (ve, .inr (6, [v0, v1, v2, v3, .int (nI R), v5, .int (iI hd), .int (iI wt), .ref wb, v9, .ref bg])), (wb, .inl (xI g, 10, .inl (fun j => iI (wbz j)))), (bg, .inl (xI g, 10, .inl (fun j => iI (bgz j))))] H := hP
      have hD : va_D A [(cw, .inr (3, [w0, .ref bc, .ref ii, .ref wl])), (bc, .inl (xI g, 4, .inl (fun j => nI (bch j)))), (ii, .inl (xZ g, 4, .inl (fun j => iI ((zU iz x 0) j)))), (wl, .inl (xI g, 4, .inl (fun j => iI (wlz j)))), (ve, .inr (6, [v0, v1, v2, v3, .int (nI R), v5, .int (iI hd), .int (iI wt), .ref wb, v9, .ref bg])), (wb, .inl (xI g, 10, .inl (fun j => iI (wbz j)))), (bg, .inl (xI g, 10, .inl (fun j => iI (bgz j))))] := hD
      refine lv_aload_n hx hb dX3_step_46 rfl (lv_at hl 1 rfl) ?_
      refine va_get (D := xD g) (ci := 3) (v := .ref bc) (C := RX3) (T := TX3) (N := 4) hx hb hts hFX3 hown hK hP 0 rfl rfl 1 (by decide) (hts (.fieldLink RX3 16 "Stevedore$CraneWalk" "bayOfCrane" "[I") (by decide +kernel)) (fun _ h9 => h9) rfl dX3_step_47 ?_
      refine lv_iload_n hx hb dX3_step_50 rfl (lv_at hl 3 rfl) ?_
      refine lv_dup2_11 hx hb dX3_step_51 rfl rfl ?_
      refine va_iald hx hb hK hP 1 0 rfl rfl (vp_in_nI (by omega) (by omega)) dX3_step_52 ?_
      refine lv_topi (fun v_25 ev => ?_)
      obtain rfl : v_25 = nI (bch x) := ev.trans (congrArg (fun q9 => nI (bch q9)) (nI_clamp (by omega)))
      have b_26 := b_bch x
      refine lv_iconst (v := 1) hx hb dX3_step_53 (by decide) ?_
      refine lv_iadd hx hb dX3_step_54 ?_
      refine lv_topi (fun v_27 ev => ?_)
      obtain rfl : v_27 = nI (bch x + 1) := ev.trans (nI_add (bch x) 1)
      refine va_iast (x := nI (bch x + 1)) hx hb hK hP hD hS 1 0 rfl rfl (vp_in_nI (by omega) (by omega)) dX3_step_55 (fun H locs hP hD hS => ?_)
      rw [nU (f := bch) (k := x) (v := bch x + 1) (nI_clamp (by omega)) rfl] at hP hD
      have hb_28 : ∀ j, (nV bch x (bch x + 1)) j ≤ 10 := nV_all (P := fun q9 => q9 ≤ 10) b_bch (by omega)
      have hP : va_P (xD g) vwCl [(cw, .inr (3, [w0, .ref bc, .ref ii, .ref wl])), (bc, .inl (xI g, 4, .inl (fun j => nI ((nV bch x (bch x + 1)) j)))), (ii, .inl (xZ g, 4, .inl (fun j => iI ((zU iz x 0) j)))), (wl, .inl (xI g, 4, .inl (fun j => iI (wlz j)))), (ve, .inr (6, [v0, v1, v2, v3, .int (nI R), v5, .int (iI hd), .int (iI wt), .ref wb, v9, .ref bg])), (wb, .inl (xI g, 10, .inl (fun j => iI (wbz j)))), (bg, .inl (xI g, 10, .inl (fun j => iI (bgz j))))] H := hP
      have hD : va_D A [(cw, .inr (3, [w0, .ref bc, .ref ii, .ref wl])), (bc, .inl (xI g, 4, .inl (fun j => nI ((nV bch x (bch x + 1)) j)))), (ii, .inl (xZ g, 4, .inl (fun j => iI ((zU iz x 0) j)))), (wl, .inl (xI g, 4, .inl (fun j => iI (wlz j)))), (ve, .inr (6, [v0, v1, v2, v3, .int (nI R), v5, .int (iI hd), .int (iI wt), .ref wb, v9, .ref bg])), (wb, .inl (xI g, 10, .inl (fun j => iI (wbz j)))), (bg, .inl (xI g, 10, .inl (fun j => iI (bgz j))))] := hD
      refine lv_goto (tgt := 132) hx hb dX3_step_56 (by decide) ?_
      have hP9 := hP
      have hD9 := hD
      exact W.vret hx hb hr (fun t ht hW => ⟨⟨(), rfl, (by first | trivial | rfl | assumption | omega), ⟨(nV bch x (bch x + 1)), (zU iz x 0), wlz, bgz, hd, wt, (by refine ⟨by omega, by omega, by omega, by omega, fun q1 q2 => by omega⟩), hb_28, hb_24, b_wlz, b_bgz, by rw [ht]; exact hP9, va_K.moved hW.alike hK, hD9⟩⟩, hS.F ht⟩) hS.2.2 dX3_step_132
    · have nc_23 := mt (iLe (a := wlz x) (b := 0) rfl (by decide) (by omega)).mpr c_23
      refine lv_aload_n hx hb dX3_step_26 rfl (lv_at hl 1 rfl) ?_
      refine va_get (D := xD g) (ci := 3) (v := .ref wl) (C := RX3) (T := TX3) (N := 4) hx hb hts hFX3 hown hK hP 0 rfl rfl 3 (by decide) (hts (.fieldLink RX3 24 "Stevedore$CraneWalk" "workLeft" "[I") (by decide +kernel)) (fun _ h9 => h9) rfl dX3_step_27 ?_
      refine lv_iload_n hx hb dX3_step_30 rfl (lv_at hl 3 rfl) ?_
      refine lv_dup2_11 hx hb dX3_step_31 rfl rfl ?_
      refine va_iald hx hb hK hP 3 0 rfl rfl (vp_in_nI (by omega) (by omega)) dX3_step_32 ?_
      refine lv_topi (fun v_29 ev => ?_)
      obtain rfl : v_29 = iI (wlz x) := ev.trans (congrArg (fun q9 => iI (wlz q9)) (nI_clamp (by omega)))
      have b_30 := b_wlz x
      refine lv_iconst (v := 1) hx hb dX3_step_33 (by decide) ?_
      refine lv_isub hx hb dX3_step_34 ?_
      refine lv_topi (fun v_31 ev => ?_)
      obtain rfl : v_31 = iI (wlz x - 1) := ev.trans (iS rfl (by decide))
      refine va_iast (x := iI (wlz x - 1)) hx hb hK hP hD hS 3 0 rfl rfl (vp_in_nI (by omega) (by omega)) dX3_step_35 (fun H locs hP hD hS => ?_)
      rw [iU (f := wlz) (k := x) (v := wlz x - 1) (nI_clamp (by omega)) rfl] at hP hD
      have hb_32 : ∀ j, 0 ≤ (zU wlz x (wlz x - 1)) j ∧ (zU wlz x (wlz x - 1)) j ≤ 100 := zU_all (P := fun q9 => 0 ≤ q9 ∧ q9 ≤ 100) b_wlz (by omega)
      have hP : va_P (xD g) vwCl [(cw, .inr (3, [w0, .ref bc, .ref ii, .ref wl])), (bc, .inl (xI g, 4, .inl (fun j => nI (bch j)))), (ii, .inl (xZ g, 4, .inl (fun j => iI (iz j)))), (wl, .inl (xI g, 4, .inl (fun j => iI ((zU wlz x (wlz x - 1)) j)))), (ve, .inr (6, [v0, v1, v2, v3, .int (nI R), v5, .int (iI hd), .int (iI wt), .ref wb, v9, .ref bg])), (wb, .inl (xI g, 10, .inl (fun j => iI (wbz j)))), (bg, .inl (xI g, 10, .inl (fun j => iI (bgz j))))] H := hP
      have hD : va_D A [(cw, .inr (3, [w0, .ref bc, .ref ii, .ref wl])), (bc, .inl (xI g, 4, .inl (fun j => nI (bch j)))), (ii, .inl (xZ g, 4, .inl (fun j => iI (iz j)))), (wl, .inl (xI g, 4, .inl (fun j => iI ((zU wlz x (wlz x - 1)) j)))), (ve, .inr (6, [v0, v1, v2, v3, .int (nI R), v5, .int (iI hd), .int (iI wt), .ref wb, v9, .ref bg])), (wb, .inl (xI g, 10, .inl (fun j => iI (wbz j)))), (bg, .inl (xI g, 10, .inl (fun j => iI (bgz j))))] := hD
      refine lv_goto (tgt := 132) hx hb dX3_step_36 (by decide) ?_
      have hP9 := hP
      have hD9 := hD
      exact W.vret hx hb hr (fun t ht hW => ⟨⟨(), rfl, (by first | trivial | rfl | assumption | omega), ⟨bch, iz, (zU wlz x (wlz x - 1)), bgz, hd, wt, (by refine ⟨by omega, by omega, by omega, by omega, fun q1 q2 => by omega⟩), b_bch, b_iz, hb_32, b_bgz, by rw [ht]; exact hP9, va_K.moved hW.alike hK, hD9⟩⟩, hS.F ht⟩) hS.2.2 dX3_step_132
