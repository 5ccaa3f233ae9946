theorem dX7_putBack_0 : decode cX7_putBack 0 = .ok (.iload_n 2, 1) := by decide +kernel
theorem dX7_putBack_1 : decode cX7_putBack 1 = .ok (.iconst 1, 1) := by decide +kernel
theorem dX7_putBack_2 : decode cX7_putBack 2 = .ok (.isub, 1) := by decide +kernel
theorem dX7_putBack_3 : decode cX7_putBack 3 = .ok (.istore_n 3, 1) := by decide +kernel
theorem dX7_putBack_4 : decode cX7_putBack 4 = .ok (.iload_n 3, 1) := by decide +kernel
theorem dX7_putBack_5 : decode cX7_putBack 5 = .ok (.ifCond .lt 24, 3) := by decide +kernel
theorem dX7_putBack_29 : decode cX7_putBack 29 = .ok (.return_, 1) := by decide +kernel
theorem dX7_putBack_8 : decode cX7_putBack 8 = .ok (.aload_n 0, 1) := by decide +kernel
theorem dX7_putBack_9 : decode cX7_putBack 9 = .ok (.aload_n 0, 1) := by decide +kernel
theorem dX7_putBack_10 : decode cX7_putBack 10 = .ok (.aload_n 0, 1) := by decide +kernel
theorem dX7_putBack_11 : decode cX7_putBack 11 = .ok (.getfield 35, 3) := by decide +kernel
theorem dX7_putBack_14 : decode cX7_putBack 14 = .ok (.iload_n 3, 1) := by decide +kernel
theorem dX7_putBack_15 : decode cX7_putBack 15 = .ok (.iaload, 1) := by decide +kernel
theorem dX7_putBack_16 : decode cX7_putBack 16 = .ok (.invokevirtual 94, 3) := by decide +kernel
set_option maxRecDepth 20000 in
theorem ggX7_putBack_X7_lift : GoodIn wsX7_putBack wsX7_lift := goodIn_r _ [6, 7, 8, 9, 10, 11, 5, 12, 13, 18, 19, 20, 21, 22, 23, 24, 25, 26, 27, 28] rfl (by decide +kernel)
set_option maxRecDepth 20000 in
theorem gX7_putBack_X7_lift : GoodIn wsX7_putBack (wsV RX7 94 RX7 yX7_lift wsX7_lift) := goodIn_app (goodIn_of _ (by decide +kernel)) ggX7_putBack_X7_lift
theorem dX7_putBack_19 : decode cX7_putBack 19 = .ok (.iload_n 1, 1) := by decide +kernel
theorem dX7_putBack_20 : decode cX7_putBack 20 = .ok (.invokevirtual 83, 3) := by decide +kernel
set_option maxRecDepth 20000 in
theorem ggX7_putBack_X7_putOn : GoodIn wsX7_putBack wsX7_putOn := goodIn_r _ [17, 7, 13, 8, 18, 19, 20, 21, 22, 23, 24, 25, 26, 27, 28] rfl (by decide +kernel)
set_option maxRecDepth 20000 in
theorem gX7_putBack_X7_putOn : GoodIn wsX7_putBack (wsV RX7 83 RX7 yX7_putOn wsX7_putOn) := goodIn_app (goodIn_of _ (by decide +kernel)) ggX7_putBack_X7_putOn
theorem dX7_putBack_23 : decode cX7_putBack 23 = .ok (.iinc 3 (-1), 3) := by decide +kernel
theorem dX7_putBack_26 : decode cX7_putBack 26 = .ok (.goto (-22), 3) := by decide +kernel
set_option maxHeartbeats 4000000 in
set_option maxRecDepth 100000 in
theorem y_putBack (l : Launch) (g : xG) (sz : Nat) (ya : Nat) (he : Nat) (so : Nat) (so2 : Nat) (wn : Nat) (st : Nat) (mv : Nat) (n : Nat) (sc : Nat) (lim : Nat → Nat) (stt : Nat → Int) (Y0 : yS) (rr : Nat → Nat) (y0 : Value) (y1 : Value) (y2 : Value) (y3 : Value) (y6 : Value) (y7 : Value) (y8 : Value) (hgt : Nat → Nat) (sd : Nat → Nat → Nat) (oo : Nat → Int) (wnt : Nat → Nat)  (hst : st < sc) (hsc : sc ≤ 12) (hlm : ∀ x, lim x ≤ 5) (hmv : mv ≤ 5) (hok : yOk n sc lim Y0 stt) (hch0 : yChn sc lim st wnt Y0 mv (hgt, sd, oo)) (b_hgt : ∀ j, hgt j ≤ 5) (b_sd : ∀ i j, sd i j ≤ 23) (b_oo : ∀ j, (-1) ≤ oo j ∧ oo j ≤ 11) (b_wnt : ∀ j, wnt j ≤ 11) : Met l yX7_putBack wsX7_putBack ({ frames := 2, cells := 0, slots := 0, locals := 43 }) (va_Pc [.ref ya, .int (nI st), .int (nI mv)] (fun U => xB g ([(ya, .inr (7, [y0, y1, y2, y3, .ref he, .ref so, y6, y7, y8, .ref so2, .ref wn])), (he, .inl (xI g, 12, .inl (fun j => nI (hgt j)))), (so, .inl (xM g, 12, .inr (.inr (.inr (.inr (fun i => if i < 12 then some (rr i) else none))))))] ++ (xRN (xI g) 12 5 rr sd ++ [(so2, .inl (xI g, 24, .inl (fun j => iI (oo j)))), (wn, .inl (xI g, 5, .inl (fun j => nI (wnt j))))])) sz U)) (va_Qv (fun (_ : Unit) => True) (fun (_ : Unit) (t : State) => (∀ j, ((yBack st wnt mv (hgt, sd, oo)).1) j ≤ 5) ∧ (∀ i j, ((yBack st wnt mv (hgt, sd, oo)).2.1) i j ≤ 23) ∧ (∀ j, (-1) ≤ ((yBack st wnt mv (hgt, sd, oo)).2.2) j ∧ ((yBack st wnt mv (hgt, sd, oo)).2.2) j ≤ 11) ∧ xE g ([(ya, .inr (7, [y0, y1, y2, y3, .ref he, .ref so, y6, y7, y8, .ref so2, .ref wn])), (he, .inl (xI g, 12, .inl (fun j => nI (((yBack st wnt mv (hgt, sd, oo)).1) j)))), (so, .inl (xM g, 12, .inr (.inr (.inr (.inr (fun i => if i < 12 then some (rr i) else none))))))] ++ (xRN (xI g) 12 5 rr ((yBack st wnt mv (hgt, sd, oo)).2.1) ++ [(so2, .inl (xI g, 24, .inl (fun j => iI (((yBack st wnt mv (hgt, sd, oo)).2.2) j)))), (wn, .inl (xI g, 5, .inl (fun j => nI (wnt j))))])) (va_A ([(ya, .inr (7, [y0, y1, y2, y3, .ref he, .ref so, y6, y7, y8, .ref so2, .ref wn])), (he, .inl (xI g, 12, .inl (fun j => nI (hgt j)))), (so, .inl (xM g, 12, .inr (.inr (.inr (.inr (fun i => if i < 12 then some (rr i) else none))))))] ++ (xRN (xI g) 12 5 rr sd ++ [(so2, .inl (xI g, 24, .inl (fun j => iI (oo j)))), (wn, .inl (xI g, 5, .inl (fun j => nI (wnt j))))])) sz) t) (va_A ([(ya, .inr (7, [y0, y1, y2, y3, .ref he, .ref so, y6, y7, y8, .ref so2, .ref wn])), (he, .inl (xI g, 12, .inl (fun j => nI (hgt j)))), (so, .inl (xM g, 12, .inr (.inr (.inr (.inr (fun i => if i < 12 then some (rr i) else none))))))] ++ (xRN (xI g) 12 5 rr sd ++ [(so2, .inl (xI g, 24, .inl (fun j => iI (oo j)))), (wn, .inl (xI g, 5, .inl (fun j => nI (wnt j))))])) sz)) 0 0 (va_A ([(ya, .inr (7, [y0, y1, y2, y3, .ref he, .ref so, y6, y7, y8, .ref so2, .ref wn])), (he, .inl (xI g, 12, .inl (fun j => nI (hgt j)))), (so, .inl (xM g, 12, .inr (.inr (.inr (.inr (fun i => if i < 12 then some (rr i) else none))))))] ++ (xRN (xI g) 12 5 rr sd ++ [(so2, .inl (xI g, 24, .inl (fun j => iI (oo j)))), (wn, .inl (xI g, 5, .inl (fun j => nI (wnt j))))])) sz) := by
  refine Met.ofW (cc := cX7_putBack) (maxL := 4) (ret := none) (by decide) rfl ?_
  intro p e s m args below meth c s₁ B hml hv
  obtain ⟨rfl, hsz, hP, hK, hD0⟩ := hv
  have hx := B.exec
  have hb := B.bytes
  have hr := B.returns
  have hts := atoms_spec (ws := wsX7_putBack) B.pre
  have hown : s.vm.findClass RX7 = some m.cls := findClass_of_methodNamed B.named
  have hlocks := B.notSynchronized
  subst hsz
  have hD := hD0.self (sz := s.heap.size)
  generalize hAe : va_A ([(ya, .inr (7, [y0, y1, y2, y3, .ref he, .ref so, y6, y7, y8, .ref so2, .ref wn])), (he, .inl (xI g, 12, .inl (fun j => nI (hgt j)))), (so, .inl (xM g, 12, .inr (.inr (.inr (.inr (fun i => if i < 12 then some (rr i) else none))))))] ++ (xRN (xI g) 12 5 rr sd ++ [(so2, .inl (xI g, 24, .inl (fun j => iI (oo j)))), (wn, .inl (xI g, 5, .inl (fun j => nI (wnt j))))])) s.heap.size = A at hD ⊢
  have hA : ∀ q : Nat, s.heap.size ≤ q → A q := fun q h => by rw [← hAe]; exact Or.inr h
  have hS : va_S A s.heap s.heap [] := va_S.rf
  have hl := lv_entry ([.ref ya, .int (nI st), .int (nI mv)]) (n := 4) (Nat.le_of_ble_eq_true rfl)
  rw [lg_entry_eq]
  generalize (lg_sl ([.ref ya, .int (nI st), .int (nI mv)]) ++ List.replicate (4 - (lg_sl ([.ref ya, .int (nI st), .int (nI mv)])).length) Slot.unset).toArray = ls at hl ⊢
  have hl : lv_has ls 4 [(0, .ref ya), (1, .int (nI st)), (2, .int (nI mv))] := hl
  have hFX7 : ∀ w ∈ u_ws RX7 TX7 11, w ∈ wsX7_putBack := by decide +kernel
  refine lv_iload_n hx hb dX7_putBack_0 rfl (lv_at hl 2 rfl) ?_
  refine lv_iconst (v := 1) hx hb dX7_putBack_1 (by decide) ?_
  refine lv_isub hx hb dX7_putBack_2 ?_
  refine lv_topi (fun v_1 ev => ?_)
  obtain rfl : v_1 = iI (((mv : Nat) : Int) - 1) := ev.trans (iS (iI_nI _) (by decide))
  refine lv_istore_n (lv' := [(3, .int (iI (((mv : Nat) : Int) - 1))), (0, .ref ya), (1, .int (nI st)), (2, .int (nI mv))]) hx hb dX7_putBack_3 rfl hl (by decide) rfl (fun ls hl => ?_)
  have hloop4 : ∀ (n9 : Nat) (j : Nat) (hk : Nat → Nat) (dk : Nat → Nat → Nat) (ok : Nat → Int) (H : Heap) (locs : List Loc) (ls : Array Slot), j < n9 → (j ≤ mv) → (yBack st wnt mv (hgt, sd, oo) = yBack st wnt j (hk, dk, ok)) → (∃ Yc, yChn sc lim st wnt Y0 j Yc ∧ yRel (hk, dk, ok) Yc) → (∀ j, hk j ≤ 5) → (∀ i j, dk i j ≤ 23) → (∀ j, (-1) ≤ ok j ∧ ok j ≤ 11) → va_P (xD g) vwCl ([(ya, .inr (7, [y0, y1, y2, y3, .ref he, .ref so, y6, y7, y8, .ref so2, .ref wn])), (he, .inl (xI g, 12, .inl (fun j => nI (hk j)))), (so, .inl (xM g, 12, .inr (.inr (.inr (.inr (fun i => if i < 12 then some (rr i) else none))))))] ++ (xRN (xI g) 12 5 rr dk ++ [(so2, .inl (xI g, 24, .inl (fun j => iI (ok j)))), (wn, .inl (xI g, 5, .inl (fun j => nI (wnt j))))])) H → va_D A ([(ya, .inr (7, [y0, y1, y2, y3, .ref he, .ref so, y6, y7, y8, .ref so2, .ref wn])), (he, .inl (xI g, 12, .inl (fun j => nI (hk j)))), (so, .inl (xM g, 12, .inr (.inr (.inr (.inr (fun i => if i < 12 then some (rr i) else none))))))] ++ (xRN (xI g) 12 5 rr dk ++ [(so2, .inl (xI g, 24, .inl (fun j => iI (ok j)))), (wn, .inl (xI g, 5, .inl (fun j => nI (wnt j))))])) → va_S A s.heap H locs → lv_has ls 4 [(3, .int (iI (((j : Nat) : Int) - 1))), (0, .ref ya), (1, .int (nI st))] → W p l e (headSpec wsX7_putBack ({ frames := 2, cells := 0, slots := 0, locals := 43 })).room s m ([.ref ya, .int (nI st), .int (nI mv)] : List Value).toArray below meth c H locs 0 0 (MQ below (va_Qv (fun (_ : Unit) => True) (fun (_ : Unit) (t : State) => (∀ j, ((yBack st wnt mv (hgt, sd, oo)).1) j ≤ 5) ∧ (∀ i j, ((yBack st wnt mv (hgt, sd, oo)).2.1) i j ≤ 23) ∧ (∀ j, (-1) ≤ ((yBack st wnt mv (hgt, sd, oo)).2.2) j ∧ ((yBack st wnt mv (hgt, sd, oo)).2.2) j ≤ 11) ∧ xE g ([(ya, .inr (7, [y0, y1, y2, y3, .ref he, .ref so, y6, y7, y8, .ref so2, .ref wn])), (he, .inl (xI g, 12, .inl (fun j => nI (((yBack st wnt mv (hgt, sd, oo)).1) j)))), (so, .inl (xM g, 12, .inr (.inr (.inr (.inr (fun i => if i < 12 then some (rr i) else none))))))] ++ (xRN (xI g) 12 5 rr ((yBack st wnt mv (hgt, sd, oo)).2.1) ++ [(so2, .inl (xI g, 24, .inl (fun j => iI (((yBack st wnt mv (hgt, sd, oo)).2.2) j)))), (wn, .inl (xI g, 5, .inl (fun j => nI (wnt j))))])) (A) t) (A)) ([.ref ya, .int (nI st), .int (nI mv)] : List Value).toArray s 0 0 A) (F0 m 4 ls []) := by
    intro n9
    induction n9 with
    | zero =>
      intro j hk dk ok H locs ls hm hj hpb hch bb_hk bb_dk bb_ok hP hD hS hl
      exact absurd hm (Nat.not_lt_zero _)
    | succ n9 ih4 =>
      intro j hk dk ok H locs ls hm hj hpb hch bb_hk bb_dk bb_ok hP hD hS hl
      refine lv_iload_n hx hb dX7_putBack_4 rfl (lv_at hl 0 rfl) ?_
      refine lv_if_lt (tgt := 29) hx hb dX7_putBack_5 (by decide) (fun c_2 => ?_) (fun c_2 => ?_)
      · have nc_2 := (iLt (a := ((j : Nat) : Int) - 1) (b := 0) rfl (by decide) (by omega)).mp c_2
        have hP9 := hP
        have hD9 := hD
        obtain rfl : j = 0 := by omega
        have hq9 : yBack st wnt mv (hgt, sd, oo) = (hk, dk, ok) := hpb
        have hP9 : va_P (xD g) vwCl ([(ya, .inr (7, [y0, y1, y2, y3, .ref he, .ref so, y6, y7, y8, .ref so2, .ref wn])), (he, .inl (xI g, 12, .inl (fun j => nI (((yBack st wnt mv (hgt, sd, oo)).1) j)))), (so, .inl (xM g, 12, .inr (.inr (.inr (.inr (fun i => if i < 12 then some (rr i) else none))))))] ++ (xRN (xI g) 12 5 rr ((yBack st wnt mv (hgt, sd, oo)).2.1) ++ [(so2, .inl (xI g, 24, .inl (fun j => iI (((yBack st wnt mv (hgt, sd, oo)).2.2) j)))), (wn, .inl (xI g, 5, .inl (fun j => nI (wnt j))))])) H := by rw [hq9]; exact hP9
        have hD9 : va_D A ([(ya, .inr (7, [y0, y1, y2, y3, .ref he, .ref so, y6, y7, y8, .ref so2, .ref wn])), (he, .inl (xI g, 12, .inl (fun j => nI (((yBack st wnt mv (hgt, sd, oo)).1) j)))), (so, .inl (xM g, 12, .inr (.inr (.inr (.inr (fun i => if i < 12 then some (rr i) else none))))))] ++ (xRN (xI g) 12 5 rr ((yBack st wnt mv (hgt, sd, oo)).2.1) ++ [(so2, .inl (xI g, 24, .inl (fun j => iI (((yBack st wnt mv (hgt, sd, oo)).2.2) j)))), (wn, .inl (xI g, 5, .inl (fun j => nI (wnt j))))])) := by rw [hq9]; exact hD9
        exact W.vret hx hb hr (fun t ht hW => ⟨⟨(), rfl, (by first | trivial | rfl | assumption | omega), ⟨(by rw [hq9]; exact bb_hk), (by rw [hq9]; exact bb_dk), (by rw [hq9]; exact bb_ok), by rw [ht]; exact hP9, va_K.moved hW.alike hK, hD9⟩⟩, hS.F ht⟩) hS.2.2 dX7_putBack_29
      · have nc_2 := mt (iLt (a := ((j : Nat) : Int) - 1) (b := 0) rfl (by decide) (by omega)).mpr c_2
        obtain ⟨i, rfl⟩ : ∃ i, j = i + 1 := ⟨j - 1, by omega⟩
        rw [show iI (((i + 1 : Nat) : Int) - 1) = nI i from by rw [iI_nI]; congr 1; omega] at hl
        obtain ⟨Yc, hy1, hy2⟩ := hch
        obtain ⟨Y1, hy11, rfl, hy13, hy14, hy15, hy16⟩ := hy1
        have hok1 := yChn_ok hok hst i Y1 hy11
        have hne : st ≠ wnt i := fun q => hy14 q.symm
        have hpos : 0 < hk (wnt i) := by have q := hy2.1 (wnt i); dsimp only at q; rw [q, yMv_h hne, if_pos rfl]; omega
        have hst5 : hk st < 5 := by have q := hy2.1 st; dsimp only at q; rw [q, yMv_h hne, if_neg hne, if_pos rfl]; have z := hok1.1.1 st hst; have z2 := hlm st; omega
        have hstv : nV hk (wnt i) (hk (wnt i) - 1) st < 5 := by simp only [nV, if_neg hne]; exact hst5
        have hrel := yRel_mv hy2 (s := wnt i) (t := st) hy14 hpos
        have hbk := yMv_back hok1.1 hst hne hy15
        refine lv_aload_n hx hb dX7_putBack_8 rfl (lv_at hl 1 rfl) ?_
        refine lv_aload_n hx hb dX7_putBack_9 rfl (lv_at hl 1 rfl) ?_
        refine lv_aload_n hx hb dX7_putBack_10 rfl (lv_at hl 1 rfl) ?_
        refine va_get (D := xD g) (ci := 7) (v := .ref wn) (C := RX7) (T := TX7) (N := 11) hx hb hts hFX7 hown hK hP 0 rfl rfl 10 (by decide) (hts (.fieldLink RX7 35 "Stevedore$Yard" "wentTo" "[I") (by decide +kernel)) (fun _ h9 => h9) rfl dX7_putBack_11 ?_
        refine lv_iload_n hx hb dX7_putBack_14 rfl (lv_at hl 0 rfl) ?_
        refine va_iald hx hb hK hP 16 0 rfl rfl (vp_in_nI (by omega) (by omega)) dX7_putBack_15 ?_
        refine lv_topi (fun v_3 ev => ?_)
        obtain rfl : v_3 = nI (wnt i) := ev.trans (congrArg (fun q9 => nI (wnt q9)) (nI_clamp (by omega)))
        have b_4 := b_wnt i
        have hPc := hP.sub (ws' := ([(ya, .inr (7, [y0, y1, y2, y3, .ref he, .ref so, y6, y7, y8, .ref so2, .ref wn])), (he, .inl (xI g, 12, .inl (fun j => nI (hk j)))), (so, .inl (xM g, 12, .inr (.inr (.inr (.inr (fun i => if i < 12 then some (rr i) else none))))))] ++ (xRN (xI g) 12 5 rr dk ++ [(so2, .inl (xI g, 24, .inl (fun j => iI (ok j))))]))) [0, 1, 2, 3, 4, 5, 6, 7, 8, 9, 10, 11, 12, 13, 14, 15] rfl
        have hDc := hD.sub (ws' := ([(ya, .inr (7, [y0, y1, y2, y3, .ref he, .ref so, y6, y7, y8, .ref so2, .ref wn])), (he, .inl (xI g, 12, .inl (fun j => nI (hk j)))), (so, .inl (xM g, 12, .inr (.inr (.inr (.inr (fun i => if i < 12 then some (rr i) else none))))))] ++ (xRN (xI g) 12 5 rr dk ++ [(so2, .inl (xI g, 24, .inl (fun j => iI (ok j))))]))) [0, 1, 2, 3, 4, 5, 6, 7, 8, 9, 10, 11, 12, 13, 14, 15] (by decide) rfl
        have hFc := va_free (wc := ([(ya, .inr (7, [y0, y1, y2, y3, .ref he, .ref so, y6, y7, y8, .ref so2, .ref wn])), (he, .inl (xI g, 12, .inl (fun j => nI (hk j)))), (so, .inl (xM g, 12, .inr (.inr (.inr (.inr (fun i => if i < 12 then some (rr i) else none))))))] ++ (xRN (xI g) 12 5 rr dk ++ [(so2, .inl (xI g, 24, .inl (fun j => iI (ok j))))]))) hD hS hA [0, 1, 2, 3, 4, 5, 6, 7, 8, 9, 10, 11, 12, 13, 14, 15] rfl
        refine va_calli (va_runV (As := [.int (nI (wnt i))]) (rest := [.ref ya]) ⟨hx, hb, hml, hown, hts⟩ (y_lift l g H.size ya he so so2 (wnt i) rr y0 y1 y2 y3 y6 y7 y8 (.ref wn) hk dk ok (by first | assumption | omega) (by first | assumption | omega) bb_hk bb_dk bb_ok) (cwV 1 hts gX7_putBack_X7_lift rfl rfl rfl (by decide +kernel) ⟨Nat.le_of_ble_eq_true rfl, Nat.le_of_ble_eq_true rfl⟩) ⟨xB.blind, va_recv hK hPc (ci := 7) (q0 := 0) rfl rfl, fun U9 hU9 hW9 => ⟨rfl, xB.mk hPc hK hDc hU9 hW9⟩⟩ rfl rfl hl.1 rfl (lv_room (Nat.le_of_ble_eq_true rfl)) dX7_putBack_16 ⟨Nat.le_of_ble_eq_true rfl, Nat.le_of_ble_eq_true rfl⟩) hS (fun q _ h => hFc q h) hFc (fun r_5 _ t H1 locs ht hvm hw_6 hB hz1 hk1 hS => ?_)
        obtain ⟨hb_7, hb_8, hP1, hK1, hD1⟩ := hB
        rw [ht] at hP1
        obtain ⟨hP, hD⟩ := va_join (wr := [(wn, .inl (xI g, 5, .inl (fun j => nI (wnt j))))]) (w1 := ([(ya, .inr (7, [y0, y1, y2, y3, .ref he, .ref so, y6, y7, y8, .ref so2, .ref wn])), (he, .inl (xI g, 12, .inl (fun j => nI ((nV hk (wnt i) (hk (wnt i) - 1)) j)))), (so, .inl (xM g, 12, .inr (.inr (.inr (.inr (fun i => if i < 12 then some (rr i) else none))))))] ++ (xRN (xI g) 12 5 rr dk ++ [(so2, .inl (xI g, 24, .inl (fun j => iI ((zU ok (yTop hk dk (wnt i)) (-1)) j))))]))) hP hD [0, 1, 2, 3, 4, 5, 6, 7, 8, 9, 10, 11, 12, 13, 14, 15] [16] rfl rfl (by decide) (by decide) hk1 hFc hP1 hD1
        generalize H1 = H at hP hS ⊢
        have hP : va_P (xD g) vwCl ([(wn, .inl (xI g, 5, .inl (fun j => nI (wnt j)))), (ya, .inr (7, [y0, y1, y2, y3, .ref he, .ref so, y6, y7, y8, .ref so2, .ref wn])), (he, .inl (xI g, 12, .inl (fun j => nI ((nV hk (wnt i) (hk (wnt i) - 1)) j)))), (so, .inl (xM g, 12, .inr (.inr (.inr (.inr (fun i => if i < 12 then some (rr i) else none))))))] ++ (xRN (xI g) 12 5 rr dk ++ [(so2, .inl (xI g, 24, .inl (fun j => iI ((zU ok (yTop hk dk (wnt i)) (-1)) j))))])) H := hP
        have hD : va_D A ([(wn, .inl (xI g, 5, .inl (fun j => nI (wnt j)))), (ya, .inr (7, [y0, y1, y2, y3, .ref he, .ref so, y6, y7, y8, .ref so2, .ref wn])), (he, .inl (xI g, 12, .inl (fun j => nI ((nV hk (wnt i) (hk (wnt i) - 1)) j)))), (so, .inl (xM g, 12, .inr (.inr (.inr (.inr (fun i => if i < 12 then some (rr i) else none))))))] ++ (xRN (xI g) 12 5 rr dk ++ [(so2, .inl (xI g, 24, .inl (fun j => iI ((zU ok (yTop hk dk (wnt i)) (-1)) j))))])) := hD
        try dsimp only at hw_6
        obtain rfl : r_5 = nI (yTop hk dk (wnt i)) := hw_6
        have hq_9 : yTop hk dk (wnt i) ≤ 23 := bb_dk _ _
        refine lv_iload_n hx hb dX7_putBack_19 rfl (lv_at hl 2 rfl) ?_
        have hPc := hP.sub (ws' := ([(ya, .inr (7, [y0, y1, y2, y3, .ref he, .ref so, y6, y7, y8, .ref so2, .ref wn])), (he, .inl (xI g, 12, .inl (fun j => nI ((nV hk (wnt i) (hk (wnt i) - 1)) j)))), (so, .inl (xM g, 12, .inr (.inr (.inr (.inr (fun i => if i < 12 then some (rr i) else none))))))] ++ (xRN (xI g) 12 5 rr dk ++ [(so2, .inl (xI g, 24, .inl (fun j => iI ((zU ok (yTop hk dk (wnt i)) (-1)) j))))]))) [1, 2, 3, 4, 5, 6, 7, 8, 9, 10, 11, 12, 13, 14, 15, 16] rfl
        have hDc := hD.sub (ws' := ([(ya, .inr (7, [y0, y1, y2, y3, .ref he, .ref so, y6, y7, y8, .ref so2, .ref wn])), (he, .inl (xI g, 12, .inl (fun j => nI ((nV hk (wnt i) (hk (wnt i) - 1)) j)))), (so, .inl (xM g, 12, .inr (.inr (.inr (.inr (fun i => if i < 12 then some (rr i) else none))))))] ++ (xRN (xI g) 12 5 rr dk ++ [(so2, .inl (xI g, 24, .inl (fun j => iI ((zU ok (yTop hk dk (wnt i)) (-1)) j))))]))) [1, 2, 3, 4, 5, 6, 7, 8, 9, 10, 11, 12, 13, 14, 15, 16] (by decide) rfl
        have hFc := va_free (wc := ([(ya, .inr (7, [y0, y1, y2, y3, .ref he, .ref so, y6, y7, y8, .ref so2, .ref wn])), (he, .inl (xI g, 12, .inl (fun j => nI ((nV hk (wnt i) (hk (wnt i) - 1)) j)))), (so, .inl (xM g, 12, .inr (.inr (.inr (.inr (fun i => if i < 12 then some (rr i) else none))))))] ++ (xRN (xI g) 12 5 rr dk ++ [(so2, .inl (xI g, 24, .inl (fun j => iI ((zU ok (yTop hk dk (wnt i)) (-1)) j))))]))) hD hS hA [1, 2, 3, 4, 5, 6, 7, 8, 9, 10, 11, 12, 13, 14, 15, 16] rfl
        refine va_callv (va_runV (As := [.int (nI (yTop hk dk (wnt i))), .int (nI st)]) (rest := []) ⟨hx, hb, hml, hown, hts⟩ (y_putOn l g H.size ya he so so2 (yTop hk dk (wnt i)) st rr y0 y1 y2 y3 y6 y7 y8 (.ref wn) (nV hk (wnt i) (hk (wnt i) - 1)) dk (zU ok (yTop hk dk (wnt i)) (-1)) (by first | assumption | omega) (by first | assumption | omega) (by first | assumption | omega) hb_7 bb_dk hb_8) (cwV 2 hts gX7_putBack_X7_putOn rfl rfl rfl (by decide +kernel) ⟨Nat.le_of_ble_eq_true rfl, Nat.le_of_ble_eq_true rfl⟩) ⟨xB.blind, va_recv hK hPc (ci := 7) (q0 := 0) rfl rfl, fun U9 hU9 hW9 => ⟨rfl, xB.mk hPc hK hDc hU9 hW9⟩⟩ rfl rfl hl.1 rfl (lv_room (Nat.le_of_ble_eq_true rfl)) dX7_putBack_20 ⟨Nat.le_of_ble_eq_true rfl, Nat.le_of_ble_eq_true rfl⟩) hS (fun q _ h => hFc q h) hFc (fun _ t H1 locs ht hvm hw_11 hB hz1 hk1 hS => ?_)
        obtain ⟨hb_12, hb_13, hb_14, hP1, hK1, hD1⟩ := hB
        rw [ht] at hP1
        obtain ⟨hP, hD⟩ := va_join (wr := [(wn, .inl (xI g, 5, .inl (fun j => nI (wnt j))))]) (w1 := ([(ya, .inr (7, [y0, y1, y2, y3, .ref he, .ref so, y6, y7, y8, .ref so2, .ref wn])), (he, .inl (xI g, 12, .inl (fun j => nI ((nV (nV hk (wnt i) (hk (wnt i) - 1)) st ((nV hk (wnt i) (hk (wnt i) - 1)) st + 1)) j)))), (so, .inl (xM g, 12, .inr (.inr (.inr (.inr (fun i => if i < 12 then some (rr i) else none))))))] ++ (xRN (xI g) 12 5 rr (nV2 dk st ((nV hk (wnt i) (hk (wnt i) - 1)) st) (yTop hk dk (wnt i))) ++ [(so2, .inl (xI g, 24, .inl (fun j => iI ((zU (zU ok (yTop hk dk (wnt i)) (-1)) (yTop hk dk (wnt i)) ((st : Nat) : Int)) j))))]))) hP hD [1, 2, 3, 4, 5, 6, 7, 8, 9, 10, 11, 12, 13, 14, 15, 16] [0] rfl rfl (by decide) (by decide) hk1 hFc hP1 hD1
        generalize H1 = H at hP hS ⊢
        have hP : va_P (xD g) vwCl ([(wn, .inl (xI g, 5, .inl (fun j => nI (wnt j)))), (ya, .inr (7, [y0, y1, y2, y3, .ref he, .ref so, y6, y7, y8, .ref so2, .ref wn])), (he, .inl (xI g, 12, .inl (fun j => nI ((nV (nV hk (wnt i) (hk (wnt i) - 1)) st ((nV hk (wnt i) (hk (wnt i) - 1)) st + 1)) j)))), (so, .inl (xM g, 12, .inr (.inr (.inr (.inr (fun i => if i < 12 then some (rr i) else none))))))] ++ (xRN (xI g) 12 5 rr (nV2 dk st ((nV hk (wnt i) (hk (wnt i) - 1)) st) (yTop hk dk (wnt i))) ++ [(so2, .inl (xI g, 24, .inl (fun j => iI ((zU (zU ok (yTop hk dk (wnt i)) (-1)) (yTop hk dk (wnt i)) ((st : Nat) : Int)) j))))])) H := hP
        have hD : va_D A ([(wn, .inl (xI g, 5, .inl (fun j => nI (wnt j)))), (ya, .inr (7, [y0, y1, y2, y3, .ref he, .ref so, y6, y7, y8, .ref so2, .ref wn])), (he, .inl (xI g, 12, .inl (fun j => nI ((nV (nV hk (wnt i) (hk (wnt i) - 1)) st ((nV hk (wnt i) (hk (wnt i) - 1)) st + 1)) j)))), (so, .inl (xM g, 12, .inr (.inr (.inr (.inr (fun i => if i < 12 then some (rr i) else none))))))] ++ (xRN (xI g) 12 5 rr (nV2 dk st ((nV hk (wnt i) (hk (wnt i) - 1)) st) (yTop hk dk (wnt i))) ++ [(so2, .inl (xI g, 24, .inl (fun j => iI ((zU (zU ok (yTop hk dk (wnt i)) (-1)) (yTop hk dk (wnt i)) ((st : Nat) : Int)) j))))])) := hD
        try dsimp only at hw_11
        refine lv_iinc (v := iI (((i : Nat) : Int) + (-1))) (lv' := [(3, .int (iI (((i : Nat) : Int) + (-1)))), (0, .ref ya), (1, .int (nI st))]) hx hb dX7_putBack_23 hl (k := 0) rfl (iA (iI_nI _) (by decide)) (by decide) rfl (fun ls hl => ?_)
        refine lv_goto (tgt := 4) hx hb dX7_putBack_26 (by decide) ?_
        have hP := hP.sub (ws' := ([(ya, .inr (7, [y0, y1, y2, y3, .ref he, .ref so, y6, y7, y8, .ref so2, .ref wn])), (he, .inl (xI g, 12, .inl (fun j => nI ((nV (nV hk (wnt i) (hk (wnt i) - 1)) st ((nV hk (wnt i) (hk (wnt i) - 1)) st + 1)) j)))), (so, .inl (xM g, 12, .inr (.inr (.inr (.inr (fun i => if i < 12 then some (rr i) else none))))))] ++ (xRN (xI g) 12 5 rr (nV2 dk st ((nV hk (wnt i) (hk (wnt i) - 1)) st) (yTop hk dk (wnt i))) ++ [(so2, .inl (xI g, 24, .inl (fun j => iI ((zU (zU ok (yTop hk dk (wnt i)) (-1)) (yTop hk dk (wnt i)) ((st : Nat) : Int)) j)))), (wn, .inl (xI g, 5, .inl (fun j => nI (wnt j))))]))) [1, 2, 3, 4, 5, 6, 7, 8, 9, 10, 11, 12, 13, 14, 15, 16, 0] rfl
        have hD := hD.sub (ws' := ([(ya, .inr (7, [y0, y1, y2, y3, .ref he, .ref so, y6, y7, y8, .ref so2, .ref wn])), (he, .inl (xI g, 12, .inl (fun j => nI ((nV (nV hk (wnt i) (hk (wnt i) - 1)) st ((nV hk (wnt i) (hk (wnt i) - 1)) st + 1)) j)))), (so, .inl (xM g, 12, .inr (.inr (.inr (.inr (fun i => if i < 12 then some (rr i) else none))))))] ++ (xRN (xI g) 12 5 rr (nV2 dk st ((nV hk (wnt i) (hk (wnt i) - 1)) st) (yTop hk dk (wnt i))) ++ [(so2, .inl (xI g, 24, .inl (fun j => iI ((zU (zU ok (yTop hk dk (wnt i)) (-1)) (yTop hk dk (wnt i)) ((st : Nat) : Int)) j)))), (wn, .inl (xI g, 5, .inl (fun j => nI (wnt j))))]))) [1, 2, 3, 4, 5, 6, 7, 8, 9, 10, 11, 12, 13, 14, 15, 16, 0] (by decide) rfl
        exact ih4 i (nV (nV hk (wnt i) (hk (wnt i) - 1)) st ((nV hk (wnt i) (hk (wnt i) - 1)) st + 1)) (nV2 dk st ((nV hk (wnt i) (hk (wnt i) - 1)) st) (yTop hk dk (wnt i))) (zU (zU ok (yTop hk dk (wnt i)) (-1)) (yTop hk dk (wnt i)) ((st : Nat) : Int)) _ _ _ (by omega) (by omega) hpb ⟨Y1, hy11, fun x => (hrel.1 x).trans (hbk.1 x), fun x => (hrel.2.1 x).trans (hbk.2.1 x), fun x l hl => (hrel.2.2 x l hl).trans (hbk.2.2 x l (by rw [← hrel.1 x]; exact hl))⟩ hb_12 hb_13 hb_14 hP hD hS (lv_sub hl [0, 1, 2] rfl)
  exact hloop4 (mv + 1) mv hgt sd oo _ _ _ (by omega) (Nat.le_refl _) rfl ⟨_, hch0, yRel_rf⟩ b_hgt b_sd b_oo hP hD hS (lv_sub hl [0, 1, 2] rfl)
