theorem dX7_tidyUp_0 : decode cX7_tidyUp 0 = .ok (.iconst 0, 1) := by decide +kernel
theorem dX7_tidyUp_1 : decode cX7_tidyUp 1 = .ok (.istore_n 2, 1) := by decide +kernel
theorem dX7_tidyUp_2 : decode cX7_tidyUp 2 = .ok (.iload_n 2, 1) := by decide +kernel
theorem dX7_tidyUp_3 : decode cX7_tidyUp 3 = .ok (.iload_n 1, 1) := by decide +kernel
theorem dX7_tidyUp_4 : decode cX7_tidyUp 4 = .ok (.if_icmp .ge 22, 3) := by decide +kernel
theorem dX7_tidyUp_26 : decode cX7_tidyUp 26 = .ok (.aload_n 0, 1) := by decide +kernel
theorem dX7_tidyUp_27 : decode cX7_tidyUp 27 = .ok (.dup, 1) := by decide +kernel
theorem dX7_tidyUp_28 : decode cX7_tidyUp 28 = .ok (.getfield 44, 3) := by decide +kernel
theorem dX7_tidyUp_31 : decode cX7_tidyUp 31 = .ok (.iload_n 2, 1) := by decide +kernel
theorem dX7_tidyUp_32 : decode cX7_tidyUp 32 = .ok (.iadd, 1) := by decide +kernel
theorem dX7_tidyUp_33 : decode cX7_tidyUp 33 = .ok (.putfield 44, 3) := by decide +kernel
theorem dX7_tidyUp_36 : decode cX7_tidyUp 36 = .ok (.iload_n 2, 1) := by decide +kernel
theorem dX7_tidyUp_37 : decode cX7_tidyUp 37 = .ok (.ireturn, 1) := by decide +kernel
theorem dX7_tidyUp_7 : decode cX7_tidyUp 7 = .ok (.iload_n 2, 1) := by decide +kernel
theorem dX7_tidyUp_8 : decode cX7_tidyUp 8 = .ok (.bipush 24, 2) := by decide +kernel
theorem dX7_tidyUp_10 : decode cX7_tidyUp 10 = .ok (.if_icmp .ge 16, 3) := by decide +kernel
theorem dX7_tidyUp_13 : decode cX7_tidyUp 13 = .ok (.aload_n 0, 1) := by decide +kernel
theorem dX7_tidyUp_14 : decode cX7_tidyUp 14 = .ok (.invokevirtual 122, 3) := by decide +kernel
set_option maxRecDepth 20000 in
theorem ggX7_tidyUp_X7_makeHelpingMove : GoodIn wsX7_tidyUp wsX7_makeHelpingMove := goodIn_r _ [6, 7, 8, 9, 10, 11, 5, 12, 13, 14, 15, 16, 17, 18, 19, 20, 21, 22, 23, 24, 25, 26, 27, 28, 29, 30, 31, 32, 33, 34, 35, 36, 37, 38, 39, 40, 41, 42, 43, 44, 45, 46, 47, 48, 49, 50, 51, 52, 53, 54, 55, 56] rfl (by decide +kernel)
set_option maxRecDepth 20000 in
theorem gX7_tidyUp_X7_makeHelpingMove : GoodIn wsX7_tidyUp (wsV RX7 122 RX7 yX7_makeHelpingMove wsX7_makeHelpingMove) := goodIn_app (goodIn_of _ (by decide +kernel)) ggX7_tidyUp_X7_makeHelpingMove
theorem dX7_tidyUp_17 : decode cX7_tidyUp 17 = .ok (.ifCond .eq 9, 3) := by decide +kernel
theorem dX7_tidyUp_20 : decode cX7_tidyUp 20 = .ok (.iinc 2 1, 3) := by decide +kernel
theorem dX7_tidyUp_23 : decode cX7_tidyUp 23 = .ok (.goto (-21), 3) := by decide +kernel
set_option maxHeartbeats 4000000 in
set_option maxRecDepth 100000 in
theorem y_tidyUp (l : Launch) (g : xG) (sz : Nat) (ya : Nat) (li : Nat) (he : Nat) (so : Nat) (we : Nat) (le : Nat) (so2 : Nat) (sc : Nat) (rs : Nat) (mo : Nat) (n : Nat) (stt : Nat → Int) (rr : Nat → Nat) (y2 : Value) (y8 : Value) (y10 : Value) (lim : Nat → Nat) (hgt : Nat → Nat) (sd : Nat → Nat → Nat) (wt : Nat → Int) (lv : Nat → Int) (oo : Nat → Int)  (hsc : sc ≤ 12) (hmo : mo < 1000000) (hok : yOk n sc lim (hgt, sd, oo) stt) (b_lim : ∀ j, lim j ≤ 5) (b_hgt : ∀ j, hgt j ≤ 5) (b_sd : ∀ i j, sd i j ≤ 23) (b_wt : ∀ j, 0 ≤ wt j ∧ wt j ≤ 1000) (b_lv : ∀ j, 0 ≤ lv j ∧ lv j ≤ 1000000) (b_oo : ∀ j, (-1) ≤ oo j ∧ oo j ≤ 11) : Met l yX7_tidyUp wsX7_tidyUp ({ frames := 4, cells := 0, slots := 0, locals := 94 }) (va_Pc [.ref ya, .int (nI mo)] (fun U => xB g ([(ya, .inr (7, [.int (nI sc), .int (nI rs), y2, .ref li, .ref he, .ref so, .ref we, .ref le, y8, .ref so2, y10])), (li, .inl (xI g, 12, .inl (fun j => nI (lim j)))), (he, .inl (xI g, 12, .inl (fun j => nI (hgt j)))), (so, .inl (xM g, 12, .inr (.inr (.inr (.inr (fun i => if i < 12 then some (rr i) else none))))))] ++ (xRN (xI g) 12 5 rr sd ++ [(we, .inl (xI g, 24, .inl (fun j => iI (wt j)))), (le, .inl (xI g, 24, .inl (fun j => iI (lv j)))), (so2, .inl (xI g, 24, .inl (fun j => iI (oo j))))])) sz U)) (va_Qi (fun (r : Int32) (u : yS × Nat) => r = nI u.2) (fun (u : yS × Nat) (t : State) => (yOk n sc lim u.1 stt ∧ yBl lv u.1.1 u.1.2.1 sc + u.2 = yBl lv hgt sd sc ∧ (u.2 = 0 → u.1 = (hgt, sd, oo)) ∧ u.2 ≤ mo) ∧ (∀ j, u.1.1 j ≤ 5) ∧ (∀ i j, u.1.2.1 i j ≤ 23) ∧ (∀ j, (-1) ≤ u.1.2.2 j ∧ u.1.2.2 j ≤ 11) ∧ xE g ([(ya, .inr (7, [.int (nI sc), .int (nI (rs + u.2)), y2, .ref li, .ref he, .ref so, .ref we, .ref le, y8, .ref so2, y10])), (li, .inl (xI g, 12, .inl (fun j => nI (lim j)))), (he, .inl (xI g, 12, .inl (fun j => nI (u.1.1 j)))), (so, .inl (xM g, 12, .inr (.inr (.inr (.inr (fun i => if i < 12 then some (rr i) else none))))))] ++ (xRN (xI g) 12 5 rr u.1.2.1 ++ [(we, .inl (xI g, 24, .inl (fun j => iI (wt j)))), (le, .inl (xI g, 24, .inl (fun j => iI (lv j)))), (so2, .inl (xI g, 24, .inl (fun j => iI (u.1.2.2 j))))])) (va_A ([(ya, .inr (7, [.int (nI sc), .int (nI rs), y2, .ref li, .ref he, .ref so, .ref we, .ref le, y8, .ref so2, y10])), (li, .inl (xI g, 12, .inl (fun j => nI (lim j)))), (he, .inl (xI g, 12, .inl (fun j => nI (hgt j)))), (so, .inl (xM g, 12, .inr (.inr (.inr (.inr (fun i => if i < 12 then some (rr i) else none))))))] ++ (xRN (xI g) 12 5 rr sd ++ [(we, .inl (xI g, 24, .inl (fun j => iI (wt j)))), (le, .inl (xI g, 24, .inl (fun j => iI (lv j)))), (so2, .inl (xI g, 24, .inl (fun j => iI (oo j))))])) sz) t) (va_A ([(ya, .inr (7, [.int (nI sc), .int (nI rs), y2, .ref li, .ref he, .ref so, .ref we, .ref le, y8, .ref so2, y10])), (li, .inl (xI g, 12, .inl (fun j => nI (lim j)))), (he, .inl (xI g, 12, .inl (fun j => nI (hgt j)))), (so, .inl (xM g, 12, .inr (.inr (.inr (.inr (fun i => if i < 12 then some (rr i) else none))))))] ++ (xRN (xI g) 12 5 rr sd ++ [(we, .inl (xI g, 24, .inl (fun j => iI (wt j)))), (le, .inl (xI g, 24, .inl (fun j => iI (lv j)))), (so2, .inl (xI g, 24, .inl (fun j => iI (oo j))))])) sz)) 0 0 (va_A ([(ya, .inr (7, [.int (nI sc), .int (nI rs), y2, .ref li, .ref he, .ref so, .ref we, .ref le, y8, .ref so2, y10])), (li, .inl (xI g, 12, .inl (fun j => nI (lim j)))), (he, .inl (xI g, 12, .inl (fun j => nI (hgt j)))), (so, .inl (xM g, 12, .inr (.inr (.inr (.inr (fun i => if i < 12 then some (rr i) else none))))))] ++ (xRN (xI g) 12 5 rr sd ++ [(we, .inl (xI g, 24, .inl (fun j => iI (wt j)))), (le, .inl (xI g, 24, .inl (fun j => iI (lv j)))), (so2, .inl (xI g, 24, .inl (fun j => iI (oo j))))])) sz) := by
  refine Met.ofW (cc := cX7_tidyUp) (maxL := 3) (ret := (some .int)) (by decide) rfl ?_
  intro p e s m args below meth c s₁ B hml hv
  obtain ⟨rfl, hsz, hP, hK, hD0⟩ := hv
  have hx := B.exec
  have hb := B.bytes
  have hr := B.returns
  have hts := atoms_spec (ws := wsX7_tidyUp) B.pre
  have hown : s.vm.findClass RX7 = some m.cls := findClass_of_methodNamed B.named
  have hlocks := B.notSynchronized
  subst hsz
  have hD := hD0.self (sz := s.heap.size)
  generalize hAe : va_A ([(ya, .inr (7, [.int (nI sc), .int (nI rs), y2, .ref li, .ref he, .ref so, .ref we, .ref le, y8, .ref so2, y10])), (li, .inl (xI g, 12, .inl (fun j => nI (lim j)))), (he, .inl (xI g, 12, .inl (fun j => nI (hgt j)))), (so, .inl (xM g, 12, .inr (.inr (.inr (.inr (fun i => if i < 12 then some (rr i) else none))))))] ++ (xRN (xI g) 12 5 rr sd ++ [(we, .inl (xI g, 24, .inl (fun j => iI (wt j)))), (le, .inl (xI g, 24, .inl (fun j => iI (lv j)))), (so2, .inl (xI g, 24, .inl (fun j => iI (oo j))))])) s.heap.size = A at hD ⊢
  have hA : ∀ q : Nat, s.heap.size ≤ q → A q := fun q h => by rw [← hAe]; exact Or.inr h
  have hS : va_S A s.heap s.heap [] := va_S.rf
  have hl := lv_entry ([.ref ya, .int (nI mo)]) (n := 3) (Nat.le_of_ble_eq_true rfl)
  rw [lg_entry_eq]
  generalize (lg_sl ([.ref ya, .int (nI mo)]) ++ List.replicate (3 - (lg_sl ([.ref ya, .int (nI mo)])).length) Slot.unset).toArray = ls at hl ⊢
  have hl : lv_has ls 3 [(0, .ref ya), (1, .int (nI mo))] := hl
  have hFX7 : ∀ w ∈ u_ws RX7 TX7 11, w ∈ wsX7_tidyUp := by decide +kernel
  refine lv_iconst (v := 0) hx hb dX7_tidyUp_0 (by decide) ?_
  refine lv_istore_n (lv' := [(2, .int 0), (0, .ref ya), (1, .int (nI mo))]) hx hb dX7_tidyUp_1 rfl hl (by decide) rfl (fun ls hl => ?_)
  have hloop2 : ∀ (n9 : Nat) (m_ : Nat) (hk : Nat → Nat) (dk : Nat → Nat → Nat) (ok : Nat → Int) (H : Heap) (locs : List Loc) (ls : Array Slot), 25 - m_ < n9 → (m_ ≤ mo) → (m_ ≤ 24) → (yOk n sc lim (hk, dk, ok) stt) → (yBl lv hk dk sc + m_ = yBl lv hgt sd sc) → (m_ = 0 → (hk, dk, ok) = (hgt, sd, oo)) → (∀ j, hk j ≤ 5) → (∀ i j, dk i j ≤ 23) → (∀ j, (-1) ≤ ok j ∧ ok j ≤ 11) → va_P (xD g) vwCl ([(ya, .inr (7, [.int (nI sc), .int (nI rs), y2, .ref li, .ref he, .ref so, .ref we, .ref le, y8, .ref so2, y10])), (li, .inl (xI g, 12, .inl (fun j => nI (lim j)))), (he, .inl (xI g, 12, .inl (fun j => nI (hk j)))), (so, .inl (xM g, 12, .inr (.inr (.inr (.inr (fun i => if i < 12 then some (rr i) else none))))))] ++ (xRN (xI g) 12 5 rr dk ++ [(we, .inl (xI g, 24, .inl (fun j => iI (wt j)))), (le, .inl (xI g, 24, .inl (fun j => iI (lv j)))), (so2, .inl (xI g, 24, .inl (fun j => iI (ok j))))])) H → va_D A ([(ya, .inr (7, [.int (nI sc), .int (nI rs), y2, .ref li, .ref he, .ref so, .ref we, .ref le, y8, .ref so2, y10])), (li, .inl (xI g, 12, .inl (fun j => nI (lim j)))), (he, .inl (xI g, 12, .inl (fun j => nI (hk j)))), (so, .inl (xM g, 12, .inr (.inr (.inr (.inr (fun i => if i < 12 then some (rr i) else none))))))] ++ (xRN (xI g) 12 5 rr dk ++ [(we, .inl (xI g, 24, .inl (fun j => iI (wt j)))), (le, .inl (xI g, 24, .inl (fun j => iI (lv j)))), (so2, .inl (xI g, 24, .inl (fun j => iI (ok j))))])) → va_S A s.heap H locs → lv_has ls 3 [(2, .int (nI m_)), (0, .ref ya), (1, .int (nI mo))] → W p l e (headSpec wsX7_tidyUp ({ frames := 4, cells := 0, slots := 0, locals := 94 })).room s m ([.ref ya, .int (nI mo)] : List Value).toArray below meth c H locs 0 0 (MQ below (va_Qi (fun (r : Int32) (u : yS × Nat) => r = nI u.2) (fun (u : yS × Nat) (t : State) => (yOk n sc lim u.1 stt ∧ yBl lv u.1.1 u.1.2.1 sc + u.2 = yBl lv hgt sd sc ∧ (u.2 = 0 → u.1 = (hgt, sd, oo)) ∧ u.2 ≤ mo) ∧ (∀ j, u.1.1 j ≤ 5) ∧ (∀ i j, u.1.2.1 i j ≤ 23) ∧ (∀ j, (-1) ≤ u.1.2.2 j ∧ u.1.2.2 j ≤ 11) ∧ xE g ([(ya, .inr (7, [.int (nI sc), .int (nI (rs + u.2)), y2, .ref li, .ref he, .ref so, .ref we, .ref le, y8, .ref so2, y10])), (li, .inl (xI g, 12, .inl (fun j => nI (lim j)))), (he, .inl (xI g, 12, .inl (fun j => nI (u.1.1 j)))), (so, .inl (xM g, 12, .inr (.inr (.inr (.inr (fun i => if i < 12 then some (rr i) else none))))))] ++ (xRN (xI g) 12 5 rr u.1.2.1 ++ [(we, .inl (xI g, 24, .inl (fun j => iI (wt j)))), (le, .inl (xI g, 24, .inl (fun j => iI (lv j)))), (so2, .inl (xI g, 24, .inl (fun j => iI (u.1.2.2 j))))])) (A) t) (A)) ([.ref ya, .int (nI mo)] : List Value).toArray s 0 0 A) (F0 m 2 ls []) := by
    intro n9
    induction n9 with
    | zero =>
      intro m_ hk dk ok H locs ls hm hmm hm24 hok9 hbl9 hsm9 bb_hk bb_dk bb_ok hP hD hS hl
      exact absurd hm (Nat.not_lt_zero _)
    | succ n9 ih2 =>
      intro m_ hk dk ok H locs ls hm hmm hm24 hok9 hbl9 hsm9 bb_hk bb_dk bb_ok hP hD hS hl
      refine lv_iload_n hx hb dX7_tidyUp_2 rfl (lv_at hl 0 rfl) ?_
      refine lv_iload_n hx hb dX7_tidyUp_3 rfl (lv_at hl 2 rfl) ?_
      refine lv_icmp_ge (tgt := 26) hx hb dX7_tidyUp_4 (by decide) (fun c_1 => ?_) (fun c_1 => ?_)
      · have nc_1 := (nI_leI (a := mo) (b := m_) (by omega) (by omega)).mp c_1
        refine lv_aload_n hx hb dX7_tidyUp_26 rfl (lv_at hl 1 rfl) ?_
        refine lv_dup hx hb dX7_tidyUp_27 rfl ?_
        refine va_get (D := xD g) (ci := 7) (v := .int (nI rs)) (C := RX7) (T := TX7) (N := 11) hx hb hts hFX7 hown hK hP 0 rfl rfl 1 (by decide) (hts (.fieldLink RX7 44 "Stevedore$Yard" "reshuffleCount" "I") (by decide +kernel)) (fun _ h9 => h9) rfl dX7_tidyUp_28 ?_
        refine lv_iload_n hx hb dX7_tidyUp_31 rfl (lv_at hl 0 rfl) ?_
        refine lv_iadd hx hb dX7_tidyUp_32 ?_
        refine lv_topi (fun v_2 ev => ?_)
        obtain rfl : v_2 = nI (rs + m_) := ev.trans (nI_add rs m_)
        refine va_put (D := xD g) (ci := 7) (v := .int (nI (rs + m_))) (ty := .int) (C := RX7) (T := TX7) (N := 11) hx hb hts hFX7 tyX7 tyX7_ok nmX7 hown hK hP hD hS 0 rfl rfl 1 (by decide) (hts (.fieldLink RX7 44 "Stevedore$Yard" "reshuffleCount" "I") (by decide +kernel)) (fun _ h9 => h9) rfl (by decide +kernel) rfl rfl (Nat.le_of_ble_eq_true rfl) dX7_tidyUp_33 (fun H locs hP hD hS => ?_)
        have hP : va_P (xD g) vwCl ([(ya, .inr (7, [.int (nI sc), .int (nI (rs + m_)), y2, .ref li, .ref he, .ref so, .ref we, .ref le, y8, .ref so2, y10])), (li, .inl (xI g, 12, .inl (fun j => nI (lim j)))), (he, .inl (xI g, 12, .inl (fun j => nI (hk j)))), (so, .inl (xM g, 12, .inr (.inr (.inr (.inr (fun i => if i < 12 then some (rr i) else none))))))] ++ (xRN (xI g) 12 5 rr dk ++ [(we, .inl (xI g, 24, .inl (fun j => iI (wt j)))), (le, .inl (xI g, 24, .inl (fun j => iI (lv j)))), (so2, .inl (xI g, 24, .inl (fun j => iI (ok j))))])) H := hP
        have hD : va_D A ([(ya, .inr (7, [.int (nI sc), .int (nI (rs + m_)), y2, .ref li, .ref he, .ref so, .ref we, .ref le, y8, .ref so2, y10])), (li, .inl (xI g, 12, .inl (fun j => nI (lim j)))), (he, .inl (xI g, 12, .inl (fun j => nI (hk j)))), (so, .inl (xM g, 12, .inr (.inr (.inr (.inr (fun i => if i < 12 then some (rr i) else none))))))] ++ (xRN (xI g) 12 5 rr dk ++ [(we, .inl (xI g, 24, .inl (fun j => iI (wt j)))), (le, .inl (xI g, 24, .inl (fun j => iI (lv j)))), (so2, .inl (xI g, 24, .inl (fun j => iI (ok j))))])) := hD
        refine lv_iload_n hx hb dX7_tidyUp_36 rfl (lv_at hl 0 rfl) ?_
        have hP9 := hP
        have hD9 := hD
        exact W.iret (v := nI m_) hx hb hr (fun t ht hW => ⟨⟨nI m_, ((hk, dk, ok), m_), rfl, rfl, ⟨⟨hok9, hbl9, hsm9, by (try dsimp only); omega⟩, bb_hk, bb_dk, bb_ok, by rw [ht]; exact hP9, va_K.moved hW.alike hK, hD9⟩⟩, hS.F ht⟩) hS.2.2 dX7_tidyUp_37
      · have nc_1 := mt (nI_leI (a := mo) (b := m_) (by omega) (by omega)).mpr c_1
        refine lv_iload_n hx hb dX7_tidyUp_7 rfl (lv_at hl 0 rfl) ?_
        refine lv_bipush (v := 24) hx hb dX7_tidyUp_8 (by decide) ?_
        refine lv_icmp_ge (tgt := 26) hx hb dX7_tidyUp_10 (by decide) (fun c_3 => ?_) (fun c_3 => ?_)
        · have nc_3 := (nI_leI (a := 24) (b := m_) (by omega) (by omega)).mp c_3
          refine lv_aload_n hx hb dX7_tidyUp_26 rfl (lv_at hl 1 rfl) ?_
          refine lv_dup hx hb dX7_tidyUp_27 rfl ?_
          refine va_get (D := xD g) (ci := 7) (v := .int (nI rs)) (C := RX7) (T := TX7) (N := 11) hx hb hts hFX7 hown hK hP 0 rfl rfl 1 (by decide) (hts (.fieldLink RX7 44 "Stevedore$Yard" "reshuffleCount" "I") (by decide +kernel)) (fun _ h9 => h9) rfl dX7_tidyUp_28 ?_
          refine lv_iload_n hx hb dX7_tidyUp_31 rfl (lv_at hl 0 rfl) ?_
          refine lv_iadd hx hb dX7_tidyUp_32 ?_
          refine lv_topi (fun v_4 ev => ?_)
          obtain rfl : v_4 = nI (rs + m_) := ev.trans (nI_add rs m_)
          refine va_put (D := xD g) (ci := 7) (v := .int (nI (rs + m_))) (ty := .int) (C := RX7) (T := TX7) (N := 11) hx hb hts hFX7 tyX7 tyX7_ok nmX7 hown hK hP hD hS 0 rfl rfl 1 (by decide) (hts (.fieldLink RX7 44 "Stevedore$Yard" "reshuffleCount" "I") (by decide +kernel)) (fun _ h9 => h9) rfl (by decide +kernel) rfl rfl (Nat.le_of_ble_eq_true rfl) dX7_tidyUp_33 (fun H locs hP hD hS => ?_)
          have hP : va_P (xD g) vwCl ([(ya, .inr (7, [.int (nI sc), .int (nI (rs + m_)), y2, .ref li, .ref he, .ref so, .ref we, .ref le, y8, .ref so2, y10])), (li, .inl (xI g, 12, .inl (fun j => nI (lim j)))), (he, .inl (xI g, 12, .inl (fun j => nI (hk j)))), (so, .inl (xM g, 12, .inr (.inr (.inr (.inr (fun i => if i < 12 then some (rr i) else none))))))] ++ (xRN (xI g) 12 5 rr dk ++ [(we, .inl (xI g, 24, .inl (fun j => iI (wt j)))), (le, .inl (xI g, 24, .inl (fun j => iI (lv j)))), (so2, .inl (xI g, 24, .inl (fun j => iI (ok j))))])) H := hP
          have hD : va_D A ([(ya, .inr (7, [.int (nI sc), .int (nI (rs + m_)), y2, .ref li, .ref he, .ref so, .ref we, .ref le, y8, .ref so2, y10])), (li, .inl (xI g, 12, .inl (fun j => nI (lim j)))), (he, .inl (xI g, 12, .inl (fun j => nI (hk j)))), (so, .inl (xM g, 12, .inr (.inr (.inr (.inr (fun i => if i < 12 then some (rr i) else none))))))] ++ (xRN (xI g) 12 5 rr dk ++ [(we, .inl (xI g, 24, .inl (fun j => iI (wt j)))), (le, .inl (xI g, 24, .inl (fun j => iI (lv j)))), (so2, .inl (xI g, 24, .inl (fun j => iI (ok j))))])) := hD
          refine lv_iload_n hx hb dX7_tidyUp_36 rfl (lv_at hl 0 rfl) ?_
          have hP9 := hP
          have hD9 := hD
          exact W.iret (v := nI m_) hx hb hr (fun t ht hW => ⟨⟨nI m_, ((hk, dk, ok), m_), rfl, rfl, ⟨⟨hok9, hbl9, hsm9, by (try dsimp only); omega⟩, bb_hk, bb_dk, bb_ok, by rw [ht]; exact hP9, va_K.moved hW.alike hK, hD9⟩⟩, hS.F ht⟩) hS.2.2 dX7_tidyUp_37
        · have nc_3 := mt (nI_leI (a := 24) (b := m_) (by omega) (by omega)).mpr c_3
          refine lv_aload_n hx hb dX7_tidyUp_13 rfl (lv_at hl 1 rfl) ?_
          have hPc := hP.sub (ws' := ([(ya, .inr (7, [.int (nI sc), .int (nI rs), y2, .ref li, .ref he, .ref so, .ref we, .ref le, y8, .ref so2, y10])), (li, .inl (xI g, 12, .inl (fun j => nI (lim j)))), (he, .inl (xI g, 12, .inl (fun j => nI (hk j)))), (so, .inl (xM g, 12, .inr (.inr (.inr (.inr (fun i => if i < 12 then some (rr i) else none))))))] ++ (xRN (xI g) 12 5 rr dk ++ [(we, .inl (xI g, 24, .inl (fun j => iI (wt j)))), (le, .inl (xI g, 24, .inl (fun j => iI (lv j)))), (so2, .inl (xI g, 24, .inl (fun j => iI (ok j))))]))) [0, 1, 2, 3, 4, 5, 6, 7, 8, 9, 10, 11, 12, 13, 14, 15, 16, 17, 18] rfl
          have hDc := hD.sub (ws' := ([(ya, .inr (7, [.int (nI sc), .int (nI rs), y2, .ref li, .ref he, .ref so, .ref we, .ref le, y8, .ref so2, y10])), (li, .inl (xI g, 12, .inl (fun j => nI (lim j)))), (he, .inl (xI g, 12, .inl (fun j => nI (hk j)))), (so, .inl (xM g, 12, .inr (.inr (.inr (.inr (fun i => if i < 12 then some (rr i) else none))))))] ++ (xRN (xI g) 12 5 rr dk ++ [(we, .inl (xI g, 24, .inl (fun j => iI (wt j)))), (le, .inl (xI g, 24, .inl (fun j => iI (lv j)))), (so2, .inl (xI g, 24, .inl (fun j => iI (ok j))))]))) [0, 1, 2, 3, 4, 5, 6, 7, 8, 9, 10, 11, 12, 13, 14, 15, 16, 17, 18] (by decide) rfl
          have hFc := va_free (wc := ([(ya, .inr (7, [.int (nI sc), .int (nI rs), y2, .ref li, .ref he, .ref so, .ref we, .ref le, y8, .ref so2, y10])), (li, .inl (xI g, 12, .inl (fun j => nI (lim j)))), (he, .inl (xI g, 12, .inl (fun j => nI (hk j)))), (so, .inl (xM g, 12, .inr (.inr (.inr (.inr (fun i => if i < 12 then some (rr i) else none))))))] ++ (xRN (xI g) 12 5 rr dk ++ [(we, .inl (xI g, 24, .inl (fun j => iI (wt j)))), (le, .inl (xI g, 24, .inl (fun j => iI (lv j)))), (so2, .inl (xI g, 24, .inl (fun j => iI (ok j))))]))) hD hS hA [0, 1, 2, 3, 4, 5, 6, 7, 8, 9, 10, 11, 12, 13, 14, 15, 16, 17, 18] rfl
          refine va_calli (va_runV (As := []) (rest := []) ⟨hx, hb, hml, hown, hts⟩ (y_makeHelpingMove l g H.size ya li he so we le so2 sc n stt rr (.int (nI rs)) y2 y8 y10 lim hk dk wt lv ok (by first | assumption | omega) hok9 b_lim bb_hk bb_dk b_wt b_lv bb_ok) (cwV 0 hts gX7_tidyUp_X7_makeHelpingMove rfl rfl rfl (by decide +kernel) ⟨Nat.le_of_ble_eq_true rfl, Nat.le_of_ble_eq_true rfl⟩) ⟨xB.blind, va_recv hK hPc (ci := 7) (q0 := 0) rfl rfl, fun U9 hU9 hW9 => ⟨rfl, xB.mk hPc hK hDc hU9 hW9⟩⟩ rfl rfl hl.1 rfl (lv_room (Nat.le_of_ble_eq_true rfl)) dX7_tidyUp_14 ⟨Nat.le_of_ble_eq_true rfl, Nat.le_of_ble_eq_true rfl⟩) hS (fun q _ h => hFc q h) hFc (fun r_5 u_7 t H1 locs ht hvm hw_6 hB hz1 hk1 hS => ?_)
          obtain ⟨hb_8, hb_9, hb_10, hP1, hK1, hD1⟩ := hB
          rw [ht] at hP1
          obtain ⟨hP, hD⟩ := va_join (wr := []) (w1 := ([(ya, .inr (7, [.int (nI sc), .int (nI rs), y2, .ref li, .ref he, .ref so, .ref we, .ref le, y8, .ref so2, y10])), (li, .inl (xI g, 12, .inl (fun j => nI (lim j)))), (he, .inl (xI g, 12, .inl (fun j => nI (u_7.1 j)))), (so, .inl (xM g, 12, .inr (.inr (.inr (.inr (fun i => if i < 12 then some (rr i) else none))))))] ++ (xRN (xI g) 12 5 rr u_7.2.1 ++ [(we, .inl (xI g, 24, .inl (fun j => iI (wt j)))), (le, .inl (xI g, 24, .inl (fun j => iI (lv j)))), (so2, .inl (xI g, 24, .inl (fun j => iI (u_7.2.2 j))))]))) hP hD [0, 1, 2, 3, 4, 5, 6, 7, 8, 9, 10, 11, 12, 13, 14, 15, 16, 17, 18] [] rfl rfl (by decide) (by decide) hk1 hFc hP1 hD1
          generalize H1 = H at hP hS ⊢
          have hP : va_P (xD g) vwCl ([(ya, .inr (7, [.int (nI sc), .int (nI rs), y2, .ref li, .ref he, .ref so, .ref we, .ref le, y8, .ref so2, y10])), (li, .inl (xI g, 12, .inl (fun j => nI (lim j)))), (he, .inl (xI g, 12, .inl (fun j => nI (u_7.1 j)))), (so, .inl (xM g, 12, .inr (.inr (.inr (.inr (fun i => if i < 12 then some (rr i) else none))))))] ++ (xRN (xI g) 12 5 rr u_7.2.1 ++ [(we, .inl (xI g, 24, .inl (fun j => iI (wt j)))), (le, .inl (xI g, 24, .inl (fun j => iI (lv j)))), (so2, .inl (xI g, 24, .inl (fun j => iI (u_7.2.2 j))))])) H := hP
          have hD : va_D A ([(ya, .inr (7, [.int (nI sc), .int (nI rs), y2, .ref li, .ref he, .ref so, .ref we, .ref le, y8, .ref so2, y10])), (li, .inl (xI g, 12, .inl (fun j => nI (lim j)))), (he, .inl (xI g, 12, .inl (fun j => nI (u_7.1 j)))), (so, .inl (xM g, 12, .inr (.inr (.inr (.inr (fun i => if i < 12 then some (rr i) else none))))))] ++ (xRN (xI g) 12 5 rr u_7.2.1 ++ [(we, .inl (xI g, 24, .inl (fun j => iI (wt j)))), (le, .inl (xI g, 24, .inl (fun j => iI (lv j)))), (so2, .inl (xI g, 24, .inl (fun j => iI (u_7.2.2 j))))])) := hD
          try dsimp only at hw_6
          rcases hw_6 with ⟨rfl, hm1, hm2⟩ | ⟨rfl, hm3⟩
          · refine lv_if_eq (tgt := 26) hx hb dX7_tidyUp_17 (by decide) (fun c0 => absurd c0 (by decide)) (fun _ => ?_)
            refine lv_iinc (v := nI (m_ + 1)) (lv' := [(2, .int (nI (m_ + 1))), (0, .ref ya), (1, .int (nI mo))]) hx hb dX7_tidyUp_20 hl (k := 0) rfl (nI_add m_ 1) (by decide) rfl (fun ls hl => ?_)
            refine lv_goto (tgt := 2) hx hb dX7_tidyUp_23 (by decide) ?_
            exact ih2 (m_ + 1) u_7.1 u_7.2.1 u_7.2.2 _ _ _ (by omega) (by omega) (by omega) hm1 (by omega) (fun q => absurd q (Nat.succ_ne_zero m_)) hb_8 hb_9 hb_10 hP hD hS (lv_sub hl [0, 1, 2] rfl)
          · refine lv_if_eq (tgt := 26) hx hb dX7_tidyUp_17 (by decide) (fun _ => ?_) (fun c0 => absurd (by decide) c0)
            refine lv_aload_n hx hb dX7_tidyUp_26 rfl (lv_at hl 1 rfl) ?_
            refine lv_dup hx hb dX7_tidyUp_27 rfl ?_
            refine va_get (D := xD g) (ci := 7) (v := .int (nI rs)) (C := RX7) (T := TX7) (N := 11) hx hb hts hFX7 hown hK hP 0 rfl rfl 1 (by decide) (hts (.fieldLink RX7 44 "Stevedore$Yard" "reshuffleCount" "I") (by decide +kernel)) (fun _ h9 => h9) rfl dX7_tidyUp_28 ?_
            refine lv_iload_n hx hb dX7_tidyUp_31 rfl (lv_at hl 0 rfl) ?_
            refine lv_iadd hx hb dX7_tidyUp_32 ?_
            refine lv_topi (fun v_11 ev => ?_)
            obtain rfl : v_11 = nI (rs + m_) := ev.trans (nI_add rs m_)
            refine va_put (D := xD g) (ci := 7) (v := .int (nI (rs + m_))) (ty := .int) (C := RX7) (T := TX7) (N := 11) hx hb hts hFX7 tyX7 tyX7_ok nmX7 hown hK hP hD hS 0 rfl rfl 1 (by decide) (hts (.fieldLink RX7 44 "Stevedore$Yard" "reshuffleCount" "I") (by decide +kernel)) (fun _ h9 => h9) rfl (by decide +kernel) rfl rfl (Nat.le_of_ble_eq_true rfl) dX7_tidyUp_33 (fun H locs hP hD hS => ?_)
            have hP : va_P (xD g) vwCl ([(ya, .inr (7, [.int (nI sc), .int (nI (rs + m_)), y2, .ref li, .ref he, .ref so, .ref we, .ref le, y8, .ref so2, y10])), (li, .inl (xI g, 12, .inl (fun j => nI (lim j)))), (he, .inl (xI g, 12, .inl (fun j => nI (u_7.1 j)))), (so, .inl (xM g, 12, .inr (.inr (.inr (.inr (fun i => if i < 12 then some (rr i) else none))))))] ++ (xRN (xI g) 12 5 rr u_7.2.1 ++ [(we, .inl (xI g, 24, .inl (fun j => iI (wt j)))), (le, .inl (xI g, 24, .inl (fun j => iI (lv j)))), (so2, .inl (xI g, 24, .inl (fun j => iI (u_7.2.2 j))))])) H := hP
            have hD : va_D A ([(ya, .inr (7, [.int (nI sc), .int (nI (rs + m_)), y2, .ref li, .ref he, .ref so, .ref we, .ref le, y8, .ref so2, y10])), (li, .inl (xI g, 12, .inl (fun j => nI (lim j)))), (he, .inl (xI g, 12, .inl (fun j => nI (u_7.1 j)))), (so, .inl (xM g, 12, .inr (.inr (.inr (.inr (fun i => if i < 12 then some (rr i) else none))))))] ++ (xRN (xI g) 12 5 rr u_7.2.1 ++ [(we, .inl (xI g, 24, .inl (fun j => iI (wt j)))), (le, .inl (xI g, 24, .inl (fun j => iI (lv j)))), (so2, .inl (xI g, 24, .inl (fun j => iI (u_7.2.2 j))))])) := hD
            refine lv_iload_n hx hb dX7_tidyUp_36 rfl (lv_at hl 0 rfl) ?_
            have hP9 := hP
            have hD9 := hD
            exact W.iret (v := nI m_) hx hb hr (fun t ht hW => ⟨⟨nI m_, (u_7, m_), rfl, rfl, ⟨⟨by rw [← hm3]; exact hok9, by rw [← hm3]; exact hbl9, fun q => by (try dsimp only); rw [← hm3]; exact hsm9 q, by (try dsimp only); omega⟩, hb_8, hb_9, hb_10, by rw [ht]; exact hP9, va_K.moved hW.alike hK, hD9⟩⟩, hS.F ht⟩) hS.2.2 dX7_tidyUp_37
  exact hloop2 (26) 0 hgt sd oo _ _ _ (by omega) (by omega) (by omega) hok rfl (fun _ => rfl) b_hgt b_sd b_oo hP hD hS (by rw [(show nI 0 = (0 : Int32) from by decide)]; exact lv_sub hl [0, 1, 2] rfl)
