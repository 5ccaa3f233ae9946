theorem dX7_countBlocking_0 : decode cX7_countBlocking 0 = .ok (.iconst 0, 1) := by decide +kernel
theorem dX7_countBlocking_1 : decode cX7_countBlocking 1 = .ok (.istore_n 1, 1) := by decide +kernel
theorem dX7_countBlocking_2 : decode cX7_countBlocking 2 = .ok (.iconst 0, 1) := by decide +kernel
theorem dX7_countBlocking_3 : decode cX7_countBlocking 3 = .ok (.istore_n 2, 1) := by decide +kernel
theorem dX7_countBlocking_4 : decode cX7_countBlocking 4 = .ok (.iload_n 2, 1) := by decide +kernel
theorem dX7_countBlocking_5 : decode cX7_countBlocking 5 = .ok (.aload_n 0, 1) := by decide +kernel
theorem dX7_countBlocking_6 : decode cX7_countBlocking 6 = .ok (.getfield 51, 3) := by decide +kernel
theorem dX7_countBlocking_9 : decode cX7_countBlocking 9 = .ok (.if_icmp .ge 39, 3) := by decide +kernel
theorem dX7_countBlocking_48 : decode cX7_countBlocking 48 = .ok (.iload_n 1, 1) := by decide +kernel
theorem dX7_countBlocking_49 : decode cX7_countBlocking 49 = .ok (.ireturn, 1) := by decide +kernel
theorem dX7_countBlocking_12 : decode cX7_countBlocking 12 = .ok (.iconst 1, 1) := by decide +kernel
theorem dX7_countBlocking_13 : decode cX7_countBlocking 13 = .ok (.istore_n 3, 1) := by decide +kernel
theorem dX7_countBlocking_14 : decode cX7_countBlocking 14 = .ok (.iload_n 3, 1) := by decide +kernel
theorem dX7_countBlocking_15 : decode cX7_countBlocking 15 = .ok (.aload_n 0, 1) := by decide +kernel
theorem dX7_countBlocking_16 : decode cX7_countBlocking 16 = .ok (.getfield 15, 3) := by decide +kernel
theorem dX7_countBlocking_19 : decode cX7_countBlocking 19 = .ok (.iload_n 2, 1) := by decide +kernel
theorem dX7_countBlocking_20 : decode cX7_countBlocking 20 = .ok (.iaload, 1) := by decide +kernel
theorem dX7_countBlocking_21 : decode cX7_countBlocking 21 = .ok (.if_icmp .ge 21, 3) := by decide +kernel
theorem dX7_countBlocking_42 : decode cX7_countBlocking 42 = .ok (.iinc 2 1, 3) := by decide +kernel
theorem dX7_countBlocking_45 : decode cX7_countBlocking 45 = .ok (.goto (-41), 3) := by decide +kernel
theorem dX7_countBlocking_24 : decode cX7_countBlocking 24 = .ok (.aload_n 0, 1) := by decide +kernel
theorem dX7_countBlocking_25 : decode cX7_countBlocking 25 = .ok (.iload_n 2, 1) := by decide +kernel
theorem dX7_countBlocking_26 : decode cX7_countBlocking 26 = .ok (.iload_n 3, 1) := by decide +kernel
theorem dX7_countBlocking_27 : decode cX7_countBlocking 27 = .ok (.invokevirtual 119, 3) := by decide +kernel
set_option maxRecDepth 20000 in
theorem ggX7_countBlocking_X7_isBlocking : GoodIn wsX7_countBlocking wsX7_isBlocking := goodIn_r _ [7, 8, 9, 10, 11, 12, 6, 13, 14, 15, 16, 17, 18, 19, 20, 21, 22, 23, 24, 25, 26, 27, 28] rfl (by decide +kernel)
set_option maxRecDepth 20000 in
theorem gX7_countBlocking_X7_isBlocking : GoodIn wsX7_countBlocking (wsV RX7 119 RX7 yX7_isBlocking wsX7_isBlocking) := goodIn_app (goodIn_of _ (by decide +kernel)) ggX7_countBlocking_X7_isBlocking
theorem dX7_countBlocking_30 : decode cX7_countBlocking 30 = .ok (.ifCond .eq 6, 3) := by decide +kernel
theorem dX7_countBlocking_33 : decode cX7_countBlocking 33 = .ok (.iinc 1 1, 3) := by decide +kernel
theorem dX7_countBlocking_36 : decode cX7_countBlocking 36 = .ok (.iinc 3 1, 3) := by decide +kernel
theorem dX7_countBlocking_39 : decode cX7_countBlocking 39 = .ok (.goto (-25), 3) := by decide +kernel
set_option maxHeartbeats 4000000 in
set_option maxRecDepth 100000 in
theorem y_countBlocking (l : Launch) (g : xG) (sz : Nat) (ya : Nat) (he : Nat) (so : Nat) (le : Nat) (sc : Nat) (rr : Nat → Nat) (y1 : Value) (y2 : Value) (y3 : Value) (y6 : Value) (y8 : Value) (y9 : Value) (y10 : Value) (hgt : Nat → Nat) (sd : Nat → Nat → Nat) (lv : Nat → Int)  (hsc : sc ≤ 12) (b_hgt : ∀ j, hgt j ≤ 5) (b_sd : ∀ i j, sd i j ≤ 23) (b_lv : ∀ j, 0 ≤ lv j ∧ lv j ≤ 1000000) : Met l yX7_countBlocking wsX7_countBlocking ({ frames := 3, cells := 0, slots := 0, locals := 70 }) (va_Pc [.ref ya] (fun U => xB g ([(ya, .inr (7, [.int (nI sc), y1, y2, y3, .ref he, .ref so, y6, .ref le, y8, y9, y10])), (he, .inl (xI g, 12, .inl (fun j => nI (hgt j)))), (so, .inl (xM g, 12, .inr (.inr (.inr (.inr (fun i => if i < 12 then some (rr i) else none))))))] ++ (xRN (xI g) 12 5 rr sd ++ [(le, .inl (xI g, 24, .inl (fun j => iI (lv j))))])) sz U)) (va_Qi (fun (r : Int32) (_ : Unit) => r = nI (yBl lv hgt sd sc)) (fun (_ : Unit) (_ : State) => True) (va_A [] sz)) 0 0 (va_A [] sz) := by
  refine Met.ofW (cc := cX7_countBlocking) (maxL := 4) (ret := (some .int)) (by decide) rfl ?_
  intro p e s m args below meth c s₁ B hml hv
  obtain ⟨rfl, hsz, hP, hK, hD0⟩ := hv
  have hx := B.exec
  have hb := B.bytes
  have hr := B.returns
  have hts := atoms_spec (ws := wsX7_countBlocking) B.pre
  have hown : s.vm.findClass RX7 = some m.cls := findClass_of_methodNamed B.named
  have hlocks := B.notSynchronized
  subst hsz
  have hD := hD0
  generalize hAe : va_A [] s.heap.size = A
  have hA : ∀ q : Nat, s.heap.size ≤ q → A q := fun q h => by rw [← hAe]; exact Or.inr h
  have hS : va_S A s.heap s.heap [] := va_S.rf
  have hl := lv_entry ([.ref ya]) (n := 4) (Nat.le_of_ble_eq_true rfl)
  rw [lg_entry_eq]
  generalize (lg_sl ([.ref ya]) ++ List.replicate (4 - (lg_sl ([.ref ya])).length) Slot.unset).toArray = ls at hl ⊢
  have hl : lv_has ls 4 [(0, .ref ya)] := hl
  have hFX7 : ∀ w ∈ u_ws RX7 TX7 11, w ∈ wsX7_countBlocking := by decide +kernel
  refine lv_iconst (v := 0) hx hb dX7_countBlocking_0 (by decide) ?_
  refine lv_istore_n (lv' := [(1, .int 0), (0, .ref ya)]) hx hb dX7_countBlocking_1 rfl hl (by decide) rfl (fun ls hl => ?_)
  refine lv_iconst (v := 0) hx hb dX7_countBlocking_2 (by decide) ?_
  refine lv_istore_n (lv' := [(2, .int 0), (1, .int 0), (0, .ref ya)]) hx hb dX7_countBlocking_3 rfl hl (by decide) rfl (fun ls hl => ?_)
  have hloop4 : ∀ (n9 : Nat) (k : Nat) (tg : Nat) (H : Heap) (locs : List Loc) (ls : Array Slot), sc - k < n9 → (k ≤ sc) → (tg = yBl lv hgt sd k) → va_P (xD g) vwCl ([(ya, .inr (7, [.int (nI sc), y1, y2, y3, .ref he, .ref so, y6, .ref le, y8, y9, y10])), (he, .inl (xI g, 12, .inl (fun j => nI (hgt j)))), (so, .inl (xM g, 12, .inr (.inr (.inr (.inr (fun i => if i < 12 then some (rr i) else none))))))] ++ (xRN (xI g) 12 5 rr sd ++ [(le, .inl (xI g, 24, .inl (fun j => iI (lv j))))])) H → va_D (fun _ => True) ([(ya, .inr (7, [.int (nI sc), y1, y2, y3, .ref he, .ref so, y6, .ref le, y8, y9, y10])), (he, .inl (xI g, 12, .inl (fun j => nI (hgt j)))), (so, .inl (xM g, 12, .inr (.inr (.inr (.inr (fun i => if i < 12 then some (rr i) else none))))))] ++ (xRN (xI g) 12 5 rr sd ++ [(le, .inl (xI g, 24, .inl (fun j => iI (lv j))))])) → va_S A s.heap H locs → lv_has ls 4 [(2, .int (nI k)), (0, .ref ya), (1, .int (nI tg))] → W p l e (headSpec wsX7_countBlocking ({ frames := 3, cells := 0, slots := 0, locals := 70 })).room s m ([.ref ya] : List Value).toArray below meth c H locs 0 0 (MQ below (va_Qi (fun (r : Int32) (_ : Unit) => r = nI (yBl lv hgt sd sc)) (fun (_ : Unit) (_ : State) => True) (A)) ([.ref ya] : List Value).toArray s 0 0 A) (F0 m 4 ls []) := by
    intro n9
    induction n9 with
    | zero =>
      intro k tg H locs ls hm hk htg hP hD hS hl
      exact absurd hm (Nat.not_lt_zero _)
    | succ n9 ih4 =>
      intro k tg H locs ls hm hk htg hP hD hS hl
      have hbk := b_hgt k
      refine lv_iload_n hx hb dX7_countBlocking_4 rfl (lv_at hl 0 rfl) ?_
      refine lv_aload_n hx hb dX7_countBlocking_5 rfl (lv_at hl 1 rfl) ?_
      refine va_get (D := xD g) (ci := 7) (v := .int (nI sc)) (C := RX7) (T := TX7) (N := 11) hx hb hts hFX7 hown hK hP 0 rfl rfl 0 (by decide) (hts (.fieldLink RX7 51 "Stevedore$Yard" "stackCount" "I") (by decide +kernel)) (fun _ h9 => h9) rfl dX7_countBlocking_6 ?_
      refine lv_icmp_ge (tgt := 48) hx hb dX7_countBlocking_9 (by decide) (fun c_1 => ?_) (fun c_1 => ?_)
      · have nc_1 := (nI_leI (a := sc) (b := k) (by omega) (by omega)).mp c_1
        refine lv_iload_n hx hb dX7_countBlocking_48 rfl (lv_at hl 2 rfl) ?_
        exact W.iret (v := nI tg) hx hb hr (fun t ht hW => ⟨⟨nI tg, (), rfl, (by obtain rfl : k = sc := (by omega); rw [htg]), trivial⟩, hS.F ht⟩) hS.2.2 dX7_countBlocking_49
      · have nc_1 := mt (nI_leI (a := sc) (b := k) (by omega) (by omega)).mpr c_1
        refine lv_iconst (v := 1) hx hb dX7_countBlocking_12 (by decide) ?_
        refine lv_istore_n (lv' := [(3, .int 1), (2, .int (nI k)), (0, .ref ya), (1, .int (nI tg))]) hx hb dX7_countBlocking_13 rfl hl (by decide) rfl (fun ls hl => ?_)
        have hloop14 : ∀ (n9 : Nat) (lev : Nat) (tq : Nat) (H : Heap) (locs : List Loc) (ls : Array Slot), 6 - lev < n9 → (1 ≤ lev) → (lev ≤ hgt k ∨ lev = 1) → (tq = tg + yBs lv (sd k) lev) → va_P (xD g) vwCl ([(ya, .inr (7, [.int (nI sc), y1, y2, y3, .ref he, .ref so, y6, .ref le, y8, y9, y10])), (he, .inl (xI g, 12, .inl (fun j => nI (hgt j)))), (so, .inl (xM g, 12, .inr (.inr (.inr (.inr (fun i => if i < 12 then some (rr i) else none))))))] ++ (xRN (xI g) 12 5 rr sd ++ [(le, .inl (xI g, 24, .inl (fun j => iI (lv j))))])) H → va_D (fun _ => True) ([(ya, .inr (7, [.int (nI sc), y1, y2, y3, .ref he, .ref so, y6, .ref le, y8, y9, y10])), (he, .inl (xI g, 12, .inl (fun j => nI (hgt j)))), (so, .inl (xM g, 12, .inr (.inr (.inr (.inr (fun i => if i < 12 then some (rr i) else none))))))] ++ (xRN (xI g) 12 5 rr sd ++ [(le, .inl (xI g, 24, .inl (fun j => iI (lv j))))])) → va_S A s.heap H locs → lv_has ls 4 [(3, .int (nI lev)), (0, .ref ya), (1, .int (nI tq)), (2, .int (nI k))] → W p l e (headSpec wsX7_countBlocking ({ frames := 3, cells := 0, slots := 0, locals := 70 })).room s m ([.ref ya] : List Value).toArray below meth c H locs 0 0 (MQ below (va_Qi (fun (r : Int32) (_ : Unit) => r = nI (yBl lv hgt sd sc)) (fun (_ : Unit) (_ : State) => True) (A)) ([.ref ya] : List Value).toArray s 0 0 A) (F0 m 14 ls []) := by
          intro n9
          induction n9 with
          | zero =>
            intro lev tq H locs ls hm hl1 hlv htq hP hD hS hl
            exact absurd hm (Nat.not_lt_zero _)
          | succ n9 ih14 =>
            intro lev tq H locs ls hm hl1 hlv htq hP hD hS hl
            refine lv_iload_n hx hb dX7_countBlocking_14 rfl (lv_at hl 0 rfl) ?_
            refine lv_aload_n hx hb dX7_countBlocking_15 rfl (lv_at hl 1 rfl) ?_
            refine va_get (D := xD g) (ci := 7) (v := .ref he) (C := RX7) (T := TX7) (N := 11) hx hb hts hFX7 hown hK hP 0 rfl rfl 4 (by decide) (hts (.fieldLink RX7 15 "Stevedore$Yard" "height" "[I") (by decide +kernel)) (fun _ h9 => h9) rfl dX7_countBlocking_16 ?_
            refine lv_iload_n hx hb dX7_countBlocking_19 rfl (lv_at hl 3 rfl) ?_
            refine va_iald hx hb hK hP 1 0 rfl rfl (vp_in_nI (by omega) (by omega)) dX7_countBlocking_20 ?_
            refine lv_topi (fun v_2 ev => ?_)
            obtain rfl : v_2 = nI (hgt k) := ev.trans (congrArg (fun q9 => nI (hgt q9)) (nI_clamp (by omega)))
            have b_3 := b_hgt k
            refine lv_icmp_ge (tgt := 42) hx hb dX7_countBlocking_21 (by decide) (fun c_4 => ?_) (fun c_4 => ?_)
            · have nc_4 := (nI_leI (a := hgt k) (b := lev) (by omega) (by omega)).mp c_4
              refine lv_iinc (v := nI (k + 1)) (lv' := [(2, .int (nI (k + 1))), (3, .int (nI lev)), (0, .ref ya), (1, .int (nI tq))]) hx hb dX7_countBlocking_42 hl (k := 3) rfl (nI_add k 1) (by decide) rfl (fun ls hl => ?_)
              refine lv_goto (tgt := 4) hx hb dX7_countBlocking_45 (by decide) ?_
              exact ih4 (k + 1) tq _ _ _ (by omega) (by omega) (by show tq = yBl lv hgt sd k + yBs lv (sd k) (hgt k); rcases hlv with q | q; (rw [htq, ← htg, show lev = hgt k by omega]); (rw [htq, ← htg, q]; rcases (show hgt k = 0 ∨ hgt k = 1 by omega) with z | z; (rw [z]; rfl); (rw [z]))) hP hD hS (lv_sub hl [0, 2, 3] rfl)
            · have nc_4 := mt (nI_leI (a := hgt k) (b := lev) (by omega) (by omega)).mpr c_4
              refine lv_aload_n hx hb dX7_countBlocking_24 rfl (lv_at hl 1 rfl) ?_
              refine lv_iload_n hx hb dX7_countBlocking_25 rfl (lv_at hl 3 rfl) ?_
              refine lv_iload_n hx hb dX7_countBlocking_26 rfl (lv_at hl 0 rfl) ?_
              have hPc := hP.sub (ws' := ([(ya, .inr (7, [.int (nI sc), y1, y2, y3, .ref he, .ref so, y6, .ref le, y8, y9, y10])), (so, .inl (xM g, 12, .inr (.inr (.inr (.inr (fun i => if i < 12 then some (rr i) else none))))))] ++ (xRN (xI g) 12 5 rr sd ++ [(le, .inl (xI g, 24, .inl (fun j => iI (lv j))))]))) [0, 2, 3, 4, 5, 6, 7, 8, 9, 10, 11, 12, 13, 14, 15] rfl
              have hDc := hD.sub (ws' := ([(ya, .inr (7, [.int (nI sc), y1, y2, y3, .ref he, .ref so, y6, .ref le, y8, y9, y10])), (so, .inl (xM g, 12, .inr (.inr (.inr (.inr (fun i => if i < 12 then some (rr i) else none))))))] ++ (xRN (xI g) 12 5 rr sd ++ [(le, .inl (xI g, 24, .inl (fun j => iI (lv j))))]))) [0, 2, 3, 4, 5, 6, 7, 8, 9, 10, 11, 12, 13, 14, 15] (by decide) rfl
              have hFc := xFree hS hA
              refine va_calli (va_runV (As := [.int (nI k), .int (nI lev)]) (rest := []) ⟨hx, hb, hml, hown, hts⟩ (y_isBlocking l g H.size ya so le k lev rr (.int (nI sc)) y1 y2 y3 (.ref he) y6 y8 y9 y10 sd lv (by first | assumption | omega) (by first | assumption | omega) b_sd b_lv) (cwV 2 hts gX7_countBlocking_X7_isBlocking rfl rfl rfl (by decide +kernel) ⟨Nat.le_of_ble_eq_true rfl, Nat.le_of_ble_eq_true rfl⟩) ⟨xB.blind, va_recv hK hPc (ci := 7) (q0 := 0) rfl rfl, fun U9 hU9 hW9 => ⟨rfl, xB.mk hPc hK hDc hU9 hW9⟩⟩ rfl rfl hl.1 rfl (lv_room (Nat.le_of_ble_eq_true rfl)) dX7_countBlocking_27 ⟨Nat.le_of_ble_eq_true rfl, Nat.le_of_ble_eq_true rfl⟩) hS (fun q _ h => hFc q h) hFc (fun r_5 _ t H1 locs ht hvm hw_6 hB hz1 hk1 hS => ?_)
              have hP := xSame hP hk1
              generalize H1 = H at hP hS ⊢
              have hP : va_P (xD g) vwCl ([(ya, .inr (7, [.int (nI sc), y1, y2, y3, .ref he, .ref so, y6, .ref le, y8, y9, y10])), (he, .inl (xI g, 12, .inl (fun j => nI (hgt j)))), (so, .inl (xM g, 12, .inr (.inr (.inr (.inr (fun i => if i < 12 then some (rr i) else none))))))] ++ (xRN (xI g) 12 5 rr sd ++ [(le, .inl (xI g, 24, .inl (fun j => iI (lv j))))])) H := hP
              have hD : va_D (fun _ => True) ([(ya, .inr (7, [.int (nI sc), y1, y2, y3, .ref he, .ref so, y6, .ref le, y8, y9, y10])), (he, .inl (xI g, 12, .inl (fun j => nI (hgt j)))), (so, .inl (xM g, 12, .inr (.inr (.inr (.inr (fun i => if i < 12 then some (rr i) else none))))))] ++ (xRN (xI g) 12 5 rr sd ++ [(le, .inl (xI g, 24, .inl (fun j => iI (lv j))))])) := hD
              try dsimp only at hw_6
              rcases hw_6 with ⟨rfl, hw_6⟩ | ⟨rfl, hw_6⟩
              · refine lv_if_eq (tgt := 36) hx hb dX7_countBlocking_30 (by decide) (fun c0 => absurd c0 (by decide)) (fun _ => ?_)
                refine lv_iinc (v := nI (tq + 1)) (lv' := [(1, .int (nI (tq + 1))), (3, .int (nI lev)), (0, .ref ya), (2, .int (nI k))]) hx hb dX7_countBlocking_33 hl (k := 2) rfl (nI_add tq 1) (by decide) rfl (fun ls hl => ?_)
                refine lv_iinc (v := nI (lev + 1)) (lv' := [(3, .int (nI (lev + 1))), (1, .int (nI (tq + 1))), (0, .ref ya), (2, .int (nI k))]) hx hb dX7_countBlocking_36 hl (k := 1) rfl (nI_add lev 1) (by decide) rfl (fun ls hl => ?_)
                refine lv_goto (tgt := 14) hx hb dX7_countBlocking_39 (by decide) ?_
                exact ih14 (lev + 1) (tq + 1) _ _ _ (by omega) (by omega) (by omega) (by simp only [yBs]; first | (rw [if_pos ⟨hl1, by assumption⟩]; omega) | (rw [if_neg (fun q => absurd q.2 (by assumption))]; omega)) hP hD hS (lv_sub hl [0, 2, 1, 3] rfl)
              · refine lv_if_eq (tgt := 36) hx hb dX7_countBlocking_30 (by decide) (fun _ => ?_) (fun c0 => absurd (by decide) c0)
                refine lv_iinc (v := nI (lev + 1)) (lv' := [(3, .int (nI (lev + 1))), (0, .ref ya), (1, .int (nI tq)), (2, .int (nI k))]) hx hb dX7_countBlocking_36 hl (k := 0) rfl (nI_add lev 1) (by decide) rfl (fun ls hl => ?_)
                refine lv_goto (tgt := 14) hx hb dX7_countBlocking_39 (by decide) ?_
                exact ih14 (lev + 1) tq _ _ _ (by omega) (by omega) (by omega) (by simp only [yBs]; first | (rw [if_pos ⟨hl1, by assumption⟩]; omega) | (rw [if_neg (fun q => absurd q.2 (by assumption))]; omega)) hP hD hS (lv_sub hl [0, 1, 2, 3] rfl)
        exact hloop14 (7) 1 tg _ _ _ (by omega) (by omega) (Or.inr rfl) rfl hP hD hS (by rw [(show nI 1 = (1 : Int32) from by decide)]; exact lv_sub hl [0, 2, 3, 1] rfl)
  exact hloop4 (sc + 1) 0 0 _ _ _ (by omega) (by omega) rfl hP hD hS (by rw [(show nI 0 = (0 : Int32) from by decide)]; exact lv_sub hl [0, 2, 1] rfl)
theorem dX7_stackWithoutBlocking_0 : decode cX7_stackWithoutBlocking 0 = .ok (.iconst 0, 1) := by decide +kernel
theorem dX7_stackWithoutBlocking_1 : decode cX7_stackWithoutBlocking 1 = .ok (.istore_n 3, 1) := by decide +kernel
theorem dX7_stackWithoutBlocking_2 : decode cX7_stackWithoutBlocking 2 = .ok (.iload_n 3, 1) := by decide +kernel
theorem dX7_stackWithoutBlocking_3 : decode cX7_stackWithoutBlocking 3 = .ok (.aload_n 0, 1) := by decide +kernel
theorem dX7_stackWithoutBlocking_4 : decode cX7_stackWithoutBlocking 4 = .ok (.getfield 51, 3) := by decide +kernel
theorem dX7_stackWithoutBlocking_7 : decode cX7_stackWithoutBlocking 7 = .ok (.if_icmp .ge 57, 3) := by decide +kernel
theorem dX7_stackWithoutBlocking_64 : decode cX7_stackWithoutBlocking 64 = .ok (.iconst (-1), 1) := by decide +kernel
theorem dX7_stackWithoutBlocking_65 : decode cX7_stackWithoutBlocking 65 = .ok (.ireturn, 1) := by decide +kernel
theorem dX7_stackWithoutBlocking_10 : decode cX7_stackWithoutBlocking 10 = .ok (.iload_n 3, 1) := by decide +kernel
theorem dX7_stackWithoutBlocking_11 : decode cX7_stackWithoutBlocking 11 = .ok (.iload_n 2, 1) := by decide +kernel
theorem dX7_stackWithoutBlocking_12 : decode cX7_stackWithoutBlocking 12 = .ok (.if_icmp .eq 16, 3) := by decide +kernel
theorem dX7_stackWithoutBlocking_28 : decode cX7_stackWithoutBlocking 28 = .ok (.iconst 0, 1) := by decide +kernel
theorem dX7_stackWithoutBlocking_29 : decode cX7_stackWithoutBlocking 29 = .ok (.istore 4, 2) := by decide +kernel
theorem dX7_stackWithoutBlocking_31 : decode cX7_stackWithoutBlocking 31 = .ok (.iload 4, 2) := by decide +kernel
theorem dX7_stackWithoutBlocking_33 : decode cX7_stackWithoutBlocking 33 = .ok (.ifCond .eq 25, 3) := by decide +kernel
theorem dX7_stackWithoutBlocking_58 : decode cX7_stackWithoutBlocking 58 = .ok (.iinc 3 1, 3) := by decide +kernel
theorem dX7_stackWithoutBlocking_61 : decode cX7_stackWithoutBlocking 61 = .ok (.goto (-59), 3) := by decide +kernel
theorem dX7_stackWithoutBlocking_15 : decode cX7_stackWithoutBlocking 15 = .ok (.aload_n 0, 1) := by decide +kernel
theorem dX7_stackWithoutBlocking_16 : decode cX7_stackWithoutBlocking 16 = .ok (.iload_n 1, 1) := by decide +kernel
theorem dX7_stackWithoutBlocking_17 : decode cX7_stackWithoutBlocking 17 = .ok (.iload_n 3, 1) := by decide +kernel
theorem dX7_stackWithoutBlocking_18 : decode cX7_stackWithoutBlocking 18 = .ok (.invokevirtual 103, 3) := by decide +kernel
set_option maxRecDepth 20000 in
theorem ggX7_stackWithoutBlocking_X7_canStand : GoodIn wsX7_stackWithoutBlocking wsX7_canStand := goodIn_r _ [8, 2, 9, 10, 11, 12, 13, 7, 14, 15, 24, 25, 26, 27, 28, 29, 30, 31, 32, 33, 34] rfl (by decide +kernel)
set_option maxRecDepth 20000 in
theorem gX7_stackWithoutBlocking_X7_canStand : GoodIn wsX7_stackWithoutBlocking (wsV RX7 103 RX7 yX7_canStand wsX7_canStand) := goodIn_app (goodIn_of _ (by decide +kernel)) ggX7_stackWithoutBlocking_X7_canStand
theorem dX7_stackWithoutBlocking_21 : decode cX7_stackWithoutBlocking 21 = .ok (.ifCond .eq 7, 3) := by decide +kernel
theorem dX7_stackWithoutBlocking_24 : decode cX7_stackWithoutBlocking 24 = .ok (.iconst 1, 1) := by decide +kernel
theorem dX7_stackWithoutBlocking_25 : decode cX7_stackWithoutBlocking 25 = .ok (.goto 4, 3) := by decide +kernel
theorem dX7_stackWithoutBlocking_36 : decode cX7_stackWithoutBlocking 36 = .ok (.aload_n 0, 1) := by decide +kernel
theorem dX7_stackWithoutBlocking_37 : decode cX7_stackWithoutBlocking 37 = .ok (.iload_n 3, 1) := by decide +kernel
theorem dX7_stackWithoutBlocking_38 : decode cX7_stackWithoutBlocking 38 = .ok (.aload_n 0, 1) := by decide +kernel
theorem dX7_stackWithoutBlocking_39 : decode cX7_stackWithoutBlocking 39 = .ok (.getfield 15, 3) := by decide +kernel
theorem dX7_stackWithoutBlocking_42 : decode cX7_stackWithoutBlocking 42 = .ok (.iload_n 3, 1) := by decide +kernel
theorem dX7_stackWithoutBlocking_43 : decode cX7_stackWithoutBlocking 43 = .ok (.iaload, 1) := by decide +kernel
theorem dX7_stackWithoutBlocking_44 : decode cX7_stackWithoutBlocking 44 = .ok (.invokevirtual 107, 3) := by decide +kernel
set_option maxRecDepth 20000 in
theorem ggX7_stackWithoutBlocking_X7_firstBelow : GoodIn wsX7_stackWithoutBlocking wsX7_firstBelow := goodIn_r _ [19, 3, 15, 20, 21, 22, 23, 24, 25, 26, 27, 28, 29, 30, 31, 32, 33, 34] rfl (by decide +kernel)
set_option maxRecDepth 20000 in
theorem gX7_stackWithoutBlocking_X7_firstBelow : GoodIn wsX7_stackWithoutBlocking (wsV RX7 107 RX7 yX7_firstBelow wsX7_firstBelow) := goodIn_app (goodIn_of _ (by decide +kernel)) ggX7_stackWithoutBlocking_X7_firstBelow
theorem dX7_stackWithoutBlocking_47 : decode cX7_stackWithoutBlocking 47 = .ok (.aload_n 0, 1) := by decide +kernel
theorem dX7_stackWithoutBlocking_48 : decode cX7_stackWithoutBlocking 48 = .ok (.getfield 26, 3) := by decide +kernel
theorem dX7_stackWithoutBlocking_51 : decode cX7_stackWithoutBlocking 51 = .ok (.iload_n 1, 1) := by decide +kernel
theorem dX7_stackWithoutBlocking_52 : decode cX7_stackWithoutBlocking 52 = .ok (.iaload, 1) := by decide +kernel
theorem dX7_stackWithoutBlocking_53 : decode cX7_stackWithoutBlocking 53 = .ok (.if_icmp .lt 5, 3) := by decide +kernel
theorem dX7_stackWithoutBlocking_56 : decode cX7_stackWithoutBlocking 56 = .ok (.iload_n 3, 1) := by decide +kernel
theorem dX7_stackWithoutBlocking_57 : decode cX7_stackWithoutBlocking 57 = .ok (.ireturn, 1) := by decide +kernel
set_option maxHeartbeats 4000000 in
set_option maxRecDepth 100000 in
theorem y_stackWithoutBlocking (l : Launch) (g : xG) (sz : Nat) (ya : Nat) (li : Nat) (he : Nat) (so : Nat) (we : Nat) (le : Nat) (sc : Nat) (cn : Nat) (ex : Nat) (rr : Nat → Nat) (y1 : Value) (y2 : Value) (y8 : Value) (y9 : Value) (y10 : Value) (lim : Nat → Nat) (hgt : Nat → Nat) (sd : Nat → Nat → Nat) (wt : Nat → Int) (lv : Nat → Int)  (hc : cn < 24) (hsc : sc ≤ 12) (hex : ex < 12) (b_lim : ∀ j, lim j ≤ 5) (b_hgt : ∀ j, hgt j ≤ 5) (b_sd : ∀ i j, sd i j ≤ 23) (b_wt : ∀ j, 0 ≤ wt j ∧ wt j ≤ 1000) (b_lv : ∀ j, 0 ≤ lv j ∧ lv j ≤ 1000000) : Met l yX7_stackWithoutBlocking wsX7_stackWithoutBlocking ({ frames := 2, cells := 0, slots := 0, locals := 48 }) (va_Pc [.ref ya, .int (nI cn), .int (nI ex)] (fun U => xB g ([(ya, .inr (7, [.int (nI sc), y1, y2, .ref li, .ref he, .ref so, .ref we, .ref le, y8, y9, y10])), (li, .inl (xI g, 12, .inl (fun j => nI (lim j)))), (he, .inl (xI g, 12, .inl (fun j => nI (hgt j)))), (so, .inl (xM g, 12, .inr (.inr (.inr (.inr (fun i => if i < 12 then some (rr i) else none))))))] ++ (xRN (xI g) 12 5 rr sd ++ [(we, .inl (xI g, 24, .inl (fun j => iI (wt j)))), (le, .inl (xI g, 24, .inl (fun j => iI (lv j))))])) sz U)) (va_Qi (fun (r : Int32) (_ : Unit) => (∃ t : Nat, t < sc ∧ r = nI t ∧ t ≠ ex ∧ yCan lim wt hgt sd cn t ∧ lv cn ≤ yFst lv (sd t) (hgt t)) ∨ r = -1) (fun (_ : Unit) (_ : State) => True) (va_A [] sz)) 0 0 (va_A [] sz) := by
  refine Met.ofW (cc := cX7_stackWithoutBlocking) (maxL := 5) (ret := (some .int)) (by decide) rfl ?_
  intro p e s m args below meth c s₁ B hml hv
  obtain ⟨rfl, hsz, hP, hK, hD0⟩ := hv
  have hx := B.exec
  have hb := B.bytes
  have hr := B.returns
  have hts := atoms_spec (ws := wsX7_stackWithoutBlocking) B.pre
  have hown : s.vm.findClass RX7 = some m.cls := findClass_of_methodNamed B.named
  have hlocks := B.notSynchronized
  subst hsz
  have hD := hD0
  generalize hAe : va_A [] s.heap.size = A
  have hA : ∀ q : Nat, s.heap.size ≤ q → A q := fun q h => by rw [← hAe]; exact Or.inr h
  have hS : va_S A s.heap s.heap [] := va_S.rf
  have hl := lv_entry ([.ref ya, .int (nI cn), .int (nI ex)]) (n := 5) (Nat.le_of_ble_eq_true rfl)
  rw [lg_entry_eq]
  generalize (lg_sl ([.ref ya, .int (nI cn), .int (nI ex)]) ++ List.replicate (5 - (lg_sl ([.ref ya, .int (nI cn), .int (nI ex)])).length) Slot.unset).toArray = ls at hl ⊢
  have hl : lv_has ls 5 [(0, .ref ya), (1, .int (nI cn)), (2, .int (nI ex))] := hl
  have hFX7 : ∀ w ∈ u_ws RX7 TX7 11, w ∈ wsX7_stackWithoutBlocking := by decide +kernel
  refine lv_iconst (v := 0) hx hb dX7_stackWithoutBlocking_0 (by decide) ?_
  refine lv_istore_n (lv' := [(3, .int 0), (0, .ref ya), (1, .int (nI cn)), (2, .int (nI ex))]) hx hb dX7_stackWithoutBlocking_1 rfl hl (by decide) rfl (fun ls hl => ?_)
  have hloop2 : ∀ (n9 : Nat) (k : Nat) (H : Heap) (locs : List Loc) (ls : Array Slot), sc - k < n9 → (k ≤ sc) → va_P (xD g) vwCl ([(ya, .inr (7, [.int (nI sc), y1, y2, .ref li, .ref he, .ref so, .ref we, .ref le, y8, y9, y10])), (li, .inl (xI g, 12, .inl (fun j => nI (lim j)))), (he, .inl (xI g, 12, .inl (fun j => nI (hgt j)))), (so, .inl (xM g, 12, .inr (.inr (.inr (.inr (fun i => if i < 12 then some (rr i) else none))))))] ++ (xRN (xI g) 12 5 rr sd ++ [(we, .inl (xI g, 24, .inl (fun j => iI (wt j)))), (le, .inl (xI g, 24, .inl (fun j => iI (lv j))))])) H → va_D (fun _ => True) ([(ya, .inr (7, [.int (nI sc), y1, y2, .ref li, .ref he, .ref so, .ref we, .ref le, y8, y9, y10])), (li, .inl (xI g, 12, .inl (fun j => nI (lim j)))), (he, .inl (xI g, 12, .inl (fun j => nI (hgt j)))), (so, .inl (xM g, 12, .inr (.inr (.inr (.inr (fun i => if i < 12 then some (rr i) else none))))))] ++ (xRN (xI g) 12 5 rr sd ++ [(we, .inl (xI g, 24, .inl (fun j => iI (wt j)))), (le, .inl (xI g, 24, .inl (fun j => iI (lv j))))])) → va_S A s.heap H locs → lv_has ls 5 [(3, .int (nI k)), (0, .ref ya), (1, .int (nI cn)), (2, .int (nI ex))] → W p l e (headSpec wsX7_stackWithoutBlocking ({ frames := 2, cells := 0, slots := 0, locals := 48 })).room s m ([.ref ya, .int (nI cn), .int (nI ex)] : List Value).toArray below meth c H locs 0 0 (MQ below (va_Qi (fun (r : Int32) (_ : Unit) => (∃ t : Nat, t < sc ∧ r = nI t ∧ t ≠ ex ∧ yCan lim wt hgt sd cn t ∧ lv cn ≤ yFst lv (sd t) (hgt t)) ∨ r = -1) (fun (_ : Unit) (_ : State) => True) (A)) ([.ref ya, .int (nI cn), .int (nI ex)] : List Value).toArray s 0 0 A) (F0 m 2 ls []) := by
    intro n9
    induction n9 with
    | zero =>
      intro k H locs ls hm hk hP hD hS hl
      exact absurd hm (Nat.not_lt_zero _)
    | succ n9 ih2 =>
      intro k H locs ls hm hk hP hD hS hl
      have hbk := b_hgt k
      have hq2 := yFst_bd (sd := sd k) b_lv (hgt k)
      have hbl := b_lv cn
      refine lv_iload_n hx hb dX7_stackWithoutBlocking_2 rfl (lv_at hl 0 rfl) ?_
      refine lv_aload_n hx hb dX7_stackWithoutBlocking_3 rfl (lv_at hl 1 rfl) ?_
      refine va_get (D := xD g) (ci := 7) (v := .int (nI sc)) (C := RX7) (T := TX7) (N := 11) hx hb hts hFX7 hown hK hP 0 rfl rfl 0 (by decide) (hts (.fieldLink RX7 51 "Stevedore$Yard" "stackCount" "I") (by decide +kernel)) (fun _ h9 => h9) rfl dX7_stackWithoutBlocking_4 ?_
      refine lv_icmp_ge (tgt := 64) hx hb dX7_stackWithoutBlocking_7 (by decide) (fun c_1 => ?_) (fun c_1 => ?_)
      · have nc_1 := (nI_leI (a := sc) (b := k) (by omega) (by omega)).mp c_1
        refine lv_iconst (v := (-1)) hx hb dX7_stackWithoutBlocking_64 (by decide) ?_
        exact W.iret (v := (-1)) hx hb hr (fun t ht hW => ⟨⟨(-1), (), rfl, (Or.inr rfl), trivial⟩, hS.F ht⟩) hS.2.2 dX7_stackWithoutBlocking_65
      · have nc_1 := mt (nI_leI (a := sc) (b := k) (by omega) (by omega)).mpr c_1
        refine lv_iload_n hx hb dX7_stackWithoutBlocking_10 rfl (lv_at hl 0 rfl) ?_
        refine lv_iload_n hx hb dX7_stackWithoutBlocking_11 rfl (lv_at hl 3 rfl) ?_
        refine lv_icmp_eq (tgt := 28) hx hb dX7_stackWithoutBlocking_12 (by decide) (fun c_2 => ?_) (fun c_2 => ?_)
        · have nc_2 := (nI_eq (a := k) (b := ex) (by omega) (by omega)).mp c_2
          refine lv_iconst (v := 0) hx hb dX7_stackWithoutBlocking_28 (by decide) ?_
          refine lv_istore (lv' := [(4, .int 0), (3, .int (nI k)), (0, .ref ya), (1, .int (nI cn)), (2, .int (nI ex))]) hx hb dX7_stackWithoutBlocking_29 hl (by decide) rfl (fun ls hl => ?_)
          refine lv_iload hx hb dX7_stackWithoutBlocking_31 (lv_at hl 0 rfl) ?_
          refine lv_if_eq (tgt := 58) hx hb dX7_stackWithoutBlocking_33 (by decide) (fun _ => ?_) (fun c0 => absurd (by decide) c0)
          refine lv_iinc (v := nI (k + 1)) (lv' := [(3, .int (nI (k + 1))), (4, .int 0), (0, .ref ya), (1, .int (nI cn)), (2, .int (nI ex))]) hx hb dX7_stackWithoutBlocking_58 hl (k := 1) rfl (nI_add k 1) (by decide) rfl (fun ls hl => ?_)
          refine lv_goto (tgt := 2) hx hb dX7_stackWithoutBlocking_61 (by decide) ?_
          exact ih2 (k + 1) _ _ _ (by omega) (by omega) hP hD hS (lv_sub hl [0, 2, 3, 4] rfl)
        · have nc_2 := mt (nI_eq (a := k) (b := ex) (by omega) (by omega)).mpr c_2
          refine lv_aload_n hx hb dX7_stackWithoutBlocking_15 rfl (lv_at hl 1 rfl) ?_
          refine lv_iload_n hx hb dX7_stackWithoutBlocking_16 rfl (lv_at hl 2 rfl) ?_
          refine lv_iload_n hx hb dX7_stackWithoutBlocking_17 rfl (lv_at hl 0 rfl) ?_
          have hPc := hP.sub (ws' := ([(ya, .inr (7, [.int (nI sc), y1, y2, .ref li, .ref he, .ref so, .ref we, .ref le, y8, y9, y10])), (li, .inl (xI g, 12, .inl (fun j => nI (lim j)))), (he, .inl (xI g, 12, .inl (fun j => nI (hgt j)))), (so, .inl (xM g, 12, .inr (.inr (.inr (.inr (fun i => if i < 12 then some (rr i) else none))))))] ++ (xRN (xI g) 12 5 rr sd ++ [(we, .inl (xI g, 24, .inl (fun j => iI (wt j))))]))) [0, 1, 2, 3, 4, 5, 6, 7, 8, 9, 10, 11, 12, 13, 14, 15, 16] rfl
          have hDc := hD.sub (ws' := ([(ya, .inr (7, [.int (nI sc), y1, y2, .ref li, .ref he, .ref so, .ref we, .ref le, y8, y9, y10])), (li, .inl (xI g, 12, .inl (fun j => nI (lim j)))), (he, .inl (xI g, 12, .inl (fun j => nI (hgt j)))), (so, .inl (xM g, 12, .inr (.inr (.inr (.inr (fun i => if i < 12 then some (rr i) else none))))))] ++ (xRN (xI g) 12 5 rr sd ++ [(we, .inl (xI g, 24, .inl (fun j => iI (wt j))))]))) [0, 1, 2, 3, 4, 5, 6, 7, 8, 9, 10, 11, 12, 13, 14, 15, 16] (by decide) rfl
          have hFc := xFree hS hA
          refine va_calli (va_runV (As := [.int (nI cn), .int (nI k)]) (rest := []) ⟨hx, hb, hml, hown, hts⟩ (y_canStand l g H.size ya li he so we cn k rr (.int (nI sc)) y1 y2 (.ref le) y8 y9 y10 lim hgt sd wt (by first | assumption | omega) (by first | assumption | omega) b_lim b_hgt b_sd b_wt) (cwV 2 hts gX7_stackWithoutBlocking_X7_canStand rfl rfl rfl (by decide +kernel) ⟨Nat.le_of_ble_eq_true rfl, Nat.le_of_ble_eq_true rfl⟩) ⟨xB.blind, va_recv hK hPc (ci := 7) (q0 := 0) rfl rfl, fun U9 hU9 hW9 => ⟨rfl, xB.mk hPc hK hDc hU9 hW9⟩⟩ rfl rfl hl.1 rfl (lv_room (Nat.le_of_ble_eq_true rfl)) dX7_stackWithoutBlocking_18 ⟨Nat.le_of_ble_eq_true rfl, Nat.le_of_ble_eq_true rfl⟩) hS (fun q _ h => hFc q h) hFc (fun r_3 _ t H1 locs ht hvm hw_4 hB hz1 hk1 hS => ?_)
          have hP := xSame hP hk1
          generalize H1 = H at hP hS ⊢
          have hP : va_P (xD g) vwCl ([(ya, .inr (7, [.int (nI sc), y1, y2, .ref li, .ref he, .ref so, .ref we, .ref le, y8, y9, y10])), (li, .inl (xI g, 12, .inl (fun j => nI (lim j)))), (he, .inl (xI g, 12, .inl (fun j => nI (hgt j)))), (so, .inl (xM g, 12, .inr (.inr (.inr (.inr (fun i => if i < 12 then some (rr i) else none))))))] ++ (xRN (xI g) 12 5 rr sd ++ [(we, .inl (xI g, 24, .inl (fun j => iI (wt j)))), (le, .inl (xI g, 24, .inl (fun j => iI (lv j))))])) H := hP
          have hD : va_D (fun _ => True) ([(ya, .inr (7, [.int (nI sc), y1, y2, .ref li, .ref he, .ref so, .ref we, .ref le, y8, y9, y10])), (li, .inl (xI g, 12, .inl (fun j => nI (lim j)))), (he, .inl (xI g, 12, .inl (fun j => nI (hgt j)))), (so, .inl (xM g, 12, .inr (.inr (.inr (.inr (fun i => if i < 12 then some (rr i) else none))))))] ++ (xRN (xI g) 12 5 rr sd ++ [(we, .inl (xI g, 24, .inl (fun j => iI (wt j)))), (le, .inl (xI g, 24, .inl (fun j => iI (lv j))))])) := hD
          try dsimp only at hw_4
          rcases hw_4 with ⟨rfl, hw_4⟩ | ⟨rfl, hw_4⟩
          · refine lv_if_eq (tgt := 28) hx hb dX7_stackWithoutBlocking_21 (by decide) (fun c0 => absurd c0 (by decide)) (fun _ => ?_)
            refine lv_iconst (v := 1) hx hb dX7_stackWithoutBlocking_24 (by decide) ?_
            refine lv_goto (tgt := 29) hx hb dX7_stackWithoutBlocking_25 (by decide) ?_
            refine lv_istore (lv' := [(4, .int 1), (3, .int (nI k)), (0, .ref ya), (1, .int (nI cn)), (2, .int (nI ex))]) hx hb dX7_stackWithoutBlocking_29 hl (by decide) rfl (fun ls hl => ?_)
            refine lv_iload hx hb dX7_stackWithoutBlocking_31 (lv_at hl 0 rfl) ?_
            refine lv_if_eq (tgt := 58) hx hb dX7_stackWithoutBlocking_33 (by decide) (fun c0 => absurd c0 (by decide)) (fun _ => ?_)
            refine lv_aload_n hx hb dX7_stackWithoutBlocking_36 rfl (lv_at hl 2 rfl) ?_
            refine lv_iload_n hx hb dX7_stackWithoutBlocking_37 rfl (lv_at hl 1 rfl) ?_
            refine lv_aload_n hx hb dX7_stackWithoutBlocking_38 rfl (lv_at hl 2 rfl) ?_
            refine va_get (D := xD g) (ci := 7) (v := .ref he) (C := RX7) (T := TX7) (N := 11) hx hb hts hFX7 hown hK hP 0 rfl rfl 4 (by decide) (hts (.fieldLink RX7 15 "Stevedore$Yard" "height" "[I") (by decide +kernel)) (fun _ h9 => h9) rfl dX7_stackWithoutBlocking_39 ?_
            refine lv_iload_n hx hb dX7_stackWithoutBlocking_42 rfl (lv_at hl 1 rfl) ?_
            refine va_iald hx hb hK hP 2 0 rfl rfl (vp_in_nI (by omega) (by omega)) dX7_stackWithoutBlocking_43 ?_
            refine lv_topi (fun v_5 ev => ?_)
            obtain rfl : v_5 = nI (hgt k) := ev.trans (congrArg (fun q9 => nI (hgt q9)) (nI_clamp (by omega)))
            have b_6 := b_hgt k
            have hPc := hP.sub (ws' := ([(ya, .inr (7, [.int (nI sc), y1, y2, .ref li, .ref he, .ref so, .ref we, .ref le, y8, y9, y10])), (so, .inl (xM g, 12, .inr (.inr (.inr (.inr (fun i => if i < 12 then some (rr i) else none))))))] ++ (xRN (xI g) 12 5 rr sd ++ [(le, .inl (xI g, 24, .inl (fun j => iI (lv j))))]))) [0, 3, 4, 5, 6, 7, 8, 9, 10, 11, 12, 13, 14, 15, 17] rfl
            have hDc := hD.sub (ws' := ([(ya, .inr (7, [.int (nI sc), y1, y2, .ref li, .ref he, .ref so, .ref we, .ref le, y8, y9, y10])), (so, .inl (xM g, 12, .inr (.inr (.inr (.inr (fun i => if i < 12 then some (rr i) else none))))))] ++ (xRN (xI g) 12 5 rr sd ++ [(le, .inl (xI g, 24, .inl (fun j => iI (lv j))))]))) [0, 3, 4, 5, 6, 7, 8, 9, 10, 11, 12, 13, 14, 15, 17] (by decide) rfl
            have hFc := xFree hS hA
            refine va_calli (va_runV (As := [.int (nI k), .int (nI (hgt k))]) (rest := []) ⟨hx, hb, hml, hown, hts⟩ (y_firstBelow l g H.size ya so le k (hgt k) rr (.int (nI sc)) y1 y2 (.ref li) (.ref he) (.ref we) y8 y9 y10 sd lv (by first | assumption | omega) (by first | assumption | omega) b_sd b_lv) (cwV 2 hts gX7_stackWithoutBlocking_X7_firstBelow rfl rfl rfl (by decide +kernel) ⟨Nat.le_of_ble_eq_true rfl, Nat.le_of_ble_eq_true rfl⟩) ⟨xB.blind, va_recv hK hPc (ci := 7) (q0 := 0) rfl rfl, fun U9 hU9 hW9 => ⟨rfl, xB.mk hPc hK hDc hU9 hW9⟩⟩ rfl rfl hl.1 rfl (lv_room (Nat.le_of_ble_eq_true rfl)) dX7_stackWithoutBlocking_44 ⟨Nat.le_of_ble_eq_true rfl, Nat.le_of_ble_eq_true rfl⟩) hS (fun q _ h => hFc q h) hFc (fun r_7 _ t H1 locs ht hvm hw_8 hB hz1 hk1 hS => ?_)
            have hP := xSame hP hk1
            generalize H1 = H at hP hS ⊢
            have hP : va_P (xD g) vwCl ([(ya, .inr (7, [.int (nI sc), y1, y2, .ref li, .ref he, .ref so, .ref we, .ref le, y8, y9, y10])), (li, .inl (xI g, 12, .inl (fun j => nI (lim j)))), (he, .inl (xI g, 12, .inl (fun j => nI (hgt j)))), (so, .inl (xM g, 12, .inr (.inr (.inr (.inr (fun i => if i < 12 then some (rr i) else none))))))] ++ (xRN (xI g) 12 5 rr sd ++ [(we, .inl (xI g, 24, .inl (fun j => iI (wt j)))), (le, .inl (xI g, 24, .inl (fun j => iI (lv j))))])) H := hP
            have hD : va_D (fun _ => True) ([(ya, .inr (7, [.int (nI sc), y1, y2, .ref li, .ref he, .ref so, .ref we, .ref le, y8, y9, y10])), (li, .inl (xI g, 12, .inl (fun j => nI (lim j)))), (he, .inl (xI g, 12, .inl (fun j => nI (hgt j)))), (so, .inl (xM g, 12, .inr (.inr (.inr (.inr (fun i => if i < 12 then some (rr i) else none))))))] ++ (xRN (xI g) 12 5 rr sd ++ [(we, .inl (xI g, 24, .inl (fun j => iI (wt j)))), (le, .inl (xI g, 24, .inl (fun j => iI (lv j))))])) := hD
            try dsimp only at hw_8
            obtain rfl : r_7 = iI (yFst lv (sd k) (hgt k)) := hw_8
            refine lv_aload_n hx hb dX7_stackWithoutBlocking_47 rfl (lv_at hl 2 rfl) ?_
            refine va_get (D := xD g) (ci := 7) (v := .ref le) (C := RX7) (T := TX7) (N := 11) hx hb hts hFX7 hown hK hP 0 rfl rfl 7 (by decide) (hts (.fieldLink RX7 26 "Stevedore$Yard" "leaving" "[I") (by decide +kernel)) (fun _ h9 => h9) rfl dX7_stackWithoutBlocking_48 ?_
            refine lv_iload_n hx hb dX7_stackWithoutBlocking_51 rfl (lv_at hl 3 rfl) ?_
            refine va_iald hx hb hK hP 17 0 rfl rfl (vp_in_nI (by omega) (by omega)) dX7_stackWithoutBlocking_52 ?_
            refine lv_topi (fun v_9 ev => ?_)
            obtain rfl : v_9 = iI (lv cn) := ev.trans (congrArg (fun q9 => iI (lv q9)) (nI_clamp (by omega)))
            have b_10 := b_lv cn
            refine lv_icmp_lt (tgt := 58) hx hb dX7_stackWithoutBlocking_53 (by decide) (fun c_11 => ?_) (fun c_11 => ?_)
            · have nc_11 := (iLt (a := yFst lv (sd k) (hgt k)) (b := lv cn) rfl rfl (by omega)).mp c_11
              refine lv_iinc (v := nI (k + 1)) (lv' := [(3, .int (nI (k + 1))), (4, .int 1), (0, .ref ya), (1, .int (nI cn)), (2, .int (nI ex))]) hx hb dX7_stackWithoutBlocking_58 hl (k := 1) rfl (nI_add k 1) (by decide) rfl (fun ls hl => ?_)
              refine lv_goto (tgt := 2) hx hb dX7_stackWithoutBlocking_61 (by decide) ?_
              exact ih2 (k + 1) _ _ _ (by omega) (by omega) hP hD hS (lv_sub hl [0, 2, 3, 4] rfl)
            · have nc_11 := mt (iLt (a := yFst lv (sd k) (hgt k)) (b := lv cn) rfl rfl (by omega)).mpr c_11
              refine lv_iload_n hx hb dX7_stackWithoutBlocking_56 rfl (lv_at hl 1 rfl) ?_
              exact W.iret (v := nI k) hx hb hr (fun t ht hW => ⟨⟨nI k, (), rfl, (Or.inl ⟨k, by omega, rfl, by omega, by assumption, by omega⟩), trivial⟩, hS.F ht⟩) hS.2.2 dX7_stackWithoutBlocking_57
          · refine lv_if_eq (tgt := 28) hx hb dX7_stackWithoutBlocking_21 (by decide) (fun _ => ?_) (fun c0 => absurd (by decide) c0)
            refine lv_iconst (v := 0) hx hb dX7_stackWithoutBlocking_28 (by decide) ?_
            refine lv_istore (lv' := [(4, .int 0), (3, .int (nI k)), (0, .ref ya), (1, .int (nI cn)), (2, .int (nI ex))]) hx hb dX7_stackWithoutBlocking_29 hl (by decide) rfl (fun ls hl => ?_)
            refine lv_iload hx hb dX7_stackWithoutBlocking_31 (lv_at hl 0 rfl) ?_
            refine lv_if_eq (tgt := 58) hx hb dX7_stackWithoutBlocking_33 (by decide) (fun _ => ?_) (fun c0 => absurd (by decide) c0)
            refine lv_iinc (v := nI (k + 1)) (lv' := [(3, .int (nI (k + 1))), (4, .int 0), (0, .ref ya), (1, .int (nI cn)), (2, .int (nI ex))]) hx hb dX7_stackWithoutBlocking_58 hl (k := 1) rfl (nI_add k 1) (by decide) rfl (fun ls hl => ?_)
            refine lv_goto (tgt := 2) hx hb dX7_stackWithoutBlocking_61 (by decide) ?_
            exact ih2 (k + 1) _ _ _ (by omega) (by omega) hP hD hS (lv_sub hl [0, 2, 3, 4] rfl)
  exact hloop2 (sc + 1) 0 _ _ _ (by omega) (by omega) hP hD hS (by rw [(show nI 0 = (0 : Int32) from by decide)]; exact lv_sub hl [0, 1, 2, 3] rfl)
theorem dX7_makeHelpingMove_0 : decode cX7_makeHelpingMove 0 = .ok (.iconst 0, 1) := by decide +kernel
theorem dX7_makeHelpingMove_1 : decode cX7_makeHelpingMove 1 = .ok (.istore_n 1, 1) := by decide +kernel
theorem dX7_makeHelpingMove_2 : decode cX7_makeHelpingMove 2 = .ok (.iload_n 1, 1) := by decide +kernel
theorem dX7_makeHelpingMove_3 : decode cX7_makeHelpingMove 3 = .ok (.aload_n 0, 1) := by decide +kernel
theorem dX7_makeHelpingMove_4 : decode cX7_makeHelpingMove 4 = .ok (.getfield 51, 3) := by decide +kernel
theorem dX7_makeHelpingMove_7 : decode cX7_makeHelpingMove 7 = .ok (.if_icmp .ge 62, 3) := by decide +kernel
theorem dX7_makeHelpingMove_69 : decode cX7_makeHelpingMove 69 = .ok (.iconst 0, 1) := by decide +kernel
theorem dX7_makeHelpingMove_70 : decode cX7_makeHelpingMove 70 = .ok (.ireturn, 1) := by decide +kernel
theorem dX7_makeHelpingMove_10 : decode cX7_makeHelpingMove 10 = .ok (.aload_n 0, 1) := by decide +kernel
theorem dX7_makeHelpingMove_11 : decode cX7_makeHelpingMove 11 = .ok (.getfield 15, 3) := by decide +kernel
theorem dX7_makeHelpingMove_14 : decode cX7_makeHelpingMove 14 = .ok (.iload_n 1, 1) := by decide +kernel
theorem dX7_makeHelpingMove_15 : decode cX7_makeHelpingMove 15 = .ok (.iaload, 1) := by decide +kernel
theorem dX7_makeHelpingMove_16 : decode cX7_makeHelpingMove 16 = .ok (.iconst 1, 1) := by decide +kernel
theorem dX7_makeHelpingMove_17 : decode cX7_makeHelpingMove 17 = .ok (.if_icmp .le 46, 3) := by decide +kernel
theorem dX7_makeHelpingMove_63 : decode cX7_makeHelpingMove 63 = .ok (.iinc 1 1, 3) := by decide +kernel
theorem dX7_makeHelpingMove_66 : decode cX7_makeHelpingMove 66 = .ok (.goto (-64), 3) := by decide +kernel
theorem dX7_makeHelpingMove_20 : decode cX7_makeHelpingMove 20 = .ok (.aload_n 0, 1) := by decide +kernel
theorem dX7_makeHelpingMove_21 : decode cX7_makeHelpingMove 21 = .ok (.iload_n 1, 1) := by decide +kernel
theorem dX7_makeHelpingMove_22 : decode cX7_makeHelpingMove 22 = .ok (.aload_n 0, 1) := by decide +kernel
theorem dX7_makeHelpingMove_23 : decode cX7_makeHelpingMove 23 = .ok (.getfield 15, 3) := by decide +kernel
theorem dX7_makeHelpingMove_26 : decode cX7_makeHelpingMove 26 = .ok (.iload_n 1, 1) := by decide +kernel
theorem dX7_makeHelpingMove_27 : decode cX7_makeHelpingMove 27 = .ok (.iaload, 1) := by decide +kernel
theorem dX7_makeHelpingMove_28 : decode cX7_makeHelpingMove 28 = .ok (.iconst 1, 1) := by decide +kernel
theorem dX7_makeHelpingMove_29 : decode cX7_makeHelpingMove 29 = .ok (.isub, 1) := by decide +kernel
theorem dX7_makeHelpingMove_30 : decode cX7_makeHelpingMove 30 = .ok (.invokevirtual 119, 3) := by decide +kernel
set_option maxRecDepth 20000 in
theorem ggX7_makeHelpingMove_X7_isBlocking : GoodIn wsX7_makeHelpingMove wsX7_isBlocking := goodIn_r _ [7, 8, 9, 10, 11, 12, 6, 13, 14, 15, 16, 17, 41, 42, 43, 44, 45, 46, 47, 48, 49, 50, 51] rfl (by decide +kernel)
set_option maxRecDepth 20000 in
theorem gX7_makeHelpingMove_X7_isBlocking : GoodIn wsX7_makeHelpingMove (wsV RX7 119 RX7 yX7_isBlocking wsX7_isBlocking) := goodIn_app (goodIn_of _ (by decide +kernel)) ggX7_makeHelpingMove_X7_isBlocking
theorem dX7_makeHelpingMove_33 : decode cX7_makeHelpingMove 33 = .ok (.ifCond .eq 30, 3) := by decide +kernel
theorem dX7_makeHelpingMove_36 : decode cX7_makeHelpingMove 36 = .ok (.aload_n 0, 1) := by decide +kernel
theorem dX7_makeHelpingMove_37 : decode cX7_makeHelpingMove 37 = .ok (.aload_n 0, 1) := by decide +kernel
theorem dX7_makeHelpingMove_38 : decode cX7_makeHelpingMove 38 = .ok (.iload_n 1, 1) := by decide +kernel
theorem dX7_makeHelpingMove_39 : decode cX7_makeHelpingMove 39 = .ok (.invokevirtual 100, 3) := by decide +kernel
set_option maxRecDepth 20000 in
theorem ggX7_makeHelpingMove_X7_uppermost : GoodIn wsX7_makeHelpingMove wsX7_uppermost := goodIn_r _ [21, 2, 9, 41, 42, 43, 44, 45, 46, 47, 48, 49, 50, 51] rfl (by decide +kernel)
set_option maxRecDepth 20000 in
theorem gX7_makeHelpingMove_X7_uppermost : GoodIn wsX7_makeHelpingMove (wsV RX7 100 RX7 yX7_uppermost wsX7_uppermost) := goodIn_app (goodIn_of _ (by decide +kernel)) ggX7_makeHelpingMove_X7_uppermost
theorem dX7_makeHelpingMove_42 : decode cX7_makeHelpingMove 42 = .ok (.iload_n 1, 1) := by decide +kernel
theorem dX7_makeHelpingMove_43 : decode cX7_makeHelpingMove 43 = .ok (.invokevirtual 126, 3) := by decide +kernel
set_option maxRecDepth 20000 in
theorem ggX7_makeHelpingMove_X7_stackWithoutBlocking : GoodIn wsX7_makeHelpingMove wsX7_stackWithoutBlocking := goodIn_r _ [25, 1, 2, 8, 26, 27, 28, 6, 29, 30, 31, 18, 19, 20, 21, 9, 10, 11, 12, 13, 14, 15, 16, 17, 41, 42, 43, 44, 45, 46, 47, 48, 49, 50, 51] rfl (by decide +kernel)
set_option maxRecDepth 20000 in
theorem gX7_makeHelpingMove_X7_stackWithoutBlocking : GoodIn wsX7_makeHelpingMove (wsV RX7 126 RX7 yX7_stackWithoutBlocking wsX7_stackWithoutBlocking) := goodIn_app (goodIn_of _ (by decide +kernel)) ggX7_makeHelpingMove_X7_stackWithoutBlocking
theorem dX7_makeHelpingMove_46 : decode cX7_makeHelpingMove 46 = .ok (.istore_n 2, 1) := by decide +kernel
theorem dX7_makeHelpingMove_47 : decode cX7_makeHelpingMove 47 = .ok (.iload_n 2, 1) := by decide +kernel
theorem dX7_makeHelpingMove_48 : decode cX7_makeHelpingMove 48 = .ok (.ifCond .lt 15, 3) := by decide +kernel
theorem dX7_makeHelpingMove_51 : decode cX7_makeHelpingMove 51 = .ok (.aload_n 0, 1) := by decide +kernel
theorem dX7_makeHelpingMove_52 : decode cX7_makeHelpingMove 52 = .ok (.aload_n 0, 1) := by decide +kernel
theorem dX7_makeHelpingMove_53 : decode cX7_makeHelpingMove 53 = .ok (.iload_n 1, 1) := by decide +kernel
theorem dX7_makeHelpingMove_54 : decode cX7_makeHelpingMove 54 = .ok (.invokevirtual 94, 3) := by decide +kernel
set_option maxRecDepth 20000 in
theorem ggX7_makeHelpingMove_X7_lift : GoodIn wsX7_makeHelpingMove wsX7_lift := goodIn_r _ [35, 2, 36, 18, 19, 20, 6, 21, 9, 41, 42, 43, 44, 45, 46, 47, 48, 49, 50, 51] rfl (by decide +kernel)
set_option maxRecDepth 20000 in
theorem gX7_makeHelpingMove_X7_lift : GoodIn wsX7_makeHelpingMove (wsV RX7 94 RX7 yX7_lift wsX7_lift) := goodIn_app (goodIn_of _ (by decide +kernel)) ggX7_makeHelpingMove_X7_lift
theorem dX7_makeHelpingMove_57 : decode cX7_makeHelpingMove 57 = .ok (.iload_n 2, 1) := by decide +kernel
theorem dX7_makeHelpingMove_58 : decode cX7_makeHelpingMove 58 = .ok (.invokevirtual 83, 3) := by decide +kernel
set_option maxRecDepth 20000 in
theorem ggX7_makeHelpingMove_X7_putOn : GoodIn wsX7_makeHelpingMove wsX7_putOn := goodIn_r _ [40, 2, 9, 36, 41, 42, 43, 44, 45, 46, 47, 48, 49, 50, 51] rfl (by decide +kernel)
set_option maxRecDepth 20000 in
theorem gX7_makeHelpingMove_X7_putOn : GoodIn wsX7_makeHelpingMove (wsV RX7 83 RX7 yX7_putOn wsX7_putOn) := goodIn_app (goodIn_of _ (by decide +kernel)) ggX7_makeHelpingMove_X7_putOn
theorem dX7_makeHelpingMove_61 : decode cX7_makeHelpingMove 61 = .ok (.iconst 1, 1) := by decide +kernel
theorem dX7_makeHelpingMove_62 : decode cX7_makeHelpingMove 62 = .ok (.ireturn, 1) := by decide +kernel
set_option maxHeartbeats 4000000 in
set_option maxRecDepth 100000 in
theorem y_makeHelpingMove (l : Launch) (g : xG) (sz : Nat) (ya : Nat) (li : Nat) (he : Nat) (so : Nat) (we : Nat) (le : Nat) (so2 : Nat) (sc : Nat) (n : Nat) (stt : Nat → Int) (rr : Nat → Nat) (y1 : Value) (y2 : Value) (y8 : Value) (y10 : Value) (lim : Nat → Nat) (hgt : Nat → Nat) (sd : Nat → Nat → Nat) (wt : Nat → Int) (lv : Nat → Int) (oo : Nat → Int)  (hsc : sc ≤ 12) (hok : yOk n sc lim (hgt, sd, oo) stt) (b_lim : ∀ j, lim j ≤ 5) (b_hgt : ∀ j, hgt j ≤ 5) (b_sd : ∀ i j, sd i j ≤ 23) (b_wt : ∀ j, 0 ≤ wt j ∧ wt j ≤ 1000) (b_lv : ∀ j, 0 ≤ lv j ∧ lv j ≤ 1000000) (b_oo : ∀ j, (-1) ≤ oo j ∧ oo j ≤ 11) : Met l yX7_makeHelpingMove wsX7_makeHelpingMove ({ frames := 3, cells := 0, slots := 0, locals := 72 }) (va_Pc [.ref ya] (fun U => xB g ([(ya, .inr (7, [.int (nI sc), y1, y2, .ref li, .ref he, .ref so, .ref we, .ref le, y8, .ref so2, y10])), (li, .inl (xI g, 12, .inl (fun j => nI (lim j)))), (he, .inl (xI g, 12, .inl (fun j => nI (hgt j)))), (so, .inl (xM g, 12, .inr (.inr (.inr (.inr (fun i => if i < 12 then some (rr i) else none))))))] ++ (xRN (xI g) 12 5 rr sd ++ [(we, .inl (xI g, 24, .inl (fun j => iI (wt j)))), (le, .inl (xI g, 24, .inl (fun j => iI (lv j)))), (so2, .inl (xI g, 24, .inl (fun j => iI (oo j))))])) sz U)) (va_Qi (fun (r : Int32) (u : yS) => (r = 1 ∧ yOk n sc lim u stt ∧ yBl lv u.1 u.2.1 sc + 1 = yBl lv hgt sd sc) ∨ (r = 0 ∧ (hgt, sd, oo) = u)) (fun (u : yS) (t : State) => (∀ j, u.1 j ≤ 5) ∧ (∀ i j, u.2.1 i j ≤ 23) ∧ (∀ j, (-1) ≤ u.2.2 j ∧ u.2.2 j ≤ 11) ∧ xE g ([(ya, .inr (7, [.int (nI sc), y1, y2, .ref li, .ref he, .ref so, .ref we, .ref le, y8, .ref so2, y10])), (li, .inl (xI g, 12, .inl (fun j => nI (lim j)))), (he, .inl (xI g, 12, .inl (fun j => nI (u.1 j)))), (so, .inl (xM g, 12, .inr (.inr (.inr (.inr (fun i => if i < 12 then some (rr i) else none))))))] ++ (xRN (xI g) 12 5 rr u.2.1 ++ [(we, .inl (xI g, 24, .inl (fun j => iI (wt j)))), (le, .inl (xI g, 24, .inl (fun j => iI (lv j)))), (so2, .inl (xI g, 24, .inl (fun j => iI (u.2.2 j))))])) (va_A ([(ya, .inr (7, [.int (nI sc), y1, y2, .ref li, .ref he, .ref so, .ref we, .ref le, y8, .ref so2, y10])), (li, .inl (xI g, 12, .inl (fun j => nI (lim j)))), (he, .inl (xI g, 12, .inl (fun j => nI (hgt j)))), (so, .inl (xM g, 12, .inr (.inr (.inr (.inr (fun i => if i < 12 then some (rr i) else none))))))] ++ (xRN (xI g) 12 5 rr sd ++ [(we, .inl (xI g, 24, .inl (fun j => iI (wt j)))), (le, .inl (xI g, 24, .inl (fun j => iI (lv j)))), (so2, .inl (xI g, 24, .inl (fun j => iI (oo j))))])) sz) t) (va_A ([(ya, .inr (7, [.int (nI sc), y1, y2, .ref li, .ref he, .ref so, .ref we, .ref le, y8, .ref so2, y10])), (li, .inl (xI g, 12, .inl (fun j => nI (lim j)))), (he, .inl (xI g, 12, .inl (fun j => nI (hgt j)))), (so, .inl (xM g, 12, .inr (.inr (.inr (.inr (fun i => if i < 12 then some (rr i) else none))))))] ++ (xRN (xI g) 12 5 rr sd ++ [(we, .inl (xI g, 24, .inl (fun j => iI (wt j)))), (le, .inl (xI g, 24, .inl (fun j => iI (lv j)))), (so2, .inl (xI g, 24, .inl (fun j => iI (oo j))))])) sz)) 0 0 (va_A ([(ya, .inr (7, [.int (nI sc), y1, y2, .ref li, .ref he, .ref so, .ref we, .ref le, y8, .ref so2, y10])), (li, .inl (xI g, 12, .inl (fun j => nI (lim j)))), (he, .inl (xI g, 12, .inl (fun j => nI (hgt j)))), (so, .inl (xM g, 12, .inr (.inr (.inr (.inr (fun i => if i < 12 then some (rr i) else none))))))] ++ (xRN (xI g) 12 5 rr sd ++ [(we, .inl (xI g, 24, .inl (fun j => iI (wt j)))), (le, .inl (xI g, 24, .inl (fun j => iI (lv j)))), (so2, .inl (xI g, 24, .inl (fun j => iI (oo j))))])) sz) := by
  refine Met.ofW (cc := cX7_makeHelpingMove) (maxL := 3) (ret := (some .boolean)) (by decide) rfl ?_
  intro p e s m args below meth c s₁ B hml hv
  obtain ⟨rfl, hsz, hP, hK, hD0⟩ := hv
  have hx := B.exec
  have hb := B.bytes
  have hr := B.returns
  have hts := atoms_spec (ws := wsX7_makeHelpingMove) B.pre
  have hown : s.vm.findClass RX7 = some m.cls := findClass_of_methodNamed B.named
  have hlocks := B.notSynchronized
  subst hsz
  have hD := hD0.self (sz := s.heap.size)
  generalize hAe : va_A ([(ya, .inr (7, [.int (nI sc), y1, y2, .ref li, .ref he, .ref so, .ref we, .ref le, y8, .ref so2, y10])), (li, .inl (xI g, 12, .inl (fun j => nI (lim j)))), (he, .inl (xI g, 12, .inl (fun j => nI (hgt j)))), (so, .inl (xM g, 12, .inr (.inr (.inr (.inr (fun i => if i < 12 then some (rr i) else none))))))] ++ (xRN (xI g) 12 5 rr sd ++ [(we, .inl (xI g, 24, .inl (fun j => iI (wt j)))), (le, .inl (xI g, 24, .inl (fun j => iI (lv j)))), (so2, .inl (xI g, 24, .inl (fun j => iI (oo j))))])) s.heap.size = A at hD ⊢
  have hA : ∀ q : Nat, s.heap.size ≤ q → A q := fun q h => by rw [← hAe]; exact Or.inr h
  have hS : va_S A s.heap s.heap [] := va_S.rf
  have hl := lv_entry ([.ref ya]) (n := 3) (Nat.le_of_ble_eq_true rfl)
  rw [lg_entry_eq]
  generalize (lg_sl ([.ref ya]) ++ List.replicate (3 - (lg_sl ([.ref ya])).length) Slot.unset).toArray = ls at hl ⊢
  have hl : lv_has ls 3 [(0, .ref ya)] := hl
  have hFX7 : ∀ w ∈ u_ws RX7 TX7 11, w ∈ wsX7_makeHelpingMove := by decide +kernel
  refine lv_iconst (v := 0) hx hb dX7_makeHelpingMove_0 (by decide) ?_
  refine lv_istore_n (lv' := [(1, .int 0), (0, .ref ya)]) hx hb dX7_makeHelpingMove_1 rfl hl (by decide) rfl (fun ls hl => ?_)
  have hloop2 : ∀ (n9 : Nat) (k : Nat) (H : Heap) (locs : List Loc) (ls : Array Slot), sc - k < n9 → (k ≤ sc) → va_P (xD g) vwCl ([(ya, .inr (7, [.int (nI sc), y1, y2, .ref li, .ref he, .ref so, .ref we, .ref le, y8, .ref so2, y10])), (li, .inl (xI g, 12, .inl (fun j => nI (lim j)))), (he, .inl (xI g, 12, .inl (fun j => nI (hgt j)))), (so, .inl (xM g, 12, .inr (.inr (.inr (.inr (fun i => if i < 12 then some (rr i) else none))))))] ++ (xRN (xI g) 12 5 rr sd ++ [(we, .inl (xI g, 24, .inl (fun j => iI (wt j)))), (le, .inl (xI g, 24, .inl (fun j => iI (lv j)))), (so2, .inl (xI g, 24, .inl (fun j => iI (oo j))))])) H → va_D A ([(ya, .inr (7, [.int (nI sc), y1, y2, .ref li, .ref he, .ref so, .ref we, .ref le, y8, .ref so2, y10])), (li, .inl (xI g, 12, .inl (fun j => nI (lim j)))), (he, .inl (xI g, 12, .inl (fun j => nI (hgt j)))), (so, .inl (xM g, 12, .inr (.inr (.inr (.inr (fun i => if i < 12 then some (rr i) else none))))))] ++ (xRN (xI g) 12 5 rr sd ++ [(we, .inl (xI g, 24, .inl (fun j => iI (wt j)))), (le, .inl (xI g, 24, .inl (fun j => iI (lv j)))), (so2, .inl (xI g, 24, .inl (fun j => iI (oo j))))])) → va_S A s.heap H locs → lv_has ls 3 [(1, .int (nI k)), (0, .ref ya)] → W p l e (headSpec wsX7_makeHelpingMove ({ frames := 3, cells := 0, slots := 0, locals := 72 })).room s m ([.ref ya] : List Value).toArray below meth c H locs 0 0 (MQ below (va_Qi (fun (r : Int32) (u : yS) => (r = 1 ∧ yOk n sc lim u stt ∧ yBl lv u.1 u.2.1 sc + 1 = yBl lv hgt sd sc) ∨ (r = 0 ∧ (hgt, sd, oo) = u)) (fun (u : yS) (t : State) => (∀ j, u.1 j ≤ 5) ∧ (∀ i j, u.2.1 i j ≤ 23) ∧ (∀ j, (-1) ≤ u.2.2 j ∧ u.2.2 j ≤ 11) ∧ xE g ([(ya, .inr (7, [.int (nI sc), y1, y2, .ref li, .ref he, .ref so, .ref we, .ref le, y8, .ref so2, y10])), (li, .inl (xI g, 12, .inl (fun j => nI (lim j)))), (he, .inl (xI g, 12, .inl (fun j => nI (u.1 j)))), (so, .inl (xM g, 12, .inr (.inr (.inr (.inr (fun i => if i < 12 then some (rr i) else none))))))] ++ (xRN (xI g) 12 5 rr u.2.1 ++ [(we, .inl (xI g, 24, .inl (fun j => iI (wt j)))), (le, .inl (xI g, 24, .inl (fun j => iI (lv j)))), (so2, .inl (xI g, 24, .inl (fun j => iI (u.2.2 j))))])) (A) t) (A)) ([.ref ya] : List Value).toArray s 0 0 A) (F0 m 2 ls []) := by
    intro n9
    induction n9 with
    | zero =>
      intro k H locs ls hm hk hP hD hS hl
      exact absurd hm (Nat.not_lt_zero _)
    | succ n9 ih2 =>
      intro k H locs ls hm hk hP hD hS hl
      have hbk := b_hgt k
      have htop23 : yTop hgt sd k ≤ 23 := b_sd _ _
      refine lv_iload_n hx hb dX7_makeHelpingMove_2 rfl (lv_at hl 0 rfl) ?_
      refine lv_aload_n hx hb dX7_makeHelpingMove_3 rfl (lv_at hl 1 rfl) ?_
      refine va_get (D := xD g) (ci := 7) (v := .int (nI sc)) (C := RX7) (T := TX7) (N := 11) hx hb hts hFX7 hown hK hP 0 rfl rfl 0 (by decide) (hts (.fieldLink RX7 51 "Stevedore$Yard" "stackCount" "I") (by decide +kernel)) (fun _ h9 => h9) rfl dX7_makeHelpingMove_4 ?_
      refine lv_icmp_ge (tgt := 69) hx hb dX7_makeHelpingMove_7 (by decide) (fun c_1 => ?_) (fun c_1 => ?_)
      · have nc_1 := (nI_leI (a := sc) (b := k) (by omega) (by omega)).mp c_1
        refine lv_iconst (v := 0) hx hb dX7_makeHelpingMove_69 (by decide) ?_
        have hP9 := hP
        have hD9 := hD
        exact W.zret (v := 0) hx hb hr (by rfl) (fun t ht hW => ⟨⟨0, (hgt, sd, oo), rfl, (Or.inr ⟨rfl, rfl⟩), ⟨b_hgt, b_sd, b_oo, by rw [ht]; exact hP9, va_K.moved hW.alike hK, hD9⟩⟩, hS.F ht⟩) hS.2.2 dX7_makeHelpingMove_70
      · have nc_1 := mt (nI_leI (a := sc) (b := k) (by omega) (by omega)).mpr c_1
        refine lv_aload_n hx hb dX7_makeHelpingMove_10 rfl (lv_at hl 1 rfl) ?_
        refine va_get (D := xD g) (ci := 7) (v := .ref he) (C := RX7) (T := TX7) (N := 11) hx hb hts hFX7 hown hK hP 0 rfl rfl 4 (by decide) (hts (.fieldLink RX7 15 "Stevedore$Yard" "height" "[I") (by decide +kernel)) (fun _ h9 => h9) rfl dX7_makeHelpingMove_11 ?_
        refine lv_iload_n hx hb dX7_makeHelpingMove_14 rfl (lv_at hl 0 rfl) ?_
        refine va_iald hx hb hK hP 2 0 rfl rfl (vp_in_nI (by omega) (by omega)) dX7_makeHelpingMove_15 ?_
        refine lv_topi (fun v_2 ev => ?_)
        obtain rfl : v_2 = nI (hgt k) := ev.trans (congrArg (fun q9 => nI (hgt q9)) (nI_clamp (by omega)))
        have b_3 := b_hgt k
        refine lv_iconst (v := 1) hx hb dX7_makeHelpingMove_16 (by decide) ?_
        refine lv_icmp_le (tgt := 63) hx hb dX7_makeHelpingMove_17 (by decide) (fun c_4 => ?_) (fun c_4 => ?_)
        · have nc_4 := (nI_leI (a := hgt k) (b := 1) (by omega) (by omega)).mp c_4
          refine lv_iinc (v := nI (k + 1)) (lv' := [(1, .int (nI (k + 1))), (0, .ref ya)]) hx hb dX7_makeHelpingMove_63 hl (k := 0) rfl (nI_add k 1) (by decide) rfl (fun ls hl => ?_)
          refine lv_goto (tgt := 2) hx hb dX7_makeHelpingMove_66 (by decide) ?_
          exact ih2 (k + 1) _ _ _ (by omega) (by omega) hP hD hS (lv_sub hl [0, 1] rfl)
        · have nc_4 := mt (nI_leI (a := hgt k) (b := 1) (by omega) (by omega)).mpr c_4
          refine lv_aload_n hx hb dX7_makeHelpingMove_20 rfl (lv_at hl 1 rfl) ?_
          refine lv_iload_n hx hb dX7_makeHelpingMove_21 rfl (lv_at hl 0 rfl) ?_
          refine lv_aload_n hx hb dX7_makeHelpingMove_22 rfl (lv_at hl 1 rfl) ?_
          refine va_get (D := xD g) (ci := 7) (v := .ref he) (C := RX7) (T := TX7) (N := 11) hx hb hts hFX7 hown hK hP 0 rfl rfl 4 (by decide) (hts (.fieldLink RX7 15 "Stevedore$Yard" "height" "[I") (by decide +kernel)) (fun _ h9 => h9) rfl dX7_makeHelpingMove_23 ?_
          refine lv_iload_n hx hb dX7_makeHelpingMove_26 rfl (lv_at hl 0 rfl) ?_
          refine va_iald hx hb hK hP 2 0 rfl rfl (vp_in_nI (by omega) (by omega)) dX7_makeHelpingMove_27 ?_
          refine lv_topi (fun v_5 ev => ?_)
          obtain rfl : v_5 = nI (hgt k) := ev.trans (congrArg (fun q9 => nI (hgt q9)) (nI_clamp (by omega)))
          have b_6 := b_hgt k
          refine lv_iconst (v := 1) hx hb dX7_makeHelpingMove_28 (by decide) ?_
          refine lv_isub hx hb dX7_makeHelpingMove_29 ?_
          refine lv_topi (fun v_7 ev => ?_)
          obtain rfl : v_7 = nI ((hgt k) - 1) := ev.trans (pk_sub (a := hgt k) (b := 1) (by omega))
          have hPc := hP.sub (ws' := ([(ya, .inr (7, [.int (nI sc), y1, y2, .ref li, .ref he, .ref so, .ref we, .ref le, y8, .ref so2, y10])), (so, .inl (xM g, 12, .inr (.inr (.inr (.inr (fun i => if i < 12 then some (rr i) else none))))))] ++ (xRN (xI g) 12 5 rr sd ++ [(le, .inl (xI g, 24, .inl (fun j => iI (lv j))))]))) [0, 3, 4, 5, 6, 7, 8, 9, 10, 11, 12, 13, 14, 15, 17] rfl
          have hDc := hD.sub (ws' := ([(ya, .inr (7, [.int (nI sc), y1, y2, .ref li, .ref he, .ref so, .ref we, .ref le, y8, .ref so2, y10])), (so, .inl (xM g, 12, .inr (.inr (.inr (.inr (fun i => if i < 12 then some (rr i) else none))))))] ++ (xRN (xI g) 12 5 rr sd ++ [(le, .inl (xI g, 24, .inl (fun j => iI (lv j))))]))) [0, 3, 4, 5, 6, 7, 8, 9, 10, 11, 12, 13, 14, 15, 17] (by decide) rfl
          have hFc := xFree hS hA
          refine va_calli (va_runV (As := [.int (nI k), .int (nI ((hgt k) - 1))]) (rest := []) ⟨hx, hb, hml, hown, hts⟩ (y_isBlocking l g H.size ya so le k ((hgt k) - 1) rr (.int (nI sc)) y1 y2 (.ref li) (.ref he) (.ref we) y8 (.ref so2) y10 sd lv (by first | assumption | omega) (by first | assumption | omega) b_sd b_lv) (cwV 2 hts gX7_makeHelpingMove_X7_isBlocking rfl rfl rfl (by decide +kernel) ⟨Nat.le_of_ble_eq_true rfl, Nat.le_of_ble_eq_true rfl⟩) ⟨xB.blind, va_recv hK hPc (ci := 7) (q0 := 0) rfl rfl, fun U9 hU9 hW9 => ⟨rfl, xB.mk hPc hK hDc hU9 hW9⟩⟩ rfl rfl hl.1 rfl (lv_room (Nat.le_of_ble_eq_true rfl)) dX7_makeHelpingMove_30 ⟨Nat.le_of_ble_eq_true rfl, Nat.le_of_ble_eq_true rfl⟩) hS (fun q _ h => hFc q h) hFc (fun r_8 _ t H1 locs ht hvm hw_9 hB hz1 hk1 hS => ?_)
          have hP := xSame hP hk1
          generalize H1 = H at hP hS ⊢
          have hP : va_P (xD g) vwCl ([(ya, .inr (7, [.int (nI sc), y1, y2, .ref li, .ref he, .ref so, .ref we, .ref le, y8, .ref so2, y10])), (li, .inl (xI g, 12, .inl (fun j => nI (lim j)))), (he, .inl (xI g, 12, .inl (fun j => nI (hgt j)))), (so, .inl (xM g, 12, .inr (.inr (.inr (.inr (fun i => if i < 12 then some (rr i) else none))))))] ++ (xRN (xI g) 12 5 rr sd ++ [(we, .inl (xI g, 24, .inl (fun j => iI (wt j)))), (le, .inl (xI g, 24, .inl (fun j => iI (lv j)))), (so2, .inl (xI g, 24, .inl (fun j => iI (oo j))))])) H := hP
          have hD : va_D A ([(ya, .inr (7, [.int (nI sc), y1, y2, .ref li, .ref he, .ref so, .ref we, .ref le, y8, .ref so2, y10])), (li, .inl (xI g, 12, .inl (fun j => nI (lim j)))), (he, .inl (xI g, 12, .inl (fun j => nI (hgt j)))), (so, .inl (xM g, 12, .inr (.inr (.inr (.inr (fun i => if i < 12 then some (rr i) else none))))))] ++ (xRN (xI g) 12 5 rr sd ++ [(we, .inl (xI g, 24, .inl (fun j => iI (wt j)))), (le, .inl (xI g, 24, .inl (fun j => iI (lv j)))), (so2, .inl (xI g, 24, .inl (fun j => iI (oo j))))])) := hD
          try dsimp only at hw_9
          rcases hw_9 with ⟨rfl, hw_9⟩ | ⟨rfl, hw_9⟩
          · refine lv_if_eq (tgt := 63) hx hb dX7_makeHelpingMove_33 (by decide) (fun c0 => absurd c0 (by decide)) (fun _ => ?_)
            refine lv_aload_n hx hb dX7_makeHelpingMove_36 rfl (lv_at hl 1 rfl) ?_
            refine lv_aload_n hx hb dX7_makeHelpingMove_37 rfl (lv_at hl 1 rfl) ?_
            refine lv_iload_n hx hb dX7_makeHelpingMove_38 rfl (lv_at hl 0 rfl) ?_
            have hPc := hP.sub (ws' := ([(ya, .inr (7, [.int (nI sc), y1, y2, .ref li, .ref he, .ref so, .ref we, .ref le, y8, .ref so2, y10])), (he, .inl (xI g, 12, .inl (fun j => nI (hgt j)))), (so, .inl (xM g, 12, .inr (.inr (.inr (.inr (fun i => if i < 12 then some (rr i) else none))))))] ++ (xRN (xI g) 12 5 rr sd ++ []))) [0, 2, 3, 4, 5, 6, 7, 8, 9, 10, 11, 12, 13, 14, 15] rfl
            have hDc := hD.sub (ws' := ([(ya, .inr (7, [.int (nI sc), y1, y2, .ref li, .ref he, .ref so, .ref we, .ref le, y8, .ref so2, y10])), (he, .inl (xI g, 12, .inl (fun j => nI (hgt j)))), (so, .inl (xM g, 12, .inr (.inr (.inr (.inr (fun i => if i < 12 then some (rr i) else none))))))] ++ (xRN (xI g) 12 5 rr sd ++ []))) [0, 2, 3, 4, 5, 6, 7, 8, 9, 10, 11, 12, 13, 14, 15] (by decide) rfl
            have hFc := xFree hS hA
            refine va_calli (va_runV (As := [.int (nI k)]) (rest := [.ref ya]) ⟨hx, hb, hml, hown, hts⟩ (y_uppermost l g H.size ya he so k rr (.int (nI sc)) y1 y2 (.ref li) (.ref we) (.ref le) y8 (.ref so2) y10 hgt sd (by first | assumption | omega) (by first | assumption | omega) b_hgt b_sd) (cwV 1 hts gX7_makeHelpingMove_X7_uppermost rfl rfl rfl (by decide +kernel) ⟨Nat.le_of_ble_eq_true rfl, Nat.le_of_ble_eq_true rfl⟩) ⟨xB.blind, va_recv hK hPc (ci := 7) (q0 := 0) rfl rfl, fun U9 hU9 hW9 => ⟨rfl, xB.mk hPc hK hDc hU9 hW9⟩⟩ rfl rfl hl.1 rfl (lv_room (Nat.le_of_ble_eq_true rfl)) dX7_makeHelpingMove_39 ⟨Nat.le_of_ble_eq_true rfl, Nat.le_of_ble_eq_true rfl⟩) hS (fun q _ h => hFc q h) hFc (fun r_10 _ t H1 locs ht hvm hw_11 hB hz1 hk1 hS => ?_)
            have hP := xSame hP hk1
            generalize H1 = H at hP hS ⊢
            have hP : va_P (xD g) vwCl ([(ya, .inr (7, [.int (nI sc), y1, y2, .ref li, .ref he, .ref so, .ref we, .ref le, y8, .ref so2, y10])), (li, .inl (xI g, 12, .inl (fun j => nI (lim j)))), (he, .inl (xI g, 12, .inl (fun j => nI (hgt j)))), (so, .inl (xM g, 12, .inr (.inr (.inr (.inr (fun i => if i < 12 then some (rr i) else none))))))] ++ (xRN (xI g) 12 5 rr sd ++ [(we, .inl (xI g, 24, .inl (fun j => iI (wt j)))), (le, .inl (xI g, 24, .inl (fun j => iI (lv j)))), (so2, .inl (xI g, 24, .inl (fun j => iI (oo j))))])) H := hP
            have hD : va_D A ([(ya, .inr (7, [.int (nI sc), y1, y2, .ref li, .ref he, .ref so, .ref we, .ref le, y8, .ref so2, y10])), (li, .inl (xI g, 12, .inl (fun j => nI (lim j)))), (he, .inl (xI g, 12, .inl (fun j => nI (hgt j)))), (so, .inl (xM g, 12, .inr (.inr (.inr (.inr (fun i => if i < 12 then some (rr i) else none))))))] ++ (xRN (xI g) 12 5 rr sd ++ [(we, .inl (xI g, 24, .inl (fun j => iI (wt j)))), (le, .inl (xI g, 24, .inl (fun j => iI (lv j)))), (so2, .inl (xI g, 24, .inl (fun j => iI (oo j))))])) := hD
            try dsimp only at hw_11
            obtain rfl : r_10 = nI (yTop hgt sd k) := hw_11
            refine lv_iload_n hx hb dX7_makeHelpingMove_42 rfl (lv_at hl 0 rfl) ?_
            have hPc := hP.sub (ws' := ([(ya, .inr (7, [.int (nI sc), y1, y2, .ref li, .ref he, .ref so, .ref we, .ref le, y8, .ref so2, y10])), (li, .inl (xI g, 12, .inl (fun j => nI (lim j)))), (he, .inl (xI g, 12, .inl (fun j => nI (hgt j)))), (so, .inl (xM g, 12, .inr (.inr (.inr (.inr (fun i => if i < 12 then some (rr i) else none))))))] ++ (xRN (xI g) 12 5 rr sd ++ [(we, .inl (xI g, 24, .inl (fun j => iI (wt j)))), (le, .inl (xI g, 24, .inl (fun j => iI (lv j))))]))) [0, 1, 2, 3, 4, 5, 6, 7, 8, 9, 10, 11, 12, 13, 14, 15, 16, 17] rfl
            have hDc := hD.sub (ws' := ([(ya, .inr (7, [.int (nI sc), y1, y2, .ref li, .ref he, .ref so, .ref we, .ref le, y8, .ref so2, y10])), (li, .inl (xI g, 12, .inl (fun j => nI (lim j)))), (he, .inl (xI g, 12, .inl (fun j => nI (hgt j)))), (so, .inl (xM g, 12, .inr (.inr (.inr (.inr (fun i => if i < 12 then some (rr i) else none))))))] ++ (xRN (xI g) 12 5 rr sd ++ [(we, .inl (xI g, 24, .inl (fun j => iI (wt j)))), (le, .inl (xI g, 24, .inl (fun j => iI (lv j))))]))) [0, 1, 2, 3, 4, 5, 6, 7, 8, 9, 10, 11, 12, 13, 14, 15, 16, 17] (by decide) rfl
            have hFc := xFree hS hA
            refine va_calli (va_runV (As := [.int (nI (yTop hgt sd k)), .int (nI k)]) (rest := []) ⟨hx, hb, hml, hown, hts⟩ (y_stackWithoutBlocking l g H.size ya li he so we le sc (yTop hgt sd k) k rr y1 y2 y8 (.ref so2) y10 lim hgt sd wt lv (by first | assumption | omega) (by first | assumption | omega) (by first | assumption | omega) b_lim b_hgt b_sd b_wt b_lv) (cwV 2 hts gX7_makeHelpingMove_X7_stackWithoutBlocking rfl rfl rfl (by decide +kernel) ⟨Nat.le_of_ble_eq_true rfl, Nat.le_of_ble_eq_true rfl⟩) ⟨xB.blind, va_recv hK hPc (ci := 7) (q0 := 0) rfl rfl, fun U9 hU9 hW9 => ⟨rfl, xB.mk hPc hK hDc hU9 hW9⟩⟩ rfl rfl hl.1 rfl (lv_room (Nat.le_of_ble_eq_true rfl)) dX7_makeHelpingMove_43 ⟨Nat.le_of_ble_eq_true rfl, Nat.le_of_ble_eq_true rfl⟩) hS (fun q _ h => hFc q h) hFc (fun r_12 _ t H1 locs ht hvm hw_13 hB hz1 hk1 hS => ?_)
            have hP := xSame hP hk1
            generalize H1 = H at hP hS ⊢
            have hP : va_P (xD g) vwCl ([(ya, .inr (7, [.int (nI sc), y1, y2, .ref li, .ref he, .ref so, .ref we, .ref le, y8, .ref so2, y10])), (li, .inl (xI g, 12, .inl (fun j => nI (lim j)))), (he, .inl (xI g, 12, .inl (fun j => nI (hgt j)))), (so, .inl (xM g, 12, .inr (.inr (.inr (.inr (fun i => if i < 12 then some (rr i) else none))))))] ++ (xRN (xI g) 12 5 rr sd ++ [(we, .inl (xI g, 24, .inl (fun j => iI (wt j)))), (le, .inl (xI g, 24, .inl (fun j => iI (lv j)))), (so2, .inl (xI g, 24, .inl (fun j => iI (oo j))))])) H := hP
            have hD : va_D A ([(ya, .inr (7, [.int (nI sc), y1, y2, .ref li, .ref he, .ref so, .ref we, .ref le, y8, .ref so2, y10])), (li, .inl (xI g, 12, .inl (fun j => nI (lim j)))), (he, .inl (xI g, 12, .inl (fun j => nI (hgt j)))), (so, .inl (xM g, 12, .inr (.inr (.inr (.inr (fun i => if i < 12 then some (rr i) else none))))))] ++ (xRN (xI g) 12 5 rr sd ++ [(we, .inl (xI g, 24, .inl (fun j => iI (wt j)))), (le, .inl (xI g, 24, .inl (fun j => iI (lv j)))), (so2, .inl (xI g, 24, .inl (fun j => iI (oo j))))])) := hD
            try dsimp only at hw_13
            rcases hw_13 with ⟨t9, ht1, rfl, ht3, ht4, ht5⟩ | rfl
            · have hne : k ≠ t9 := fun q => ht3 q.symm
              have hh5 : nV hgt k (hgt k - 1) t9 < 5 := by simp only [nV, if_neg (show ¬ t9 = k from ht3)]; have z := ht4.1; have z2 := b_lim t9; omega
              have hmv := yBl_mv (lv := lv) (Y := (hgt, sd, oo)) (show k < sc by omega) ht1 hne (show 1 < hgt k by omega) hw_9 ht5
              have hok2 := yMv_ok hok (show k < sc by omega) ht1 hne (show 0 < hgt k by omega) ht4.1
              refine lv_istore_n (lv' := [(2, .int (nI t9)), (1, .int (nI k)), (0, .ref ya)]) hx hb dX7_makeHelpingMove_46 rfl hl (by decide) rfl (fun ls hl => ?_)
              refine lv_iload_n hx hb dX7_makeHelpingMove_47 rfl (lv_at hl 0 rfl) ?_
              refine lv_if_lt (tgt := 63) hx hb dX7_makeHelpingMove_48 (by decide) (fun c_14 => ?_) (fun c_14 => ?_)
              · have nc_14 := (nI_ltI (a := t9) (b := 0) (by omega) (by omega)).mp c_14
                refine lv_iinc (v := nI (k + 1)) (lv' := [(1, .int (nI (k + 1))), (2, .int (nI t9)), (0, .ref ya)]) hx hb dX7_makeHelpingMove_63 hl (k := 1) rfl (nI_add k 1) (by decide) rfl (fun ls hl => ?_)
                refine lv_goto (tgt := 2) hx hb dX7_makeHelpingMove_66 (by decide) ?_
                exact ih2 (k + 1) _ _ _ (by omega) (by omega) hP hD hS (lv_sub hl [0, 2] rfl)
              · have nc_14 := mt (nI_ltI (a := t9) (b := 0) (by omega) (by omega)).mpr c_14
                refine lv_aload_n hx hb dX7_makeHelpingMove_51 rfl (lv_at hl 2 rfl) ?_
                refine lv_aload_n hx hb dX7_makeHelpingMove_52 rfl (lv_at hl 2 rfl) ?_
                refine lv_iload_n hx hb dX7_makeHelpingMove_53 rfl (lv_at hl 1 rfl) ?_
                have hPc := hP.sub (ws' := ([(ya, .inr (7, [.int (nI sc), y1, y2, .ref li, .ref he, .ref so, .ref we, .ref le, y8, .ref so2, y10])), (he, .inl (xI g, 12, .inl (fun j => nI (hgt j)))), (so, .inl (xM g, 12, .inr (.inr (.inr (.inr (fun i => if i < 12 then some (rr i) else none))))))] ++ (xRN (xI g) 12 5 rr sd ++ [(so2, .inl (xI g, 24, .inl (fun j => iI (oo j))))]))) [0, 2, 3, 4, 5, 6, 7, 8, 9, 10, 11, 12, 13, 14, 15, 18] rfl
                have hDc := hD.sub (ws' := ([(ya, .inr (7, [.int (nI sc), y1, y2, .ref li, .ref he, .ref so, .ref we, .ref le, y8, .ref so2, y10])), (he, .inl (xI g, 12, .inl (fun j => nI (hgt j)))), (so, .inl (xM g, 12, .inr (.inr (.inr (.inr (fun i => if i < 12 then some (rr i) else none))))))] ++ (xRN (xI g) 12 5 rr sd ++ [(so2, .inl (xI g, 24, .inl (fun j => iI (oo j))))]))) [0, 2, 3, 4, 5, 6, 7, 8, 9, 10, 11, 12, 13, 14, 15, 18] (by decide) rfl
                have hFc := va_free (wc := ([(ya, .inr (7, [.int (nI sc), y1, y2, .ref li, .ref he, .ref so, .ref we, .ref le, y8, .ref so2, y10])), (he, .inl (xI g, 12, .inl (fun j => nI (hgt j)))), (so, .inl (xM g, 12, .inr (.inr (.inr (.inr (fun i => if i < 12 then some (rr i) else none))))))] ++ (xRN (xI g) 12 5 rr sd ++ [(so2, .inl (xI g, 24, .inl (fun j => iI (oo j))))]))) hD hS hA [0, 2, 3, 4, 5, 6, 7, 8, 9, 10, 11, 12, 13, 14, 15, 18] rfl
                refine va_calli (va_runV (As := [.int (nI k)]) (rest := [.ref ya]) ⟨hx, hb, hml, hown, hts⟩ (y_lift l g H.size ya he so so2 k rr (.int (nI sc)) y1 y2 (.ref li) (.ref we) (.ref le) y8 y10 hgt sd oo (by first | assumption | omega) (by first | assumption | omega) b_hgt b_sd b_oo) (cwV 1 hts gX7_makeHelpingMove_X7_lift rfl rfl rfl (by decide +kernel) ⟨Nat.le_of_ble_eq_true rfl, Nat.le_of_ble_eq_true rfl⟩) ⟨xB.blind, va_recv hK hPc (ci := 7) (q0 := 0) rfl rfl, fun U9 hU9 hW9 => ⟨rfl, xB.mk hPc hK hDc hU9 hW9⟩⟩ rfl rfl hl.1 rfl (lv_room (Nat.le_of_ble_eq_true rfl)) dX7_makeHelpingMove_54 ⟨Nat.le_of_ble_eq_true rfl, Nat.le_of_ble_eq_true rfl⟩) hS (fun q _ h => hFc q h) hFc (fun r_15 _ t H1 locs ht hvm hw_16 hB hz1 hk1 hS => ?_)
                obtain ⟨hb_17, hb_18, hP1, hK1, hD1⟩ := hB
                rw [ht] at hP1
                obtain ⟨hP, hD⟩ := va_join (wr := [(li, .inl (xI g, 12, .inl (fun j => nI (lim j)))), (we, .inl (xI g, 24, .inl (fun j => iI (wt j)))), (le, .inl (xI g, 24, .inl (fun j => iI (lv j))))]) (w1 := ([(ya, .inr (7, [.int (nI sc), y1, y2, .ref li, .ref he, .ref so, .ref we, .ref le, y8, .ref so2, y10])), (he, .inl (xI g, 12, .inl (fun j => nI ((nV hgt k (hgt k - 1)) j)))), (so, .inl (xM g, 12, .inr (.inr (.inr (.inr (fun i => if i < 12 then some (rr i) else none))))))] ++ (xRN (xI g) 12 5 rr sd ++ [(so2, .inl (xI g, 24, .inl (fun j => iI ((zU oo (yTop hgt sd k) (-1)) j))))]))) hP hD [0, 2, 3, 4, 5, 6, 7, 8, 9, 10, 11, 12, 13, 14, 15, 18] [1, 16, 17] rfl rfl (by decide) (by decide) hk1 hFc hP1 hD1
                generalize H1 = H at hP hS ⊢
                have hP : va_P (xD g) vwCl ([(li, .inl (xI g, 12, .inl (fun j => nI (lim j)))), (we, .inl (xI g, 24, .inl (fun j => iI (wt j)))), (le, .inl (xI g, 24, .inl (fun j => iI (lv j)))), (ya, .inr (7, [.int (nI sc), y1, y2, .ref li, .ref he, .ref so, .ref we, .ref le, y8, .ref so2, y10])), (he, .inl (xI g, 12, .inl (fun j => nI ((nV hgt k (hgt k - 1)) j)))), (so, .inl (xM g, 12, .inr (.inr (.inr (.inr (fun i => if i < 12 then some (rr i) else none))))))] ++ (xRN (xI g) 12 5 rr sd ++ [(so2, .inl (xI g, 24, .inl (fun j => iI ((zU oo (yTop hgt sd k) (-1)) j))))])) H := hP
                have hD : va_D A ([(li, .inl (xI g, 12, .inl (fun j => nI (lim j)))), (we, .inl (xI g, 24, .inl (fun j => iI (wt j)))), (le, .inl (xI g, 24, .inl (fun j => iI (lv j)))), (ya, .inr (7, [.int (nI sc), y1, y2, .ref li, .ref he, .ref so, .ref we, .ref le, y8, .ref so2, y10])), (he, .inl (xI g, 12, .inl (fun j => nI ((nV hgt k (hgt k - 1)) j)))), (so, .inl (xM g, 12, .inr (.inr (.inr (.inr (fun i => if i < 12 then some (rr i) else none))))))] ++ (xRN (xI g) 12 5 rr sd ++ [(so2, .inl (xI g, 24, .inl (fun j => iI ((zU oo (yTop hgt sd k) (-1)) j))))])) := hD
                try dsimp only at hw_16
                obtain rfl : r_15 = nI (yTop hgt sd k) := hw_16
                refine lv_iload_n hx hb dX7_makeHelpingMove_57 rfl (lv_at hl 0 rfl) ?_
                have hPc := hP.sub (ws' := ([(ya, .inr (7, [.int (nI sc), y1, y2, .ref li, .ref he, .ref so, .ref we, .ref le, y8, .ref so2, y10])), (he, .inl (xI g, 12, .inl (fun j => nI ((nV hgt k (hgt k - 1)) j)))), (so, .inl (xM g, 12, .inr (.inr (.inr (.inr (fun i => if i < 12 then some (rr i) else none))))))] ++ (xRN (xI g) 12 5 rr sd ++ [(so2, .inl (xI g, 24, .inl (fun j => iI ((zU oo (yTop hgt sd k) (-1)) j))))]))) [3, 4, 5, 6, 7, 8, 9, 10, 11, 12, 13, 14, 15, 16, 17, 18] rfl
                have hDc := hD.sub (ws' := ([(ya, .inr (7, [.int (nI sc), y1, y2, .ref li, .ref he, .ref so, .ref we, .ref le, y8, .ref so2, y10])), (he, .inl (xI g, 12, .inl (fun j => nI ((nV hgt k (hgt k - 1)) j)))), (so, .inl (xM g, 12, .inr (.inr (.inr (.inr (fun i => if i < 12 then some (rr i) else none))))))] ++ (xRN (xI g) 12 5 rr sd ++ [(so2, .inl (xI g, 24, .inl (fun j => iI ((zU oo (yTop hgt sd k) (-1)) j))))]))) [3, 4, 5, 6, 7, 8, 9, 10, 11, 12, 13, 14, 15, 16, 17, 18] (by decide) rfl
                have hFc := va_free (wc := ([(ya, .inr (7, [.int (nI sc), y1, y2, .ref li, .ref he, .ref so, .ref we, .ref le, y8, .ref so2, y10])), (he, .inl (xI g, 12, .inl (fun j => nI ((nV hgt k (hgt k - 1)) j)))), (so, .inl (xM g, 12, .inr (.inr (.inr (.inr (fun i => if i < 12 then some (rr i) else none))))))] ++ (xRN (xI g) 12 5 rr sd ++ [(so2, .inl (xI g, 24, .inl (fun j => iI ((zU oo (yTop hgt sd k) (-1)) j))))]))) hD hS hA [3, 4, 5, 6, 7, 8, 9, 10, 11, 12, 13, 14, 15, 16, 17, 18] rfl
                refine va_callv (va_runV (As := [.int (nI (yTop hgt sd k)), .int (nI t9)]) (rest := []) ⟨hx, hb, hml, hown, hts⟩ (y_putOn l g H.size ya he so so2 (yTop hgt sd k) t9 rr (.int (nI sc)) y1 y2 (.ref li) (.ref we) (.ref le) y8 y10 (nV hgt k (hgt k - 1)) sd (zU oo (yTop hgt sd k) (-1)) (by first | assumption | omega) (by first | assumption | omega) (by first | assumption | omega) hb_17 b_sd hb_18) (cwV 2 hts gX7_makeHelpingMove_X7_putOn rfl rfl rfl (by decide +kernel) ⟨Nat.le_of_ble_eq_true rfl, Nat.le_of_ble_eq_true rfl⟩) ⟨xB.blind, va_recv hK hPc (ci := 7) (q0 := 0) rfl rfl, fun U9 hU9 hW9 => ⟨rfl, xB.mk hPc hK hDc hU9 hW9⟩⟩ rfl rfl hl.1 rfl (lv_room (Nat.le_of_ble_eq_true rfl)) dX7_makeHelpingMove_58 ⟨Nat.le_of_ble_eq_true rfl, Nat.le_of_ble_eq_true rfl⟩) hS (fun q _ h => hFc q h) hFc (fun _ t H1 locs ht hvm hw_20 hB hz1 hk1 hS => ?_)
                obtain ⟨hb_21, hb_22, hb_23, hP1, hK1, hD1⟩ := hB
                rw [ht] at hP1
                obtain ⟨hP, hD⟩ := va_join (wr := [(li, .inl (xI g, 12, .inl (fun j => nI (lim j)))), (we, .inl (xI g, 24, .inl (fun j => iI (wt j)))), (le, .inl (xI g, 24, .inl (fun j => iI (lv j))))]) (w1 := ([(ya, .inr (7, [.int (nI sc), y1, y2, .ref li, .ref he, .ref so, .ref we, .ref le, y8, .ref so2, y10])), (he, .inl (xI g, 12, .inl (fun j => nI ((nV (nV hgt k (hgt k - 1)) t9 ((nV hgt k (hgt k - 1)) t9 + 1)) j)))), (so, .inl (xM g, 12, .inr (.inr (.inr (.inr (fun i => if i < 12 then some (rr i) else none))))))] ++ (xRN (xI g) 12 5 rr (nV2 sd t9 ((nV hgt k (hgt k - 1)) t9) (yTop hgt sd k)) ++ [(so2, .inl (xI g, 24, .inl (fun j => iI ((zU (zU oo (yTop hgt sd k) (-1)) (yTop hgt sd k) ((t9 : Nat) : Int)) j))))]))) hP hD [3, 4, 5, 6, 7, 8, 9, 10, 11, 12, 13, 14, 15, 16, 17, 18] [0, 1, 2] rfl rfl (by decide) (by decide) hk1 hFc hP1 hD1
                generalize H1 = H at hP hS ⊢
                have hP : va_P (xD g) vwCl ([(li, .inl (xI g, 12, .inl (fun j => nI (lim j)))), (we, .inl (xI g, 24, .inl (fun j => iI (wt j)))), (le, .inl (xI g, 24, .inl (fun j => iI (lv j)))), (ya, .inr (7, [.int (nI sc), y1, y2, .ref li, .ref he, .ref so, .ref we, .ref le, y8, .ref so2, y10])), (he, .inl (xI g, 12, .inl (fun j => nI ((nV (nV hgt k (hgt k - 1)) t9 ((nV hgt k (hgt k - 1)) t9 + 1)) j)))), (so, .inl (xM g, 12, .inr (.inr (.inr (.inr (fun i => if i < 12 then some (rr i) else none))))))] ++ (xRN (xI g) 12 5 rr (nV2 sd t9 ((nV hgt k (hgt k - 1)) t9) (yTop hgt sd k)) ++ [(so2, .inl (xI g, 24, .inl (fun j => iI ((zU (zU oo (yTop hgt sd k) (-1)) (yTop hgt sd k) ((t9 : Nat) : Int)) j))))])) H := hP
                have hD : va_D A ([(li, .inl (xI g, 12, .inl (fun j => nI (lim j)))), (we, .inl (xI g, 24, .inl (fun j => iI (wt j)))), (le, .inl (xI g, 24, .inl (fun j => iI (lv j)))), (ya, .inr (7, [.int (nI sc), y1, y2, .ref li, .ref he, .ref so, .ref we, .ref le, y8, .ref so2, y10])), (he, .inl (xI g, 12, .inl (fun j => nI ((nV (nV hgt k (hgt k - 1)) t9 ((nV hgt k (hgt k - 1)) t9 + 1)) j)))), (so, .inl (xM g, 12, .inr (.inr (.inr (.inr (fun i => if i < 12 then some (rr i) else none))))))] ++ (xRN (xI g) 12 5 rr (nV2 sd t9 ((nV hgt k (hgt k - 1)) t9) (yTop hgt sd k)) ++ [(so2, .inl (xI g, 24, .inl (fun j => iI ((zU (zU oo (yTop hgt sd k) (-1)) (yTop hgt sd k) ((t9 : Nat) : Int)) j))))])) := hD
                try dsimp only at hw_20
                refine lv_iconst (v := 1) hx hb dX7_makeHelpingMove_61 (by decide) ?_
                have hP9 := hP.sub (ws' := ([(ya, .inr (7, [.int (nI sc), y1, y2, .ref li, .ref he, .ref so, .ref we, .ref le, y8, .ref so2, y10])), (li, .inl (xI g, 12, .inl (fun j => nI (lim j)))), (he, .inl (xI g, 12, .inl (fun j => nI ((nV (nV hgt k (hgt k - 1)) t9 ((nV hgt k (hgt k - 1)) t9 + 1)) j)))), (so, .inl (xM g, 12, .inr (.inr (.inr (.inr (fun i => if i < 12 then some (rr i) else none))))))] ++ (xRN (xI g) 12 5 rr (nV2 sd t9 ((nV hgt k (hgt k - 1)) t9) (yTop hgt sd k)) ++ [(we, .inl (xI g, 24, .inl (fun j => iI (wt j)))), (le, .inl (xI g, 24, .inl (fun j => iI (lv j)))), (so2, .inl (xI g, 24, .inl (fun j => iI ((zU (zU oo (yTop hgt sd k) (-1)) (yTop hgt sd k) ((t9 : Nat) : Int)) j))))]))) [3, 0, 4, 5, 6, 7, 8, 9, 10, 11, 12, 13, 14, 15, 16, 17, 1, 2, 18] rfl
                have hD9 := hD.sub (ws' := ([(ya, .inr (7, [.int (nI sc), y1, y2, .ref li, .ref he, .ref so, .ref we, .ref le, y8, .ref so2, y10])), (li, .inl (xI g, 12, .inl (fun j => nI (lim j)))), (he, .inl (xI g, 12, .inl (fun j => nI ((nV (nV hgt k (hgt k - 1)) t9 ((nV hgt k (hgt k - 1)) t9 + 1)) j)))), (so, .inl (xM g, 12, .inr (.inr (.inr (.inr (fun i => if i < 12 then some (rr i) else none))))))] ++ (xRN (xI g) 12 5 rr (nV2 sd t9 ((nV hgt k (hgt k - 1)) t9) (yTop hgt sd k)) ++ [(we, .inl (xI g, 24, .inl (fun j => iI (wt j)))), (le, .inl (xI g, 24, .inl (fun j => iI (lv j)))), (so2, .inl (xI g, 24, .inl (fun j => iI ((zU (zU oo (yTop hgt sd k) (-1)) (yTop hgt sd k) ((t9 : Nat) : Int)) j))))]))) [3, 0, 4, 5, 6, 7, 8, 9, 10, 11, 12, 13, 14, 15, 16, 17, 1, 2, 18] (by decide) rfl
                exact W.zret (v := 1) hx hb hr (by rfl) (fun t ht hW => ⟨⟨1, (yMv (hgt, sd, oo) k t9), rfl, (Or.inl ⟨rfl, hok2, hmv⟩), ⟨hb_21, hb_22, hb_23, by rw [ht]; exact hP9, va_K.moved hW.alike hK, hD9⟩⟩, hS.F ht⟩) hS.2.2 dX7_makeHelpingMove_62
            · refine lv_istore_n (lv' := [(2, .int (-1)), (1, .int (nI k)), (0, .ref ya)]) hx hb dX7_makeHelpingMove_46 rfl hl (by decide) rfl (fun ls hl => ?_)
              refine lv_iload_n hx hb dX7_makeHelpingMove_47 rfl (lv_at hl 0 rfl) ?_
              refine lv_if_lt (tgt := 63) hx hb dX7_makeHelpingMove_48 (by decide) (fun _ => ?_) (fun c0 => absurd (by decide) c0)
              refine lv_iinc (v := nI (k + 1)) (lv' := [(1, .int (nI (k + 1))), (2, .int (-1)), (0, .ref ya)]) hx hb dX7_makeHelpingMove_63 hl (k := 1) rfl (nI_add k 1) (by decide) rfl (fun ls hl => ?_)
              refine lv_goto (tgt := 2) hx hb dX7_makeHelpingMove_66 (by decide) ?_
              exact ih2 (k + 1) _ _ _ (by omega) (by omega) hP hD hS (lv_sub hl [0, 2] rfl)
          · refine lv_if_eq (tgt := 63) hx hb dX7_makeHelpingMove_33 (by decide) (fun _ => ?_) (fun c0 => absurd (by decide) c0)
            refine lv_iinc (v := nI (k + 1)) (lv' := [(1, .int (nI (k + 1))), (0, .ref ya)]) hx hb dX7_makeHelpingMove_63 hl (k := 0) rfl (nI_add k 1) (by decide) rfl (fun ls hl => ?_)
            refine lv_goto (tgt := 2) hx hb dX7_makeHelpingMove_66 (by decide) ?_
            exact ih2 (k + 1) _ _ _ (by omega) (by omega) hP hD hS (lv_sub hl [0, 1] rfl)
  exact hloop2 (sc + 1) 0 _ _ _ (by omega) (by omega) hP hD hS (by rw [(show nI 0 = (0 : Int32) from by decide)]; exact lv_sub hl [0, 1] rfl)
