theorem dL_inYard_0 : decode cL_inYard 0 = .ok (.iconst 0, 1) := by decide +kernel
theorem dL_inYard_1 : decode cL_inYard 1 = .ok (.istore_n 2, 1) := by decide +kernel
theorem dL_inYard_2 : decode cL_inYard 2 = .ok (.iconst 0, 1) := by decide +kernel
theorem dL_inYard_3 : decode cL_inYard 3 = .ok (.istore_n 3, 1) := by decide +kernel
theorem dL_inYard_4 : decode cL_inYard 4 = .ok (.iload_n 3, 1) := by decide +kernel
theorem dL_inYard_5 : decode cL_inYard 5 = .ok (.aload_n 0, 1) := by decide +kernel
theorem dL_inYard_6 : decode cL_inYard 6 = .ok (.invokevirtual 73, 3) := by decide +kernel
set_option maxRecDepth 20000 in
theorem ggL_inYard_X8_containers : GoodIn wsL_inYard wsX8_containers := goodIn_r _ [5, 6, 7, 20, 21, 22, 23, 24, 25, 26, 27, 28, 29, 30, 31, 32, 33, 34, 35, 36, 37, 38, 39, 40] rfl (by decide +kernel)
set_option maxRecDepth 20000 in
theorem gL_inYard_X8_containers : GoodIn wsL_inYard (wsV RL 73 RX8 yX8_containers wsX8_containers) := goodIn_app (goodIn_of _ (by decide +kernel)) ggL_inYard_X8_containers
theorem dL_inYard_9 : decode cL_inYard 9 = .ok (.if_icmp .ge 26, 3) := by decide +kernel
theorem dL_inYard_35 : decode cL_inYard 35 = .ok (.iload_n 2, 1) := by decide +kernel
theorem dL_inYard_36 : decode cL_inYard 36 = .ok (.ireturn, 1) := by decide +kernel
theorem dL_inYard_12 : decode cL_inYard 12 = .ok (.iload_n 2, 1) := by decide +kernel
theorem dL_inYard_13 : decode cL_inYard 13 = .ok (.aload_n 0, 1) := by decide +kernel
theorem dL_inYard_14 : decode cL_inYard 14 = .ok (.iload_n 3, 1) := by decide +kernel
theorem dL_inYard_15 : decode cL_inYard 15 = .ok (.invokevirtual 77, 3) := by decide +kernel
set_option maxRecDepth 20000 in
theorem ggL_inYard_X8_stateOf : GoodIn wsL_inYard wsX8_stateOf := goodIn_ca (goodIn_r _ [11, 12, 13, 14, 15, 16, 4, 17, 18, 19, 6, 7, 20, 21, 22, 23, 24, 25, 26, 27, 28, 29, 30, 31, 32, 33, 34, 41, 42, 43, 44, 45, 46, 47, 48, 49, 50, 51, 35, 36, 37, 38, 39, 40] rfl (by decide +kernel)) (goodIn_sub (fun _ h => List.mem_cons_of_mem _ (List.mem_append_right _ h)) (by decide +kernel))
set_option maxRecDepth 20000 in
theorem gL_inYard_X8_stateOf : GoodIn wsL_inYard (wsV RL 77 RX8 yX8_stateOf wsX8_stateOf) := goodIn_app (goodIn_of _ (by decide +kernel)) ggL_inYard_X8_stateOf
theorem dL_inYard_18 : decode cL_inYard 18 = .ok (.iload_n 1, 1) := by decide +kernel
theorem dL_inYard_19 : decode cL_inYard 19 = .ok (.if_icmp .ne 7, 3) := by decide +kernel
theorem dL_inYard_26 : decode cL_inYard 26 = .ok (.iconst 0, 1) := by decide +kernel
theorem dL_inYard_27 : decode cL_inYard 27 = .ok (.iadd, 1) := by decide +kernel
theorem dL_inYard_28 : decode cL_inYard 28 = .ok (.istore_n 2, 1) := by decide +kernel
theorem dL_inYard_29 : decode cL_inYard 29 = .ok (.iinc 3 1, 3) := by decide +kernel
theorem dL_inYard_32 : decode cL_inYard 32 = .ok (.goto (-28), 3) := by decide +kernel
theorem dL_inYard_22 : decode cL_inYard 22 = .ok (.iconst 1, 1) := by decide +kernel
theorem dL_inYard_23 : decode cL_inYard 23 = .ok (.goto 4, 3) := by decide +kernel
set_option maxHeartbeats 4000000 in
set_option maxRecDepth 100000 in
theorem l_inYard (l : Launch) (g : xG) (sz : Nat) (ad : Nat → Nat) (ga : Nat → Nat → Nat) (mk : Value) (hs : Value) (aQ : xQ_) (aV : xV_) (aC : xC_) (aP : xP_) (aG : xG_) (aY : xY_) (aN : (Nat → Nat)) (aW : xW_) (aK : xK_) (aS : xS_) (aT : xT_) (w9 : Int)  (hInv : xInv aV aC aP aG aY aN aW aK aS aT) (hn24 : o_n aC ≤ 24) (hw9 : 0 ≤ w9 ∧ w9 ≤ 4) : Met l yL_inYard wsL_inYard ({ frames := 2, cells := 0, slots := 0, locals := 42 }) (va_Pc [.ref (ad 0), .int (iI w9)] (fun U => xB g (SW g ad ga mk hs aQ aV aC aP aG aY aN aW aK aS aT) sz U)) (va_Qi (fun (r : Int32) (_ : Unit) => r = nI (yCnt (o_stt aY) w9 (o_n aC))) (fun (_ : Unit) (_ : State) => True) (va_A [] sz)) 0 0 (va_A [] sz) := by
  refine Met.ofW (cc := cL_inYard) (maxL := 4) (ret := (some .int)) (by decide) rfl ?_
  intro p e s m args below meth c s₁ B hml hv
  obtain ⟨rfl, hsz, hP, hK, hD0⟩ := hv
  have hx := B.exec
  have hb := B.bytes
  have hr := B.returns
  have hts := atoms_spec (ws := wsL_inYard) B.pre
  have hown : s.vm.findClass RL = some m.cls := findClass_of_methodNamed B.named
  have hlocks := B.notSynchronized
  subst hsz
  have hD := hD0
  generalize hAe : va_A [] s.heap.size = A
  have hA : ∀ q : Nat, s.heap.size ≤ q → A q := fun q h => by rw [← hAe]; exact Or.inr h
  have hS : va_S A s.heap s.heap [] := va_S.rf
  have hl := lv_entry ([.ref (ad 0), .int (iI w9)]) (n := 4) (Nat.le_of_ble_eq_true rfl)
  rw [lg_entry_eq]
  generalize (lg_sl ([.ref (ad 0), .int (iI w9)]) ++ List.replicate (4 - (lg_sl ([.ref (ad 0), .int (iI w9)])).length) Slot.unset).toArray = ls at hl ⊢
  have hl : lv_has ls 4 [(0, .ref (ad 0)), (1, .int (iI w9))] := hl
  refine lv_iconst (v := 0) hx hb dL_inYard_0 (by decide) ?_
  refine lv_istore_n (lv' := [(2, .int 0), (0, .ref (ad 0)), (1, .int (iI w9))]) hx hb dL_inYard_1 rfl hl (by decide) rfl (fun ls hl => ?_)
  refine lv_iconst (v := 0) hx hb dL_inYard_2 (by decide) ?_
  refine lv_istore_n (lv' := [(3, .int 0), (2, .int 0), (0, .ref (ad 0)), (1, .int (iI w9))]) hx hb dL_inYard_3 rfl hl (by decide) rfl (fun ls hl => ?_)
  have hloop4 : ∀ (n9 : Nat) (k : Nat) (tg : Nat) (H : Heap) (locs : List Loc) (ls : Array Slot), o_n aC - k < n9 → (k ≤ o_n aC) → (tg = yCnt (o_stt aY) w9 k) → va_P (xD g) vwCl (SW g ad ga mk hs aQ aV aC aP aG aY aN aW aK aS aT) H → va_D (fun _ => True) (SW g ad ga mk hs aQ aV aC aP aG aY aN aW aK aS aT) → va_S A s.heap H locs → lv_has ls 4 [(3, .int (nI k)), (0, .ref (ad 0)), (1, .int (iI w9)), (2, .int (nI tg))] → W p l e (headSpec wsL_inYard ({ frames := 2, cells := 0, slots := 0, locals := 42 })).room s m ([.ref (ad 0), .int (iI w9)] : List Value).toArray below meth c H locs 0 0 (MQ below (va_Qi (fun (r : Int32) (_ : Unit) => r = nI (yCnt (o_stt aY) w9 (o_n aC))) (fun (_ : Unit) (_ : State) => True) (A)) ([.ref (ad 0), .int (iI w9)] : List Value).toArray s 0 0 A) (F0 m 4 ls []) := by
    intro n9
    induction n9 with
    | zero =>
      intro k tg H locs ls hm hk htg hP hD hS hl
      exact absurd hm (Nat.not_lt_zero _)
    | succ n9 ih4 =>
      intro k tg H locs ls hm hk htg hP hD hS hl
      have hbs := hInv.2.2.2.2.1.2.2.2.2.2.1 k
      refine lv_iload_n hx hb dL_inYard_4 rfl (lv_at hl 0 rfl) ?_
      refine lv_aload_n hx hb dL_inYard_5 rfl (lv_at hl 1 rfl) ?_
      have hPc := hP
      have hDc := hD
      have hFc := xFree hS hA
      refine va_calli (va_runV (As := []) (rest := [.int (nI k)]) ⟨hx, hb, hml, hown, hts⟩ (L_containers l g H.size ad ga mk hs aQ aV aC aP aG aY aN aW aK aS aT (show xInv aV aC aP aG aY aN aW aK aS aT from by first | assumption | omega)) (cwV 0 hts gL_inYard_X8_containers rfl rfl rfl (by decide +kernel) ⟨Nat.le_of_ble_eq_true rfl, Nat.le_of_ble_eq_true rfl⟩) ⟨xB.blind, va_recv hK hPc (ci := 8) (q0 := 0) rfl rfl, fun U9 hU9 hW9 => ⟨rfl, xB.mk hPc hK hDc hU9 hW9⟩⟩ rfl rfl hl.1 rfl (lv_room (Nat.le_of_ble_eq_true rfl)) dL_inYard_6 ⟨Nat.le_of_ble_eq_true rfl, Nat.le_of_ble_eq_true rfl⟩) hS (fun q _ h => hFc q h) hFc (fun r_1 _ t H1 locs ht hvm hw_2 hB hz1 hk1 hS => ?_)
      have hP := xSame hP hk1
      generalize H1 = H at hP hS ⊢
      have hP : va_P (xD g) vwCl (SW g ad ga mk hs aQ aV aC aP aG aY aN aW aK aS aT) H := hP
      have hD : va_D (fun _ => True) (SW g ad ga mk hs aQ aV aC aP aG aY aN aW aK aS aT) := hD
      try dsimp only at hw_2
      obtain rfl : r_1 = nI (o_n aC) := hw_2
      refine lv_icmp_ge (tgt := 35) hx hb dL_inYard_9 (by decide) (fun c_3 => ?_) (fun c_3 => ?_)
      · have nc_3 := (nI_leI (a := o_n aC) (b := k) (by omega) (by omega)).mp c_3
        refine lv_iload_n hx hb dL_inYard_35 rfl (lv_at hl 3 rfl) ?_
        exact W.iret (v := nI tg) hx hb hr (fun t ht hW => ⟨⟨nI tg, (), rfl, (by obtain rfl : k = o_n aC := (by omega); rw [htg]), trivial⟩, hS.F ht⟩) hS.2.2 dL_inYard_36
      · have nc_3 := mt (nI_leI (a := o_n aC) (b := k) (by omega) (by omega)).mpr c_3
        refine lv_iload_n hx hb dL_inYard_12 rfl (lv_at hl 3 rfl) ?_
        refine lv_aload_n hx hb dL_inYard_13 rfl (lv_at hl 1 rfl) ?_
        refine lv_iload_n hx hb dL_inYard_14 rfl (lv_at hl 0 rfl) ?_
        have hPc := hP
        have hDc := hD
        have hFc := xFree hS hA
        refine va_calli (va_runV (As := [.int (nI k)]) (rest := [.int (nI tg)]) ⟨hx, hb, hml, hown, hts⟩ (L_stateOf l g H.size ad ga mk hs aQ aV aC aP aG aY aN aW aK aS aT k (show xInv aV aC aP aG aY aN aW aK aS aT from by first | assumption | omega) (show k < (o_n aC) from by first | assumption | omega) (show (o_n aC) ≤ 24 from by first | assumption | omega)) (cwV 1 hts gL_inYard_X8_stateOf rfl rfl rfl (by decide +kernel) ⟨Nat.le_of_ble_eq_true rfl, Nat.le_of_ble_eq_true rfl⟩) ⟨xB.blind, va_recv hK hPc (ci := 8) (q0 := 0) rfl rfl, fun U9 hU9 hW9 => ⟨rfl, xB.mk hPc hK hDc hU9 hW9⟩⟩ rfl rfl hl.1 rfl (lv_room (Nat.le_of_ble_eq_true rfl)) dL_inYard_15 ⟨Nat.le_of_ble_eq_true rfl, Nat.le_of_ble_eq_true rfl⟩) hS (fun q _ h => hFc q h) hFc (fun r_4 _ t H1 locs ht hvm hw_5 hB hz1 hk1 hS => ?_)
        have hP := xSame hP hk1
        generalize H1 = H at hP hS ⊢
        have hP : va_P (xD g) vwCl (SW g ad ga mk hs aQ aV aC aP aG aY aN aW aK aS aT) H := hP
        have hD : va_D (fun _ => True) (SW g ad ga mk hs aQ aV aC aP aG aY aN aW aK aS aT) := hD
        try dsimp only at hw_5
        obtain rfl : r_4 = iI ((o_stt aY) k) := hw_5
        refine lv_iload_n hx hb dL_inYard_18 rfl (lv_at hl 2 rfl) ?_
        refine lv_icmp_ne (tgt := 26) hx hb dL_inYard_19 (by decide) (fun c_6 => ?_) (fun c_6 => ?_)
        · have nc_6 := mt (iEq (a := (o_stt aY) k) (b := w9) rfl rfl (by omega)).mpr c_6
          refine lv_iconst (v := 0) hx hb dL_inYard_26 (by decide) ?_
          refine lv_iadd hx hb dL_inYard_27 ?_
          refine lv_topi (fun v_7 ev => ?_)
          obtain rfl : v_7 = nI (tg + 0) := ev.trans (nI_add tg 0)
          refine lv_istore_n (lv' := [(2, .int (nI (tg + 0))), (3, .int (nI k)), (0, .ref (ad 0)), (1, .int (iI w9))]) hx hb dL_inYard_28 rfl hl (by decide) rfl (fun ls hl => ?_)
          refine lv_iinc (v := nI (k + 1)) (lv' := [(3, .int (nI (k + 1))), (2, .int (nI (tg + 0))), (0, .ref (ad 0)), (1, .int (iI w9))]) hx hb dL_inYard_29 hl (k := 1) rfl (nI_add k 1) (by decide) rfl (fun ls hl => ?_)
          refine lv_goto (tgt := 4) hx hb dL_inYard_32 (by decide) ?_
          exact ih4 (k + 1) (tg + 0) _ _ _ (by omega) (by omega) (by simp only [yCnt]; first | (rw [if_pos (by omega)]; omega) | (rw [if_neg (by omega)]; omega)) hP hD hS (lv_sub hl [0, 2, 3, 1] rfl)
        · have nc_6 := (iEq (a := (o_stt aY) k) (b := w9) rfl rfl (by omega)).mp c_6
          refine lv_iconst (v := 1) hx hb dL_inYard_22 (by decide) ?_
          refine lv_goto (tgt := 27) hx hb dL_inYard_23 (by decide) ?_
          refine lv_iadd hx hb dL_inYard_27 ?_
          refine lv_topi (fun v_8 ev => ?_)
          obtain rfl : v_8 = nI (tg + 1) := ev.trans (nI_add tg 1)
          refine lv_istore_n (lv' := [(2, .int (nI (tg + 1))), (3, .int (nI k)), (0, .ref (ad 0)), (1, .int (iI w9))]) hx hb dL_inYard_28 rfl hl (by decide) rfl (fun ls hl => ?_)
          refine lv_iinc (v := nI (k + 1)) (lv' := [(3, .int (nI (k + 1))), (2, .int (nI (tg + 1))), (0, .ref (ad 0)), (1, .int (iI w9))]) hx hb dL_inYard_29 hl (k := 1) rfl (nI_add k 1) (by decide) rfl (fun ls hl => ?_)
          refine lv_goto (tgt := 4) hx hb dL_inYard_32 (by decide) ?_
          exact ih4 (k + 1) (tg + 1) _ _ _ (by omega) (by omega) (by simp only [yCnt]; first | (rw [if_pos (by omega)]; omega) | (rw [if_neg (by omega)]; omega)) hP hD hS (lv_sub hl [0, 2, 3, 1] rfl)
  exact hloop4 (o_n aC + 1) 0 0 _ _ _ (by omega) (Nat.zero_le _) rfl hP hD hS (by rw [(show nI 0 = (0 : Int32) from by decide)]; exact lv_sub hl [0, 2, 3, 1] rfl)
