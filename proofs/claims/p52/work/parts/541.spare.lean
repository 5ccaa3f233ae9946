theorem dX5_shortenOverSpare_0 : decode cX5_shortenOverSpare 0 = .ok (.iconst 0, 1) := by decide +kernel
theorem dX5_shortenOverSpare_1 : decode cX5_shortenOverSpare 1 = .ok (.istore_n 1, 1) := by decide +kernel
theorem dX5_shortenOverSpare_2 : decode cX5_shortenOverSpare 2 = .ok (.iconst 0, 1) := by decide +kernel
theorem dX5_shortenOverSpare_3 : decode cX5_shortenOverSpare 3 = .ok (.istore_n 2, 1) := by decide +kernel
theorem dX5_shortenOverSpare_4 : decode cX5_shortenOverSpare 4 = .ok (.iload_n 2, 1) := by decide +kernel
theorem dX5_shortenOverSpare_5 : decode cX5_shortenOverSpare 5 = .ok (.bipush 16, 2) := by decide +kernel
theorem dX5_shortenOverSpare_7 : decode cX5_shortenOverSpare 7 = .ok (.if_icmp .gt 88, 3) := by decide +kernel
theorem dX5_shortenOverSpare_95 : decode cX5_shortenOverSpare 95 = .ok (.iload_n 1, 1) := by decide +kernel
theorem dX5_shortenOverSpare_96 : decode cX5_shortenOverSpare 96 = .ok (.ireturn, 1) := by decide +kernel
theorem dX5_shortenOverSpare_10 : decode cX5_shortenOverSpare 10 = .ok (.aload_n 0, 1) := by decide +kernel
theorem dX5_shortenOverSpare_11 : decode cX5_shortenOverSpare 11 = .ok (.getfield 20, 3) := by decide +kernel
theorem dX5_shortenOverSpare_14 : decode cX5_shortenOverSpare 14 = .ok (.iload_n 2, 1) := by decide +kernel
theorem dX5_shortenOverSpare_15 : decode cX5_shortenOverSpare 15 = .ok (.iaload, 1) := by decide +kernel
theorem dX5_shortenOverSpare_16 : decode cX5_shortenOverSpare 16 = .ok (.aload_n 0, 1) := by decide +kernel
theorem dX5_shortenOverSpare_17 : decode cX5_shortenOverSpare 17 = .ok (.getfield 16, 3) := by decide +kernel
theorem dX5_shortenOverSpare_20 : decode cX5_shortenOverSpare 20 = .ok (.iload_n 2, 1) := by decide +kernel
theorem dX5_shortenOverSpare_21 : decode cX5_shortenOverSpare 21 = .ok (.iaload, 1) := by decide +kernel
theorem dX5_shortenOverSpare_22 : decode cX5_shortenOverSpare 22 = .ok (.if_icmp .ge 31, 3) := by decide +kernel
theorem dX5_shortenOverSpare_53 : decode cX5_shortenOverSpare 53 = .ok (.aload_n 0, 1) := by decide +kernel
theorem dX5_shortenOverSpare_54 : decode cX5_shortenOverSpare 54 = .ok (.getfield 20, 3) := by decide +kernel
theorem dX5_shortenOverSpare_57 : decode cX5_shortenOverSpare 57 = .ok (.iload_n 2, 1) := by decide +kernel
theorem dX5_shortenOverSpare_58 : decode cX5_shortenOverSpare 58 = .ok (.iaload, 1) := by decide +kernel
theorem dX5_shortenOverSpare_59 : decode cX5_shortenOverSpare 59 = .ok (.ifCond .le 30, 3) := by decide +kernel
theorem dX5_shortenOverSpare_89 : decode cX5_shortenOverSpare 89 = .ok (.iinc 2 1, 3) := by decide +kernel
theorem dX5_shortenOverSpare_92 : decode cX5_shortenOverSpare 92 = .ok (.goto (-88), 3) := by decide +kernel
theorem dX5_shortenOverSpare_62 : decode cX5_shortenOverSpare 62 = .ok (.aload_n 0, 1) := by decide +kernel
theorem dX5_shortenOverSpare_63 : decode cX5_shortenOverSpare 63 = .ok (.bipush 17, 2) := by decide +kernel
theorem dX5_shortenOverSpare_65 : decode cX5_shortenOverSpare 65 = .ok (.iload_n 2, 1) := by decide +kernel
theorem dX5_shortenOverSpare_66 : decode cX5_shortenOverSpare 66 = .ok (.aload_n 0, 1) := by decide +kernel
theorem dX5_shortenOverSpare_67 : decode cX5_shortenOverSpare 67 = .ok (.getfield 26, 3) := by decide +kernel
theorem dX5_shortenOverSpare_70 : decode cX5_shortenOverSpare 70 = .ok (.iload_n 2, 1) := by decide +kernel
theorem dX5_shortenOverSpare_71 : decode cX5_shortenOverSpare 71 = .ok (.iaload, 1) := by decide +kernel
theorem dX5_shortenOverSpare_72 : decode cX5_shortenOverSpare 72 = .ok (.iconst (-1), 1) := by decide +kernel
theorem dX5_shortenOverSpare_73 : decode cX5_shortenOverSpare 73 = .ok (.invokevirtual 64, 3) := by decide +kernel
set_option maxRecDepth 20000 in
theorem ggX5_shortenOverSpare_X5_shorten : GoodIn wsX5_shortenOverSpare wsX5_shorten := goodIn_r _ [8, 3, 9, 10, 11, 12, 13, 14, 15, 16, 17, 18] rfl (by decide +kernel)
set_option maxRecDepth 20000 in
theorem gX5_shortenOverSpare_X5_shorten : GoodIn wsX5_shortenOverSpare (wsV RX5 64 RX5 yX5_shorten wsX5_shorten) := goodIn_app (goodIn_of _ (by decide +kernel)) ggX5_shortenOverSpare_X5_shorten
theorem dX5_shortenOverSpare_76 : decode cX5_shortenOverSpare 76 = .ok (.ifCond .ne 7, 3) := by decide +kernel
theorem dX5_shortenOverSpare_83 : decode cX5_shortenOverSpare 83 = .ok (.iconst 1, 1) := by decide +kernel
theorem dX5_shortenOverSpare_84 : decode cX5_shortenOverSpare 84 = .ok (.goto 4, 3) := by decide +kernel
theorem dX5_shortenOverSpare_88 : decode cX5_shortenOverSpare 88 = .ok (.istore_n 1, 1) := by decide +kernel
theorem dX5_shortenOverSpare_79 : decode cX5_shortenOverSpare 79 = .ok (.iload_n 1, 1) := by decide +kernel
theorem dX5_shortenOverSpare_80 : decode cX5_shortenOverSpare 80 = .ok (.ifCond .eq 7, 3) := by decide +kernel
theorem dX5_shortenOverSpare_87 : decode cX5_shortenOverSpare 87 = .ok (.iconst 0, 1) := by decide +kernel
theorem dX5_shortenOverSpare_25 : decode cX5_shortenOverSpare 25 = .ok (.aload_n 0, 1) := by decide +kernel
theorem dX5_shortenOverSpare_26 : decode cX5_shortenOverSpare 26 = .ok (.iload_n 2, 1) := by decide +kernel
theorem dX5_shortenOverSpare_27 : decode cX5_shortenOverSpare 27 = .ok (.bipush 17, 2) := by decide +kernel
theorem dX5_shortenOverSpare_29 : decode cX5_shortenOverSpare 29 = .ok (.aload_n 0, 1) := by decide +kernel
theorem dX5_shortenOverSpare_30 : decode cX5_shortenOverSpare 30 = .ok (.getfield 26, 3) := by decide +kernel
theorem dX5_shortenOverSpare_33 : decode cX5_shortenOverSpare 33 = .ok (.bipush 17, 2) := by decide +kernel
theorem dX5_shortenOverSpare_35 : decode cX5_shortenOverSpare 35 = .ok (.iaload, 1) := by decide +kernel
theorem dX5_shortenOverSpare_36 : decode cX5_shortenOverSpare 36 = .ok (.iconst (-1), 1) := by decide +kernel
theorem dX5_shortenOverSpare_37 : decode cX5_shortenOverSpare 37 = .ok (.invokevirtual 64, 3) := by decide +kernel
theorem dX5_shortenOverSpare_40 : decode cX5_shortenOverSpare 40 = .ok (.ifCond .ne 7, 3) := by decide +kernel
theorem dX5_shortenOverSpare_47 : decode cX5_shortenOverSpare 47 = .ok (.iconst 1, 1) := by decide +kernel
theorem dX5_shortenOverSpare_48 : decode cX5_shortenOverSpare 48 = .ok (.goto 4, 3) := by decide +kernel
theorem dX5_shortenOverSpare_52 : decode cX5_shortenOverSpare 52 = .ok (.istore_n 1, 1) := by decide +kernel
theorem dX5_shortenOverSpare_43 : decode cX5_shortenOverSpare 43 = .ok (.iload_n 1, 1) := by decide +kernel
theorem dX5_shortenOverSpare_44 : decode cX5_shortenOverSpare 44 = .ok (.ifCond .eq 7, 3) := by decide +kernel
theorem dX5_shortenOverSpare_51 : decode cX5_shortenOverSpare 51 = .ok (.iconst 0, 1) := by decide +kernel
set_option maxHeartbeats 4000000 in
set_option maxRecDepth 100000 in
theorem g_shortenOverSpare (l : Launch) (g : xG) (sz : Nat) (sg : Nat) (ro : Nat) (us : Nat) (wc : Nat) (nx : Nat) (pu : Nat) (EE : Nat → Nat → Int → Int → Prop) (goal : Nat) (hh : Nat → Int) (g0 : Value) (g1 : Value) (g4 : Value) (room : Nat → Int) (used : Nat → Int) (dd : Nat → Int) (nxt : Nat → Nat) (psh : Nat → Int)  (hp : sPot EE hh) (hhb : ∀ u, -680 ≤ hh u ∧ hh u ≤ 1000000) (hbf : ∃ t T, sBF EE goal dd nxt psh t T) (he1 : ∀ s, s ≤ 16 → used s < room s → EE s 17 0 (-1)) (he2 : ∀ s, s ≤ 16 → 0 < used s → EE 17 s 0 (-1)) (b_room : ∀ j, 0 ≤ room j ∧ room j ≤ 24) (b_used : ∀ j, 0 ≤ used j ∧ used j ≤ 30) (b_dd : ∀ j, (-3000000) ≤ dd j ∧ dd j ≤ 1000000) (b_nxt : ∀ j, nxt j ≤ 17) (b_psh : ∀ j, (-1) ≤ psh j ∧ psh j ≤ 23) : Met l yX5_shortenOverSpare wsX5_shortenOverSpare ({ frames := 1, cells := 0, slots := 0, locals := 24 }) (va_Pc [.ref sg] (fun U => xB g [(sg, .inr (5, [g0, g1, .ref ro, .ref us, g4, .ref wc, .ref nx, .ref pu])), (ro, .inl (xI g, 17, .inl (fun j => iI (room j)))), (us, .inl (xI g, 17, .inl (fun j => iI (used j)))), (wc, .inl (xI g, 18, .inl (fun j => iI (dd j)))), (nx, .inl (xI g, 18, .inl (fun j => nI (nxt j)))), (pu, .inl (xI g, 18, .inl (fun j => iI (psh j))))] sz U)) (va_Qi (fun (r : Int32) (u : Nat → Int) => r = 1 ∨ (r = 0 ∧ u = dd)) (fun (u : Nat → Int) (t : State) => ∃ (n1 : Nat → Nat) (p1 : Nat → Int), ((∃ t T, sBF EE goal u n1 p1 t T) ∧ (∀ x, u x ≤ dd x) ∧ sP1 used room dd u 17) ∧ (∀ j, (-3000000) ≤ u j ∧ u j ≤ 1000000) ∧ (∀ j, n1 j ≤ 17) ∧ (∀ j, (-1) ≤ p1 j ∧ p1 j ≤ 23) ∧ xE g [(sg, .inr (5, [g0, g1, .ref ro, .ref us, g4, .ref wc, .ref nx, .ref pu])), (ro, .inl (xI g, 17, .inl (fun j => iI (room j)))), (us, .inl (xI g, 17, .inl (fun j => iI (used j)))), (wc, .inl (xI g, 18, .inl (fun j => iI (u j)))), (nx, .inl (xI g, 18, .inl (fun j => nI (n1 j)))), (pu, .inl (xI g, 18, .inl (fun j => iI (p1 j))))] (va_A [(sg, .inr (5, [g0, g1, .ref ro, .ref us, g4, .ref wc, .ref nx, .ref pu])), (ro, .inl (xI g, 17, .inl (fun j => iI (room j)))), (us, .inl (xI g, 17, .inl (fun j => iI (used j)))), (wc, .inl (xI g, 18, .inl (fun j => iI (dd j)))), (nx, .inl (xI g, 18, .inl (fun j => nI (nxt j)))), (pu, .inl (xI g, 18, .inl (fun j => iI (psh j))))] sz) t) (va_A [(sg, .inr (5, [g0, g1, .ref ro, .ref us, g4, .ref wc, .ref nx, .ref pu])), (ro, .inl (xI g, 17, .inl (fun j => iI (room j)))), (us, .inl (xI g, 17, .inl (fun j => iI (used j)))), (wc, .inl (xI g, 18, .inl (fun j => iI (dd j)))), (nx, .inl (xI g, 18, .inl (fun j => nI (nxt j)))), (pu, .inl (xI g, 18, .inl (fun j => iI (psh j))))] sz)) 0 0 (va_A [(sg, .inr (5, [g0, g1, .ref ro, .ref us, g4, .ref wc, .ref nx, .ref pu])), (ro, .inl (xI g, 17, .inl (fun j => iI (room j)))), (us, .inl (xI g, 17, .inl (fun j => iI (used j)))), (wc, .inl (xI g, 18, .inl (fun j => iI (dd j)))), (nx, .inl (xI g, 18, .inl (fun j => nI (nxt j)))), (pu, .inl (xI g, 18, .inl (fun j => iI (psh j))))] sz) := by
  refine Met.ofW (cc := cX5_shortenOverSpare) (maxL := 3) (ret := (some .boolean)) (by decide) rfl ?_
  intro p e s m args below meth c s₁ B hml hv
  obtain ⟨rfl, hsz, hP, hK, hD0⟩ := hv
  have hx := B.exec
  have hb := B.bytes
  have hr := B.returns
  have hts := atoms_spec (ws := wsX5_shortenOverSpare) B.pre
  have hown : s.vm.findClass RX5 = some m.cls := findClass_of_methodNamed B.named
  have hlocks := B.notSynchronized
  subst hsz
  have hD := hD0.self (sz := s.heap.size)
  generalize hAe : va_A [(sg, .inr (5, [g0, g1, .ref ro, .ref us, g4, .ref wc, .ref nx, .ref pu])), (ro, .inl (xI g, 17, .inl (fun j => iI (room j)))), (us, .inl (xI g, 17, .inl (fun j => iI (used j)))), (wc, .inl (xI g, 18, .inl (fun j => iI (dd j)))), (nx, .inl (xI g, 18, .inl (fun j => nI (nxt j)))), (pu, .inl (xI g, 18, .inl (fun j => iI (psh j))))] s.heap.size = A at hD ⊢
  have hA : ∀ q : Nat, s.heap.size ≤ q → A q := fun q h => by rw [← hAe]; exact Or.inr h
  have hS : va_S A s.heap s.heap [] := va_S.rf
  have hl := lv_entry ([.ref sg]) (n := 3) (Nat.le_of_ble_eq_true rfl)
  rw [lg_entry_eq]
  generalize (lg_sl ([.ref sg]) ++ List.replicate (3 - (lg_sl ([.ref sg])).length) Slot.unset).toArray = ls at hl ⊢
  have hl : lv_has ls 3 [(0, .ref sg)] := hl
  have hFX5 : ∀ w ∈ u_ws RX5 TX5 8, w ∈ wsX5_shortenOverSpare := by decide +kernel
  refine lv_iconst (v := 0) hx hb dX5_shortenOverSpare_0 (by decide) ?_
  refine lv_istore_n (lv' := [(1, .int 0), (0, .ref sg)]) hx hb dX5_shortenOverSpare_1 rfl hl (by decide) rfl (fun ls hl => ?_)
  refine lv_iconst (v := 0) hx hb dX5_shortenOverSpare_2 (by decide) ?_
  refine lv_istore_n (lv' := [(2, .int 0), (1, .int 0), (0, .ref sg)]) hx hb dX5_shortenOverSpare_3 rfl hl (by decide) rfl (fun ls hl => ?_)
  have hloop4 : ∀ (n9 : Nat) (k : Nat) (dk : Nat → Int) (nk : Nat → Nat) (pk : Nat → Int) (fl : Int) (H : Heap) (locs : List Loc) (ls : Array Slot), 17 - k < n9 → (k ≤ 17) → (∃ t T, sBF EE goal dk nk pk t T) → (∀ x, dk x ≤ dd x) → (sP1 used room dd dk k) → (fl = 1 ∨ (fl = 0 ∧ dk = dd)) → (∀ j, (-3000000) ≤ dk j ∧ dk j ≤ 1000000) → (∀ j, nk j ≤ 17) → (∀ j, (-1) ≤ pk j ∧ pk j ≤ 23) → va_P (xD g) vwCl [(sg, .inr (5, [g0, g1, .ref ro, .ref us, g4, .ref wc, .ref nx, .ref pu])), (ro, .inl (xI g, 17, .inl (fun j => iI (room j)))), (us, .inl (xI g, 17, .inl (fun j => iI (used j)))), (wc, .inl (xI g, 18, .inl (fun j => iI (dk j)))), (nx, .inl (xI g, 18, .inl (fun j => nI (nk j)))), (pu, .inl (xI g, 18, .inl (fun j => iI (pk j))))] H → va_D A [(sg, .inr (5, [g0, g1, .ref ro, .ref us, g4, .ref wc, .ref nx, .ref pu])), (ro, .inl (xI g, 17, .inl (fun j => iI (room j)))), (us, .inl (xI g, 17, .inl (fun j => iI (used j)))), (wc, .inl (xI g, 18, .inl (fun j => iI (dk j)))), (nx, .inl (xI g, 18, .inl (fun j => nI (nk j)))), (pu, .inl (xI g, 18, .inl (fun j => iI (pk j))))] → va_S A s.heap H locs → lv_has ls 3 [(2, .int (nI k)), (0, .ref sg), (1, .int (iI fl))] → W p l e (headSpec wsX5_shortenOverSpare ({ frames := 1, cells := 0, slots := 0, locals := 24 })).room s m ([.ref sg] : List Value).toArray below meth c H locs 0 0 (MQ below (va_Qi (fun (r : Int32) (u : Nat → Int) => r = 1 ∨ (r = 0 ∧ u = dd)) (fun (u : Nat → Int) (t : State) => ∃ (n1 : Nat → Nat) (p1 : Nat → Int), ((∃ t T, sBF EE goal u n1 p1 t T) ∧ (∀ x, u x ≤ dd x) ∧ sP1 used room dd u 17) ∧ (∀ j, (-3000000) ≤ u j ∧ u j ≤ 1000000) ∧ (∀ j, n1 j ≤ 17) ∧ (∀ j, (-1) ≤ p1 j ∧ p1 j ≤ 23) ∧ xE g [(sg, .inr (5, [g0, g1, .ref ro, .ref us, g4, .ref wc, .ref nx, .ref pu])), (ro, .inl (xI g, 17, .inl (fun j => iI (room j)))), (us, .inl (xI g, 17, .inl (fun j => iI (used j)))), (wc, .inl (xI g, 18, .inl (fun j => iI (u j)))), (nx, .inl (xI g, 18, .inl (fun j => nI (n1 j)))), (pu, .inl (xI g, 18, .inl (fun j => iI (p1 j))))] (A) t) (A)) ([.ref sg] : List Value).toArray s 0 0 A) (F0 m 4 ls []) := by
    intro n9
    induction n9 with
    | zero =>
      intro k dk nk pk fl H locs ls hm hk hbk hlk hpk hfk bb_dk bb_nk bb_pk hP hD hS hl
      exact absurd hm (Nat.not_lt_zero _)
    | succ n9 ih4 =>
      intro k dk nk pk fl H locs ls hm hk hbk hlk hpk hfk bb_dk bb_nk bb_pk hP hD hS hl
      obtain ⟨t8, T8, hb8⟩ := hbk
      have hlo := sBF_low hp hhb hb8
      have hbk : ∃ t T, sBF EE goal dk nk pk t T := ⟨t8, T8, hb8⟩
      have hlo17 := hlo 17
      have hlok := hlo k
      have hb17 := bb_dk 17
      have hbkk := bb_dk k
      refine lv_iload_n hx hb dX5_shortenOverSpare_4 rfl (lv_at hl 0 rfl) ?_
      refine lv_bipush (v := 16) hx hb dX5_shortenOverSpare_5 (by decide) ?_
      refine lv_icmp_gt (tgt := 95) hx hb dX5_shortenOverSpare_7 (by decide) (fun c_1 => ?_) (fun c_1 => ?_)
      · have nc_1 := (nI_ltI (a := 16) (b := k) (by omega) (by omega)).mp c_1
        refine lv_iload_n hx hb dX5_shortenOverSpare_95 rfl (lv_at hl 2 rfl) ?_
        have hP9 := hP
        have hD9 := hD
        exact W.zret (v := iI fl) hx hb hr (by rcases hfk with q | ⟨q, q2⟩; (rw [q]; rfl); (rw [q]; rfl)) (fun t ht hW => ⟨⟨iI fl, dk, rfl, (by rcases hfk with q | ⟨q, q2⟩; (exact Or.inl (by rw [q]; decide)); (exact Or.inr ⟨by rw [q]; decide, q2⟩)), ⟨nk, pk, ⟨hbk, hlk, by obtain rfl : k = 17 := (by omega); exact hpk⟩, bb_dk, bb_nk, bb_pk, by rw [ht]; exact hP9, va_K.moved hW.alike hK, hD9⟩⟩, hS.F ht⟩) hS.2.2 dX5_shortenOverSpare_96
      · have nc_1 := mt (nI_ltI (a := 16) (b := k) (by omega) (by omega)).mpr c_1
        refine lv_aload_n hx hb dX5_shortenOverSpare_10 rfl (lv_at hl 1 rfl) ?_
        refine va_get (D := xD g) (ci := 5) (v := .ref us) (C := RX5) (T := TX5) (N := 8) hx hb hts hFX5 hown hK hP 0 rfl rfl 3 (by decide) (hts (.fieldLink RX5 20 "Stevedore$SlotGiver" "used" "[I") (by decide +kernel)) (fun _ h9 => h9) rfl dX5_shortenOverSpare_11 ?_
        refine lv_iload_n hx hb dX5_shortenOverSpare_14 rfl (lv_at hl 0 rfl) ?_
        refine va_iald hx hb hK hP 2 0 rfl rfl (vp_in_nI (by omega) (by omega)) dX5_shortenOverSpare_15 ?_
        refine lv_topi (fun v_2 ev => ?_)
        obtain rfl : v_2 = iI (used k) := ev.trans (congrArg (fun q9 => iI (used q9)) (nI_clamp (by omega)))
        have b_3 := b_used k
        refine lv_aload_n hx hb dX5_shortenOverSpare_16 rfl (lv_at hl 1 rfl) ?_
        refine va_get (D := xD g) (ci := 5) (v := .ref ro) (C := RX5) (T := TX5) (N := 8) hx hb hts hFX5 hown hK hP 0 rfl rfl 2 (by decide) (hts (.fieldLink RX5 16 "Stevedore$SlotGiver" "room" "[I") (by decide +kernel)) (fun _ h9 => h9) rfl dX5_shortenOverSpare_17 ?_
        refine lv_iload_n hx hb dX5_shortenOverSpare_20 rfl (lv_at hl 0 rfl) ?_
        refine va_iald hx hb hK hP 1 0 rfl rfl (vp_in_nI (by omega) (by omega)) dX5_shortenOverSpare_21 ?_
        refine lv_topi (fun v_4 ev => ?_)
        obtain rfl : v_4 = iI (room k) := ev.trans (congrArg (fun q9 => iI (room q9)) (nI_clamp (by omega)))
        have b_5 := b_room k
        refine lv_icmp_ge (tgt := 53) hx hb dX5_shortenOverSpare_22 (by decide) (fun c_6 => ?_) (fun c_6 => ?_)
        · have nc_6 := (iLe (a := room k) (b := used k) rfl rfl (by omega)).mp c_6
          refine lv_aload_n hx hb dX5_shortenOverSpare_53 rfl (lv_at hl 1 rfl) ?_
          refine va_get (D := xD g) (ci := 5) (v := .ref us) (C := RX5) (T := TX5) (N := 8) hx hb hts hFX5 hown hK hP 0 rfl rfl 3 (by decide) (hts (.fieldLink RX5 20 "Stevedore$SlotGiver" "used" "[I") (by decide +kernel)) (fun _ h9 => h9) rfl dX5_shortenOverSpare_54 ?_
          refine lv_iload_n hx hb dX5_shortenOverSpare_57 rfl (lv_at hl 0 rfl) ?_
          refine va_iald hx hb hK hP 2 0 rfl rfl (vp_in_nI (by omega) (by omega)) dX5_shortenOverSpare_58 ?_
          refine lv_topi (fun v_7 ev => ?_)
          obtain rfl : v_7 = iI (used k) := ev.trans (congrArg (fun q9 => iI (used q9)) (nI_clamp (by omega)))
          have b_8 := b_used k
          refine lv_if_le (tgt := 89) hx hb dX5_shortenOverSpare_59 (by decide) (fun c_9 => ?_) (fun c_9 => ?_)
          · have nc_9 := (iLe (a := used k) (b := 0) rfl (by decide) (by omega)).mp c_9
            refine lv_iinc (v := nI (k + 1)) (lv' := [(2, .int (nI (k + 1))), (0, .ref sg), (1, .int (iI fl))]) hx hb dX5_shortenOverSpare_89 hl (k := 0) rfl (nI_add k 1) (by decide) rfl (fun ls hl => ?_)
            refine lv_goto (tgt := 4) hx hb dX5_shortenOverSpare_92 (by decide) ?_
            exact ih4 (k + 1) dk nk pk fl _ _ _ (by omega) (by omega) hbk (fun x => by have y := hlk x; omega) (sP1_more hpk (fun x => by omega) (fun q => by have y1 := hlk k; have y2 := hlk 17; omega) (fun q => by have y1 := hlk k; have y2 := hlk 17; omega)) (by first | exact hfk | exact Or.inl rfl | exact Or.inr ⟨rfl, (hfk.resolve_left (by omega)).2⟩) bb_dk bb_nk bb_pk hP hD hS (lv_sub hl [0, 1, 2] rfl)
          · have nc_9 := mt (iLe (a := used k) (b := 0) rfl (by decide) (by omega)).mpr c_9
            refine lv_aload_n hx hb dX5_shortenOverSpare_62 rfl (lv_at hl 1 rfl) ?_
            refine lv_bipush (v := 17) hx hb dX5_shortenOverSpare_63 (by decide) ?_
            refine lv_iload_n hx hb dX5_shortenOverSpare_65 rfl (lv_at hl 0 rfl) ?_
            refine lv_aload_n hx hb dX5_shortenOverSpare_66 rfl (lv_at hl 1 rfl) ?_
            refine va_get (D := xD g) (ci := 5) (v := .ref wc) (C := RX5) (T := TX5) (N := 8) hx hb hts hFX5 hown hK hP 0 rfl rfl 5 (by decide) (hts (.fieldLink RX5 26 "Stevedore$SlotGiver" "wayCost" "[I") (by decide +kernel)) (fun _ h9 => h9) rfl dX5_shortenOverSpare_67 ?_
            refine lv_iload_n hx hb dX5_shortenOverSpare_70 rfl (lv_at hl 0 rfl) ?_
            refine va_iald hx hb hK hP 3 0 rfl rfl (vp_in_nI (by omega) (by omega)) dX5_shortenOverSpare_71 ?_
            refine lv_topi (fun v_10 ev => ?_)
            obtain rfl : v_10 = iI (dk k) := ev.trans (congrArg (fun q9 => iI (dk q9)) (nI_clamp (by omega)))
            have b_11 := bb_dk k
            refine lv_iconst (v := (-1)) hx hb dX5_shortenOverSpare_72 (by decide) ?_
            have hPc := hP.sub (ws' := [(sg, .inr (5, [g0, g1, .ref ro, .ref us, g4, .ref wc, .ref nx, .ref pu])), (wc, .inl (xI g, 18, .inl (fun j => iI (dk j)))), (nx, .inl (xI g, 18, .inl (fun j => nI (nk j)))), (pu, .inl (xI g, 18, .inl (fun j => iI (pk j))))]) [0, 3, 4, 5] rfl
            have hDc := hD.sub (ws' := [(sg, .inr (5, [g0, g1, .ref ro, .ref us, g4, .ref wc, .ref nx, .ref pu])), (wc, .inl (xI g, 18, .inl (fun j => iI (dk j)))), (nx, .inl (xI g, 18, .inl (fun j => nI (nk j)))), (pu, .inl (xI g, 18, .inl (fun j => iI (pk j))))]) [0, 3, 4, 5] (by decide) rfl
            have hFc := va_free (wc := [(sg, .inr (5, [g0, g1, .ref ro, .ref us, g4, .ref wc, .ref nx, .ref pu])), (wc, .inl (xI g, 18, .inl (fun j => iI (dk j)))), (nx, .inl (xI g, 18, .inl (fun j => nI (nk j)))), (pu, .inl (xI g, 18, .inl (fun j => iI (pk j))))]) hD hS hA [0, 3, 4, 5] rfl
            refine va_calli (va_runV (As := [.int 17, .int (nI k), .int (iI (dk k)), .int (-1)]) (rest := []) ⟨hx, hb, hml, hown, hts⟩ (g_shorten l g H.size sg wc nx pu 17 k (dk k) (-1) g0 g1 (.ref ro) (.ref us) g4 dk nk pk (by first | assumption | omega) (by first | assumption | omega) (by first | assumption | omega) (by first | assumption | omega) bb_dk bb_nk bb_pk) (cwV 4 hts gX5_shortenOverSpare_X5_shorten rfl rfl rfl (by decide +kernel) ⟨Nat.le_of_ble_eq_true rfl, Nat.le_of_ble_eq_true rfl⟩) ⟨xB.blind, va_recv hK hPc (ci := 5) (q0 := 0) rfl rfl, fun U9 hU9 hW9 => ⟨rfl, xB.mk hPc hK hDc hU9 hW9⟩⟩ rfl rfl hl.1 rfl (lv_room (Nat.le_of_ble_eq_true rfl)) dX5_shortenOverSpare_73 ⟨Nat.le_of_ble_eq_true rfl, Nat.le_of_ble_eq_true rfl⟩) hS (fun q _ h => hFc q h) hFc (fun r_12 _ t H1 locs ht hvm hw_13 hB hz1 hk1 hS => ?_)
            obtain ⟨d1_14, n1_15, p1_16, hc_17, hb_18, hb_19, hb_20, hP1, hK1, hD1⟩ := hB
            rw [ht] at hP1
            obtain ⟨hP, hD⟩ := va_join (wr := [(ro, .inl (xI g, 17, .inl (fun j => iI (room j)))), (us, .inl (xI g, 17, .inl (fun j => iI (used j))))]) (w1 := [(sg, .inr (5, [g0, g1, .ref ro, .ref us, g4, .ref wc, .ref nx, .ref pu])), (wc, .inl (xI g, 18, .inl (fun j => iI (d1_14 j)))), (nx, .inl (xI g, 18, .inl (fun j => nI (n1_15 j)))), (pu, .inl (xI g, 18, .inl (fun j => iI (p1_16 j))))]) hP hD [0, 3, 4, 5] [1, 2] rfl rfl (by decide) (by decide) hk1 hFc hP1 hD1
            generalize H1 = H at hP hS ⊢
            have hP : va_P (xD g) vwCl [(ro, .inl (xI g, 17, .inl (fun j => iI (room j)))), (us, .inl (xI g, 17, .inl (fun j => iI (used j)))), (sg, .inr (5, [g0, g1, .ref ro, .ref us, g4, .ref wc, .ref nx, .ref pu])), (wc, .inl (xI g, 18, .inl (fun j => iI (d1_14 j)))), (nx, .inl (xI g, 18, .inl (fun j => nI (n1_15 j)))), (pu, .inl (xI g, 18, .inl (fun j => iI (p1_16 j))))] H := hP
            have hD : va_D A [(ro, .inl (xI g, 17, .inl (fun j => iI (room j)))), (us, .inl (xI g, 17, .inl (fun j => iI (used j)))), (sg, .inr (5, [g0, g1, .ref ro, .ref us, g4, .ref wc, .ref nx, .ref pu])), (wc, .inl (xI g, 18, .inl (fun j => iI (d1_14 j)))), (nx, .inl (xI g, 18, .inl (fun j => nI (n1_15 j)))), (pu, .inl (xI g, 18, .inl (fun j => iI (p1_16 j))))] := hD
            try dsimp only at hw_13
            rcases hw_13 with ⟨rfl, hw_13⟩ | ⟨rfl, hw_13⟩
            · obtain ⟨hbf_21, hle_21, hu_21, hn_21⟩ := sBF_try hp hbk (he2 k (by omega) (by omega)) (Int.zero_add _).symm (Or.inl (Int.le_refl _)) hc_17
              refine lv_if_ne (tgt := 83) hx hb dX5_shortenOverSpare_76 (by decide) (fun _ => ?_) (fun c0 => absurd c0 (by decide))
              refine lv_iconst (v := 1) hx hb dX5_shortenOverSpare_83 (by decide) ?_
              refine lv_goto (tgt := 88) hx hb dX5_shortenOverSpare_84 (by decide) ?_
              refine lv_istore_n (lv' := [(1, .int 1), (2, .int (nI k)), (0, .ref sg)]) hx hb dX5_shortenOverSpare_88 rfl hl (by decide) rfl (fun ls hl => ?_)
              refine lv_iinc (v := nI (k + 1)) (lv' := [(2, .int (nI (k + 1))), (1, .int 1), (0, .ref sg)]) hx hb dX5_shortenOverSpare_89 hl (k := 1) rfl (nI_add k 1) (by decide) rfl (fun ls hl => ?_)
              refine lv_goto (tgt := 4) hx hb dX5_shortenOverSpare_92 (by decide) ?_
              have hP := hP.sub (ws' := [(sg, .inr (5, [g0, g1, .ref ro, .ref us, g4, .ref wc, .ref nx, .ref pu])), (ro, .inl (xI g, 17, .inl (fun j => iI (room j)))), (us, .inl (xI g, 17, .inl (fun j => iI (used j)))), (wc, .inl (xI g, 18, .inl (fun j => iI (d1_14 j)))), (nx, .inl (xI g, 18, .inl (fun j => nI (n1_15 j)))), (pu, .inl (xI g, 18, .inl (fun j => iI (p1_16 j))))]) [2, 0, 1, 3, 4, 5] rfl
              have hD := hD.sub (ws' := [(sg, .inr (5, [g0, g1, .ref ro, .ref us, g4, .ref wc, .ref nx, .ref pu])), (ro, .inl (xI g, 17, .inl (fun j => iI (room j)))), (us, .inl (xI g, 17, .inl (fun j => iI (used j)))), (wc, .inl (xI g, 18, .inl (fun j => iI (d1_14 j)))), (nx, .inl (xI g, 18, .inl (fun j => nI (n1_15 j)))), (pu, .inl (xI g, 18, .inl (fun j => iI (p1_16 j))))]) [2, 0, 1, 3, 4, 5] (by decide) rfl
              exact ih4 (k + 1) d1_14 n1_15 p1_16 1 _ _ _ (by omega) (by omega) hbf_21 (fun x => by have y := hlk x; have a_21 := hle_21 x; omega) (sP1_more hpk (fun x => by have a_21 := hle_21 x; omega) (fun q => by have y1 := hlk k; have y2 := hlk 17; have a_21 := hle_21 k; have z_21 := hle_21 17; have o_21 := hu_21; omega) (fun q => by have y1 := hlk k; have y2 := hlk 17; have a_21 := hle_21 k; have z_21 := hle_21 17; have o_21 := hu_21; omega)) (by first | exact hfk | exact Or.inl rfl | exact Or.inr ⟨rfl, (hfk.resolve_left (by omega)).2⟩) hb_18 hb_19 hb_20 hP hD hS (by rw [(show iI 1 = (1 : Int32) from by decide)]; exact lv_sub hl [0, 2, 1] rfl)
            · obtain ⟨hbf_22, hle_22, hu_22, hn_22⟩ := sBF_try hp hbk (he2 k (by omega) (by omega)) (Int.zero_add _).symm (Or.inl (Int.le_refl _)) hc_17
              obtain ⟨rfl, rfl, rfl⟩ := hc_17.2 hw_13
              refine lv_if_ne (tgt := 83) hx hb dX5_shortenOverSpare_76 (by decide) (fun c0 => absurd (by decide) c0) (fun _ => ?_)
              refine lv_iload_n hx hb dX5_shortenOverSpare_79 rfl (lv_at hl 2 rfl) ?_
              refine lv_if_eq (tgt := 87) hx hb dX5_shortenOverSpare_80 (by decide) (fun c_23 => ?_) (fun c_23 => ?_)
              · have nc_23 := (iEq (a := fl) (b := 0) rfl (by decide) (by omega)).mp c_23
                refine lv_iconst (v := 0) hx hb dX5_shortenOverSpare_87 (by decide) ?_
                refine lv_istore_n (lv' := [(1, .int 0), (2, .int (nI k)), (0, .ref sg)]) hx hb dX5_shortenOverSpare_88 rfl hl (by decide) rfl (fun ls hl => ?_)
                refine lv_iinc (v := nI (k + 1)) (lv' := [(2, .int (nI (k + 1))), (1, .int 0), (0, .ref sg)]) hx hb dX5_shortenOverSpare_89 hl (k := 1) rfl (nI_add k 1) (by decide) rfl (fun ls hl => ?_)
                refine lv_goto (tgt := 4) hx hb dX5_shortenOverSpare_92 (by decide) ?_
                have hP := hP.sub (ws' := [(sg, .inr (5, [g0, g1, .ref ro, .ref us, g4, .ref wc, .ref nx, .ref pu])), (ro, .inl (xI g, 17, .inl (fun j => iI (room j)))), (us, .inl (xI g, 17, .inl (fun j => iI (used j)))), (wc, .inl (xI g, 18, .inl (fun j => iI (dk j)))), (nx, .inl (xI g, 18, .inl (fun j => nI (nk j)))), (pu, .inl (xI g, 18, .inl (fun j => iI (pk j))))]) [2, 0, 1, 3, 4, 5] rfl
                have hD := hD.sub (ws' := [(sg, .inr (5, [g0, g1, .ref ro, .ref us, g4, .ref wc, .ref nx, .ref pu])), (ro, .inl (xI g, 17, .inl (fun j => iI (room j)))), (us, .inl (xI g, 17, .inl (fun j => iI (used j)))), (wc, .inl (xI g, 18, .inl (fun j => iI (dk j)))), (nx, .inl (xI g, 18, .inl (fun j => nI (nk j)))), (pu, .inl (xI g, 18, .inl (fun j => iI (pk j))))]) [2, 0, 1, 3, 4, 5] (by decide) rfl
                exact ih4 (k + 1) dk nk pk 0 _ _ _ (by omega) (by omega) hbf_22 (fun x => by have y := hlk x; have a_22 := hle_22 x; omega) (sP1_more hpk (fun x => by have a_22 := hle_22 x; omega) (fun q => by have y1 := hlk k; have y2 := hlk 17; have a_22 := hle_22 k; have z_22 := hle_22 17; have o_22 := hu_22; omega) (fun q => by have y1 := hlk k; have y2 := hlk 17; have a_22 := hle_22 k; have z_22 := hle_22 17; have o_22 := hu_22; omega)) (by first | exact hfk | exact Or.inl rfl | exact Or.inr ⟨rfl, (hfk.resolve_left (by omega)).2⟩) hb_18 hb_19 hb_20 hP hD hS (by rw [(show iI 0 = (0 : Int32) from by decide)]; exact lv_sub hl [0, 2, 1] rfl)
              · have nc_23 := mt (iEq (a := fl) (b := 0) rfl (by decide) (by omega)).mpr c_23
                refine lv_iconst (v := 1) hx hb dX5_shortenOverSpare_83 (by decide) ?_
                refine lv_goto (tgt := 88) hx hb dX5_shortenOverSpare_84 (by decide) ?_
                refine lv_istore_n (lv' := [(1, .int 1), (2, .int (nI k)), (0, .ref sg)]) hx hb dX5_shortenOverSpare_88 rfl hl (by decide) rfl (fun ls hl => ?_)
                refine lv_iinc (v := nI (k + 1)) (lv' := [(2, .int (nI (k + 1))), (1, .int 1), (0, .ref sg)]) hx hb dX5_shortenOverSpare_89 hl (k := 1) rfl (nI_add k 1) (by decide) rfl (fun ls hl => ?_)
                refine lv_goto (tgt := 4) hx hb dX5_shortenOverSpare_92 (by decide) ?_
                have hP := hP.sub (ws' := [(sg, .inr (5, [g0, g1, .ref ro, .ref us, g4, .ref wc, .ref nx, .ref pu])), (ro, .inl (xI g, 17, .inl (fun j => iI (room j)))), (us, .inl (xI g, 17, .inl (fun j => iI (used j)))), (wc, .inl (xI g, 18, .inl (fun j => iI (dk j)))), (nx, .inl (xI g, 18, .inl (fun j => nI (nk j)))), (pu, .inl (xI g, 18, .inl (fun j => iI (pk j))))]) [2, 0, 1, 3, 4, 5] rfl
                have hD := hD.sub (ws' := [(sg, .inr (5, [g0, g1, .ref ro, .ref us, g4, .ref wc, .ref nx, .ref pu])), (ro, .inl (xI g, 17, .inl (fun j => iI (room j)))), (us, .inl (xI g, 17, .inl (fun j => iI (used j)))), (wc, .inl (xI g, 18, .inl (fun j => iI (dk j)))), (nx, .inl (xI g, 18, .inl (fun j => nI (nk j)))), (pu, .inl (xI g, 18, .inl (fun j => iI (pk j))))]) [2, 0, 1, 3, 4, 5] (by decide) rfl
                exact ih4 (k + 1) dk nk pk 1 _ _ _ (by omega) (by omega) hbf_22 (fun x => by have y := hlk x; have a_22 := hle_22 x; omega) (sP1_more hpk (fun x => by have a_22 := hle_22 x; omega) (fun q => by have y1 := hlk k; have y2 := hlk 17; have a_22 := hle_22 k; have z_22 := hle_22 17; have o_22 := hu_22; omega) (fun q => by have y1 := hlk k; have y2 := hlk 17; have a_22 := hle_22 k; have z_22 := hle_22 17; have o_22 := hu_22; omega)) (by first | exact hfk | exact Or.inl rfl | exact Or.inr ⟨rfl, (hfk.resolve_left (by omega)).2⟩) hb_18 hb_19 hb_20 hP hD hS (by rw [(show iI 1 = (1 : Int32) from by decide)]; exact lv_sub hl [0, 2, 1] rfl)
        · have nc_6 := mt (iLe (a := room k) (b := used k) rfl rfl (by omega)).mpr c_6
          refine lv_aload_n hx hb dX5_shortenOverSpare_25 rfl (lv_at hl 1 rfl) ?_
          refine lv_iload_n hx hb dX5_shortenOverSpare_26 rfl (lv_at hl 0 rfl) ?_
          refine lv_bipush (v := 17) hx hb dX5_shortenOverSpare_27 (by decide) ?_
          refine lv_aload_n hx hb dX5_shortenOverSpare_29 rfl (lv_at hl 1 rfl) ?_
          refine va_get (D := xD g) (ci := 5) (v := .ref wc) (C := RX5) (T := TX5) (N := 8) hx hb hts hFX5 hown hK hP 0 rfl rfl 5 (by decide) (hts (.fieldLink RX5 26 "Stevedore$SlotGiver" "wayCost" "[I") (by decide +kernel)) (fun _ h9 => h9) rfl dX5_shortenOverSpare_30 ?_
          refine lv_bipush (v := 17) hx hb dX5_shortenOverSpare_33 (by decide) ?_
          refine va_iald hx hb hK hP 3 0 rfl rfl (by unfold vp_in; decide) dX5_shortenOverSpare_35 ?_
          refine lv_topi (fun v_24 ev => ?_)
          obtain rfl : v_24 = iI (dk 17) := ev.trans (congrArg (fun q9 => iI (dk q9)) (by decide))
          have b_25 := bb_dk 17
          refine lv_iconst (v := (-1)) hx hb dX5_shortenOverSpare_36 (by decide) ?_
          have hPc := hP.sub (ws' := [(sg, .inr (5, [g0, g1, .ref ro, .ref us, g4, .ref wc, .ref nx, .ref pu])), (wc, .inl (xI g, 18, .inl (fun j => iI (dk j)))), (nx, .inl (xI g, 18, .inl (fun j => nI (nk j)))), (pu, .inl (xI g, 18, .inl (fun j => iI (pk j))))]) [0, 3, 4, 5] rfl
          have hDc := hD.sub (ws' := [(sg, .inr (5, [g0, g1, .ref ro, .ref us, g4, .ref wc, .ref nx, .ref pu])), (wc, .inl (xI g, 18, .inl (fun j => iI (dk j)))), (nx, .inl (xI g, 18, .inl (fun j => nI (nk j)))), (pu, .inl (xI g, 18, .inl (fun j => iI (pk j))))]) [0, 3, 4, 5] (by decide) rfl
          have hFc := va_free (wc := [(sg, .inr (5, [g0, g1, .ref ro, .ref us, g4, .ref wc, .ref nx, .ref pu])), (wc, .inl (xI g, 18, .inl (fun j => iI (dk j)))), (nx, .inl (xI g, 18, .inl (fun j => nI (nk j)))), (pu, .inl (xI g, 18, .inl (fun j => iI (pk j))))]) hD hS hA [0, 3, 4, 5] rfl
          refine va_calli (va_runV (As := [.int (nI k), .int 17, .int (iI (dk 17)), .int (-1)]) (rest := []) ⟨hx, hb, hml, hown, hts⟩ (g_shorten l g H.size sg wc nx pu k 17 (dk 17) (-1) g0 g1 (.ref ro) (.ref us) g4 dk nk pk (by first | assumption | omega) (by first | assumption | omega) (by first | assumption | omega) (by first | assumption | omega) bb_dk bb_nk bb_pk) (cwV 4 hts gX5_shortenOverSpare_X5_shorten rfl rfl rfl (by decide +kernel) ⟨Nat.le_of_ble_eq_true rfl, Nat.le_of_ble_eq_true rfl⟩) ⟨xB.blind, va_recv hK hPc (ci := 5) (q0 := 0) rfl rfl, fun U9 hU9 hW9 => ⟨rfl, xB.mk hPc hK hDc hU9 hW9⟩⟩ rfl rfl hl.1 rfl (lv_room (Nat.le_of_ble_eq_true rfl)) dX5_shortenOverSpare_37 ⟨Nat.le_of_ble_eq_true rfl, Nat.le_of_ble_eq_true rfl⟩) hS (fun q _ h => hFc q h) hFc (fun r_26 _ t H1 locs ht hvm hw_27 hB hz1 hk1 hS => ?_)
          obtain ⟨d1_28, n1_29, p1_30, hc_31, hb_32, hb_33, hb_34, hP1, hK1, hD1⟩ := hB
          rw [ht] at hP1
          obtain ⟨hP, hD⟩ := va_join (wr := [(ro, .inl (xI g, 17, .inl (fun j => iI (room j)))), (us, .inl (xI g, 17, .inl (fun j => iI (used j))))]) (w1 := [(sg, .inr (5, [g0, g1, .ref ro, .ref us, g4, .ref wc, .ref nx, .ref pu])), (wc, .inl (xI g, 18, .inl (fun j => iI (d1_28 j)))), (nx, .inl (xI g, 18, .inl (fun j => nI (n1_29 j)))), (pu, .inl (xI g, 18, .inl (fun j => iI (p1_30 j))))]) hP hD [0, 3, 4, 5] [1, 2] rfl rfl (by decide) (by decide) hk1 hFc hP1 hD1
          generalize H1 = H at hP hS ⊢
          have hP : va_P (xD g) vwCl [(ro, .inl (xI g, 17, .inl (fun j => iI (room j)))), (us, .inl (xI g, 17, .inl (fun j => iI (used j)))), (sg, .inr (5, [g0, g1, .ref ro, .ref us, g4, .ref wc, .ref nx, .ref pu])), (wc, .inl (xI g, 18, .inl (fun j => iI (d1_28 j)))), (nx, .inl (xI g, 18, .inl (fun j => nI (n1_29 j)))), (pu, .inl (xI g, 18, .inl (fun j => iI (p1_30 j))))] H := hP
          have hD : va_D A [(ro, .inl (xI g, 17, .inl (fun j => iI (room j)))), (us, .inl (xI g, 17, .inl (fun j => iI (used j)))), (sg, .inr (5, [g0, g1, .ref ro, .ref us, g4, .ref wc, .ref nx, .ref pu])), (wc, .inl (xI g, 18, .inl (fun j => iI (d1_28 j)))), (nx, .inl (xI g, 18, .inl (fun j => nI (n1_29 j)))), (pu, .inl (xI g, 18, .inl (fun j => iI (p1_30 j))))] := hD
          try dsimp only at hw_27
          rcases hw_27 with ⟨rfl, hw_27⟩ | ⟨rfl, hw_27⟩
          · obtain ⟨hbf_35, hle_35, hu_35, hn_35⟩ := sBF_try hp hbk (he1 k (by omega) (by omega)) (Int.zero_add _).symm (Or.inl (Int.le_refl _)) hc_31
            refine lv_if_ne (tgt := 47) hx hb dX5_shortenOverSpare_40 (by decide) (fun _ => ?_) (fun c0 => absurd c0 (by decide))
            refine lv_iconst (v := 1) hx hb dX5_shortenOverSpare_47 (by decide) ?_
            refine lv_goto (tgt := 52) hx hb dX5_shortenOverSpare_48 (by decide) ?_
            refine lv_istore_n (lv' := [(1, .int 1), (2, .int (nI k)), (0, .ref sg)]) hx hb dX5_shortenOverSpare_52 rfl hl (by decide) rfl (fun ls hl => ?_)
            refine lv_aload_n hx hb dX5_shortenOverSpare_53 rfl (lv_at hl 2 rfl) ?_
            refine va_get (D := xD g) (ci := 5) (v := .ref us) (C := RX5) (T := TX5) (N := 8) hx hb hts hFX5 hown hK hP 2 rfl rfl 3 (by decide) (hts (.fieldLink RX5 20 "Stevedore$SlotGiver" "used" "[I") (by decide +kernel)) (fun _ h9 => h9) rfl dX5_shortenOverSpare_54 ?_
            refine lv_iload_n hx hb dX5_shortenOverSpare_57 rfl (lv_at hl 1 rfl) ?_
            refine va_iald hx hb hK hP 1 0 rfl rfl (vp_in_nI (by omega) (by omega)) dX5_shortenOverSpare_58 ?_
            refine lv_topi (fun v_36 ev => ?_)
            obtain rfl : v_36 = iI (used k) := ev.trans (congrArg (fun q9 => iI (used q9)) (nI_clamp (by omega)))
            have b_37 := b_used k
            refine lv_if_le (tgt := 89) hx hb dX5_shortenOverSpare_59 (by decide) (fun c_38 => ?_) (fun c_38 => ?_)
            · have nc_38 := (iLe (a := used k) (b := 0) rfl (by decide) (by omega)).mp c_38
              refine lv_iinc (v := nI (k + 1)) (lv' := [(2, .int (nI (k + 1))), (1, .int 1), (0, .ref sg)]) hx hb dX5_shortenOverSpare_89 hl (k := 1) rfl (nI_add k 1) (by decide) rfl (fun ls hl => ?_)
              refine lv_goto (tgt := 4) hx hb dX5_shortenOverSpare_92 (by decide) ?_
              have hP := hP.sub (ws' := [(sg, .inr (5, [g0, g1, .ref ro, .ref us, g4, .ref wc, .ref nx, .ref pu])), (ro, .inl (xI g, 17, .inl (fun j => iI (room j)))), (us, .inl (xI g, 17, .inl (fun j => iI (used j)))), (wc, .inl (xI g, 18, .inl (fun j => iI (d1_28 j)))), (nx, .inl (xI g, 18, .inl (fun j => nI (n1_29 j)))), (pu, .inl (xI g, 18, .inl (fun j => iI (p1_30 j))))]) [2, 0, 1, 3, 4, 5] rfl
              have hD := hD.sub (ws' := [(sg, .inr (5, [g0, g1, .ref ro, .ref us, g4, .ref wc, .ref nx, .ref pu])), (ro, .inl (xI g, 17, .inl (fun j => iI (room j)))), (us, .inl (xI g, 17, .inl (fun j => iI (used j)))), (wc, .inl (xI g, 18, .inl (fun j => iI (d1_28 j)))), (nx, .inl (xI g, 18, .inl (fun j => nI (n1_29 j)))), (pu, .inl (xI g, 18, .inl (fun j => iI (p1_30 j))))]) [2, 0, 1, 3, 4, 5] (by decide) rfl
              exact ih4 (k + 1) d1_28 n1_29 p1_30 1 _ _ _ (by omega) (by omega) hbf_35 (fun x => by have y := hlk x; have a_35 := hle_35 x; omega) (sP1_more hpk (fun x => by have a_35 := hle_35 x; omega) (fun q => by have y1 := hlk k; have y2 := hlk 17; have a_35 := hle_35 k; have z_35 := hle_35 17; have o_35 := hu_35; omega) (fun q => by have y1 := hlk k; have y2 := hlk 17; have a_35 := hle_35 k; have z_35 := hle_35 17; have o_35 := hu_35; omega)) (by first | exact hfk | exact Or.inl rfl | exact Or.inr ⟨rfl, (hfk.resolve_left (by omega)).2⟩) hb_32 hb_33 hb_34 hP hD hS (by rw [(show iI 1 = (1 : Int32) from by decide)]; exact lv_sub hl [0, 2, 1] rfl)
            · have nc_38 := mt (iLe (a := used k) (b := 0) rfl (by decide) (by omega)).mpr c_38
              refine lv_aload_n hx hb dX5_shortenOverSpare_62 rfl (lv_at hl 2 rfl) ?_
              refine lv_bipush (v := 17) hx hb dX5_shortenOverSpare_63 (by decide) ?_
              refine lv_iload_n hx hb dX5_shortenOverSpare_65 rfl (lv_at hl 1 rfl) ?_
              refine lv_aload_n hx hb dX5_shortenOverSpare_66 rfl (lv_at hl 2 rfl) ?_
              refine va_get (D := xD g) (ci := 5) (v := .ref wc) (C := RX5) (T := TX5) (N := 8) hx hb hts hFX5 hown hK hP 2 rfl rfl 5 (by decide) (hts (.fieldLink RX5 26 "Stevedore$SlotGiver" "wayCost" "[I") (by decide +kernel)) (fun _ h9 => h9) rfl dX5_shortenOverSpare_67 ?_
              refine lv_iload_n hx hb dX5_shortenOverSpare_70 rfl (lv_at hl 1 rfl) ?_
              refine va_iald hx hb hK hP 3 0 rfl rfl (vp_in_nI (by omega) (by omega)) dX5_shortenOverSpare_71 ?_
              refine lv_topi (fun v_39 ev => ?_)
              obtain rfl : v_39 = iI (d1_28 k) := ev.trans (congrArg (fun q9 => iI (d1_28 q9)) (nI_clamp (by omega)))
              have b_40 := hb_32 k
              refine lv_iconst (v := (-1)) hx hb dX5_shortenOverSpare_72 (by decide) ?_
              have hPc := hP.sub (ws' := [(sg, .inr (5, [g0, g1, .ref ro, .ref us, g4, .ref wc, .ref nx, .ref pu])), (wc, .inl (xI g, 18, .inl (fun j => iI (d1_28 j)))), (nx, .inl (xI g, 18, .inl (fun j => nI (n1_29 j)))), (pu, .inl (xI g, 18, .inl (fun j => iI (p1_30 j))))]) [2, 3, 4, 5] rfl
              have hDc := hD.sub (ws' := [(sg, .inr (5, [g0, g1, .ref ro, .ref us, g4, .ref wc, .ref nx, .ref pu])), (wc, .inl (xI g, 18, .inl (fun j => iI (d1_28 j)))), (nx, .inl (xI g, 18, .inl (fun j => nI (n1_29 j)))), (pu, .inl (xI g, 18, .inl (fun j => iI (p1_30 j))))]) [2, 3, 4, 5] (by decide) rfl
              have hFc := va_free (wc := [(sg, .inr (5, [g0, g1, .ref ro, .ref us, g4, .ref wc, .ref nx, .ref pu])), (wc, .inl (xI g, 18, .inl (fun j => iI (d1_28 j)))), (nx, .inl (xI g, 18, .inl (fun j => nI (n1_29 j)))), (pu, .inl (xI g, 18, .inl (fun j => iI (p1_30 j))))]) hD hS hA [2, 3, 4, 5] rfl
              refine va_calli (va_runV (As := [.int 17, .int (nI k), .int (iI (d1_28 k)), .int (-1)]) (rest := []) ⟨hx, hb, hml, hown, hts⟩ (g_shorten l g H.size sg wc nx pu 17 k (d1_28 k) (-1) g0 g1 (.ref ro) (.ref us) g4 d1_28 n1_29 p1_30 (by first | assumption | omega) (by first | assumption | omega) (by first | assumption | omega) (by first | assumption | omega) hb_32 hb_33 hb_34) (cwV 4 hts gX5_shortenOverSpare_X5_shorten rfl rfl rfl (by decide +kernel) ⟨Nat.le_of_ble_eq_true rfl, Nat.le_of_ble_eq_true rfl⟩) ⟨xB.blind, va_recv hK hPc (ci := 5) (q0 := 0) rfl rfl, fun U9 hU9 hW9 => ⟨rfl, xB.mk hPc hK hDc hU9 hW9⟩⟩ rfl rfl hl.1 rfl (lv_room (Nat.le_of_ble_eq_true rfl)) dX5_shortenOverSpare_73 ⟨Nat.le_of_ble_eq_true rfl, Nat.le_of_ble_eq_true rfl⟩) hS (fun q _ h => hFc q h) hFc (fun r_41 _ t H1 locs ht hvm hw_42 hB hz1 hk1 hS => ?_)
              obtain ⟨d1_43, n1_44, p1_45, hc_46, hb_47, hb_48, hb_49, hP1, hK1, hD1⟩ := hB
              rw [ht] at hP1
              obtain ⟨hP, hD⟩ := va_join (wr := [(ro, .inl (xI g, 17, .inl (fun j => iI (room j)))), (us, .inl (xI g, 17, .inl (fun j => iI (used j))))]) (w1 := [(sg, .inr (5, [g0, g1, .ref ro, .ref us, g4, .ref wc, .ref nx, .ref pu])), (wc, .inl (xI g, 18, .inl (fun j => iI (d1_43 j)))), (nx, .inl (xI g, 18, .inl (fun j => nI (n1_44 j)))), (pu, .inl (xI g, 18, .inl (fun j => iI (p1_45 j))))]) hP hD [2, 3, 4, 5] [0, 1] rfl rfl (by decide) (by decide) hk1 hFc hP1 hD1
              generalize H1 = H at hP hS ⊢
              have hP : va_P (xD g) vwCl [(ro, .inl (xI g, 17, .inl (fun j => iI (room j)))), (us, .inl (xI g, 17, .inl (fun j => iI (used j)))), (sg, .inr (5, [g0, g1, .ref ro, .ref us, g4, .ref wc, .ref nx, .ref pu])), (wc, .inl (xI g, 18, .inl (fun j => iI (d1_43 j)))), (nx, .inl (xI g, 18, .inl (fun j => nI (n1_44 j)))), (pu, .inl (xI g, 18, .inl (fun j => iI (p1_45 j))))] H := hP
              have hD : va_D A [(ro, .inl (xI g, 17, .inl (fun j => iI (room j)))), (us, .inl (xI g, 17, .inl (fun j => iI (used j)))), (sg, .inr (5, [g0, g1, .ref ro, .ref us, g4, .ref wc, .ref nx, .ref pu])), (wc, .inl (xI g, 18, .inl (fun j => iI (d1_43 j)))), (nx, .inl (xI g, 18, .inl (fun j => nI (n1_44 j)))), (pu, .inl (xI g, 18, .inl (fun j => iI (p1_45 j))))] := hD
              try dsimp only at hw_42
              rcases hw_42 with ⟨rfl, hw_42⟩ | ⟨rfl, hw_42⟩
              · obtain ⟨hbf_50, hle_50, hu_50, hn_50⟩ := sBF_try hp hbf_35 (he2 k (by omega) (by omega)) (Int.zero_add _).symm (Or.inl (Int.le_refl _)) hc_46
                refine lv_if_ne (tgt := 83) hx hb dX5_shortenOverSpare_76 (by decide) (fun _ => ?_) (fun c0 => absurd c0 (by decide))
                refine lv_iconst (v := 1) hx hb dX5_shortenOverSpare_83 (by decide) ?_
                refine lv_goto (tgt := 88) hx hb dX5_shortenOverSpare_84 (by decide) ?_
                refine lv_istore_n (lv' := [(1, .int 1), (2, .int (nI k)), (0, .ref sg)]) hx hb dX5_shortenOverSpare_88 rfl hl (by decide) rfl (fun ls hl => ?_)
                refine lv_iinc (v := nI (k + 1)) (lv' := [(2, .int (nI (k + 1))), (1, .int 1), (0, .ref sg)]) hx hb dX5_shortenOverSpare_89 hl (k := 1) rfl (nI_add k 1) (by decide) rfl (fun ls hl => ?_)
                refine lv_goto (tgt := 4) hx hb dX5_shortenOverSpare_92 (by decide) ?_
                have hP := hP.sub (ws' := [(sg, .inr (5, [g0, g1, .ref ro, .ref us, g4, .ref wc, .ref nx, .ref pu])), (ro, .inl (xI g, 17, .inl (fun j => iI (room j)))), (us, .inl (xI g, 17, .inl (fun j => iI (used j)))), (wc, .inl (xI g, 18, .inl (fun j => iI (d1_43 j)))), (nx, .inl (xI g, 18, .inl (fun j => nI (n1_44 j)))), (pu, .inl (xI g, 18, .inl (fun j => iI (p1_45 j))))]) [2, 0, 1, 3, 4, 5] rfl
                have hD := hD.sub (ws' := [(sg, .inr (5, [g0, g1, .ref ro, .ref us, g4, .ref wc, .ref nx, .ref pu])), (ro, .inl (xI g, 17, .inl (fun j => iI (room j)))), (us, .inl (xI g, 17, .inl (fun j => iI (used j)))), (wc, .inl (xI g, 18, .inl (fun j => iI (d1_43 j)))), (nx, .inl (xI g, 18, .inl (fun j => nI (n1_44 j)))), (pu, .inl (xI g, 18, .inl (fun j => iI (p1_45 j))))]) [2, 0, 1, 3, 4, 5] (by decide) rfl
                exact ih4 (k + 1) d1_43 n1_44 p1_45 1 _ _ _ (by omega) (by omega) hbf_50 (fun x => by have y := hlk x; have a_35 := hle_35 x; have a_50 := hle_50 x; omega) (sP1_more hpk (fun x => by have a_35 := hle_35 x; have a_50 := hle_50 x; omega) (fun q => by have y1 := hlk k; have y2 := hlk 17; have a_35 := hle_35 k; have z_35 := hle_35 17; have o_35 := hu_35; have a_50 := hle_50 k; have z_50 := hle_50 17; have o_50 := hu_50; omega) (fun q => by have y1 := hlk k; have y2 := hlk 17; have a_35 := hle_35 k; have z_35 := hle_35 17; have o_35 := hu_35; have a_50 := hle_50 k; have z_50 := hle_50 17; have o_50 := hu_50; omega)) (by first | exact hfk | exact Or.inl rfl | exact Or.inr ⟨rfl, (hfk.resolve_left (by omega)).2⟩) hb_47 hb_48 hb_49 hP hD hS (by rw [(show iI 1 = (1 : Int32) from by decide)]; exact lv_sub hl [0, 2, 1] rfl)
              · obtain ⟨hbf_51, hle_51, hu_51, hn_51⟩ := sBF_try hp hbf_35 (he2 k (by omega) (by omega)) (Int.zero_add _).symm (Or.inl (Int.le_refl _)) hc_46
                obtain ⟨rfl, rfl, rfl⟩ := hc_46.2 hw_42
                refine lv_if_ne (tgt := 83) hx hb dX5_shortenOverSpare_76 (by decide) (fun c0 => absurd (by decide) c0) (fun _ => ?_)
                refine lv_iload_n hx hb dX5_shortenOverSpare_79 rfl (lv_at hl 0 rfl) ?_
                refine lv_if_eq (tgt := 87) hx hb dX5_shortenOverSpare_80 (by decide) (fun c0 => absurd c0 (by decide)) (fun _ => ?_)
                refine lv_iconst (v := 1) hx hb dX5_shortenOverSpare_83 (by decide) ?_
                refine lv_goto (tgt := 88) hx hb dX5_shortenOverSpare_84 (by decide) ?_
                refine lv_istore_n (lv' := [(1, .int 1), (2, .int (nI k)), (0, .ref sg)]) hx hb dX5_shortenOverSpare_88 rfl hl (by decide) rfl (fun ls hl => ?_)
                refine lv_iinc (v := nI (k + 1)) (lv' := [(2, .int (nI (k + 1))), (1, .int 1), (0, .ref sg)]) hx hb dX5_shortenOverSpare_89 hl (k := 1) rfl (nI_add k 1) (by decide) rfl (fun ls hl => ?_)
                refine lv_goto (tgt := 4) hx hb dX5_shortenOverSpare_92 (by decide) ?_
                have hP := hP.sub (ws' := [(sg, .inr (5, [g0, g1, .ref ro, .ref us, g4, .ref wc, .ref nx, .ref pu])), (ro, .inl (xI g, 17, .inl (fun j => iI (room j)))), (us, .inl (xI g, 17, .inl (fun j => iI (used j)))), (wc, .inl (xI g, 18, .inl (fun j => iI (d1_28 j)))), (nx, .inl (xI g, 18, .inl (fun j => nI (n1_29 j)))), (pu, .inl (xI g, 18, .inl (fun j => iI (p1_30 j))))]) [2, 0, 1, 3, 4, 5] rfl
                have hD := hD.sub (ws' := [(sg, .inr (5, [g0, g1, .ref ro, .ref us, g4, .ref wc, .ref nx, .ref pu])), (ro, .inl (xI g, 17, .inl (fun j => iI (room j)))), (us, .inl (xI g, 17, .inl (fun j => iI (used j)))), (wc, .inl (xI g, 18, .inl (fun j => iI (d1_28 j)))), (nx, .inl (xI g, 18, .inl (fun j => nI (n1_29 j)))), (pu, .inl (xI g, 18, .inl (fun j => iI (p1_30 j))))]) [2, 0, 1, 3, 4, 5] (by decide) rfl
                exact ih4 (k + 1) d1_28 n1_29 p1_30 1 _ _ _ (by omega) (by omega) hbf_51 (fun x => by have y := hlk x; have a_35 := hle_35 x; have a_51 := hle_51 x; omega) (sP1_more hpk (fun x => by have a_35 := hle_35 x; have a_51 := hle_51 x; omega) (fun q => by have y1 := hlk k; have y2 := hlk 17; have a_35 := hle_35 k; have z_35 := hle_35 17; have o_35 := hu_35; have a_51 := hle_51 k; have z_51 := hle_51 17; have o_51 := hu_51; omega) (fun q => by have y1 := hlk k; have y2 := hlk 17; have a_35 := hle_35 k; have z_35 := hle_35 17; have o_35 := hu_35; have a_51 := hle_51 k; have z_51 := hle_51 17; have o_51 := hu_51; omega)) (by first | exact hfk | exact Or.inl rfl | exact Or.inr ⟨rfl, (hfk.resolve_left (by omega)).2⟩) hb_47 hb_48 hb_49 hP hD hS (by rw [(show iI 1 = (1 : Int32) from by decide)]; exact lv_sub hl [0, 2, 1] rfl)
          · obtain ⟨hbf_52, hle_52, hu_52, hn_52⟩ := sBF_try hp hbk (he1 k (by omega) (by omega)) (Int.zero_add _).symm (Or.inl (Int.le_refl _)) hc_31
            obtain ⟨rfl, rfl, rfl⟩ := hc_31.2 hw_27
            refine lv_if_ne (tgt := 47) hx hb dX5_shortenOverSpare_40 (by decide) (fun c0 => absurd (by decide) c0) (fun _ => ?_)
            refine lv_iload_n hx hb dX5_shortenOverSpare_43 rfl (lv_at hl 2 rfl) ?_
            refine lv_if_eq (tgt := 51) hx hb dX5_shortenOverSpare_44 (by decide) (fun c_53 => ?_) (fun c_53 => ?_)
            · have nc_53 := (iEq (a := fl) (b := 0) rfl (by decide) (by omega)).mp c_53
              refine lv_iconst (v := 0) hx hb dX5_shortenOverSpare_51 (by decide) ?_
              refine lv_istore_n (lv' := [(1, .int 0), (2, .int (nI k)), (0, .ref sg)]) hx hb dX5_shortenOverSpare_52 rfl hl (by decide) rfl (fun ls hl => ?_)
              refine lv_aload_n hx hb dX5_shortenOverSpare_53 rfl (lv_at hl 2 rfl) ?_
              refine va_get (D := xD g) (ci := 5) (v := .ref us) (C := RX5) (T := TX5) (N := 8) hx hb hts hFX5 hown hK hP 2 rfl rfl 3 (by decide) (hts (.fieldLink RX5 20 "Stevedore$SlotGiver" "used" "[I") (by decide +kernel)) (fun _ h9 => h9) rfl dX5_shortenOverSpare_54 ?_
              refine lv_iload_n hx hb dX5_shortenOverSpare_57 rfl (lv_at hl 1 rfl) ?_
              refine va_iald hx hb hK hP 1 0 rfl rfl (vp_in_nI (by omega) (by omega)) dX5_shortenOverSpare_58 ?_
              refine lv_topi (fun v_54 ev => ?_)
              obtain rfl : v_54 = iI (used k) := ev.trans (congrArg (fun q9 => iI (used q9)) (nI_clamp (by omega)))
              have b_55 := b_used k
              refine lv_if_le (tgt := 89) hx hb dX5_shortenOverSpare_59 (by decide) (fun c_56 => ?_) (fun c_56 => ?_)
              · have nc_56 := (iLe (a := used k) (b := 0) rfl (by decide) (by omega)).mp c_56
                refine lv_iinc (v := nI (k + 1)) (lv' := [(2, .int (nI (k + 1))), (1, .int 0), (0, .ref sg)]) hx hb dX5_shortenOverSpare_89 hl (k := 1) rfl (nI_add k 1) (by decide) rfl (fun ls hl => ?_)
                refine lv_goto (tgt := 4) hx hb dX5_shortenOverSpare_92 (by decide) ?_
                have hP := hP.sub (ws' := [(sg, .inr (5, [g0, g1, .ref ro, .ref us, g4, .ref wc, .ref nx, .ref pu])), (ro, .inl (xI g, 17, .inl (fun j => iI (room j)))), (us, .inl (xI g, 17, .inl (fun j => iI (used j)))), (wc, .inl (xI g, 18, .inl (fun j => iI (dk j)))), (nx, .inl (xI g, 18, .inl (fun j => nI (nk j)))), (pu, .inl (xI g, 18, .inl (fun j => iI (pk j))))]) [2, 0, 1, 3, 4, 5] rfl
                have hD := hD.sub (ws' := [(sg, .inr (5, [g0, g1, .ref ro, .ref us, g4, .ref wc, .ref nx, .ref pu])), (ro, .inl (xI g, 17, .inl (fun j => iI (room j)))), (us, .inl (xI g, 17, .inl (fun j => iI (used j)))), (wc, .inl (xI g, 18, .inl (fun j => iI (dk j)))), (nx, .inl (xI g, 18, .inl (fun j => nI (nk j)))), (pu, .inl (xI g, 18, .inl (fun j => iI (pk j))))]) [2, 0, 1, 3, 4, 5] (by decide) rfl
                exact ih4 (k + 1) dk nk pk 0 _ _ _ (by omega) (by omega) hbf_52 (fun x => by have y := hlk x; have a_52 := hle_52 x; omega) (sP1_more hpk (fun x => by have a_52 := hle_52 x; omega) (fun q => by have y1 := hlk k; have y2 := hlk 17; have a_52 := hle_52 k; have z_52 := hle_52 17; have o_52 := hu_52; omega) (fun q => by have y1 := hlk k; have y2 := hlk 17; have a_52 := hle_52 k; have z_52 := hle_52 17; have o_52 := hu_52; omega)) (by first | exact hfk | exact Or.inl rfl | exact Or.inr ⟨rfl, (hfk.resolve_left (by omega)).2⟩) hb_32 hb_33 hb_34 hP hD hS (by rw [(show iI 0 = (0 : Int32) from by decide)]; exact lv_sub hl [0, 2, 1] rfl)
              · have nc_56 := mt (iLe (a := used k) (b := 0) rfl (by decide) (by omega)).mpr c_56
                refine lv_aload_n hx hb dX5_shortenOverSpare_62 rfl (lv_at hl 2 rfl) ?_
                refine lv_bipush (v := 17) hx hb dX5_shortenOverSpare_63 (by decide) ?_
                refine lv_iload_n hx hb dX5_shortenOverSpare_65 rfl (lv_at hl 1 rfl) ?_
                refine lv_aload_n hx hb dX5_shortenOverSpare_66 rfl (lv_at hl 2 rfl) ?_
                refine va_get (D := xD g) (ci := 5) (v := .ref wc) (C := RX5) (T := TX5) (N := 8) hx hb hts hFX5 hown hK hP 2 rfl rfl 5 (by decide) (hts (.fieldLink RX5 26 "Stevedore$SlotGiver" "wayCost" "[I") (by decide +kernel)) (fun _ h9 => h9) rfl dX5_shortenOverSpare_67 ?_
                refine lv_iload_n hx hb dX5_shortenOverSpare_70 rfl (lv_at hl 1 rfl) ?_
                refine va_iald hx hb hK hP 3 0 rfl rfl (vp_in_nI (by omega) (by omega)) dX5_shortenOverSpare_71 ?_
                refine lv_topi (fun v_57 ev => ?_)
                obtain rfl : v_57 = iI (dk k) := ev.trans (congrArg (fun q9 => iI (dk q9)) (nI_clamp (by omega)))
                have b_58 := hb_32 k
                refine lv_iconst (v := (-1)) hx hb dX5_shortenOverSpare_72 (by decide) ?_
                have hPc := hP.sub (ws' := [(sg, .inr (5, [g0, g1, .ref ro, .ref us, g4, .ref wc, .ref nx, .ref pu])), (wc, .inl (xI g, 18, .inl (fun j => iI (dk j)))), (nx, .inl (xI g, 18, .inl (fun j => nI (nk j)))), (pu, .inl (xI g, 18, .inl (fun j => iI (pk j))))]) [2, 3, 4, 5] rfl
                have hDc := hD.sub (ws' := [(sg, .inr (5, [g0, g1, .ref ro, .ref us, g4, .ref wc, .ref nx, .ref pu])), (wc, .inl (xI g, 18, .inl (fun j => iI (dk j)))), (nx, .inl (xI g, 18, .inl (fun j => nI (nk j)))), (pu, .inl (xI g, 18, .inl (fun j => iI (pk j))))]) [2, 3, 4, 5] (by decide) rfl
                have hFc := va_free (wc := [(sg, .inr (5, [g0, g1, .ref ro, .ref us, g4, .ref wc, .ref nx, .ref pu])), (wc, .inl (xI g, 18, .inl (fun j => iI (dk j)))), (nx, .inl (xI g, 18, .inl (fun j => nI (nk j)))), (pu, .inl (xI g, 18, .inl (fun j => iI (pk j))))]) hD hS hA [2, 3, 4, 5] rfl
                refine va_calli (va_runV (As := [.int 17, .int (nI k), .int (iI (dk k)), .int (-1)]) (rest := []) ⟨hx, hb, hml, hown, hts⟩ (g_shorten l g H.size sg wc nx pu 17 k (dk k) (-1) g0 g1 (.ref ro) (.ref us) g4 dk nk pk (by first | assumption | omega) (by first | assumption | omega) (by first | assumption | omega) (by first | assumption | omega) hb_32 hb_33 hb_34) (cwV 4 hts gX5_shortenOverSpare_X5_shorten rfl rfl rfl (by decide +kernel) ⟨Nat.le_of_ble_eq_true rfl, Nat.le_of_ble_eq_true rfl⟩) ⟨xB.blind, va_recv hK hPc (ci := 5) (q0 := 0) rfl rfl, fun U9 hU9 hW9 => ⟨rfl, xB.mk hPc hK hDc hU9 hW9⟩⟩ rfl rfl hl.1 rfl (lv_room (Nat.le_of_ble_eq_true rfl)) dX5_shortenOverSpare_73 ⟨Nat.le_of_ble_eq_true rfl, Nat.le_of_ble_eq_true rfl⟩) hS (fun q _ h => hFc q h) hFc (fun r_59 _ t H1 locs ht hvm hw_60 hB hz1 hk1 hS => ?_)
                obtain ⟨d1_61, n1_62, p1_63, hc_64, hb_65, hb_66, hb_67, hP1, hK1, hD1⟩ := hB
                rw [ht] at hP1
                obtain ⟨hP, hD⟩ := va_join (wr := [(ro, .inl (xI g, 17, .inl (fun j => iI (room j)))), (us, .inl (xI g, 17, .inl (fun j => iI (used j))))]) (w1 := [(sg, .inr (5, [g0, g1, .ref ro, .ref us, g4, .ref wc, .ref nx, .ref pu])), (wc, .inl (xI g, 18, .inl (fun j => iI (d1_61 j)))), (nx, .inl (xI g, 18, .inl (fun j => nI (n1_62 j)))), (pu, .inl (xI g, 18, .inl (fun j => iI (p1_63 j))))]) hP hD [2, 3, 4, 5] [0, 1] rfl rfl (by decide) (by decide) hk1 hFc hP1 hD1
                generalize H1 = H at hP hS ⊢
                have hP : va_P (xD g) vwCl [(ro, .inl (xI g, 17, .inl (fun j => iI (room j)))), (us, .inl (xI g, 17, .inl (fun j => iI (used j)))), (sg, .inr (5, [g0, g1, .ref ro, .ref us, g4, .ref wc, .ref nx, .ref pu])), (wc, .inl (xI g, 18, .inl (fun j => iI (d1_61 j)))), (nx, .inl (xI g, 18, .inl (fun j => nI (n1_62 j)))), (pu, .inl (xI g, 18, .inl (fun j => iI (p1_63 j))))] H := hP
                have hD : va_D A [(ro, .inl (xI g, 17, .inl (fun j => iI (room j)))), (us, .inl (xI g, 17, .inl (fun j => iI (used j)))), (sg, .inr (5, [g0, g1, .ref ro, .ref us, g4, .ref wc, .ref nx, .ref pu])), (wc, .inl (xI g, 18, .inl (fun j => iI (d1_61 j)))), (nx, .inl (xI g, 18, .inl (fun j => nI (n1_62 j)))), (pu, .inl (xI g, 18, .inl (fun j => iI (p1_63 j))))] := hD
                try dsimp only at hw_60
                rcases hw_60 with ⟨rfl, hw_60⟩ | ⟨rfl, hw_60⟩
                · obtain ⟨hbf_68, hle_68, hu_68, hn_68⟩ := sBF_try hp hbf_52 (he2 k (by omega) (by omega)) (Int.zero_add _).symm (Or.inl (Int.le_refl _)) hc_64
                  refine lv_if_ne (tgt := 83) hx hb dX5_shortenOverSpare_76 (by decide) (fun _ => ?_) (fun c0 => absurd c0 (by decide))
                  refine lv_iconst (v := 1) hx hb dX5_shortenOverSpare_83 (by decide) ?_
                  refine lv_goto (tgt := 88) hx hb dX5_shortenOverSpare_84 (by decide) ?_
                  refine lv_istore_n (lv' := [(1, .int 1), (2, .int (nI k)), (0, .ref sg)]) hx hb dX5_shortenOverSpare_88 rfl hl (by decide) rfl (fun ls hl => ?_)
                  refine lv_iinc (v := nI (k + 1)) (lv' := [(2, .int (nI (k + 1))), (1, .int 1), (0, .ref sg)]) hx hb dX5_shortenOverSpare_89 hl (k := 1) rfl (nI_add k 1) (by decide) rfl (fun ls hl => ?_)
                  refine lv_goto (tgt := 4) hx hb dX5_shortenOverSpare_92 (by decide) ?_
                  have hP := hP.sub (ws' := [(sg, .inr (5, [g0, g1, .ref ro, .ref us, g4, .ref wc, .ref nx, .ref pu])), (ro, .inl (xI g, 17, .inl (fun j => iI (room j)))), (us, .inl (xI g, 17, .inl (fun j => iI (used j)))), (wc, .inl (xI g, 18, .inl (fun j => iI (d1_61 j)))), (nx, .inl (xI g, 18, .inl (fun j => nI (n1_62 j)))), (pu, .inl (xI g, 18, .inl (fun j => iI (p1_63 j))))]) [2, 0, 1, 3, 4, 5] rfl
                  have hD := hD.sub (ws' := [(sg, .inr (5, [g0, g1, .ref ro, .ref us, g4, .ref wc, .ref nx, .ref pu])), (ro, .inl (xI g, 17, .inl (fun j => iI (room j)))), (us, .inl (xI g, 17, .inl (fun j => iI (used j)))), (wc, .inl (xI g, 18, .inl (fun j => iI (d1_61 j)))), (nx, .inl (xI g, 18, .inl (fun j => nI (n1_62 j)))), (pu, .inl (xI g, 18, .inl (fun j => iI (p1_63 j))))]) [2, 0, 1, 3, 4, 5] (by decide) rfl
                  exact ih4 (k + 1) d1_61 n1_62 p1_63 1 _ _ _ (by omega) (by omega) hbf_68 (fun x => by have y := hlk x; have a_52 := hle_52 x; have a_68 := hle_68 x; omega) (sP1_more hpk (fun x => by have a_52 := hle_52 x; have a_68 := hle_68 x; omega) (fun q => by have y1 := hlk k; have y2 := hlk 17; have a_52 := hle_52 k; have z_52 := hle_52 17; have o_52 := hu_52; have a_68 := hle_68 k; have z_68 := hle_68 17; have o_68 := hu_68; omega) (fun q => by have y1 := hlk k; have y2 := hlk 17; have a_52 := hle_52 k; have z_52 := hle_52 17; have o_52 := hu_52; have a_68 := hle_68 k; have z_68 := hle_68 17; have o_68 := hu_68; omega)) (by first | exact hfk | exact Or.inl rfl | exact Or.inr ⟨rfl, (hfk.resolve_left (by omega)).2⟩) hb_65 hb_66 hb_67 hP hD hS (by rw [(show iI 1 = (1 : Int32) from by decide)]; exact lv_sub hl [0, 2, 1] rfl)
                · obtain ⟨hbf_69, hle_69, hu_69, hn_69⟩ := sBF_try hp hbf_52 (he2 k (by omega) (by omega)) (Int.zero_add _).symm (Or.inl (Int.le_refl _)) hc_64
                  obtain ⟨rfl, rfl, rfl⟩ := hc_64.2 hw_60
                  refine lv_if_ne (tgt := 83) hx hb dX5_shortenOverSpare_76 (by decide) (fun c0 => absurd (by decide) c0) (fun _ => ?_)
                  refine lv_iload_n hx hb dX5_shortenOverSpare_79 rfl (lv_at hl 0 rfl) ?_
                  refine lv_if_eq (tgt := 87) hx hb dX5_shortenOverSpare_80 (by decide) (fun _ => ?_) (fun c0 => absurd (by decide) c0)
                  refine lv_iconst (v := 0) hx hb dX5_shortenOverSpare_87 (by decide) ?_
                  refine lv_istore_n (lv' := [(1, .int 0), (2, .int (nI k)), (0, .ref sg)]) hx hb dX5_shortenOverSpare_88 rfl hl (by decide) rfl (fun ls hl => ?_)
                  refine lv_iinc (v := nI (k + 1)) (lv' := [(2, .int (nI (k + 1))), (1, .int 0), (0, .ref sg)]) hx hb dX5_shortenOverSpare_89 hl (k := 1) rfl (nI_add k 1) (by decide) rfl (fun ls hl => ?_)
                  refine lv_goto (tgt := 4) hx hb dX5_shortenOverSpare_92 (by decide) ?_
                  have hP := hP.sub (ws' := [(sg, .inr (5, [g0, g1, .ref ro, .ref us, g4, .ref wc, .ref nx, .ref pu])), (ro, .inl (xI g, 17, .inl (fun j => iI (room j)))), (us, .inl (xI g, 17, .inl (fun j => iI (used j)))), (wc, .inl (xI g, 18, .inl (fun j => iI (dk j)))), (nx, .inl (xI g, 18, .inl (fun j => nI (nk j)))), (pu, .inl (xI g, 18, .inl (fun j => iI (pk j))))]) [2, 0, 1, 3, 4, 5] rfl
                  have hD := hD.sub (ws' := [(sg, .inr (5, [g0, g1, .ref ro, .ref us, g4, .ref wc, .ref nx, .ref pu])), (ro, .inl (xI g, 17, .inl (fun j => iI (room j)))), (us, .inl (xI g, 17, .inl (fun j => iI (used j)))), (wc, .inl (xI g, 18, .inl (fun j => iI (dk j)))), (nx, .inl (xI g, 18, .inl (fun j => nI (nk j)))), (pu, .inl (xI g, 18, .inl (fun j => iI (pk j))))]) [2, 0, 1, 3, 4, 5] (by decide) rfl
                  exact ih4 (k + 1) dk nk pk 0 _ _ _ (by omega) (by omega) hbf_69 (fun x => by have y := hlk x; have a_52 := hle_52 x; have a_69 := hle_69 x; omega) (sP1_more hpk (fun x => by have a_52 := hle_52 x; have a_69 := hle_69 x; omega) (fun q => by have y1 := hlk k; have y2 := hlk 17; have a_52 := hle_52 k; have z_52 := hle_52 17; have o_52 := hu_52; have a_69 := hle_69 k; have z_69 := hle_69 17; have o_69 := hu_69; omega) (fun q => by have y1 := hlk k; have y2 := hlk 17; have a_52 := hle_52 k; have z_52 := hle_52 17; have o_52 := hu_52; have a_69 := hle_69 k; have z_69 := hle_69 17; have o_69 := hu_69; omega)) (by first | exact hfk | exact Or.inl rfl | exact Or.inr ⟨rfl, (hfk.resolve_left (by omega)).2⟩) hb_65 hb_66 hb_67 hP hD hS (by rw [(show iI 0 = (0 : Int32) from by decide)]; exact lv_sub hl [0, 2, 1] rfl)
            · have nc_53 := mt (iEq (a := fl) (b := 0) rfl (by decide) (by omega)).mpr c_53
              refine lv_iconst (v := 1) hx hb dX5_shortenOverSpare_47 (by decide) ?_
              refine lv_goto (tgt := 52) hx hb dX5_shortenOverSpare_48 (by decide) ?_
              refine lv_istore_n (lv' := [(1, .int 1), (2, .int (nI k)), (0, .ref sg)]) hx hb dX5_shortenOverSpare_52 rfl hl (by decide) rfl (fun ls hl => ?_)
              refine lv_aload_n hx hb dX5_shortenOverSpare_53 rfl (lv_at hl 2 rfl) ?_
              refine va_get (D := xD g) (ci := 5) (v := .ref us) (C := RX5) (T := TX5) (N := 8) hx hb hts hFX5 hown hK hP 2 rfl rfl 3 (by decide) (hts (.fieldLink RX5 20 "Stevedore$SlotGiver" "used" "[I") (by decide +kernel)) (fun _ h9 => h9) rfl dX5_shortenOverSpare_54 ?_
              refine lv_iload_n hx hb dX5_shortenOverSpare_57 rfl (lv_at hl 1 rfl) ?_
              refine va_iald hx hb hK hP 1 0 rfl rfl (vp_in_nI (by omega) (by omega)) dX5_shortenOverSpare_58 ?_
              refine lv_topi (fun v_70 ev => ?_)
              obtain rfl : v_70 = iI (used k) := ev.trans (congrArg (fun q9 => iI (used q9)) (nI_clamp (by omega)))
              have b_71 := b_used k
              refine lv_if_le (tgt := 89) hx hb dX5_shortenOverSpare_59 (by decide) (fun c_72 => ?_) (fun c_72 => ?_)
              · have nc_72 := (iLe (a := used k) (b := 0) rfl (by decide) (by omega)).mp c_72
                refine lv_iinc (v := nI (k + 1)) (lv' := [(2, .int (nI (k + 1))), (1, .int 1), (0, .ref sg)]) hx hb dX5_shortenOverSpare_89 hl (k := 1) rfl (nI_add k 1) (by decide) rfl (fun ls hl => ?_)
                refine lv_goto (tgt := 4) hx hb dX5_shortenOverSpare_92 (by decide) ?_
                have hP := hP.sub (ws' := [(sg, .inr (5, [g0, g1, .ref ro, .ref us, g4, .ref wc, .ref nx, .ref pu])), (ro, .inl (xI g, 17, .inl (fun j => iI (room j)))), (us, .inl (xI g, 17, .inl (fun j => iI (used j)))), (wc, .inl (xI g, 18, .inl (fun j => iI (dk j)))), (nx, .inl (xI g, 18, .inl (fun j => nI (nk j)))), (pu, .inl (xI g, 18, .inl (fun j => iI (pk j))))]) [2, 0, 1, 3, 4, 5] rfl
                have hD := hD.sub (ws' := [(sg, .inr (5, [g0, g1, .ref ro, .ref us, g4, .ref wc, .ref nx, .ref pu])), (ro, .inl (xI g, 17, .inl (fun j => iI (room j)))), (us, .inl (xI g, 17, .inl (fun j => iI (used j)))), (wc, .inl (xI g, 18, .inl (fun j => iI (dk j)))), (nx, .inl (xI g, 18, .inl (fun j => nI (nk j)))), (pu, .inl (xI g, 18, .inl (fun j => iI (pk j))))]) [2, 0, 1, 3, 4, 5] (by decide) rfl
                exact ih4 (k + 1) dk nk pk 1 _ _ _ (by omega) (by omega) hbf_52 (fun x => by have y := hlk x; have a_52 := hle_52 x; omega) (sP1_more hpk (fun x => by have a_52 := hle_52 x; omega) (fun q => by have y1 := hlk k; have y2 := hlk 17; have a_52 := hle_52 k; have z_52 := hle_52 17; have o_52 := hu_52; omega) (fun q => by have y1 := hlk k; have y2 := hlk 17; have a_52 := hle_52 k; have z_52 := hle_52 17; have o_52 := hu_52; omega)) (by first | exact hfk | exact Or.inl rfl | exact Or.inr ⟨rfl, (hfk.resolve_left (by omega)).2⟩) hb_32 hb_33 hb_34 hP hD hS (by rw [(show iI 1 = (1 : Int32) from by decide)]; exact lv_sub hl [0, 2, 1] rfl)
              · have nc_72 := mt (iLe (a := used k) (b := 0) rfl (by decide) (by omega)).mpr c_72
                refine lv_aload_n hx hb dX5_shortenOverSpare_62 rfl (lv_at hl 2 rfl) ?_
                refine lv_bipush (v := 17) hx hb dX5_shortenOverSpare_63 (by decide) ?_
                refine lv_iload_n hx hb dX5_shortenOverSpare_65 rfl (lv_at hl 1 rfl) ?_
                refine lv_aload_n hx hb dX5_shortenOverSpare_66 rfl (lv_at hl 2 rfl) ?_
                refine va_get (D := xD g) (ci := 5) (v := .ref wc) (C := RX5) (T := TX5) (N := 8) hx hb hts hFX5 hown hK hP 2 rfl rfl 5 (by decide) (hts (.fieldLink RX5 26 "Stevedore$SlotGiver" "wayCost" "[I") (by decide +kernel)) (fun _ h9 => h9) rfl dX5_shortenOverSpare_67 ?_
                refine lv_iload_n hx hb dX5_shortenOverSpare_70 rfl (lv_at hl 1 rfl) ?_
                refine va_iald hx hb hK hP 3 0 rfl rfl (vp_in_nI (by omega) (by omega)) dX5_shortenOverSpare_71 ?_
                refine lv_topi (fun v_73 ev => ?_)
                obtain rfl : v_73 = iI (dk k) := ev.trans (congrArg (fun q9 => iI (dk q9)) (nI_clamp (by omega)))
                have b_74 := hb_32 k
                refine lv_iconst (v := (-1)) hx hb dX5_shortenOverSpare_72 (by decide) ?_
                have hPc := hP.sub (ws' := [(sg, .inr (5, [g0, g1, .ref ro, .ref us, g4, .ref wc, .ref nx, .ref pu])), (wc, .inl (xI g, 18, .inl (fun j => iI (dk j)))), (nx, .inl (xI g, 18, .inl (fun j => nI (nk j)))), (pu, .inl (xI g, 18, .inl (fun j => iI (pk j))))]) [2, 3, 4, 5] rfl
                have hDc := hD.sub (ws' := [(sg, .inr (5, [g0, g1, .ref ro, .ref us, g4, .ref wc, .ref nx, .ref pu])), (wc, .inl (xI g, 18, .inl (fun j => iI (dk j)))), (nx, .inl (xI g, 18, .inl (fun j => nI (nk j)))), (pu, .inl (xI g, 18, .inl (fun j => iI (pk j))))]) [2, 3, 4, 5] (by decide) rfl
                have hFc := va_free (wc := [(sg, .inr (5, [g0, g1, .ref ro, .ref us, g4, .ref wc, .ref nx, .ref pu])), (wc, .inl (xI g, 18, .inl (fun j => iI (dk j)))), (nx, .inl (xI g, 18, .inl (fun j => nI (nk j)))), (pu, .inl (xI g, 18, .inl (fun j => iI (pk j))))]) hD hS hA [2, 3, 4, 5] rfl
                refine va_calli (va_runV (As := [.int 17, .int (nI k), .int (iI (dk k)), .int (-1)]) (rest := []) ⟨hx, hb, hml, hown, hts⟩ (g_shorten l g H.size sg wc nx pu 17 k (dk k) (-1) g0 g1 (.ref ro) (.ref us) g4 dk nk pk (by first | assumption | omega) (by first | assumption | omega) (by first | assumption | omega) (by first | assumption | omega) hb_32 hb_33 hb_34) (cwV 4 hts gX5_shortenOverSpare_X5_shorten rfl rfl rfl (by decide +kernel) ⟨Nat.le_of_ble_eq_true rfl, Nat.le_of_ble_eq_true rfl⟩) ⟨xB.blind, va_recv hK hPc (ci := 5) (q0 := 0) rfl rfl, fun U9 hU9 hW9 => ⟨rfl, xB.mk hPc hK hDc hU9 hW9⟩⟩ rfl rfl hl.1 rfl (lv_room (Nat.le_of_ble_eq_true rfl)) dX5_shortenOverSpare_73 ⟨Nat.le_of_ble_eq_true rfl, Nat.le_of_ble_eq_true rfl⟩) hS (fun q _ h => hFc q h) hFc (fun r_75 _ t H1 locs ht hvm hw_76 hB hz1 hk1 hS => ?_)
                obtain ⟨d1_77, n1_78, p1_79, hc_80, hb_81, hb_82, hb_83, hP1, hK1, hD1⟩ := hB
                rw [ht] at hP1
                obtain ⟨hP, hD⟩ := va_join (wr := [(ro, .inl (xI g, 17, .inl (fun j => iI (room j)))), (us, .inl (xI g, 17, .inl (fun j => iI (used j))))]) (w1 := [(sg, .inr (5, [g0, g1, .ref ro, .ref us, g4, .ref wc, .ref nx, .ref pu])), (wc, .inl (xI g, 18, .inl (fun j => iI (d1_77 j)))), (nx, .inl (xI g, 18, .inl (fun j => nI (n1_78 j)))), (pu, .inl (xI g, 18, .inl (fun j => iI (p1_79 j))))]) hP hD [2, 3, 4, 5] [0, 1] rfl rfl (by decide) (by decide) hk1 hFc hP1 hD1
                generalize H1 = H at hP hS ⊢
                have hP : va_P (xD g) vwCl [(ro, .inl (xI g, 17, .inl (fun j => iI (room j)))), (us, .inl (xI g, 17, .inl (fun j => iI (used j)))), (sg, .inr (5, [g0, g1, .ref ro, .ref us, g4, .ref wc, .ref nx, .ref pu])), (wc, .inl (xI g, 18, .inl (fun j => iI (d1_77 j)))), (nx, .inl (xI g, 18, .inl (fun j => nI (n1_78 j)))), (pu, .inl (xI g, 18, .inl (fun j => iI (p1_79 j))))] H := hP
                have hD : va_D A [(ro, .inl (xI g, 17, .inl (fun j => iI (room j)))), (us, .inl (xI g, 17, .inl (fun j => iI (used j)))), (sg, .inr (5, [g0, g1, .ref ro, .ref us, g4, .ref wc, .ref nx, .ref pu])), (wc, .inl (xI g, 18, .inl (fun j => iI (d1_77 j)))), (nx, .inl (xI g, 18, .inl (fun j => nI (n1_78 j)))), (pu, .inl (xI g, 18, .inl (fun j => iI (p1_79 j))))] := hD
                try dsimp only at hw_76
                rcases hw_76 with ⟨rfl, hw_76⟩ | ⟨rfl, hw_76⟩
                · obtain ⟨hbf_84, hle_84, hu_84, hn_84⟩ := sBF_try hp hbf_52 (he2 k (by omega) (by omega)) (Int.zero_add _).symm (Or.inl (Int.le_refl _)) hc_80
                  refine lv_if_ne (tgt := 83) hx hb dX5_shortenOverSpare_76 (by decide) (fun _ => ?_) (fun c0 => absurd c0 (by decide))
                  refine lv_iconst (v := 1) hx hb dX5_shortenOverSpare_83 (by decide) ?_
                  refine lv_goto (tgt := 88) hx hb dX5_shortenOverSpare_84 (by decide) ?_
                  refine lv_istore_n (lv' := [(1, .int 1), (2, .int (nI k)), (0, .ref sg)]) hx hb dX5_shortenOverSpare_88 rfl hl (by decide) rfl (fun ls hl => ?_)
                  refine lv_iinc (v := nI (k + 1)) (lv' := [(2, .int (nI (k + 1))), (1, .int 1), (0, .ref sg)]) hx hb dX5_shortenOverSpare_89 hl (k := 1) rfl (nI_add k 1) (by decide) rfl (fun ls hl => ?_)
                  refine lv_goto (tgt := 4) hx hb dX5_shortenOverSpare_92 (by decide) ?_
                  have hP := hP.sub (ws' := [(sg, .inr (5, [g0, g1, .ref ro, .ref us, g4, .ref wc, .ref nx, .ref pu])), (ro, .inl (xI g, 17, .inl (fun j => iI (room j)))), (us, .inl (xI g, 17, .inl (fun j => iI (used j)))), (wc, .inl (xI g, 18, .inl (fun j => iI (d1_77 j)))), (nx, .inl (xI g, 18, .inl (fun j => nI (n1_78 j)))), (pu, .inl (xI g, 18, .inl (fun j => iI (p1_79 j))))]) [2, 0, 1, 3, 4, 5] rfl
                  have hD := hD.sub (ws' := [(sg, .inr (5, [g0, g1, .ref ro, .ref us, g4, .ref wc, .ref nx, .ref pu])), (ro, .inl (xI g, 17, .inl (fun j => iI (room j)))), (us, .inl (xI g, 17, .inl (fun j => iI (used j)))), (wc, .inl (xI g, 18, .inl (fun j => iI (d1_77 j)))), (nx, .inl (xI g, 18, .inl (fun j => nI (n1_78 j)))), (pu, .inl (xI g, 18, .inl (fun j => iI (p1_79 j))))]) [2, 0, 1, 3, 4, 5] (by decide) rfl
                  exact ih4 (k + 1) d1_77 n1_78 p1_79 1 _ _ _ (by omega) (by omega) hbf_84 (fun x => by have y := hlk x; have a_52 := hle_52 x; have a_84 := hle_84 x; omega) (sP1_more hpk (fun x => by have a_52 := hle_52 x; have a_84 := hle_84 x; omega) (fun q => by have y1 := hlk k; have y2 := hlk 17; have a_52 := hle_52 k; have z_52 := hle_52 17; have o_52 := hu_52; have a_84 := hle_84 k; have z_84 := hle_84 17; have o_84 := hu_84; omega) (fun q => by have y1 := hlk k; have y2 := hlk 17; have a_52 := hle_52 k; have z_52 := hle_52 17; have o_52 := hu_52; have a_84 := hle_84 k; have z_84 := hle_84 17; have o_84 := hu_84; omega)) (by first | exact hfk | exact Or.inl rfl | exact Or.inr ⟨rfl, (hfk.resolve_left (by omega)).2⟩) hb_81 hb_82 hb_83 hP hD hS (by rw [(show iI 1 = (1 : Int32) from by decide)]; exact lv_sub hl [0, 2, 1] rfl)
                · obtain ⟨hbf_85, hle_85, hu_85, hn_85⟩ := sBF_try hp hbf_52 (he2 k (by omega) (by omega)) (Int.zero_add _).symm (Or.inl (Int.le_refl _)) hc_80
                  obtain ⟨rfl, rfl, rfl⟩ := hc_80.2 hw_76
                  refine lv_if_ne (tgt := 83) hx hb dX5_shortenOverSpare_76 (by decide) (fun c0 => absurd (by decide) c0) (fun _ => ?_)
                  refine lv_iload_n hx hb dX5_shortenOverSpare_79 rfl (lv_at hl 0 rfl) ?_
                  refine lv_if_eq (tgt := 87) hx hb dX5_shortenOverSpare_80 (by decide) (fun c0 => absurd c0 (by decide)) (fun _ => ?_)
                  refine lv_iconst (v := 1) hx hb dX5_shortenOverSpare_83 (by decide) ?_
                  refine lv_goto (tgt := 88) hx hb dX5_shortenOverSpare_84 (by decide) ?_
                  refine lv_istore_n (lv' := [(1, .int 1), (2, .int (nI k)), (0, .ref sg)]) hx hb dX5_shortenOverSpare_88 rfl hl (by decide) rfl (fun ls hl => ?_)
                  refine lv_iinc (v := nI (k + 1)) (lv' := [(2, .int (nI (k + 1))), (1, .int 1), (0, .ref sg)]) hx hb dX5_shortenOverSpare_89 hl (k := 1) rfl (nI_add k 1) (by decide) rfl (fun ls hl => ?_)
                  refine lv_goto (tgt := 4) hx hb dX5_shortenOverSpare_92 (by decide) ?_
                  have hP := hP.sub (ws' := [(sg, .inr (5, [g0, g1, .ref ro, .ref us, g4, .ref wc, .ref nx, .ref pu])), (ro, .inl (xI g, 17, .inl (fun j => iI (room j)))), (us, .inl (xI g, 17, .inl (fun j => iI (used j)))), (wc, .inl (xI g, 18, .inl (fun j => iI (dk j)))), (nx, .inl (xI g, 18, .inl (fun j => nI (nk j)))), (pu, .inl (xI g, 18, .inl (fun j => iI (pk j))))]) [2, 0, 1, 3, 4, 5] rfl
                  have hD := hD.sub (ws' := [(sg, .inr (5, [g0, g1, .ref ro, .ref us, g4, .ref wc, .ref nx, .ref pu])), (ro, .inl (xI g, 17, .inl (fun j => iI (room j)))), (us, .inl (xI g, 17, .inl (fun j => iI (used j)))), (wc, .inl (xI g, 18, .inl (fun j => iI (dk j)))), (nx, .inl (xI g, 18, .inl (fun j => nI (nk j)))), (pu, .inl (xI g, 18, .inl (fun j => iI (pk j))))]) [2, 0, 1, 3, 4, 5] (by decide) rfl
                  exact ih4 (k + 1) dk nk pk 1 _ _ _ (by omega) (by omega) hbf_85 (fun x => by have y := hlk x; have a_52 := hle_52 x; have a_85 := hle_85 x; omega) (sP1_more hpk (fun x => by have a_52 := hle_52 x; have a_85 := hle_85 x; omega) (fun q => by have y1 := hlk k; have y2 := hlk 17; have a_52 := hle_52 k; have z_52 := hle_52 17; have o_52 := hu_52; have a_85 := hle_85 k; have z_85 := hle_85 17; have o_85 := hu_85; omega) (fun q => by have y1 := hlk k; have y2 := hlk 17; have a_52 := hle_52 k; have z_52 := hle_52 17; have o_52 := hu_52; have a_85 := hle_85 k; have z_85 := hle_85 17; have o_85 := hu_85; omega)) (by first | exact hfk | exact Or.inl rfl | exact Or.inr ⟨rfl, (hfk.resolve_left (by omega)).2⟩) hb_81 hb_82 hb_83 hP hD hS (by rw [(show iI 1 = (1 : Int32) from by decide)]; exact lv_sub hl [0, 2, 1] rfl)
  exact hloop4 (18) 0 dd nxt psh 0 _ _ _ (by omega) (by omega) hbf (fun x => Int.le_refl _) (fun q hq => absurd hq (Nat.not_lt_zero _)) (Or.inr ⟨rfl, rfl⟩) b_dd b_nxt b_psh hP hD hS (by rw [(show nI 0 = (0 : Int32) from by decide), (show iI 0 = (0 : Int32) from by decide)]; exact lv_sub hl [0, 2, 1] rfl)
