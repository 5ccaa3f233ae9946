theorem dX5_shortenByPush_0 : decode cX5_shortenByPush 0 = .ok (.iconst 0, 1) := by decide +kernel
theorem dX5_shortenByPush_1 : decode cX5_shortenByPush 1 = .ok (.istore_n 2, 1) := by decide +kernel
theorem dX5_shortenByPush_2 : decode cX5_shortenByPush 2 = .ok (.aload_n 0, 1) := by decide +kernel
theorem dX5_shortenByPush_3 : decode cX5_shortenByPush 3 = .ok (.getfield 23, 3) := by decide +kernel
theorem dX5_shortenByPush_6 : decode cX5_shortenByPush 6 = .ok (.iload_n 1, 1) := by decide +kernel
theorem dX5_shortenByPush_7 : decode cX5_shortenByPush 7 = .ok (.iaload, 1) := by decide +kernel
theorem dX5_shortenByPush_8 : decode cX5_shortenByPush 8 = .ok (.istore_n 3, 1) := by decide +kernel
theorem dX5_shortenByPush_9 : decode cX5_shortenByPush 9 = .ok (.iconst 0, 1) := by decide +kernel
theorem dX5_shortenByPush_10 : decode cX5_shortenByPush 10 = .ok (.istore 4, 2) := by decide +kernel
theorem dX5_shortenByPush_12 : decode cX5_shortenByPush 12 = .ok (.iload 4, 2) := by decide +kernel
theorem dX5_shortenByPush_14 : decode cX5_shortenByPush 14 = .ok (.bipush 16, 2) := by decide +kernel
theorem dX5_shortenByPush_16 : decode cX5_shortenByPush 16 = .ok (.if_icmp .gt 92, 3) := by decide +kernel
theorem dX5_shortenByPush_108 : decode cX5_shortenByPush 108 = .ok (.iload_n 2, 1) := by decide +kernel
theorem dX5_shortenByPush_109 : decode cX5_shortenByPush 109 = .ok (.ireturn, 1) := by decide +kernel
theorem dX5_shortenByPush_19 : decode cX5_shortenByPush 19 = .ok (.iload 4, 2) := by decide +kernel
theorem dX5_shortenByPush_21 : decode cX5_shortenByPush 21 = .ok (.iload_n 3, 1) := by decide +kernel
theorem dX5_shortenByPush_22 : decode cX5_shortenByPush 22 = .ok (.if_icmp .eq 80, 3) := by decide +kernel
theorem dX5_shortenByPush_102 : decode cX5_shortenByPush 102 = .ok (.iinc 4 1, 3) := by decide +kernel
theorem dX5_shortenByPush_105 : decode cX5_shortenByPush 105 = .ok (.goto (-93), 3) := by decide +kernel
theorem dX5_shortenByPush_25 : decode cX5_shortenByPush 25 = .ok (.aload_n 0, 1) := by decide +kernel
theorem dX5_shortenByPush_26 : decode cX5_shortenByPush 26 = .ok (.getfield 11, 3) := by decide +kernel
theorem dX5_shortenByPush_29 : decode cX5_shortenByPush 29 = .ok (.iload_n 1, 1) := by decide +kernel
theorem dX5_shortenByPush_30 : decode cX5_shortenByPush 30 = .ok (.aaload, 1) := by decide +kernel
theorem dX5_shortenByPush_31 : decode cX5_shortenByPush 31 = .ok (.iload 4, 2) := by decide +kernel
theorem dX5_shortenByPush_33 : decode cX5_shortenByPush 33 = .ok (.iaload, 1) := by decide +kernel
theorem dX5_shortenByPush_34 : decode cX5_shortenByPush 34 = .ok (.ldc 52, 2) := by decide +kernel
theorem dX5_shortenByPush_36 : decode cX5_shortenByPush 36 = .ok (.if_icmp .ge 66, 3) := by decide +kernel
theorem dX5_shortenByPush_39 : decode cX5_shortenByPush 39 = .ok (.aload_n 0, 1) := by decide +kernel
theorem dX5_shortenByPush_40 : decode cX5_shortenByPush 40 = .ok (.getfield 26, 3) := by decide +kernel
theorem dX5_shortenByPush_43 : decode cX5_shortenByPush 43 = .ok (.iload 4, 2) := by decide +kernel
theorem dX5_shortenByPush_45 : decode cX5_shortenByPush 45 = .ok (.iaload, 1) := by decide +kernel
theorem dX5_shortenByPush_46 : decode cX5_shortenByPush 46 = .ok (.ldc 52, 2) := by decide +kernel
theorem dX5_shortenByPush_48 : decode cX5_shortenByPush 48 = .ok (.if_icmp .ge 54, 3) := by decide +kernel
theorem dX5_shortenByPush_51 : decode cX5_shortenByPush 51 = .ok (.aload_n 0, 1) := by decide +kernel
theorem dX5_shortenByPush_52 : decode cX5_shortenByPush 52 = .ok (.getfield 11, 3) := by decide +kernel
theorem dX5_shortenByPush_55 : decode cX5_shortenByPush 55 = .ok (.iload_n 1, 1) := by decide +kernel
theorem dX5_shortenByPush_56 : decode cX5_shortenByPush 56 = .ok (.aaload, 1) := by decide +kernel
theorem dX5_shortenByPush_57 : decode cX5_shortenByPush 57 = .ok (.iload 4, 2) := by decide +kernel
theorem dX5_shortenByPush_59 : decode cX5_shortenByPush 59 = .ok (.iaload, 1) := by decide +kernel
theorem dX5_shortenByPush_60 : decode cX5_shortenByPush 60 = .ok (.aload_n 0, 1) := by decide +kernel
theorem dX5_shortenByPush_61 : decode cX5_shortenByPush 61 = .ok (.getfield 11, 3) := by decide +kernel
theorem dX5_shortenByPush_64 : decode cX5_shortenByPush 64 = .ok (.iload_n 1, 1) := by decide +kernel
theorem dX5_shortenByPush_65 : decode cX5_shortenByPush 65 = .ok (.aaload, 1) := by decide +kernel
theorem dX5_shortenByPush_66 : decode cX5_shortenByPush 66 = .ok (.iload_n 3, 1) := by decide +kernel
theorem dX5_shortenByPush_67 : decode cX5_shortenByPush 67 = .ok (.iaload, 1) := by decide +kernel
theorem dX5_shortenByPush_68 : decode cX5_shortenByPush 68 = .ok (.isub, 1) := by decide +kernel
theorem dX5_shortenByPush_69 : decode cX5_shortenByPush 69 = .ok (.aload_n 0, 1) := by decide +kernel
theorem dX5_shortenByPush_70 : decode cX5_shortenByPush 70 = .ok (.getfield 26, 3) := by decide +kernel
theorem dX5_shortenByPush_73 : decode cX5_shortenByPush 73 = .ok (.iload 4, 2) := by decide +kernel
theorem dX5_shortenByPush_75 : decode cX5_shortenByPush 75 = .ok (.iaload, 1) := by decide +kernel
theorem dX5_shortenByPush_76 : decode cX5_shortenByPush 76 = .ok (.iadd, 1) := by decide +kernel
theorem dX5_shortenByPush_77 : decode cX5_shortenByPush 77 = .ok (.istore 5, 2) := by decide +kernel
theorem dX5_shortenByPush_79 : decode cX5_shortenByPush 79 = .ok (.aload_n 0, 1) := by decide +kernel
theorem dX5_shortenByPush_80 : decode cX5_shortenByPush 80 = .ok (.iload_n 3, 1) := by decide +kernel
theorem dX5_shortenByPush_81 : decode cX5_shortenByPush 81 = .ok (.iload 4, 2) := by decide +kernel
theorem dX5_shortenByPush_83 : decode cX5_shortenByPush 83 = .ok (.iload 5, 2) := by decide +kernel
theorem dX5_shortenByPush_85 : decode cX5_shortenByPush 85 = .ok (.iload_n 1, 1) := by decide +kernel
theorem dX5_shortenByPush_86 : decode cX5_shortenByPush 86 = .ok (.invokevirtual 64, 3) := by decide +kernel
set_option maxRecDepth 20000 in
theorem ggX5_shortenByPush_X5_shorten : GoodIn wsX5_shortenByPush wsX5_shorten := goodIn_r _ [9, 4, 10, 11, 12, 13, 14, 15, 16, 17, 18, 19] rfl (by decide +kernel)
set_option maxRecDepth 20000 in
theorem gX5_shortenByPush_X5_shorten : GoodIn wsX5_shortenByPush (wsV RX5 64 RX5 yX5_shorten wsX5_shorten) := goodIn_app (goodIn_of _ (by decide +kernel)) ggX5_shortenByPush_X5_shorten
theorem dX5_shortenByPush_89 : decode cX5_shortenByPush 89 = .ok (.ifCond .ne 7, 3) := by decide +kernel
theorem dX5_shortenByPush_96 : decode cX5_shortenByPush 96 = .ok (.iconst 1, 1) := by decide +kernel
theorem dX5_shortenByPush_97 : decode cX5_shortenByPush 97 = .ok (.goto 4, 3) := by decide +kernel
theorem dX5_shortenByPush_101 : decode cX5_shortenByPush 101 = .ok (.istore_n 2, 1) := by decide +kernel
theorem dX5_shortenByPush_92 : decode cX5_shortenByPush 92 = .ok (.iload_n 2, 1) := by decide +kernel
theorem dX5_shortenByPush_93 : decode cX5_shortenByPush 93 = .ok (.ifCond .eq 7, 3) := by decide +kernel
theorem dX5_shortenByPush_100 : decode cX5_shortenByPush 100 = .ok (.iconst 0, 1) := by decide +kernel
set_option maxHeartbeats 4000000 in
set_option maxRecDepth 100000 in
theorem g_shortenByPush (l : Launch) (g : xG) (sz : Nat) (sg : Nat) (co : Nat) (sl : Nat) (wc : Nat) (nx : Nat) (pu : Nat) (cn : Nat) (cr : Nat → Nat) (EE : Nat → Nat → Int → Int → Prop) (goal : Nat) (hh : Nat → Int) (g0 : Value) (g2 : Value) (g3 : Value) (cost : Nat → Nat → Int) (slot : Nat → Nat) (dd : Nat → Int) (nxt : Nat → Nat) (psh : Nat → Int)  (hp : sPot EE hh) (hhb : ∀ u, -680 ≤ hh u ∧ hh u ≤ 1000000) (hbf : ∃ t T, sBF EE goal dd nxt psh t T) (hcn : cn < 24) (he3 : ∀ s, s ≤ 16 → s ≠ slot cn → cost cn s < 1000000 → EE (slot cn) s (cost cn s - cost cn (slot cn)) (cn : Int)) (b_cost : ∀ i j, 0 ≤ cost i j ∧ cost i j ≤ 1000000) (b_slot : ∀ j, slot j ≤ 16) (b_dd : ∀ j, (-3000000) ≤ dd j ∧ dd j ≤ 1000000) (b_nxt : ∀ j, nxt j ≤ 17) (b_psh : ∀ j, (-1) ≤ psh j ∧ psh j ≤ 23) : Met l yX5_shortenByPush wsX5_shortenByPush ({ frames := 1, cells := 0, slots := 0, locals := 24 }) (va_Pc [.ref sg, .int (nI cn)] (fun U => xB g ([(sg, .inr (5, [g0, .ref co, g2, g3, .ref sl, .ref wc, .ref nx, .ref pu])), (co, .inl (xM g, 24, .inr (.inr (.inr (.inr (fun i => if i < 24 then some (cr i) else none))))))] ++ (xRI (xI g) 24 17 cr cost ++ [(sl, .inl (xI g, 24, .inl (fun j => nI (slot j)))), (wc, .inl (xI g, 18, .inl (fun j => iI (dd j)))), (nx, .inl (xI g, 18, .inl (fun j => nI (nxt j)))), (pu, .inl (xI g, 18, .inl (fun j => iI (psh j))))])) sz U)) (va_Qi (fun (r : Int32) (u : Nat → Int) => r = 1 ∨ (r = 0 ∧ u = dd)) (fun (u : Nat → Int) (t : State) => ∃ (n1 : Nat → Nat) (p1 : Nat → Int), ((∃ t T, sBF EE goal u n1 p1 t T) ∧ (∀ x, u x ≤ dd x) ∧ sP2 cost dd u cn (slot cn) 17) ∧ (∀ j, (-3000000) ≤ u j ∧ u j ≤ 1000000) ∧ (∀ j, n1 j ≤ 17) ∧ (∀ j, (-1) ≤ p1 j ∧ p1 j ≤ 23) ∧ xE g ([(sg, .inr (5, [g0, .ref co, g2, g3, .ref sl, .ref wc, .ref nx, .ref pu])), (co, .inl (xM g, 24, .inr (.inr (.inr (.inr (fun i => if i < 24 then some (cr i) else none))))))] ++ (xRI (xI g) 24 17 cr cost ++ [(sl, .inl (xI g, 24, .inl (fun j => nI (slot j)))), (wc, .inl (xI g, 18, .inl (fun j => iI (u j)))), (nx, .inl (xI g, 18, .inl (fun j => nI (n1 j)))), (pu, .inl (xI g, 18, .inl (fun j => iI (p1 j))))])) (va_A ([(sg, .inr (5, [g0, .ref co, g2, g3, .ref sl, .ref wc, .ref nx, .ref pu])), (co, .inl (xM g, 24, .inr (.inr (.inr (.inr (fun i => if i < 24 then some (cr i) else none))))))] ++ (xRI (xI g) 24 17 cr cost ++ [(sl, .inl (xI g, 24, .inl (fun j => nI (slot j)))), (wc, .inl (xI g, 18, .inl (fun j => iI (dd j)))), (nx, .inl (xI g, 18, .inl (fun j => nI (nxt j)))), (pu, .inl (xI g, 18, .inl (fun j => iI (psh j))))])) sz) t) (va_A ([(sg, .inr (5, [g0, .ref co, g2, g3, .ref sl, .ref wc, .ref nx, .ref pu])), (co, .inl (xM g, 24, .inr (.inr (.inr (.inr (fun i => if i < 24 then some (cr i) else none))))))] ++ (xRI (xI g) 24 17 cr cost ++ [(sl, .inl (xI g, 24, .inl (fun j => nI (slot j)))), (wc, .inl (xI g, 18, .inl (fun j => iI (dd j)))), (nx, .inl (xI g, 18, .inl (fun j => nI (nxt j)))), (pu, .inl (xI g, 18, .inl (fun j => iI (psh j))))])) sz)) 0 0 (va_A ([(sg, .inr (5, [g0, .ref co, g2, g3, .ref sl, .ref wc, .ref nx, .ref pu])), (co, .inl (xM g, 24, .inr (.inr (.inr (.inr (fun i => if i < 24 then some (cr i) else none))))))] ++ (xRI (xI g) 24 17 cr cost ++ [(sl, .inl (xI g, 24, .inl (fun j => nI (slot j)))), (wc, .inl (xI g, 18, .inl (fun j => iI (dd j)))), (nx, .inl (xI g, 18, .inl (fun j => nI (nxt j)))), (pu, .inl (xI g, 18, .inl (fun j => iI (psh j))))])) sz) := by
  refine Met.ofW (cc := cX5_shortenByPush) (maxL := 6) (ret := (some .boolean)) (by decide) rfl ?_
  intro p e s m args below meth c s₁ B hml hv
  obtain ⟨rfl, hsz, hP, hK, hD0⟩ := hv
  have hx := B.exec
  have hb := B.bytes
  have hr := B.returns
  have hts := atoms_spec (ws := wsX5_shortenByPush) B.pre
  have hown : s.vm.findClass RX5 = some m.cls := findClass_of_methodNamed B.named
  have hlocks := B.notSynchronized
  subst hsz
  have hD := hD0.self (sz := s.heap.size)
  generalize hAe : va_A ([(sg, .inr (5, [g0, .ref co, g2, g3, .ref sl, .ref wc, .ref nx, .ref pu])), (co, .inl (xM g, 24, .inr (.inr (.inr (.inr (fun i => if i < 24 then some (cr i) else none))))))] ++ (xRI (xI g) 24 17 cr cost ++ [(sl, .inl (xI g, 24, .inl (fun j => nI (slot j)))), (wc, .inl (xI g, 18, .inl (fun j => iI (dd j)))), (nx, .inl (xI g, 18, .inl (fun j => nI (nxt j)))), (pu, .inl (xI g, 18, .inl (fun j => iI (psh j))))])) s.heap.size = A at hD ⊢
  have hA : ∀ q : Nat, s.heap.size ≤ q → A q := fun q h => by rw [← hAe]; exact Or.inr h
  have hS : va_S A s.heap s.heap [] := va_S.rf
  have hl := lv_entry ([.ref sg, .int (nI cn)]) (n := 6) (Nat.le_of_ble_eq_true rfl)
  rw [lg_entry_eq]
  generalize (lg_sl ([.ref sg, .int (nI cn)]) ++ List.replicate (6 - (lg_sl ([.ref sg, .int (nI cn)])).length) Slot.unset).toArray = ls at hl ⊢
  have hl : lv_has ls 6 [(0, .ref sg), (1, .int (nI cn))] := hl
  have hFX5 : ∀ w ∈ u_ws RX5 TX5 8, w ∈ wsX5_shortenByPush := by decide +kernel
  refine lv_iconst (v := 0) hx hb dX5_shortenByPush_0 (by decide) ?_
  refine lv_istore_n (lv' := [(2, .int 0), (0, .ref sg), (1, .int (nI cn))]) hx hb dX5_shortenByPush_1 rfl hl (by decide) rfl (fun ls hl => ?_)
  refine lv_aload_n hx hb dX5_shortenByPush_2 rfl (lv_at hl 1 rfl) ?_
  refine va_get (D := xD g) (ci := 5) (v := .ref sl) (C := RX5) (T := TX5) (N := 8) hx hb hts hFX5 hown hK hP 0 rfl rfl 4 (by decide) (hts (.fieldLink RX5 23 "Stevedore$SlotGiver" "slot" "[I") (by decide +kernel)) (fun _ h9 => h9) rfl dX5_shortenByPush_3 ?_
  refine lv_iload_n hx hb dX5_shortenByPush_6 rfl (lv_at hl 2 rfl) ?_
  refine va_iald hx hb hK hP 26 0 rfl rfl (vp_in_nI (by omega) (by omega)) dX5_shortenByPush_7 ?_
  refine lv_topi (fun v_1 ev => ?_)
  obtain rfl : v_1 = nI (slot cn) := ev.trans (congrArg (fun q9 => nI (slot q9)) (nI_clamp (by omega)))
  have b_2 := b_slot cn
  refine lv_istore_n (lv' := [(3, .int (nI (slot cn))), (2, .int 0), (0, .ref sg), (1, .int (nI cn))]) hx hb dX5_shortenByPush_8 rfl hl (by decide) rfl (fun ls hl => ?_)
  refine lv_iconst (v := 0) hx hb dX5_shortenByPush_9 (by decide) ?_
  refine lv_istore (lv' := [(4, .int 0), (3, .int (nI (slot cn))), (2, .int 0), (0, .ref sg), (1, .int (nI cn))]) hx hb dX5_shortenByPush_10 hl (by decide) rfl (fun ls hl => ?_)
  have hloop12 : ∀ (n9 : Nat) (k : Nat) (dk : Nat → Int) (nk : Nat → Nat) (pk : Nat → Int) (fl : Int) (H : Heap) (locs : List Loc) (ls : Array Slot), 17 - k < n9 → (k ≤ 17) → (∃ t T, sBF EE goal dk nk pk t T) → (∀ x, dk x ≤ dd x) → (sP2 cost dd dk cn (slot cn) k) → (∀ x, x ≠ slot cn → dk x = dd x) → (fl = 1 ∨ (fl = 0 ∧ dk = dd)) → (∀ j, (-3000000) ≤ dk j ∧ dk j ≤ 1000000) → (∀ j, nk j ≤ 17) → (∀ j, (-1) ≤ pk j ∧ pk j ≤ 23) → va_P (xD g) vwCl ([(sg, .inr (5, [g0, .ref co, g2, g3, .ref sl, .ref wc, .ref nx, .ref pu])), (co, .inl (xM g, 24, .inr (.inr (.inr (.inr (fun i => if i < 24 then some (cr i) else none))))))] ++ (xRI (xI g) 24 17 cr cost ++ [(sl, .inl (xI g, 24, .inl (fun j => nI (slot j)))), (wc, .inl (xI g, 18, .inl (fun j => iI (dk j)))), (nx, .inl (xI g, 18, .inl (fun j => nI (nk j)))), (pu, .inl (xI g, 18, .inl (fun j => iI (pk j))))])) H → va_D A ([(sg, .inr (5, [g0, .ref co, g2, g3, .ref sl, .ref wc, .ref nx, .ref pu])), (co, .inl (xM g, 24, .inr (.inr (.inr (.inr (fun i => if i < 24 then some (cr i) else none))))))] ++ (xRI (xI g) 24 17 cr cost ++ [(sl, .inl (xI g, 24, .inl (fun j => nI (slot j)))), (wc, .inl (xI g, 18, .inl (fun j => iI (dk j)))), (nx, .inl (xI g, 18, .inl (fun j => nI (nk j)))), (pu, .inl (xI g, 18, .inl (fun j => iI (pk j))))])) → va_S A s.heap H locs → lv_has ls 6 [(4, .int (nI k)), (0, .ref sg), (1, .int (nI cn)), (2, .int (iI fl)), (3, .int (nI (slot cn)))] → W p l e (headSpec wsX5_shortenByPush ({ frames := 1, cells := 0, slots := 0, locals := 24 })).room s m ([.ref sg, .int (nI cn)] : List Value).toArray below meth c H locs 0 0 (MQ below (va_Qi (fun (r : Int32) (u : Nat → Int) => r = 1 ∨ (r = 0 ∧ u = dd)) (fun (u : Nat → Int) (t : State) => ∃ (n1 : Nat → Nat) (p1 : Nat → Int), ((∃ t T, sBF EE goal u n1 p1 t T) ∧ (∀ x, u x ≤ dd x) ∧ sP2 cost dd u cn (slot cn) 17) ∧ (∀ j, (-3000000) ≤ u j ∧ u j ≤ 1000000) ∧ (∀ j, n1 j ≤ 17) ∧ (∀ j, (-1) ≤ p1 j ∧ p1 j ≤ 23) ∧ xE g ([(sg, .inr (5, [g0, .ref co, g2, g3, .ref sl, .ref wc, .ref nx, .ref pu])), (co, .inl (xM g, 24, .inr (.inr (.inr (.inr (fun i => if i < 24 then some (cr i) else none))))))] ++ (xRI (xI g) 24 17 cr cost ++ [(sl, .inl (xI g, 24, .inl (fun j => nI (slot j)))), (wc, .inl (xI g, 18, .inl (fun j => iI (u j)))), (nx, .inl (xI g, 18, .inl (fun j => nI (n1 j)))), (pu, .inl (xI g, 18, .inl (fun j => iI (p1 j))))])) (A) t) (A)) ([.ref sg, .int (nI cn)] : List Value).toArray s 0 0 A) (F0 m 12 ls []) := by
    intro n9
    induction n9 with
    | zero =>
      intro k dk nk pk fl H locs ls hm hk hbk hlk hpk hok hfk bb_dk bb_nk bb_pk hP hD hS hl
      exact absurd hm (Nat.not_lt_zero _)
    | succ n9 ih12 =>
      intro k dk nk pk fl H locs ls hm hk hbk hlk hpk hok hfk bb_dk bb_nk bb_pk hP hD hS hl
      obtain ⟨t8, T8, hb8⟩ := hbk
      have hlo := sBF_low hp hhb hb8
      have hbk : ∃ t T, sBF EE goal dk nk pk t T := ⟨t8, T8, hb8⟩
      have hlok := hlo k
      have hbkk := bb_dk k
      have hsl := b_slot cn
      refine lv_iload hx hb dX5_shortenByPush_12 (lv_at hl 0 rfl) ?_
      refine lv_bipush (v := 16) hx hb dX5_shortenByPush_14 (by decide) ?_
      refine lv_icmp_gt (tgt := 108) hx hb dX5_shortenByPush_16 (by decide) (fun c_3 => ?_) (fun c_3 => ?_)
      · have nc_3 := (nI_ltI (a := 16) (b := k) (by omega) (by omega)).mp c_3
        refine lv_iload_n hx hb dX5_shortenByPush_108 rfl (lv_at hl 3 rfl) ?_
        have hP9 := hP
        have hD9 := hD
        exact W.zret (v := iI fl) hx hb hr (by rcases hfk with q | ⟨q, q2⟩; (rw [q]; rfl); (rw [q]; rfl)) (fun t ht hW => ⟨⟨iI fl, dk, rfl, (by rcases hfk with q | ⟨q, q2⟩; (exact Or.inl (by rw [q]; decide)); (exact Or.inr ⟨by rw [q]; decide, q2⟩)), ⟨nk, pk, ⟨hbk, hlk, by obtain rfl : k = 17 := (by omega); exact hpk⟩, bb_dk, bb_nk, bb_pk, by rw [ht]; exact hP9, va_K.moved hW.alike hK, hD9⟩⟩, hS.F ht⟩) hS.2.2 dX5_shortenByPush_109
      · have nc_3 := mt (nI_ltI (a := 16) (b := k) (by omega) (by omega)).mpr c_3
        refine lv_iload hx hb dX5_shortenByPush_19 (lv_at hl 0 rfl) ?_
        refine lv_iload_n hx hb dX5_shortenByPush_21 rfl (lv_at hl 4 rfl) ?_
        refine lv_icmp_eq (tgt := 102) hx hb dX5_shortenByPush_22 (by decide) (fun c_4 => ?_) (fun c_4 => ?_)
        · have nc_4 := (nI_eq (a := k) (b := slot cn) (by omega) (by omega)).mp c_4
          refine lv_iinc (v := nI (k + 1)) (lv' := [(4, .int (nI (k + 1))), (0, .ref sg), (1, .int (nI cn)), (2, .int (iI fl)), (3, .int (nI (slot cn)))]) hx hb dX5_shortenByPush_102 hl (k := 0) rfl (nI_add k 1) (by decide) rfl (fun ls hl => ?_)
          refine lv_goto (tgt := 12) hx hb dX5_shortenByPush_105 (by decide) ?_
          exact ih12 (k + 1) dk nk pk fl _ _ _ (by omega) (by omega) hbk (fun x => by have y := hlk x; omega) (by intro s9 hs9 hf9 hq9 hv9; by_cases q : s9 = k; (subst q; have y2 := hok s9 hf9; have y1 := hok s9 hf9;  omega); (have z9 := hpk s9 (by omega) hf9 hq9 hv9; omega)) (fun x hx => by have y := hok x hx; omega) (by first | exact hfk | exact Or.inl rfl | exact Or.inr ⟨rfl, (hfk.resolve_left (by omega)).2⟩) bb_dk bb_nk bb_pk hP hD hS (lv_sub hl [0, 1, 2, 3, 4] rfl)
        · have nc_4 := mt (nI_eq (a := k) (b := slot cn) (by omega) (by omega)).mpr c_4
          refine lv_aload_n hx hb dX5_shortenByPush_25 rfl (lv_at hl 1 rfl) ?_
          refine va_get (D := xD g) (ci := 5) (v := .ref co) (C := RX5) (T := TX5) (N := 8) hx hb hts hFX5 hown hK hP 0 rfl rfl 1 (by decide) (hts (.fieldLink RX5 11 "Stevedore$SlotGiver" "cost" "[[I") (by decide +kernel)) (fun _ h9 => h9) rfl dX5_shortenByPush_26 ?_
          refine lv_iload_n hx hb dX5_shortenByPush_29 rfl (lv_at hl 2 rfl) ?_
          refine xAldM hx hb hK hP 1 3 rfl rfl (vp_in_nI (by omega) (by omega)) dX5_shortenByPush_30 ?_
          refine W.eq (g2 := F0 m 31 ls (.ref (cr cn) :: [])) (congrArg (fun q9 => F0 m 31 ls (q9 :: [])) (xRow (n := 24) (k := cn) (nI_clamp (by omega)) (by omega))) ?_
          refine lv_iload hx hb dX5_shortenByPush_31 (lv_at hl 0 rfl) ?_
          refine va_iald hx hb hK hP _ 0 (xR_ap (X := [(sg, .inr (5, [g0, .ref co, g2, g3, .ref sl, .ref wc, .ref nx, .ref pu])), (co, .inl (xM g, 24, .inr (.inr (.inr (.inr (fun i => if i < 24 then some (cr i) else none))))))]) (xR_get0 (i := cn) (by omega))) rfl (vp_in_nI (by omega) (by omega)) dX5_shortenByPush_33 ?_
          refine lv_topi (fun v_5 ev => ?_)
          obtain rfl : v_5 = iI (cost cn k) := ev.trans (congrArg (fun q9 => iI (cost cn q9)) (nI_clamp (by omega)))
          have b_6 := b_cost cn k
          refine lv_ldc (v := 1000000) hx hb hown (hts (.constant RX5 52 (1000000)) (by decide +kernel)) dX5_shortenByPush_34 ?_
          refine lv_icmp_ge (tgt := 102) hx hb dX5_shortenByPush_36 (by decide) (fun c_7 => ?_) (fun c_7 => ?_)
          · have nc_7 := (iLe (a := 1000000) (b := cost cn k) (by decide) rfl (by omega)).mp c_7
            refine lv_iinc (v := nI (k + 1)) (lv' := [(4, .int (nI (k + 1))), (0, .ref sg), (1, .int (nI cn)), (2, .int (iI fl)), (3, .int (nI (slot cn)))]) hx hb dX5_shortenByPush_102 hl (k := 0) rfl (nI_add k 1) (by decide) rfl (fun ls hl => ?_)
            refine lv_goto (tgt := 12) hx hb dX5_shortenByPush_105 (by decide) ?_
            exact ih12 (k + 1) dk nk pk fl _ _ _ (by omega) (by omega) hbk (fun x => by have y := hlk x; omega) (by intro s9 hs9 hf9 hq9 hv9; by_cases q : s9 = k; (subst q; have y2 := hok s9 hf9; have y1 := hok s9 hf9;  omega); (have z9 := hpk s9 (by omega) hf9 hq9 hv9; omega)) (fun x hx => by have y := hok x hx; omega) (by first | exact hfk | exact Or.inl rfl | exact Or.inr ⟨rfl, (hfk.resolve_left (by omega)).2⟩) bb_dk bb_nk bb_pk hP hD hS (lv_sub hl [0, 1, 2, 3, 4] rfl)
          · have nc_7 := mt (iLe (a := 1000000) (b := cost cn k) (by decide) rfl (by omega)).mpr c_7
            refine lv_aload_n hx hb dX5_shortenByPush_39 rfl (lv_at hl 1 rfl) ?_
            refine va_get (D := xD g) (ci := 5) (v := .ref wc) (C := RX5) (T := TX5) (N := 8) hx hb hts hFX5 hown hK hP 0 rfl rfl 5 (by decide) (hts (.fieldLink RX5 26 "Stevedore$SlotGiver" "wayCost" "[I") (by decide +kernel)) (fun _ h9 => h9) rfl dX5_shortenByPush_40 ?_
            refine lv_iload hx hb dX5_shortenByPush_43 (lv_at hl 0 rfl) ?_
            refine va_iald hx hb hK hP 27 0 rfl rfl (vp_in_nI (by omega) (by omega)) dX5_shortenByPush_45 ?_
            refine lv_topi (fun v_8 ev => ?_)
            obtain rfl : v_8 = iI (dk k) := ev.trans (congrArg (fun q9 => iI (dk q9)) (nI_clamp (by omega)))
            have b_9 := bb_dk k
            refine lv_ldc (v := 1000000) hx hb hown (hts (.constant RX5 52 (1000000)) (by decide +kernel)) dX5_shortenByPush_46 ?_
            refine lv_icmp_ge (tgt := 102) hx hb dX5_shortenByPush_48 (by decide) (fun c_10 => ?_) (fun c_10 => ?_)
            · have nc_10 := (iLe (a := 1000000) (b := dk k) (by decide) rfl (by omega)).mp c_10
              refine lv_iinc (v := nI (k + 1)) (lv' := [(4, .int (nI (k + 1))), (0, .ref sg), (1, .int (nI cn)), (2, .int (iI fl)), (3, .int (nI (slot cn)))]) hx hb dX5_shortenByPush_102 hl (k := 0) rfl (nI_add k 1) (by decide) rfl (fun ls hl => ?_)
              refine lv_goto (tgt := 12) hx hb dX5_shortenByPush_105 (by decide) ?_
              exact ih12 (k + 1) dk nk pk fl _ _ _ (by omega) (by omega) hbk (fun x => by have y := hlk x; omega) (by intro s9 hs9 hf9 hq9 hv9; by_cases q : s9 = k; (subst q; have y2 := hok s9 hf9; have y1 := hok s9 hf9;  omega); (have z9 := hpk s9 (by omega) hf9 hq9 hv9; omega)) (fun x hx => by have y := hok x hx; omega) (by first | exact hfk | exact Or.inl rfl | exact Or.inr ⟨rfl, (hfk.resolve_left (by omega)).2⟩) bb_dk bb_nk bb_pk hP hD hS (lv_sub hl [0, 1, 2, 3, 4] rfl)
            · have nc_10 := mt (iLe (a := 1000000) (b := dk k) (by decide) rfl (by omega)).mpr c_10
              refine lv_aload_n hx hb dX5_shortenByPush_51 rfl (lv_at hl 1 rfl) ?_
              refine va_get (D := xD g) (ci := 5) (v := .ref co) (C := RX5) (T := TX5) (N := 8) hx hb hts hFX5 hown hK hP 0 rfl rfl 1 (by decide) (hts (.fieldLink RX5 11 "Stevedore$SlotGiver" "cost" "[[I") (by decide +kernel)) (fun _ h9 => h9) rfl dX5_shortenByPush_52 ?_
              refine lv_iload_n hx hb dX5_shortenByPush_55 rfl (lv_at hl 2 rfl) ?_
              refine xAldM hx hb hK hP 1 3 rfl rfl (vp_in_nI (by omega) (by omega)) dX5_shortenByPush_56 ?_
              refine W.eq (g2 := F0 m 57 ls (.ref (cr cn) :: [])) (congrArg (fun q9 => F0 m 57 ls (q9 :: [])) (xRow (n := 24) (k := cn) (nI_clamp (by omega)) (by omega))) ?_
              refine lv_iload hx hb dX5_shortenByPush_57 (lv_at hl 0 rfl) ?_
              refine va_iald hx hb hK hP _ 0 (xR_ap (X := [(sg, .inr (5, [g0, .ref co, g2, g3, .ref sl, .ref wc, .ref nx, .ref pu])), (co, .inl (xM g, 24, .inr (.inr (.inr (.inr (fun i => if i < 24 then some (cr i) else none))))))]) (xR_get0 (i := cn) (by omega))) rfl (vp_in_nI (by omega) (by omega)) dX5_shortenByPush_59 ?_
              refine lv_topi (fun v_11 ev => ?_)
              obtain rfl : v_11 = iI (cost cn k) := ev.trans (congrArg (fun q9 => iI (cost cn q9)) (nI_clamp (by omega)))
              have b_12 := b_cost cn k
              refine lv_aload_n hx hb dX5_shortenByPush_60 rfl (lv_at hl 1 rfl) ?_
              refine va_get (D := xD g) (ci := 5) (v := .ref co) (C := RX5) (T := TX5) (N := 8) hx hb hts hFX5 hown hK hP 0 rfl rfl 1 (by decide) (hts (.fieldLink RX5 11 "Stevedore$SlotGiver" "cost" "[[I") (by decide +kernel)) (fun _ h9 => h9) rfl dX5_shortenByPush_61 ?_
              refine lv_iload_n hx hb dX5_shortenByPush_64 rfl (lv_at hl 2 rfl) ?_
              refine xAldM hx hb hK hP 1 3 rfl rfl (vp_in_nI (by omega) (by omega)) dX5_shortenByPush_65 ?_
              refine W.eq (g2 := F0 m 66 ls (.ref (cr cn) :: .int (iI (cost cn k)) :: [])) (congrArg (fun q9 => F0 m 66 ls (q9 :: .int (iI (cost cn k)) :: [])) (xRow (n := 24) (k := cn) (nI_clamp (by omega)) (by omega))) ?_
              refine lv_iload_n hx hb dX5_shortenByPush_66 rfl (lv_at hl 4 rfl) ?_
              refine va_iald hx hb hK hP _ 0 (xR_ap (X := [(sg, .inr (5, [g0, .ref co, g2, g3, .ref sl, .ref wc, .ref nx, .ref pu])), (co, .inl (xM g, 24, .inr (.inr (.inr (.inr (fun i => if i < 24 then some (cr i) else none))))))]) (xR_get0 (i := cn) (by omega))) rfl (vp_in_nI (by omega) (by omega)) dX5_shortenByPush_67 ?_
              refine lv_topi (fun v_13 ev => ?_)
              obtain rfl : v_13 = iI (cost cn (slot cn)) := ev.trans (congrArg (fun q9 => iI (cost cn q9)) (nI_clamp (by omega)))
              have b_14 := b_cost cn (slot cn)
              refine lv_isub hx hb dX5_shortenByPush_68 ?_
              refine lv_topi (fun v_15 ev => ?_)
              obtain rfl : v_15 = iI (cost cn k - (cost cn (slot cn))) := ev.trans (iS rfl rfl)
              refine lv_aload_n hx hb dX5_shortenByPush_69 rfl (lv_at hl 1 rfl) ?_
              refine va_get (D := xD g) (ci := 5) (v := .ref wc) (C := RX5) (T := TX5) (N := 8) hx hb hts hFX5 hown hK hP 0 rfl rfl 5 (by decide) (hts (.fieldLink RX5 26 "Stevedore$SlotGiver" "wayCost" "[I") (by decide +kernel)) (fun _ h9 => h9) rfl dX5_shortenByPush_70 ?_
              refine lv_iload hx hb dX5_shortenByPush_73 (lv_at hl 0 rfl) ?_
              refine va_iald hx hb hK hP 27 0 rfl rfl (vp_in_nI (by omega) (by omega)) dX5_shortenByPush_75 ?_
              refine lv_topi (fun v_16 ev => ?_)
              obtain rfl : v_16 = iI (dk k) := ev.trans (congrArg (fun q9 => iI (dk q9)) (nI_clamp (by omega)))
              have b_17 := bb_dk k
              refine lv_iadd hx hb dX5_shortenByPush_76 ?_
              refine lv_topi (fun v_18 ev => ?_)
              obtain rfl : v_18 = iI (cost cn k - (cost cn (slot cn)) + (dk k)) := ev.trans (iA rfl rfl)
              refine lv_istore (lv' := [(5, .int (iI (cost cn k - (cost cn (slot cn)) + (dk k)))), (4, .int (nI k)), (0, .ref sg), (1, .int (nI cn)), (2, .int (iI fl)), (3, .int (nI (slot cn)))]) hx hb dX5_shortenByPush_77 hl (by decide) rfl (fun ls hl => ?_)
              refine lv_aload_n hx hb dX5_shortenByPush_79 rfl (lv_at hl 2 rfl) ?_
              refine lv_iload_n hx hb dX5_shortenByPush_80 rfl (lv_at hl 5 rfl) ?_
              refine lv_iload hx hb dX5_shortenByPush_81 (lv_at hl 1 rfl) ?_
              refine lv_iload hx hb dX5_shortenByPush_83 (lv_at hl 0 rfl) ?_
              refine lv_iload_n hx hb dX5_shortenByPush_85 rfl (lv_at hl 3 rfl) ?_
              have hPc := hP.sub (ws' := [(sg, .inr (5, [g0, .ref co, g2, g3, .ref sl, .ref wc, .ref nx, .ref pu])), (wc, .inl (xI g, 18, .inl (fun j => iI (dk j)))), (nx, .inl (xI g, 18, .inl (fun j => nI (nk j)))), (pu, .inl (xI g, 18, .inl (fun j => iI (pk j))))]) [0, 27, 28, 29] rfl
              have hDc := hD.sub (ws' := [(sg, .inr (5, [g0, .ref co, g2, g3, .ref sl, .ref wc, .ref nx, .ref pu])), (wc, .inl (xI g, 18, .inl (fun j => iI (dk j)))), (nx, .inl (xI g, 18, .inl (fun j => nI (nk j)))), (pu, .inl (xI g, 18, .inl (fun j => iI (pk j))))]) [0, 27, 28, 29] (by decide) rfl
              have hFc := va_free (wc := [(sg, .inr (5, [g0, .ref co, g2, g3, .ref sl, .ref wc, .ref nx, .ref pu])), (wc, .inl (xI g, 18, .inl (fun j => iI (dk j)))), (nx, .inl (xI g, 18, .inl (fun j => nI (nk j)))), (pu, .inl (xI g, 18, .inl (fun j => iI (pk j))))]) hD hS hA [0, 27, 28, 29] rfl
              refine va_calli (va_runV (As := [.int (nI (slot cn)), .int (nI k), .int (iI (cost cn k - (cost cn (slot cn)) + (dk k))), .int (nI cn)]) (rest := []) ⟨hx, hb, hml, hown, hts⟩ (g_shorten l g H.size sg wc nx pu (slot cn) k (cost cn k - (cost cn (slot cn)) + (dk k)) ((cn : Nat) : Int) g0 (.ref co) g2 g3 (.ref sl) dk nk pk (by first | assumption | omega) (by first | assumption | omega) (by first | assumption | omega) (by first | assumption | omega) bb_dk bb_nk bb_pk) (cwV 4 hts gX5_shortenByPush_X5_shorten rfl rfl rfl (by decide +kernel) ⟨Nat.le_of_ble_eq_true rfl, Nat.le_of_ble_eq_true rfl⟩) ⟨xB.blind, va_recv hK hPc (ci := 5) (q0 := 0) rfl rfl, fun U9 hU9 hW9 => ⟨rfl, xB.mk hPc hK hDc hU9 hW9⟩⟩ rfl rfl hl.1 rfl (lv_room (Nat.le_of_ble_eq_true rfl)) dX5_shortenByPush_86 ⟨Nat.le_of_ble_eq_true rfl, Nat.le_of_ble_eq_true rfl⟩) hS (fun q _ h => hFc q h) hFc (fun r_19 _ t H1 locs ht hvm hw_20 hB hz1 hk1 hS => ?_)
              obtain ⟨d1_21, n1_22, p1_23, hc_24, hb_25, hb_26, hb_27, hP1, hK1, hD1⟩ := hB
              rw [ht] at hP1
              obtain ⟨hP, hD⟩ := va_join (wr := ([(co, .inl (xM g, 24, .inr (.inr (.inr (.inr (fun i => if i < 24 then some (cr i) else none))))))] ++ (xRI (xI g) 24 17 cr cost ++ [(sl, .inl (xI g, 24, .inl (fun j => nI (slot j))))]))) (w1 := [(sg, .inr (5, [g0, .ref co, g2, g3, .ref sl, .ref wc, .ref nx, .ref pu])), (wc, .inl (xI g, 18, .inl (fun j => iI (d1_21 j)))), (nx, .inl (xI g, 18, .inl (fun j => nI (n1_22 j)))), (pu, .inl (xI g, 18, .inl (fun j => iI (p1_23 j))))]) hP hD [0, 27, 28, 29] [1, 2, 3, 4, 5, 6, 7, 8, 9, 10, 11, 12, 13, 14, 15, 16, 17, 18, 19, 20, 21, 22, 23, 24, 25, 26] rfl rfl (by decide) (by decide) hk1 hFc hP1 hD1
              generalize H1 = H at hP hS ⊢
              have hP : va_P (xD g) vwCl ([(co, .inl (xM g, 24, .inr (.inr (.inr (.inr (fun i => if i < 24 then some (cr i) else none))))))] ++ (xRI (xI g) 24 17 cr cost ++ [(sl, .inl (xI g, 24, .inl (fun j => nI (slot j)))), (sg, .inr (5, [g0, .ref co, g2, g3, .ref sl, .ref wc, .ref nx, .ref pu])), (wc, .inl (xI g, 18, .inl (fun j => iI (d1_21 j)))), (nx, .inl (xI g, 18, .inl (fun j => nI (n1_22 j)))), (pu, .inl (xI g, 18, .inl (fun j => iI (p1_23 j))))])) H := hP
              have hD : va_D A ([(co, .inl (xM g, 24, .inr (.inr (.inr (.inr (fun i => if i < 24 then some (cr i) else none))))))] ++ (xRI (xI g) 24 17 cr cost ++ [(sl, .inl (xI g, 24, .inl (fun j => nI (slot j)))), (sg, .inr (5, [g0, .ref co, g2, g3, .ref sl, .ref wc, .ref nx, .ref pu])), (wc, .inl (xI g, 18, .inl (fun j => iI (d1_21 j)))), (nx, .inl (xI g, 18, .inl (fun j => nI (n1_22 j)))), (pu, .inl (xI g, 18, .inl (fun j => iI (p1_23 j))))])) := hD
              try dsimp only at hw_20
              rcases hw_20 with ⟨rfl, hw_20⟩ | ⟨rfl, hw_20⟩
              · obtain ⟨hbf_28, hle_28, hu_28, hn_28⟩ := sBF_try hp hbk (he3 k (by omega) (by omega) (by omega)) rfl (Or.inr (by omega)) hc_24
                refine lv_if_ne (tgt := 96) hx hb dX5_shortenByPush_89 (by decide) (fun _ => ?_) (fun c0 => absurd c0 (by decide))
                refine lv_iconst (v := 1) hx hb dX5_shortenByPush_96 (by decide) ?_
                refine lv_goto (tgt := 101) hx hb dX5_shortenByPush_97 (by decide) ?_
                refine lv_istore_n (lv' := [(2, .int 1), (5, .int (iI (cost cn k - (cost cn (slot cn)) + (dk k)))), (4, .int (nI k)), (0, .ref sg), (1, .int (nI cn)), (3, .int (nI (slot cn)))]) hx hb dX5_shortenByPush_101 rfl hl (by decide) rfl (fun ls hl => ?_)
                refine lv_iinc (v := nI (k + 1)) (lv' := [(4, .int (nI (k + 1))), (2, .int 1), (5, .int (iI (cost cn k - (cost cn (slot cn)) + (dk k)))), (0, .ref sg), (1, .int (nI cn)), (3, .int (nI (slot cn)))]) hx hb dX5_shortenByPush_102 hl (k := 2) rfl (nI_add k 1) (by decide) rfl (fun ls hl => ?_)
                refine lv_goto (tgt := 12) hx hb dX5_shortenByPush_105 (by decide) ?_
                have hP := hP.sub (ws' := ([(sg, .inr (5, [g0, .ref co, g2, g3, .ref sl, .ref wc, .ref nx, .ref pu])), (co, .inl (xM g, 24, .inr (.inr (.inr (.inr (fun i => if i < 24 then some (cr i) else none))))))] ++ (xRI (xI g) 24 17 cr cost ++ [(sl, .inl (xI g, 24, .inl (fun j => nI (slot j)))), (wc, .inl (xI g, 18, .inl (fun j => iI (d1_21 j)))), (nx, .inl (xI g, 18, .inl (fun j => nI (n1_22 j)))), (pu, .inl (xI g, 18, .inl (fun j => iI (p1_23 j))))]))) [26, 0, 1, 2, 3, 4, 5, 6, 7, 8, 9, 10, 11, 12, 13, 14, 15, 16, 17, 18, 19, 20, 21, 22, 23, 24, 25, 27, 28, 29] rfl
                have hD := hD.sub (ws' := ([(sg, .inr (5, [g0, .ref co, g2, g3, .ref sl, .ref wc, .ref nx, .ref pu])), (co, .inl (xM g, 24, .inr (.inr (.inr (.inr (fun i => if i < 24 then some (cr i) else none))))))] ++ (xRI (xI g) 24 17 cr cost ++ [(sl, .inl (xI g, 24, .inl (fun j => nI (slot j)))), (wc, .inl (xI g, 18, .inl (fun j => iI (d1_21 j)))), (nx, .inl (xI g, 18, .inl (fun j => nI (n1_22 j)))), (pu, .inl (xI g, 18, .inl (fun j => iI (p1_23 j))))]))) [26, 0, 1, 2, 3, 4, 5, 6, 7, 8, 9, 10, 11, 12, 13, 14, 15, 16, 17, 18, 19, 20, 21, 22, 23, 24, 25, 27, 28, 29] (by decide) rfl
                exact ih12 (k + 1) d1_21 n1_22 p1_23 1 _ _ _ (by omega) (by omega) hbf_28 (fun x => by have y := hlk x; have a_28 := hle_28 x; omega) (by intro s9 hs9 hf9 hq9 hv9; by_cases q : s9 = k; (subst q; have y2 := hok s9 hf9; have y1 := hok s9 hf9; have a_28 := hle_28 (slot cn); have o_28 := hu_28;  omega); (have z9 := hpk s9 (by omega) hf9 hq9 hv9; have a_28 := hle_28 (slot cn); omega)) (fun x hx => by have y := hok x hx; have a_28 := hn_28 x hx; omega) (by first | exact hfk | exact Or.inl rfl | exact Or.inr ⟨rfl, (hfk.resolve_left (by omega)).2⟩) hb_25 hb_26 hb_27 hP hD hS (by rw [(show iI 1 = (1 : Int32) from by decide)]; exact lv_sub hl [0, 3, 4, 1, 5] rfl)
              · obtain ⟨hbf_29, hle_29, hu_29, hn_29⟩ := sBF_try hp hbk (he3 k (by omega) (by omega) (by omega)) rfl (Or.inr (by omega)) hc_24
                obtain ⟨rfl, rfl, rfl⟩ := hc_24.2 hw_20
                refine lv_if_ne (tgt := 96) hx hb dX5_shortenByPush_89 (by decide) (fun c0 => absurd (by decide) c0) (fun _ => ?_)
                refine lv_iload_n hx hb dX5_shortenByPush_92 rfl (lv_at hl 4 rfl) ?_
                refine lv_if_eq (tgt := 100) hx hb dX5_shortenByPush_93 (by decide) (fun c_30 => ?_) (fun c_30 => ?_)
                · have nc_30 := (iEq (a := fl) (b := 0) rfl (by decide) (by omega)).mp c_30
                  refine lv_iconst (v := 0) hx hb dX5_shortenByPush_100 (by decide) ?_
                  refine lv_istore_n (lv' := [(2, .int 0), (5, .int (iI (cost cn k - (cost cn (slot cn)) + (dk k)))), (4, .int (nI k)), (0, .ref sg), (1, .int (nI cn)), (3, .int (nI (slot cn)))]) hx hb dX5_shortenByPush_101 rfl hl (by decide) rfl (fun ls hl => ?_)
                  refine lv_iinc (v := nI (k + 1)) (lv' := [(4, .int (nI (k + 1))), (2, .int 0), (5, .int (iI (cost cn k - (cost cn (slot cn)) + (dk k)))), (0, .ref sg), (1, .int (nI cn)), (3, .int (nI (slot cn)))]) hx hb dX5_shortenByPush_102 hl (k := 2) rfl (nI_add k 1) (by decide) rfl (fun ls hl => ?_)
                  refine lv_goto (tgt := 12) hx hb dX5_shortenByPush_105 (by decide) ?_
                  have hP := hP.sub (ws' := ([(sg, .inr (5, [g0, .ref co, g2, g3, .ref sl, .ref wc, .ref nx, .ref pu])), (co, .inl (xM g, 24, .inr (.inr (.inr (.inr (fun i => if i < 24 then some (cr i) else none))))))] ++ (xRI (xI g) 24 17 cr cost ++ [(sl, .inl (xI g, 24, .inl (fun j => nI (slot j)))), (wc, .inl (xI g, 18, .inl (fun j => iI (dk j)))), (nx, .inl (xI g, 18, .inl (fun j => nI (nk j)))), (pu, .inl (xI g, 18, .inl (fun j => iI (pk j))))]))) [26, 0, 1, 2, 3, 4, 5, 6, 7, 8, 9, 10, 11, 12, 13, 14, 15, 16, 17, 18, 19, 20, 21, 22, 23, 24, 25, 27, 28, 29] rfl
                  have hD := hD.sub (ws' := ([(sg, .inr (5, [g0, .ref co, g2, g3, .ref sl, .ref wc, .ref nx, .ref pu])), (co, .inl (xM g, 24, .inr (.inr (.inr (.inr (fun i => if i < 24 then some (cr i) else none))))))] ++ (xRI (xI g) 24 17 cr cost ++ [(sl, .inl (xI g, 24, .inl (fun j => nI (slot j)))), (wc, .inl (xI g, 18, .inl (fun j => iI (dk j)))), (nx, .inl (xI g, 18, .inl (fun j => nI (nk j)))), (pu, .inl (xI g, 18, .inl (fun j => iI (pk j))))]))) [26, 0, 1, 2, 3, 4, 5, 6, 7, 8, 9, 10, 11, 12, 13, 14, 15, 16, 17, 18, 19, 20, 21, 22, 23, 24, 25, 27, 28, 29] (by decide) rfl
                  exact ih12 (k + 1) dk nk pk 0 _ _ _ (by omega) (by omega) hbf_29 (fun x => by have y := hlk x; have a_29 := hle_29 x; omega) (by intro s9 hs9 hf9 hq9 hv9; by_cases q : s9 = k; (subst q; have y2 := hok s9 hf9; have y1 := hok s9 hf9; have a_29 := hle_29 (slot cn); have o_29 := hu_29;  omega); (have z9 := hpk s9 (by omega) hf9 hq9 hv9; have a_29 := hle_29 (slot cn); omega)) (fun x hx => by have y := hok x hx; have a_29 := hn_29 x hx; omega) (by first | exact hfk | exact Or.inl rfl | exact Or.inr ⟨rfl, (hfk.resolve_left (by omega)).2⟩) hb_25 hb_26 hb_27 hP hD hS (by rw [(show iI 0 = (0 : Int32) from by decide)]; exact lv_sub hl [0, 3, 4, 1, 5] rfl)
                · have nc_30 := mt (iEq (a := fl) (b := 0) rfl (by decide) (by omega)).mpr c_30
                  refine lv_iconst (v := 1) hx hb dX5_shortenByPush_96 (by decide) ?_
                  refine lv_goto (tgt := 101) hx hb dX5_shortenByPush_97 (by decide) ?_
                  refine lv_istore_n (lv' := [(2, .int 1), (5, .int (iI (cost cn k - (cost cn (slot cn)) + (dk k)))), (4, .int (nI k)), (0, .ref sg), (1, .int (nI cn)), (3, .int (nI (slot cn)))]) hx hb dX5_shortenByPush_101 rfl hl (by decide) rfl (fun ls hl => ?_)
                  refine lv_iinc (v := nI (k + 1)) (lv' := [(4, .int (nI (k + 1))), (2, .int 1), (5, .int (iI (cost cn k - (cost cn (slot cn)) + (dk k)))), (0, .ref sg), (1, .int (nI cn)), (3, .int (nI (slot cn)))]) hx hb dX5_shortenByPush_102 hl (k := 2) rfl (nI_add k 1) (by decide) rfl (fun ls hl => ?_)
                  refine lv_goto (tgt := 12) hx hb dX5_shortenByPush_105 (by decide) ?_
                  have hP := hP.sub (ws' := ([(sg, .inr (5, [g0, .ref co, g2, g3, .ref sl, .ref wc, .ref nx, .ref pu])), (co, .inl (xM g, 24, .inr (.inr (.inr (.inr (fun i => if i < 24 then some (cr i) else none))))))] ++ (xRI (xI g) 24 17 cr cost ++ [(sl, .inl (xI g, 24, .inl (fun j => nI (slot j)))), (wc, .inl (xI g, 18, .inl (fun j => iI (dk j)))), (nx, .inl (xI g, 18, .inl (fun j => nI (nk j)))), (pu, .inl (xI g, 18, .inl (fun j => iI (pk j))))]))) [26, 0, 1, 2, 3, 4, 5, 6, 7, 8, 9, 10, 11, 12, 13, 14, 15, 16, 17, 18, 19, 20, 21, 22, 23, 24, 25, 27, 28, 29] rfl
                  have hD := hD.sub (ws' := ([(sg, .inr (5, [g0, .ref co, g2, g3, .ref sl, .ref wc, .ref nx, .ref pu])), (co, .inl (xM g, 24, .inr (.inr (.inr (.inr (fun i => if i < 24 then some (cr i) else none))))))] ++ (xRI (xI g) 24 17 cr cost ++ [(sl, .inl (xI g, 24, .inl (fun j => nI (slot j)))), (wc, .inl (xI g, 18, .inl (fun j => iI (dk j)))), (nx, .inl (xI g, 18, .inl (fun j => nI (nk j)))), (pu, .inl (xI g, 18, .inl (fun j => iI (pk j))))]))) [26, 0, 1, 2, 3, 4, 5, 6, 7, 8, 9, 10, 11, 12, 13, 14, 15, 16, 17, 18, 19, 20, 21, 22, 23, 24, 25, 27, 28, 29] (by decide) rfl
                  exact ih12 (k + 1) dk nk pk 1 _ _ _ (by omega) (by omega) hbf_29 (fun x => by have y := hlk x; have a_29 := hle_29 x; omega) (by intro s9 hs9 hf9 hq9 hv9; by_cases q : s9 = k; (subst q; have y2 := hok s9 hf9; have y1 := hok s9 hf9; have a_29 := hle_29 (slot cn); have o_29 := hu_29;  omega); (have z9 := hpk s9 (by omega) hf9 hq9 hv9; have a_29 := hle_29 (slot cn); omega)) (fun x hx => by have y := hok x hx; have a_29 := hn_29 x hx; omega) (by first | exact hfk | exact Or.inl rfl | exact Or.inr ⟨rfl, (hfk.resolve_left (by omega)).2⟩) hb_25 hb_26 hb_27 hP hD hS (by rw [(show iI 1 = (1 : Int32) from by decide)]; exact lv_sub hl [0, 3, 4, 1, 5] rfl)
  exact hloop12 (18) 0 dd nxt psh 0 _ _ _ (by omega) (by omega) hbf (fun x => Int.le_refl _) (fun q hq => absurd hq (Nat.not_lt_zero _)) (fun _ _ => rfl) (Or.inr ⟨rfl, rfl⟩) b_dd b_nxt b_psh hP hD hS (by rw [(show nI 0 = (0 : Int32) from by decide), (show iI 0 = (0 : Int32) from by decide)]; exact lv_sub hl [0, 3, 4, 2, 1] rfl)
