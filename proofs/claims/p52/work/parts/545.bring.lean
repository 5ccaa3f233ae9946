theorem dX5_bringIn_0 : decode cX5_bringIn 0 = .ok (.aload_n 0, 1) := by decide +kernel
theorem dX5_bringIn_1 : decode cX5_bringIn 1 = .ok (.iload_n 2, 1) := by decide +kernel
theorem dX5_bringIn_2 : decode cX5_bringIn 2 = .ok (.iload_n 1, 1) := by decide +kernel
theorem dX5_bringIn_3 : decode cX5_bringIn 3 = .ok (.iconst 1, 1) := by decide +kernel
theorem dX5_bringIn_4 : decode cX5_bringIn 4 = .ok (.iadd, 1) := by decide +kernel
theorem dX5_bringIn_5 : decode cX5_bringIn 5 = .ok (.invokevirtual 49, 3) := by decide +kernel
set_option maxRecDepth 20000 in
theorem ggX5_bringIn_X5_findWays : GoodIn wsX5_bringIn wsX5_findWays := goodIn_r _ [10, 3, 1, 11, 12, 13, 14, 15, 16, 9, 17, 5, 18, 19, 20, 21, 22, 23, 24, 25, 26, 4, 2, 31, 32, 33, 34, 35, 36, 37, 38] rfl (by decide +kernel)
set_option maxRecDepth 20000 in
theorem gX5_bringIn_X5_findWays : GoodIn wsX5_bringIn (wsV RX5 49 RX5 yX5_findWays wsX5_findWays) := goodIn_app (goodIn_of _ (by decide +kernel)) ggX5_bringIn_X5_findWays
theorem dX5_bringIn_8 : decode cX5_bringIn 8 = .ok (.bipush 16, 2) := by decide +kernel
theorem dX5_bringIn_10 : decode cX5_bringIn 10 = .ok (.istore_n 3, 1) := by decide +kernel
theorem dX5_bringIn_11 : decode cX5_bringIn 11 = .ok (.ldc 52, 2) := by decide +kernel
theorem dX5_bringIn_13 : decode cX5_bringIn 13 = .ok (.istore 4, 2) := by decide +kernel
theorem dX5_bringIn_15 : decode cX5_bringIn 15 = .ok (.iconst 0, 1) := by decide +kernel
theorem dX5_bringIn_16 : decode cX5_bringIn 16 = .ok (.istore 5, 2) := by decide +kernel
theorem dX5_bringIn_18 : decode cX5_bringIn 18 = .ok (.iload 5, 2) := by decide +kernel
theorem dX5_bringIn_20 : decode cX5_bringIn 20 = .ok (.bipush 16, 2) := by decide +kernel
theorem dX5_bringIn_22 : decode cX5_bringIn 22 = .ok (.if_icmp .gt 91, 3) := by decide +kernel
theorem dX5_bringIn_113 : decode cX5_bringIn 113 = .ok (.aload_n 0, 1) := by decide +kernel
theorem dX5_bringIn_114 : decode cX5_bringIn 114 = .ok (.iload_n 3, 1) := by decide +kernel
theorem dX5_bringIn_115 : decode cX5_bringIn 115 = .ok (.iload_n 2, 1) := by decide +kernel
theorem dX5_bringIn_116 : decode cX5_bringIn 116 = .ok (.invokevirtual 53, 3) := by decide +kernel
set_option maxRecDepth 20000 in
theorem ggX5_bringIn_X5_pushAlong : GoodIn wsX5_bringIn wsX5_pushAlong := goodIn_r _ [30, 11, 12, 4, 5, 31, 32, 33, 34, 35, 36, 37, 38] rfl (by decide +kernel)
set_option maxRecDepth 20000 in
theorem gX5_bringIn_X5_pushAlong : GoodIn wsX5_bringIn (wsV RX5 53 RX5 yX5_pushAlong wsX5_pushAlong) := goodIn_app (goodIn_of _ (by decide +kernel)) ggX5_bringIn_X5_pushAlong
theorem dX5_bringIn_119 : decode cX5_bringIn 119 = .ok (.aload_n 0, 1) := by decide +kernel
theorem dX5_bringIn_120 : decode cX5_bringIn 120 = .ok (.getfield 23, 3) := by decide +kernel
theorem dX5_bringIn_123 : decode cX5_bringIn 123 = .ok (.iload_n 1, 1) := by decide +kernel
theorem dX5_bringIn_124 : decode cX5_bringIn 124 = .ok (.iload_n 3, 1) := by decide +kernel
theorem dX5_bringIn_125 : decode cX5_bringIn 125 = .ok (.iastore, 1) := by decide +kernel
theorem dX5_bringIn_126 : decode cX5_bringIn 126 = .ok (.aload_n 0, 1) := by decide +kernel
theorem dX5_bringIn_127 : decode cX5_bringIn 127 = .ok (.getfield 20, 3) := by decide +kernel
theorem dX5_bringIn_130 : decode cX5_bringIn 130 = .ok (.iload_n 3, 1) := by decide +kernel
theorem dX5_bringIn_131 : decode cX5_bringIn 131 = .ok (.dup2, 1) := by decide +kernel
theorem dX5_bringIn_132 : decode cX5_bringIn 132 = .ok (.iaload, 1) := by decide +kernel
theorem dX5_bringIn_133 : decode cX5_bringIn 133 = .ok (.iconst 1, 1) := by decide +kernel
theorem dX5_bringIn_134 : decode cX5_bringIn 134 = .ok (.iadd, 1) := by decide +kernel
theorem dX5_bringIn_135 : decode cX5_bringIn 135 = .ok (.iastore, 1) := by decide +kernel
theorem dX5_bringIn_136 : decode cX5_bringIn 136 = .ok (.return_, 1) := by decide +kernel
theorem dX5_bringIn_25 : decode cX5_bringIn 25 = .ok (.aload_n 0, 1) := by decide +kernel
theorem dX5_bringIn_26 : decode cX5_bringIn 26 = .ok (.getfield 11, 3) := by decide +kernel
theorem dX5_bringIn_29 : decode cX5_bringIn 29 = .ok (.iload_n 1, 1) := by decide +kernel
theorem dX5_bringIn_30 : decode cX5_bringIn 30 = .ok (.aaload, 1) := by decide +kernel
theorem dX5_bringIn_31 : decode cX5_bringIn 31 = .ok (.iload 5, 2) := by decide +kernel
theorem dX5_bringIn_33 : decode cX5_bringIn 33 = .ok (.iaload, 1) := by decide +kernel
theorem dX5_bringIn_34 : decode cX5_bringIn 34 = .ok (.ldc 52, 2) := by decide +kernel
theorem dX5_bringIn_36 : decode cX5_bringIn 36 = .ok (.if_icmp .ge 19, 3) := by decide +kernel
theorem dX5_bringIn_55 : decode cX5_bringIn 55 = .ok (.iconst 0, 1) := by decide +kernel
theorem dX5_bringIn_56 : decode cX5_bringIn 56 = .ok (.istore 6, 2) := by decide +kernel
theorem dX5_bringIn_58 : decode cX5_bringIn 58 = .ok (.iload 6, 2) := by decide +kernel
theorem dX5_bringIn_60 : decode cX5_bringIn 60 = .ok (.ifCond .eq 47, 3) := by decide +kernel
theorem dX5_bringIn_107 : decode cX5_bringIn 107 = .ok (.iinc 5 1, 3) := by decide +kernel
theorem dX5_bringIn_110 : decode cX5_bringIn 110 = .ok (.goto (-92), 3) := by decide +kernel
theorem dX5_bringIn_39 : decode cX5_bringIn 39 = .ok (.aload_n 0, 1) := by decide +kernel
theorem dX5_bringIn_40 : decode cX5_bringIn 40 = .ok (.getfield 26, 3) := by decide +kernel
theorem dX5_bringIn_43 : decode cX5_bringIn 43 = .ok (.iload 5, 2) := by decide +kernel
theorem dX5_bringIn_45 : decode cX5_bringIn 45 = .ok (.iaload, 1) := by decide +kernel
theorem dX5_bringIn_46 : decode cX5_bringIn 46 = .ok (.ldc 52, 2) := by decide +kernel
theorem dX5_bringIn_48 : decode cX5_bringIn 48 = .ok (.if_icmp .ge 7, 3) := by decide +kernel
theorem dX5_bringIn_51 : decode cX5_bringIn 51 = .ok (.iconst 1, 1) := by decide +kernel
theorem dX5_bringIn_52 : decode cX5_bringIn 52 = .ok (.goto 4, 3) := by decide +kernel
theorem dX5_bringIn_63 : decode cX5_bringIn 63 = .ok (.aload_n 0, 1) := by decide +kernel
theorem dX5_bringIn_64 : decode cX5_bringIn 64 = .ok (.getfield 11, 3) := by decide +kernel
theorem dX5_bringIn_67 : decode cX5_bringIn 67 = .ok (.iload_n 1, 1) := by decide +kernel
theorem dX5_bringIn_68 : decode cX5_bringIn 68 = .ok (.aaload, 1) := by decide +kernel
theorem dX5_bringIn_69 : decode cX5_bringIn 69 = .ok (.iload 5, 2) := by decide +kernel
theorem dX5_bringIn_71 : decode cX5_bringIn 71 = .ok (.iaload, 1) := by decide +kernel
theorem dX5_bringIn_72 : decode cX5_bringIn 72 = .ok (.aload_n 0, 1) := by decide +kernel
theorem dX5_bringIn_73 : decode cX5_bringIn 73 = .ok (.getfield 26, 3) := by decide +kernel
theorem dX5_bringIn_76 : decode cX5_bringIn 76 = .ok (.iload 5, 2) := by decide +kernel
theorem dX5_bringIn_78 : decode cX5_bringIn 78 = .ok (.iaload, 1) := by decide +kernel
theorem dX5_bringIn_79 : decode cX5_bringIn 79 = .ok (.iadd, 1) := by decide +kernel
theorem dX5_bringIn_80 : decode cX5_bringIn 80 = .ok (.iload 4, 2) := by decide +kernel
theorem dX5_bringIn_82 : decode cX5_bringIn 82 = .ok (.if_icmp .ge 25, 3) := by decide +kernel
theorem dX5_bringIn_85 : decode cX5_bringIn 85 = .ok (.aload_n 0, 1) := by decide +kernel
theorem dX5_bringIn_86 : decode cX5_bringIn 86 = .ok (.getfield 11, 3) := by decide +kernel
theorem dX5_bringIn_89 : decode cX5_bringIn 89 = .ok (.iload_n 1, 1) := by decide +kernel
theorem dX5_bringIn_90 : decode cX5_bringIn 90 = .ok (.aaload, 1) := by decide +kernel
theorem dX5_bringIn_91 : decode cX5_bringIn 91 = .ok (.iload 5, 2) := by decide +kernel
theorem dX5_bringIn_93 : decode cX5_bringIn 93 = .ok (.iaload, 1) := by decide +kernel
theorem dX5_bringIn_94 : decode cX5_bringIn 94 = .ok (.aload_n 0, 1) := by decide +kernel
theorem dX5_bringIn_95 : decode cX5_bringIn 95 = .ok (.getfield 26, 3) := by decide +kernel
theorem dX5_bringIn_98 : decode cX5_bringIn 98 = .ok (.iload 5, 2) := by decide +kernel
theorem dX5_bringIn_100 : decode cX5_bringIn 100 = .ok (.iaload, 1) := by decide +kernel
theorem dX5_bringIn_101 : decode cX5_bringIn 101 = .ok (.iadd, 1) := by decide +kernel
theorem dX5_bringIn_102 : decode cX5_bringIn 102 = .ok (.istore 4, 2) := by decide +kernel
theorem dX5_bringIn_104 : decode cX5_bringIn 104 = .ok (.iload 5, 2) := by decide +kernel
theorem dX5_bringIn_106 : decode cX5_bringIn 106 = .ok (.istore_n 3, 1) := by decide +kernel
set_option maxHeartbeats 4000000 in
set_option maxRecDepth 100000 in
theorem g_bringIn (l : Launch) (g : xG) (sz : Nat) (sg : Nat) (co : Nat) (ro : Nat) (us : Nat) (sl : Nat) (wc : Nat) (nx : Nat) (pu : Nat) (cn : Nat) (gl : Nat) (n : Nat) (lo : Nat) (cr : Nat → Nat) (hh : Nat → Int) (cost : Nat → Nat → Int) (room : Nat → Int) (used : Nat → Int) (slot : Nat → Nat) (dd : Nat → Int) (nxt : Nat → Nat) (psh : Nat → Int)  (hp : sPot (sE used room slot cost (cn + 1) n) hh) (hhb : ∀ u, -680 ≤ hh u ∧ hh u ≤ 1000000) (hcs : sCs cost n) (hin : sIn slot cost (cn + 1) n) (hn : n ≤ 24) (hcn : cn < n) (hgl : gl ≤ 17) (hlo : lo ≤ cn + 1) (hu : ∀ s, s ≤ 16 → used s = sCnt slot lo n s) (hr16 : used 16 < room 16) (hg17 : gl = 17 ∨ (gl ≤ 16 ∧ 0 < used gl)) (b_cost : ∀ i j, 0 ≤ cost i j ∧ cost i j ≤ 1000000) (b_room : ∀ j, 0 ≤ room j ∧ room j ≤ 24) (b_used : ∀ j, 0 ≤ used j ∧ used j ≤ 30) (b_slot : ∀ j, slot j ≤ 16) (b_dd : ∀ j, (-3000000) ≤ dd j ∧ dd j ≤ 1000000) (b_nxt : ∀ j, nxt j ≤ 17) (b_psh : ∀ j, (-1) ≤ psh j ∧ psh j ≤ 23) : Met l yX5_bringIn wsX5_bringIn ({ frames := 3, cells := 0, slots := 0, locals := 74 }) (va_Pc [.ref sg, .int (nI cn), .int (nI gl)] (fun U => xB g ([(sg, .inr (5, [.int (nI n), .ref co, .ref ro, .ref us, .ref sl, .ref wc, .ref nx, .ref pu])), (co, .inl (xM g, 24, .inr (.inr (.inr (.inr (fun i => if i < 24 then some (cr i) else none))))))] ++ (xRI (xI g) 24 17 cr cost ++ [(ro, .inl (xI g, 17, .inl (fun j => iI (room j)))), (us, .inl (xI g, 17, .inl (fun j => iI (used j)))), (sl, .inl (xI g, 24, .inl (fun j => nI (slot j)))), (wc, .inl (xI g, 18, .inl (fun j => iI (dd j)))), (nx, .inl (xI g, 18, .inl (fun j => nI (nxt j)))), (pu, .inl (xI g, 18, .inl (fun j => iI (psh j))))])) sz U)) (va_Qv (fun (_ : Unit) => True) (fun (_ : Unit) (t : State) => ∃ (d2 : Nat → Int) (n2 : Nat → Nat) (p2 : Nat → Int) (us2 : Nat → Int) (sl2 : Nat → Nat), (sBr used room slot cost cn lo n gl us2 sl2) ∧ (∀ j, 0 ≤ us2 j ∧ us2 j ≤ 30) ∧ (∀ j, sl2 j ≤ 16) ∧ (∀ j, (-3000000) ≤ d2 j ∧ d2 j ≤ 1000000) ∧ (∀ j, n2 j ≤ 17) ∧ (∀ j, (-1) ≤ p2 j ∧ p2 j ≤ 23) ∧ xE g ([(sg, .inr (5, [.int (nI n), .ref co, .ref ro, .ref us, .ref sl, .ref wc, .ref nx, .ref pu])), (co, .inl (xM g, 24, .inr (.inr (.inr (.inr (fun i => if i < 24 then some (cr i) else none))))))] ++ (xRI (xI g) 24 17 cr cost ++ [(ro, .inl (xI g, 17, .inl (fun j => iI (room j)))), (us, .inl (xI g, 17, .inl (fun j => iI (us2 j)))), (sl, .inl (xI g, 24, .inl (fun j => nI (sl2 j)))), (wc, .inl (xI g, 18, .inl (fun j => iI (d2 j)))), (nx, .inl (xI g, 18, .inl (fun j => nI (n2 j)))), (pu, .inl (xI g, 18, .inl (fun j => iI (p2 j))))])) (va_A ([(sg, .inr (5, [.int (nI n), .ref co, .ref ro, .ref us, .ref sl, .ref wc, .ref nx, .ref pu])), (co, .inl (xM g, 24, .inr (.inr (.inr (.inr (fun i => if i < 24 then some (cr i) else none))))))] ++ (xRI (xI g) 24 17 cr cost ++ [(ro, .inl (xI g, 17, .inl (fun j => iI (room j)))), (us, .inl (xI g, 17, .inl (fun j => iI (used j)))), (sl, .inl (xI g, 24, .inl (fun j => nI (slot j)))), (wc, .inl (xI g, 18, .inl (fun j => iI (dd j)))), (nx, .inl (xI g, 18, .inl (fun j => nI (nxt j)))), (pu, .inl (xI g, 18, .inl (fun j => iI (psh j))))])) sz) t) (va_A ([(sg, .inr (5, [.int (nI n), .ref co, .ref ro, .ref us, .ref sl, .ref wc, .ref nx, .ref pu])), (co, .inl (xM g, 24, .inr (.inr (.inr (.inr (fun i => if i < 24 then some (cr i) else none))))))] ++ (xRI (xI g) 24 17 cr cost ++ [(ro, .inl (xI g, 17, .inl (fun j => iI (room j)))), (us, .inl (xI g, 17, .inl (fun j => iI (used j)))), (sl, .inl (xI g, 24, .inl (fun j => nI (slot j)))), (wc, .inl (xI g, 18, .inl (fun j => iI (dd j)))), (nx, .inl (xI g, 18, .inl (fun j => nI (nxt j)))), (pu, .inl (xI g, 18, .inl (fun j => iI (psh j))))])) sz)) 0 0 (va_A ([(sg, .inr (5, [.int (nI n), .ref co, .ref ro, .ref us, .ref sl, .ref wc, .ref nx, .ref pu])), (co, .inl (xM g, 24, .inr (.inr (.inr (.inr (fun i => if i < 24 then some (cr i) else none))))))] ++ (xRI (xI g) 24 17 cr cost ++ [(ro, .inl (xI g, 17, .inl (fun j => iI (room j)))), (us, .inl (xI g, 17, .inl (fun j => iI (used j)))), (sl, .inl (xI g, 24, .inl (fun j => nI (slot j)))), (wc, .inl (xI g, 18, .inl (fun j => iI (dd j)))), (nx, .inl (xI g, 18, .inl (fun j => nI (nxt j)))), (pu, .inl (xI g, 18, .inl (fun j => iI (psh j))))])) sz) := by
  refine Met.ofW (cc := cX5_bringIn) (maxL := 7) (ret := none) (by decide) rfl ?_
  intro p e s m args below meth c s₁ B hml hv
  obtain ⟨rfl, hsz, hP, hK, hD0⟩ := hv
  have hx := B.exec
  have hb := B.bytes
  have hr := B.returns
  have hts := atoms_spec (ws := wsX5_bringIn) B.pre
  have hown : s.vm.findClass RX5 = some m.cls := findClass_of_methodNamed B.named
  have hlocks := B.notSynchronized
  subst hsz
  have hD := hD0.self (sz := s.heap.size)
  generalize hAe : va_A ([(sg, .inr (5, [.int (nI n), .ref co, .ref ro, .ref us, .ref sl, .ref wc, .ref nx, .ref pu])), (co, .inl (xM g, 24, .inr (.inr (.inr (.inr (fun i => if i < 24 then some (cr i) else none))))))] ++ (xRI (xI g) 24 17 cr cost ++ [(ro, .inl (xI g, 17, .inl (fun j => iI (room j)))), (us, .inl (xI g, 17, .inl (fun j => iI (used j)))), (sl, .inl (xI g, 24, .inl (fun j => nI (slot j)))), (wc, .inl (xI g, 18, .inl (fun j => iI (dd j)))), (nx, .inl (xI g, 18, .inl (fun j => nI (nxt j)))), (pu, .inl (xI g, 18, .inl (fun j => iI (psh j))))])) s.heap.size = A at hD ⊢
  have hA : ∀ q : Nat, s.heap.size ≤ q → A q := fun q h => by rw [← hAe]; exact Or.inr h
  have hS : va_S A s.heap s.heap [] := va_S.rf
  have hl := lv_entry ([.ref sg, .int (nI cn), .int (nI gl)]) (n := 7) (Nat.le_of_ble_eq_true rfl)
  rw [lg_entry_eq]
  generalize (lg_sl ([.ref sg, .int (nI cn), .int (nI gl)]) ++ List.replicate (7 - (lg_sl ([.ref sg, .int (nI cn), .int (nI gl)])).length) Slot.unset).toArray = ls at hl ⊢
  have hl : lv_has ls 7 [(0, .ref sg), (1, .int (nI cn)), (2, .int (nI gl))] := hl
  have hFX5 : ∀ w ∈ u_ws RX5 TX5 8, w ∈ wsX5_bringIn := by decide +kernel
  refine lv_aload_n hx hb dX5_bringIn_0 rfl (lv_at hl 0 rfl) ?_
  refine lv_iload_n hx hb dX5_bringIn_1 rfl (lv_at hl 2 rfl) ?_
  refine lv_iload_n hx hb dX5_bringIn_2 rfl (lv_at hl 1 rfl) ?_
  refine lv_iconst (v := 1) hx hb dX5_bringIn_3 (by decide) ?_
  refine lv_iadd hx hb dX5_bringIn_4 ?_
  refine lv_topi (fun v_1 ev => ?_)
  obtain rfl : v_1 = nI (cn + 1) := ev.trans (nI_add cn 1)
  have hPc := hP.sub (ws' := ([(sg, .inr (5, [.int (nI n), .ref co, .ref ro, .ref us, .ref sl, .ref wc, .ref nx, .ref pu])), (co, .inl (xM g, 24, .inr (.inr (.inr (.inr (fun i => if i < 24 then some (cr i) else none))))))] ++ (xRI (xI g) 24 17 cr cost ++ [(ro, .inl (xI g, 17, .inl (fun j => iI (room j)))), (us, .inl (xI g, 17, .inl (fun j => iI (used j)))), (sl, .inl (xI g, 24, .inl (fun j => nI (slot j)))), (wc, .inl (xI g, 18, .inl (fun j => iI (dd j)))), (nx, .inl (xI g, 18, .inl (fun j => nI (nxt j)))), (pu, .inl (xI g, 18, .inl (fun j => iI (psh j))))]))) [0, 1, 2, 3, 4, 5, 6, 7, 8, 9, 10, 11, 12, 13, 14, 15, 16, 17, 18, 19, 20, 21, 22, 23, 24, 25, 26, 27, 28, 29, 30, 31] rfl
  have hDc := hD.sub (ws' := ([(sg, .inr (5, [.int (nI n), .ref co, .ref ro, .ref us, .ref sl, .ref wc, .ref nx, .ref pu])), (co, .inl (xM g, 24, .inr (.inr (.inr (.inr (fun i => if i < 24 then some (cr i) else none))))))] ++ (xRI (xI g) 24 17 cr cost ++ [(ro, .inl (xI g, 17, .inl (fun j => iI (room j)))), (us, .inl (xI g, 17, .inl (fun j => iI (used j)))), (sl, .inl (xI g, 24, .inl (fun j => nI (slot j)))), (wc, .inl (xI g, 18, .inl (fun j => iI (dd j)))), (nx, .inl (xI g, 18, .inl (fun j => nI (nxt j)))), (pu, .inl (xI g, 18, .inl (fun j => iI (psh j))))]))) [0, 1, 2, 3, 4, 5, 6, 7, 8, 9, 10, 11, 12, 13, 14, 15, 16, 17, 18, 19, 20, 21, 22, 23, 24, 25, 26, 27, 28, 29, 30, 31] (by decide) rfl
  have hFc := va_free (wc := ([(sg, .inr (5, [.int (nI n), .ref co, .ref ro, .ref us, .ref sl, .ref wc, .ref nx, .ref pu])), (co, .inl (xM g, 24, .inr (.inr (.inr (.inr (fun i => if i < 24 then some (cr i) else none))))))] ++ (xRI (xI g) 24 17 cr cost ++ [(ro, .inl (xI g, 17, .inl (fun j => iI (room j)))), (us, .inl (xI g, 17, .inl (fun j => iI (used j)))), (sl, .inl (xI g, 24, .inl (fun j => nI (slot j)))), (wc, .inl (xI g, 18, .inl (fun j => iI (dd j)))), (nx, .inl (xI g, 18, .inl (fun j => nI (nxt j)))), (pu, .inl (xI g, 18, .inl (fun j => iI (psh j))))]))) hD hS hA [0, 1, 2, 3, 4, 5, 6, 7, 8, 9, 10, 11, 12, 13, 14, 15, 16, 17, 18, 19, 20, 21, 22, 23, 24, 25, 26, 27, 28, 29, 30, 31] rfl
  refine va_callv (va_runV (As := [.int (nI gl), .int (nI (cn + 1))]) (rest := []) ⟨hx, hb, hml, hown, hts⟩ (g_findWays l g s.heap.size sg co ro us sl wc nx pu gl (cn + 1) n cr hh cost room used slot dd nxt psh (by first | assumption | omega) (by first | assumption | omega) (by first | assumption | omega) (by first | assumption | omega) (by first | assumption | omega) (by first | assumption | omega) (by first | assumption | omega) b_cost b_room b_used b_slot b_dd b_nxt b_psh) (cwV 2 hts gX5_bringIn_X5_findWays rfl rfl rfl (by decide +kernel) ⟨Nat.le_of_ble_eq_true rfl, Nat.le_of_ble_eq_true rfl⟩) ⟨xB.blind, va_recv hK hPc (ci := 5) (q0 := 0) rfl rfl, fun U9 hU9 hW9 => ⟨rfl, xB.mk hPc hK hDc hU9 hW9⟩⟩ rfl rfl hl.1 rfl (lv_room (Nat.le_of_ble_eq_true rfl)) dX5_bringIn_5 ⟨Nat.le_of_ble_eq_true rfl, Nat.le_of_ble_eq_true rfl⟩) hS (fun q _ h => hFc q h) hFc (fun u_4 t H1 locs ht hvm hw_3 hB hz1 hk1 hS => ?_)
  obtain ⟨n1_5, p1_6, hc_7, hb_8, hb_9, hb_10, hP1, hK1, hD1⟩ := hB
  rw [ht] at hP1
  obtain ⟨hP, hD⟩ := va_join (wr := []) (w1 := ([(sg, .inr (5, [.int (nI n), .ref co, .ref ro, .ref us, .ref sl, .ref wc, .ref nx, .ref pu])), (co, .inl (xM g, 24, .inr (.inr (.inr (.inr (fun i => if i < 24 then some (cr i) else none))))))] ++ (xRI (xI g) 24 17 cr cost ++ [(ro, .inl (xI g, 17, .inl (fun j => iI (room j)))), (us, .inl (xI g, 17, .inl (fun j => iI (used j)))), (sl, .inl (xI g, 24, .inl (fun j => nI (slot j)))), (wc, .inl (xI g, 18, .inl (fun j => iI (u_4 j)))), (nx, .inl (xI g, 18, .inl (fun j => nI (n1_5 j)))), (pu, .inl (xI g, 18, .inl (fun j => iI (p1_6 j))))]))) hP hD [0, 1, 2, 3, 4, 5, 6, 7, 8, 9, 10, 11, 12, 13, 14, 15, 16, 17, 18, 19, 20, 21, 22, 23, 24, 25, 26, 27, 28, 29, 30, 31] [] rfl rfl (by decide) (by decide) hk1 hFc hP1 hD1
  generalize H1 = H at hP hS ⊢
  have hP : va_P (xD g) vwCl ([(sg, .inr (5, [.int (nI n), .ref co, .ref ro, .ref us, .ref sl, .ref wc, .ref nx, .ref pu])), (co, .inl (xM g, 24, .inr (.inr (.inr (.inr (fun i => if i < 24 then some (cr i) else none))))))] ++ (xRI (xI g) 24 17 cr cost ++ [(ro, .inl (xI g, 17, .inl (fun j => iI (room j)))), (us, .inl (xI g, 17, .inl (fun j => iI (used j)))), (sl, .inl (xI g, 24, .inl (fun j => nI (slot j)))), (wc, .inl (xI g, 18, .inl (fun j => iI (u_4 j)))), (nx, .inl (xI g, 18, .inl (fun j => nI (n1_5 j)))), (pu, .inl (xI g, 18, .inl (fun j => iI (p1_6 j))))])) H := hP
  have hD : va_D A ([(sg, .inr (5, [.int (nI n), .ref co, .ref ro, .ref us, .ref sl, .ref wc, .ref nx, .ref pu])), (co, .inl (xM g, 24, .inr (.inr (.inr (.inr (fun i => if i < 24 then some (cr i) else none))))))] ++ (xRI (xI g) 24 17 cr cost ++ [(ro, .inl (xI g, 17, .inl (fun j => iI (room j)))), (us, .inl (xI g, 17, .inl (fun j => iI (used j)))), (sl, .inl (xI g, 24, .inl (fun j => nI (slot j)))), (wc, .inl (xI g, 18, .inl (fun j => iI (u_4 j)))), (nx, .inl (xI g, 18, .inl (fun j => nI (n1_5 j)))), (pu, .inl (xI g, 18, .inl (fun j => iI (p1_6 j))))])) := hD
  try dsimp only at hw_3
  obtain ⟨tt, hWy⟩ := hc_7
  have hd17 : u_4 17 < 1000000 := by rcases hg17 with q | ⟨q, q2⟩; (have z := hWy.1; rw [q] at z; omega); (exact sG_reach17 hWy q q2)
  have hd16 := sG_reach hWy hd17 hr16
  refine lv_bipush (v := 16) hx hb dX5_bringIn_8 (by decide) ?_
  refine lv_istore_n (lv' := [(3, .int 16), (0, .ref sg), (1, .int (nI cn)), (2, .int (nI gl))]) hx hb dX5_bringIn_10 rfl hl (by decide) rfl (fun ls hl => ?_)
  refine lv_ldc (v := 1000000) hx hb hown (hts (.constant RX5 52 (1000000)) (by decide +kernel)) dX5_bringIn_11 ?_
  refine lv_istore (lv' := [(4, .int 1000000), (3, .int 16), (0, .ref sg), (1, .int (nI cn)), (2, .int (nI gl))]) hx hb dX5_bringIn_13 hl (by decide) rfl (fun ls hl => ?_)
  refine lv_iconst (v := 0) hx hb dX5_bringIn_15 (by decide) ?_
  refine lv_istore (lv' := [(5, .int 0), (4, .int 1000000), (3, .int 16), (0, .ref sg), (1, .int (nI cn)), (2, .int (nI gl))]) hx hb dX5_bringIn_16 hl (by decide) rfl (fun ls hl => ?_)
  have hloop18 : ∀ (n9 : Nat) (k : Nat) (ch : Nat) (le9 : Int) (H : Heap) (locs : List Loc) (ls : Array Slot), 17 - k < n9 → (k ≤ 17) → (ch ≤ 16) → (le9 = 1000000 ∨ (cost cn ch < 1000000 ∧ u_4 ch < 1000000 ∧ le9 = cost cn ch + u_4 ch)) → (∀ s, s < k → cost cn s < 1000000 → u_4 s < 1000000 → le9 ≤ cost cn s + u_4 s) → (le9 ≤ 1000000) → va_P (xD g) vwCl ([(sg, .inr (5, [.int (nI n), .ref co, .ref ro, .ref us, .ref sl, .ref wc, .ref nx, .ref pu])), (co, .inl (xM g, 24, .inr (.inr (.inr (.inr (fun i => if i < 24 then some (cr i) else none))))))] ++ (xRI (xI g) 24 17 cr cost ++ [(ro, .inl (xI g, 17, .inl (fun j => iI (room j)))), (us, .inl (xI g, 17, .inl (fun j => iI (used j)))), (sl, .inl (xI g, 24, .inl (fun j => nI (slot j)))), (wc, .inl (xI g, 18, .inl (fun j => iI (u_4 j)))), (nx, .inl (xI g, 18, .inl (fun j => nI (n1_5 j)))), (pu, .inl (xI g, 18, .inl (fun j => iI (p1_6 j))))])) H → va_D A ([(sg, .inr (5, [.int (nI n), .ref co, .ref ro, .ref us, .ref sl, .ref wc, .ref nx, .ref pu])), (co, .inl (xM g, 24, .inr (.inr (.inr (.inr (fun i => if i < 24 then some (cr i) else none))))))] ++ (xRI (xI g) 24 17 cr cost ++ [(ro, .inl (xI g, 17, .inl (fun j => iI (room j)))), (us, .inl (xI g, 17, .inl (fun j => iI (used j)))), (sl, .inl (xI g, 24, .inl (fun j => nI (slot j)))), (wc, .inl (xI g, 18, .inl (fun j => iI (u_4 j)))), (nx, .inl (xI g, 18, .inl (fun j => nI (n1_5 j)))), (pu, .inl (xI g, 18, .inl (fun j => iI (p1_6 j))))])) → va_S A s.heap H locs → lv_has ls 7 [(5, .int (nI k)), (0, .ref sg), (1, .int (nI cn)), (2, .int (nI gl)), (3, .int (nI ch)), (4, .int (iI le9))] → W p l e (headSpec wsX5_bringIn ({ frames := 3, cells := 0, slots := 0, locals := 74 })).room s m ([.ref sg, .int (nI cn), .int (nI gl)] : List Value).toArray below meth c H locs 0 0 (MQ below (va_Qv (fun (_ : Unit) => True) (fun (_ : Unit) (t : State) => ∃ (d2 : Nat → Int) (n2 : Nat → Nat) (p2 : Nat → Int) (us2 : Nat → Int) (sl2 : Nat → Nat), (sBr used room slot cost cn lo n gl us2 sl2) ∧ (∀ j, 0 ≤ us2 j ∧ us2 j ≤ 30) ∧ (∀ j, sl2 j ≤ 16) ∧ (∀ j, (-3000000) ≤ d2 j ∧ d2 j ≤ 1000000) ∧ (∀ j, n2 j ≤ 17) ∧ (∀ j, (-1) ≤ p2 j ∧ p2 j ≤ 23) ∧ xE g ([(sg, .inr (5, [.int (nI n), .ref co, .ref ro, .ref us, .ref sl, .ref wc, .ref nx, .ref pu])), (co, .inl (xM g, 24, .inr (.inr (.inr (.inr (fun i => if i < 24 then some (cr i) else none))))))] ++ (xRI (xI g) 24 17 cr cost ++ [(ro, .inl (xI g, 17, .inl (fun j => iI (room j)))), (us, .inl (xI g, 17, .inl (fun j => iI (us2 j)))), (sl, .inl (xI g, 24, .inl (fun j => nI (sl2 j)))), (wc, .inl (xI g, 18, .inl (fun j => iI (d2 j)))), (nx, .inl (xI g, 18, .inl (fun j => nI (n2 j)))), (pu, .inl (xI g, 18, .inl (fun j => iI (p2 j))))])) (A) t) (A)) ([.ref sg, .int (nI cn), .int (nI gl)] : List Value).toArray s 0 0 A) (F0 m 18 ls []) := by
    intro n9
    induction n9 with
    | zero =>
      intro k ch le9 H locs ls hm hk hch hle9 hmin hl6 hP hD hS hl
      exact absurd hm (Nat.not_lt_zero _)
    | succ n9 ih18 =>
      intro k ch le9 H locs ls hm hk hch hle9 hmin hl6 hP hD hS hl
      have hbq := (hWy.2.2.1 k)
      have hbc := b_cost cn k
      have hlb : -680 ≤ le9 := by rcases hle9 with q | ⟨q1, q2, q3⟩; (omega); (have z := hWy.2.2.1 ch q2; have y := b_cost cn ch; omega)
      refine lv_iload hx hb dX5_bringIn_18 (lv_at hl 0 rfl) ?_
      refine lv_bipush (v := 16) hx hb dX5_bringIn_20 (by decide) ?_
      refine lv_icmp_gt (tgt := 113) hx hb dX5_bringIn_22 (by decide) (fun c_11 => ?_) (fun c_11 => ?_)
      · have nc_11 := (nI_ltI (a := 16) (b := k) (by omega) (by omega)).mp c_11
        have hc16 := (hcs cn hcn).1
        have hopen := hmin 16 (by omega) (by omega) hd16
        have hb16 := hWy.2.2.1 16 hd16
        obtain ⟨ho1, ho2, ho3⟩ := hle9.resolve_left (by omega)
        refine lv_aload_n hx hb dX5_bringIn_113 rfl (lv_at hl 1 rfl) ?_
        refine lv_iload_n hx hb dX5_bringIn_114 rfl (lv_at hl 4 rfl) ?_
        refine lv_iload_n hx hb dX5_bringIn_115 rfl (lv_at hl 3 rfl) ?_
        have hPc := hP.sub (ws' := [(sg, .inr (5, [.int (nI n), .ref co, .ref ro, .ref us, .ref sl, .ref wc, .ref nx, .ref pu])), (us, .inl (xI g, 17, .inl (fun j => iI (used j)))), (sl, .inl (xI g, 24, .inl (fun j => nI (slot j)))), (nx, .inl (xI g, 18, .inl (fun j => nI (n1_5 j)))), (pu, .inl (xI g, 18, .inl (fun j => iI (p1_6 j))))]) [0, 27, 28, 30, 31] rfl
        have hDc := hD.sub (ws' := [(sg, .inr (5, [.int (nI n), .ref co, .ref ro, .ref us, .ref sl, .ref wc, .ref nx, .ref pu])), (us, .inl (xI g, 17, .inl (fun j => iI (used j)))), (sl, .inl (xI g, 24, .inl (fun j => nI (slot j)))), (nx, .inl (xI g, 18, .inl (fun j => nI (n1_5 j)))), (pu, .inl (xI g, 18, .inl (fun j => iI (p1_6 j))))]) [0, 27, 28, 30, 31] (by decide) rfl
        have hFc := va_free (wc := [(sg, .inr (5, [.int (nI n), .ref co, .ref ro, .ref us, .ref sl, .ref wc, .ref nx, .ref pu])), (us, .inl (xI g, 17, .inl (fun j => iI (used j)))), (sl, .inl (xI g, 24, .inl (fun j => nI (slot j)))), (nx, .inl (xI g, 18, .inl (fun j => nI (n1_5 j)))), (pu, .inl (xI g, 18, .inl (fun j => iI (p1_6 j))))]) hD hS hA [0, 27, 28, 30, 31] rfl
        refine va_callv (va_runV (As := [.int (nI ch), .int (nI gl)]) (rest := []) ⟨hx, hb, hml, hown, hts⟩ (g_pushAlong l g H.size sg us sl nx pu ch gl n (cn + 1) lo room cost tt u_4 (.int (nI n)) (.ref co) (.ref ro) (.ref wc) used slot n1_5 p1_6 hWy hin (by first | assumption | omega) (by first | assumption | omega) (by first | assumption | omega) (by first | assumption | omega) (by first | assumption | omega) (by first | assumption | omega) b_used b_slot hb_9 hb_10) (cwV 2 hts gX5_bringIn_X5_pushAlong rfl rfl rfl (by decide +kernel) ⟨Nat.le_of_ble_eq_true rfl, Nat.le_of_ble_eq_true rfl⟩) ⟨xB.blind, va_recv hK hPc (ci := 5) (q0 := 0) rfl rfl, fun U9 hU9 hW9 => ⟨rfl, xB.mk hPc hK hDc hU9 hW9⟩⟩ rfl rfl hl.1 rfl (lv_room (Nat.le_of_ble_eq_true rfl)) dX5_bringIn_116 ⟨Nat.le_of_ble_eq_true rfl, Nat.le_of_ble_eq_true rfl⟩) hS (fun q _ h => hFc q h) hFc (fun _ t H1 locs ht hvm hw_13 hB hz1 hk1 hS => ?_)
        obtain ⟨us1_14, sl1_15, hc_16, hb_17, hb_18, hP1, hK1, hD1⟩ := hB
        rw [ht] at hP1
        obtain ⟨hP, hD⟩ := va_join (wr := ([(co, .inl (xM g, 24, .inr (.inr (.inr (.inr (fun i => if i < 24 then some (cr i) else none))))))] ++ (xRI (xI g) 24 17 cr cost ++ [(ro, .inl (xI g, 17, .inl (fun j => iI (room j)))), (wc, .inl (xI g, 18, .inl (fun j => iI (u_4 j))))]))) (w1 := [(sg, .inr (5, [.int (nI n), .ref co, .ref ro, .ref us, .ref sl, .ref wc, .ref nx, .ref pu])), (us, .inl (xI g, 17, .inl (fun j => iI (us1_14 j)))), (sl, .inl (xI g, 24, .inl (fun j => nI (sl1_15 j)))), (nx, .inl (xI g, 18, .inl (fun j => nI (n1_5 j)))), (pu, .inl (xI g, 18, .inl (fun j => iI (p1_6 j))))]) hP hD [0, 27, 28, 30, 31] [1, 2, 3, 4, 5, 6, 7, 8, 9, 10, 11, 12, 13, 14, 15, 16, 17, 18, 19, 20, 21, 22, 23, 24, 25, 26, 29] rfl rfl (by decide) (by decide) hk1 hFc hP1 hD1
        generalize H1 = H at hP hS ⊢
        have hP : va_P (xD g) vwCl ([(co, .inl (xM g, 24, .inr (.inr (.inr (.inr (fun i => if i < 24 then some (cr i) else none))))))] ++ (xRI (xI g) 24 17 cr cost ++ [(ro, .inl (xI g, 17, .inl (fun j => iI (room j)))), (wc, .inl (xI g, 18, .inl (fun j => iI (u_4 j)))), (sg, .inr (5, [.int (nI n), .ref co, .ref ro, .ref us, .ref sl, .ref wc, .ref nx, .ref pu])), (us, .inl (xI g, 17, .inl (fun j => iI (us1_14 j)))), (sl, .inl (xI g, 24, .inl (fun j => nI (sl1_15 j)))), (nx, .inl (xI g, 18, .inl (fun j => nI (n1_5 j)))), (pu, .inl (xI g, 18, .inl (fun j => iI (p1_6 j))))])) H := hP
        have hD : va_D A ([(co, .inl (xM g, 24, .inr (.inr (.inr (.inr (fun i => if i < 24 then some (cr i) else none))))))] ++ (xRI (xI g) 24 17 cr cost ++ [(ro, .inl (xI g, 17, .inl (fun j => iI (room j)))), (wc, .inl (xI g, 18, .inl (fun j => iI (u_4 j)))), (sg, .inr (5, [.int (nI n), .ref co, .ref ro, .ref us, .ref sl, .ref wc, .ref nx, .ref pu])), (us, .inl (xI g, 17, .inl (fun j => iI (us1_14 j)))), (sl, .inl (xI g, 24, .inl (fun j => nI (sl1_15 j)))), (nx, .inl (xI g, 18, .inl (fun j => nI (n1_5 j)))), (pu, .inl (xI g, 18, .inl (fun j => iI (p1_6 j))))])) := hD
        try dsimp only at hw_13
        have ha7 := hc_16.2.2.2.2.2.2 ch (by omega)
        have hb7 := sCnt_le (f := sl1_15) (lo := lo) (s := ch) n
        have hb8 := sCnt_nn (f := sl1_15) (lo := lo) (n := n) (s := ch)
        refine lv_aload_n hx hb dX5_bringIn_119 rfl (lv_at hl 1 rfl) ?_
        refine va_get (D := xD g) (ci := 5) (v := .ref sl) (C := RX5) (T := TX5) (N := 8) hx hb hts hFX5 hown hK hP 27 rfl rfl 4 (by decide) (hts (.fieldLink RX5 23 "Stevedore$SlotGiver" "slot" "[I") (by decide +kernel)) (fun _ h9 => h9) rfl dX5_bringIn_120 ?_
        refine lv_iload_n hx hb dX5_bringIn_123 rfl (lv_at hl 2 rfl) ?_
        refine lv_iload_n hx hb dX5_bringIn_124 rfl (lv_at hl 4 rfl) ?_
        refine va_iast (x := nI ch) hx hb hK hP hD hS 29 0 rfl rfl (vp_in_nI (by omega) (by omega)) dX5_bringIn_125 (fun H locs hP hD hS => ?_)
        rw [nU (f := sl1_15) (k := cn) (v := ch) (nI_clamp (by omega)) rfl] at hP hD
        have hb_19 : ∀ j, (nV sl1_15 cn ch) j ≤ 16 := nV_all (P := fun q9 => q9 ≤ 16) hb_18 (by omega)
        have hP : va_P (xD g) vwCl ([(co, .inl (xM g, 24, .inr (.inr (.inr (.inr (fun i => if i < 24 then some (cr i) else none))))))] ++ (xRI (xI g) 24 17 cr cost ++ [(ro, .inl (xI g, 17, .inl (fun j => iI (room j)))), (wc, .inl (xI g, 18, .inl (fun j => iI (u_4 j)))), (sg, .inr (5, [.int (nI n), .ref co, .ref ro, .ref us, .ref sl, .ref wc, .ref nx, .ref pu])), (us, .inl (xI g, 17, .inl (fun j => iI (us1_14 j)))), (sl, .inl (xI g, 24, .inl (fun j => nI ((nV sl1_15 cn ch) j)))), (nx, .inl (xI g, 18, .inl (fun j => nI (n1_5 j)))), (pu, .inl (xI g, 18, .inl (fun j => iI (p1_6 j))))])) H := hP
        have hD : va_D A ([(co, .inl (xM g, 24, .inr (.inr (.inr (.inr (fun i => if i < 24 then some (cr i) else none))))))] ++ (xRI (xI g) 24 17 cr cost ++ [(ro, .inl (xI g, 17, .inl (fun j => iI (room j)))), (wc, .inl (xI g, 18, .inl (fun j => iI (u_4 j)))), (sg, .inr (5, [.int (nI n), .ref co, .ref ro, .ref us, .ref sl, .ref wc, .ref nx, .ref pu])), (us, .inl (xI g, 17, .inl (fun j => iI (us1_14 j)))), (sl, .inl (xI g, 24, .inl (fun j => nI ((nV sl1_15 cn ch) j)))), (nx, .inl (xI g, 18, .inl (fun j => nI (n1_5 j)))), (pu, .inl (xI g, 18, .inl (fun j => iI (p1_6 j))))])) := hD
        refine lv_aload_n hx hb dX5_bringIn_126 rfl (lv_at hl 1 rfl) ?_
        refine va_get (D := xD g) (ci := 5) (v := .ref us) (C := RX5) (T := TX5) (N := 8) hx hb hts hFX5 hown hK hP 27 rfl rfl 3 (by decide) (hts (.fieldLink RX5 20 "Stevedore$SlotGiver" "used" "[I") (by decide +kernel)) (fun _ h9 => h9) rfl dX5_bringIn_127 ?_
        refine lv_iload_n hx hb dX5_bringIn_130 rfl (lv_at hl 4 rfl) ?_
        refine lv_dup2_11 hx hb dX5_bringIn_131 rfl rfl ?_
        refine va_iald hx hb hK hP 28 0 rfl rfl (vp_in_nI (by omega) (by omega)) dX5_bringIn_132 ?_
        refine lv_topi (fun v_20 ev => ?_)
        obtain rfl : v_20 = iI (us1_14 ch) := ev.trans (congrArg (fun q9 => iI (us1_14 q9)) (nI_clamp (by omega)))
        have b_21 := hb_17 ch
        refine lv_iconst (v := 1) hx hb dX5_bringIn_133 (by decide) ?_
        refine lv_iadd hx hb dX5_bringIn_134 ?_
        refine lv_topi (fun v_22 ev => ?_)
        obtain rfl : v_22 = iI (us1_14 ch + 1) := ev.trans (iA rfl (by decide))
        refine va_iast (x := iI (us1_14 ch + 1)) hx hb hK hP hD hS 28 0 rfl rfl (vp_in_nI (by omega) (by omega)) dX5_bringIn_135 (fun H locs hP hD hS => ?_)
        rw [iU (f := us1_14) (k := ch) (v := us1_14 ch + 1) (nI_clamp (by omega)) rfl] at hP hD
        have hb_23 : ∀ j, 0 ≤ (zU us1_14 ch (us1_14 ch + 1)) j ∧ (zU us1_14 ch (us1_14 ch + 1)) j ≤ 30 := zU_all (P := fun q9 => 0 ≤ q9 ∧ q9 ≤ 30) hb_17 (by omega)
        have hP : va_P (xD g) vwCl ([(co, .inl (xM g, 24, .inr (.inr (.inr (.inr (fun i => if i < 24 then some (cr i) else none))))))] ++ (xRI (xI g) 24 17 cr cost ++ [(ro, .inl (xI g, 17, .inl (fun j => iI (room j)))), (wc, .inl (xI g, 18, .inl (fun j => iI (u_4 j)))), (sg, .inr (5, [.int (nI n), .ref co, .ref ro, .ref us, .ref sl, .ref wc, .ref nx, .ref pu])), (us, .inl (xI g, 17, .inl (fun j => iI ((zU us1_14 ch (us1_14 ch + 1)) j)))), (sl, .inl (xI g, 24, .inl (fun j => nI ((nV sl1_15 cn ch) j)))), (nx, .inl (xI g, 18, .inl (fun j => nI (n1_5 j)))), (pu, .inl (xI g, 18, .inl (fun j => iI (p1_6 j))))])) H := hP
        have hD : va_D A ([(co, .inl (xM g, 24, .inr (.inr (.inr (.inr (fun i => if i < 24 then some (cr i) else none))))))] ++ (xRI (xI g) 24 17 cr cost ++ [(ro, .inl (xI g, 17, .inl (fun j => iI (room j)))), (wc, .inl (xI g, 18, .inl (fun j => iI (u_4 j)))), (sg, .inr (5, [.int (nI n), .ref co, .ref ro, .ref us, .ref sl, .ref wc, .ref nx, .ref pu])), (us, .inl (xI g, 17, .inl (fun j => iI ((zU us1_14 ch (us1_14 ch + 1)) j)))), (sl, .inl (xI g, 24, .inl (fun j => nI ((nV sl1_15 cn ch) j)))), (nx, .inl (xI g, 18, .inl (fun j => nI (n1_5 j)))), (pu, .inl (xI g, 18, .inl (fun j => iI (p1_6 j))))])) := hD
        have hP9 := hP.sub (ws' := ([(sg, .inr (5, [.int (nI n), .ref co, .ref ro, .ref us, .ref sl, .ref wc, .ref nx, .ref pu])), (co, .inl (xM g, 24, .inr (.inr (.inr (.inr (fun i => if i < 24 then some (cr i) else none))))))] ++ (xRI (xI g) 24 17 cr cost ++ [(ro, .inl (xI g, 17, .inl (fun j => iI (room j)))), (us, .inl (xI g, 17, .inl (fun j => iI ((zU us1_14 ch (us1_14 ch + 1)) j)))), (sl, .inl (xI g, 24, .inl (fun j => nI ((nV sl1_15 cn ch) j)))), (wc, .inl (xI g, 18, .inl (fun j => iI (u_4 j)))), (nx, .inl (xI g, 18, .inl (fun j => nI (n1_5 j)))), (pu, .inl (xI g, 18, .inl (fun j => iI (p1_6 j))))]))) [27, 0, 1, 2, 3, 4, 5, 6, 7, 8, 9, 10, 11, 12, 13, 14, 15, 16, 17, 18, 19, 20, 21, 22, 23, 24, 25, 28, 29, 26, 30, 31] rfl
        have hD9 := hD.sub (ws' := ([(sg, .inr (5, [.int (nI n), .ref co, .ref ro, .ref us, .ref sl, .ref wc, .ref nx, .ref pu])), (co, .inl (xM g, 24, .inr (.inr (.inr (.inr (fun i => if i < 24 then some (cr i) else none))))))] ++ (xRI (xI g) 24 17 cr cost ++ [(ro, .inl (xI g, 17, .inl (fun j => iI (room j)))), (us, .inl (xI g, 17, .inl (fun j => iI ((zU us1_14 ch (us1_14 ch + 1)) j)))), (sl, .inl (xI g, 24, .inl (fun j => nI ((nV sl1_15 cn ch) j)))), (wc, .inl (xI g, 18, .inl (fun j => iI (u_4 j)))), (nx, .inl (xI g, 18, .inl (fun j => nI (n1_5 j)))), (pu, .inl (xI g, 18, .inl (fun j => iI (p1_6 j))))]))) [27, 0, 1, 2, 3, 4, 5, 6, 7, 8, 9, 10, 11, 12, 13, 14, 15, 16, 17, 18, 19, 20, 21, 22, 23, 24, 25, 28, 29, 26, 30, 31] (by decide) rfl
        exact W.vret hx hb hr (fun t ht hW => ⟨⟨(), rfl, (by first | trivial | rfl | assumption | omega), ⟨u_4, n1_5, p1_6, (zU us1_14 ch (us1_14 ch + 1)), (nV sl1_15 cn ch), ⟨_, _, _, tt, us1_14, sl1_15, ch, hWy, hc_16, hch, ho1, ho2, fun s h1 h2 h3 => (by have z := hmin s (by omega) h2 h3; omega), rfl, rfl⟩, hb_23, hb_19, hb_8, hb_9, hb_10, by rw [ht]; exact hP9, va_K.moved hW.alike hK, hD9⟩⟩, hS.F ht⟩) hS.2.2 dX5_bringIn_136
      · have nc_11 := mt (nI_ltI (a := 16) (b := k) (by omega) (by omega)).mpr c_11
        refine lv_aload_n hx hb dX5_bringIn_25 rfl (lv_at hl 1 rfl) ?_
        refine va_get (D := xD g) (ci := 5) (v := .ref co) (C := RX5) (T := TX5) (N := 8) hx hb hts hFX5 hown hK hP 0 rfl rfl 1 (by decide) (hts (.fieldLink RX5 11 "Stevedore$SlotGiver" "cost" "[[I") (by decide +kernel)) (fun _ h9 => h9) rfl dX5_bringIn_26 ?_
        refine lv_iload_n hx hb dX5_bringIn_29 rfl (lv_at hl 2 rfl) ?_
        refine xAldM hx hb hK hP 1 3 rfl rfl (vp_in_nI (by omega) (by omega)) dX5_bringIn_30 ?_
        refine W.eq (g2 := F0 m 31 ls (.ref (cr cn) :: [])) (congrArg (fun q9 => F0 m 31 ls (q9 :: [])) (xRow (n := 24) (k := cn) (nI_clamp (by omega)) (by omega))) ?_
        refine lv_iload hx hb dX5_bringIn_31 (lv_at hl 0 rfl) ?_
        refine va_iald hx hb hK hP _ 0 (xR_ap (X := [(sg, .inr (5, [.int (nI n), .ref co, .ref ro, .ref us, .ref sl, .ref wc, .ref nx, .ref pu])), (co, .inl (xM g, 24, .inr (.inr (.inr (.inr (fun i => if i < 24 then some (cr i) else none))))))]) (xR_get0 (i := cn) (by omega))) rfl (vp_in_nI (by omega) (by omega)) dX5_bringIn_33 ?_
        refine lv_topi (fun v_24 ev => ?_)
        obtain rfl : v_24 = iI (cost cn k) := ev.trans (congrArg (fun q9 => iI (cost cn q9)) (nI_clamp (by omega)))
        have b_25 := b_cost cn k
        refine lv_ldc (v := 1000000) hx hb hown (hts (.constant RX5 52 (1000000)) (by decide +kernel)) dX5_bringIn_34 ?_
        refine lv_icmp_ge (tgt := 55) hx hb dX5_bringIn_36 (by decide) (fun c_26 => ?_) (fun c_26 => ?_)
        · have nc_26 := (iLe (a := 1000000) (b := cost cn k) (by decide) rfl (by omega)).mp c_26
          refine lv_iconst (v := 0) hx hb dX5_bringIn_55 (by decide) ?_
          refine lv_istore (lv' := [(6, .int 0), (5, .int (nI k)), (0, .ref sg), (1, .int (nI cn)), (2, .int (nI gl)), (3, .int (nI ch)), (4, .int (iI le9))]) hx hb dX5_bringIn_56 hl (by decide) rfl (fun ls hl => ?_)
          refine lv_iload hx hb dX5_bringIn_58 (lv_at hl 0 rfl) ?_
          refine lv_if_eq (tgt := 107) hx hb dX5_bringIn_60 (by decide) (fun _ => ?_) (fun c0 => absurd (by decide) c0)
          refine lv_iinc (v := nI (k + 1)) (lv' := [(5, .int (nI (k + 1))), (6, .int 0), (0, .ref sg), (1, .int (nI cn)), (2, .int (nI gl)), (3, .int (nI ch)), (4, .int (iI le9))]) hx hb dX5_bringIn_107 hl (k := 1) rfl (nI_add k 1) (by decide) rfl (fun ls hl => ?_)
          refine lv_goto (tgt := 18) hx hb dX5_bringIn_110 (by decide) ?_
          exact ih18 (k + 1) ch le9 _ _ _ (by omega) (by omega) (by omega) (by first | exact hle9 | exact Or.inr ⟨by omega, by omega, rfl⟩) (by intro s9 h1 h2 h3; by_cases q : s9 = k; (subst q; omega); (have z := hmin s9 (by omega) h2 h3; omega)) (by omega) hP hD hS (lv_sub hl [0, 2, 3, 4, 5, 6] rfl)
        · have nc_26 := mt (iLe (a := 1000000) (b := cost cn k) (by decide) rfl (by omega)).mpr c_26
          refine lv_aload_n hx hb dX5_bringIn_39 rfl (lv_at hl 1 rfl) ?_
          refine va_get (D := xD g) (ci := 5) (v := .ref wc) (C := RX5) (T := TX5) (N := 8) hx hb hts hFX5 hown hK hP 0 rfl rfl 5 (by decide) (hts (.fieldLink RX5 26 "Stevedore$SlotGiver" "wayCost" "[I") (by decide +kernel)) (fun _ h9 => h9) rfl dX5_bringIn_40 ?_
          refine lv_iload hx hb dX5_bringIn_43 (lv_at hl 0 rfl) ?_
          refine va_iald hx hb hK hP 29 0 rfl rfl (vp_in_nI (by omega) (by omega)) dX5_bringIn_45 ?_
          refine lv_topi (fun v_27 ev => ?_)
          obtain rfl : v_27 = iI (u_4 k) := ev.trans (congrArg (fun q9 => iI (u_4 q9)) (nI_clamp (by omega)))
          have b_28 := hb_8 k
          refine lv_ldc (v := 1000000) hx hb hown (hts (.constant RX5 52 (1000000)) (by decide +kernel)) dX5_bringIn_46 ?_
          refine lv_icmp_ge (tgt := 55) hx hb dX5_bringIn_48 (by decide) (fun c_29 => ?_) (fun c_29 => ?_)
          · have nc_29 := (iLe (a := 1000000) (b := u_4 k) (by decide) rfl (by omega)).mp c_29
            refine lv_iconst (v := 0) hx hb dX5_bringIn_55 (by decide) ?_
            refine lv_istore (lv' := [(6, .int 0), (5, .int (nI k)), (0, .ref sg), (1, .int (nI cn)), (2, .int (nI gl)), (3, .int (nI ch)), (4, .int (iI le9))]) hx hb dX5_bringIn_56 hl (by decide) rfl (fun ls hl => ?_)
            refine lv_iload hx hb dX5_bringIn_58 (lv_at hl 0 rfl) ?_
            refine lv_if_eq (tgt := 107) hx hb dX5_bringIn_60 (by decide) (fun _ => ?_) (fun c0 => absurd (by decide) c0)
            refine lv_iinc (v := nI (k + 1)) (lv' := [(5, .int (nI (k + 1))), (6, .int 0), (0, .ref sg), (1, .int (nI cn)), (2, .int (nI gl)), (3, .int (nI ch)), (4, .int (iI le9))]) hx hb dX5_bringIn_107 hl (k := 1) rfl (nI_add k 1) (by decide) rfl (fun ls hl => ?_)
            refine lv_goto (tgt := 18) hx hb dX5_bringIn_110 (by decide) ?_
            exact ih18 (k + 1) ch le9 _ _ _ (by omega) (by omega) (by omega) (by first | exact hle9 | exact Or.inr ⟨by omega, by omega, rfl⟩) (by intro s9 h1 h2 h3; by_cases q : s9 = k; (subst q; omega); (have z := hmin s9 (by omega) h2 h3; omega)) (by omega) hP hD hS (lv_sub hl [0, 2, 3, 4, 5, 6] rfl)
          · have nc_29 := mt (iLe (a := 1000000) (b := u_4 k) (by decide) rfl (by omega)).mpr c_29
            refine lv_iconst (v := 1) hx hb dX5_bringIn_51 (by decide) ?_
            refine lv_goto (tgt := 56) hx hb dX5_bringIn_52 (by decide) ?_
            refine lv_istore (lv' := [(6, .int 1), (5, .int (nI k)), (0, .ref sg), (1, .int (nI cn)), (2, .int (nI gl)), (3, .int (nI ch)), (4, .int (iI le9))]) hx hb dX5_bringIn_56 hl (by decide) rfl (fun ls hl => ?_)
            refine lv_iload hx hb dX5_bringIn_58 (lv_at hl 0 rfl) ?_
            refine lv_if_eq (tgt := 107) hx hb dX5_bringIn_60 (by decide) (fun c0 => absurd c0 (by decide)) (fun _ => ?_)
            refine lv_aload_n hx hb dX5_bringIn_63 rfl (lv_at hl 2 rfl) ?_
            refine va_get (D := xD g) (ci := 5) (v := .ref co) (C := RX5) (T := TX5) (N := 8) hx hb hts hFX5 hown hK hP 0 rfl rfl 1 (by decide) (hts (.fieldLink RX5 11 "Stevedore$SlotGiver" "cost" "[[I") (by decide +kernel)) (fun _ h9 => h9) rfl dX5_bringIn_64 ?_
            refine lv_iload_n hx hb dX5_bringIn_67 rfl (lv_at hl 3 rfl) ?_
            refine xAldM hx hb hK hP 1 3 rfl rfl (vp_in_nI (by omega) (by omega)) dX5_bringIn_68 ?_
            refine W.eq (g2 := F0 m 69 ls (.ref (cr cn) :: [])) (congrArg (fun q9 => F0 m 69 ls (q9 :: [])) (xRow (n := 24) (k := cn) (nI_clamp (by omega)) (by omega))) ?_
            refine lv_iload hx hb dX5_bringIn_69 (lv_at hl 1 rfl) ?_
            refine va_iald hx hb hK hP _ 0 (xR_ap (X := [(sg, .inr (5, [.int (nI n), .ref co, .ref ro, .ref us, .ref sl, .ref wc, .ref nx, .ref pu])), (co, .inl (xM g, 24, .inr (.inr (.inr (.inr (fun i => if i < 24 then some (cr i) else none))))))]) (xR_get0 (i := cn) (by omega))) rfl (vp_in_nI (by omega) (by omega)) dX5_bringIn_71 ?_
            refine lv_topi (fun v_30 ev => ?_)
            obtain rfl : v_30 = iI (cost cn k) := ev.trans (congrArg (fun q9 => iI (cost cn q9)) (nI_clamp (by omega)))
            have b_31 := b_cost cn k
            refine lv_aload_n hx hb dX5_bringIn_72 rfl (lv_at hl 2 rfl) ?_
            refine va_get (D := xD g) (ci := 5) (v := .ref wc) (C := RX5) (T := TX5) (N := 8) hx hb hts hFX5 hown hK hP 0 rfl rfl 5 (by decide) (hts (.fieldLink RX5 26 "Stevedore$SlotGiver" "wayCost" "[I") (by decide +kernel)) (fun _ h9 => h9) rfl dX5_bringIn_73 ?_
            refine lv_iload hx hb dX5_bringIn_76 (lv_at hl 1 rfl) ?_
            refine va_iald hx hb hK hP 29 0 rfl rfl (vp_in_nI (by omega) (by omega)) dX5_bringIn_78 ?_
            refine lv_topi (fun v_32 ev => ?_)
            obtain rfl : v_32 = iI (u_4 k) := ev.trans (congrArg (fun q9 => iI (u_4 q9)) (nI_clamp (by omega)))
            have b_33 := hb_8 k
            refine lv_iadd hx hb dX5_bringIn_79 ?_
            refine lv_topi (fun v_34 ev => ?_)
            obtain rfl : v_34 = iI (cost cn k + (u_4 k)) := ev.trans (iA rfl rfl)
            refine lv_iload hx hb dX5_bringIn_80 (lv_at hl 6 rfl) ?_
            refine lv_icmp_ge (tgt := 107) hx hb dX5_bringIn_82 (by decide) (fun c_35 => ?_) (fun c_35 => ?_)
            · have nc_35 := (iLe (a := le9) (b := cost cn k + (u_4 k)) rfl rfl (by omega)).mp c_35
              refine lv_iinc (v := nI (k + 1)) (lv' := [(5, .int (nI (k + 1))), (6, .int 1), (0, .ref sg), (1, .int (nI cn)), (2, .int (nI gl)), (3, .int (nI ch)), (4, .int (iI le9))]) hx hb dX5_bringIn_107 hl (k := 1) rfl (nI_add k 1) (by decide) rfl (fun ls hl => ?_)
              refine lv_goto (tgt := 18) hx hb dX5_bringIn_110 (by decide) ?_
              exact ih18 (k + 1) ch le9 _ _ _ (by omega) (by omega) (by omega) (by first | exact hle9 | exact Or.inr ⟨by omega, by omega, rfl⟩) (by intro s9 h1 h2 h3; by_cases q : s9 = k; (subst q; omega); (have z := hmin s9 (by omega) h2 h3; omega)) (by omega) hP hD hS (lv_sub hl [0, 2, 3, 4, 5, 6] rfl)
            · have nc_35 := mt (iLe (a := le9) (b := cost cn k + (u_4 k)) rfl rfl (by omega)).mpr c_35
              refine lv_aload_n hx hb dX5_bringIn_85 rfl (lv_at hl 2 rfl) ?_
              refine va_get (D := xD g) (ci := 5) (v := .ref co) (C := RX5) (T := TX5) (N := 8) hx hb hts hFX5 hown hK hP 0 rfl rfl 1 (by decide) (hts (.fieldLink RX5 11 "Stevedore$SlotGiver" "cost" "[[I") (by decide +kernel)) (fun _ h9 => h9) rfl dX5_bringIn_86 ?_
              refine lv_iload_n hx hb dX5_bringIn_89 rfl (lv_at hl 3 rfl) ?_
              refine xAldM hx hb hK hP 1 3 rfl rfl (vp_in_nI (by omega) (by omega)) dX5_bringIn_90 ?_
              refine W.eq (g2 := F0 m 91 ls (.ref (cr cn) :: [])) (congrArg (fun q9 => F0 m 91 ls (q9 :: [])) (xRow (n := 24) (k := cn) (nI_clamp (by omega)) (by omega))) ?_
              refine lv_iload hx hb dX5_bringIn_91 (lv_at hl 1 rfl) ?_
              refine va_iald hx hb hK hP _ 0 (xR_ap (X := [(sg, .inr (5, [.int (nI n), .ref co, .ref ro, .ref us, .ref sl, .ref wc, .ref nx, .ref pu])), (co, .inl (xM g, 24, .inr (.inr (.inr (.inr (fun i => if i < 24 then some (cr i) else none))))))]) (xR_get0 (i := cn) (by omega))) rfl (vp_in_nI (by omega) (by omega)) dX5_bringIn_93 ?_
              refine lv_topi (fun v_36 ev => ?_)
              obtain rfl : v_36 = iI (cost cn k) := ev.trans (congrArg (fun q9 => iI (cost cn q9)) (nI_clamp (by omega)))
              have b_37 := b_cost cn k
              refine lv_aload_n hx hb dX5_bringIn_94 rfl (lv_at hl 2 rfl) ?_
              refine va_get (D := xD g) (ci := 5) (v := .ref wc) (C := RX5) (T := TX5) (N := 8) hx hb hts hFX5 hown hK hP 0 rfl rfl 5 (by decide) (hts (.fieldLink RX5 26 "Stevedore$SlotGiver" "wayCost" "[I") (by decide +kernel)) (fun _ h9 => h9) rfl dX5_bringIn_95 ?_
              refine lv_iload hx hb dX5_bringIn_98 (lv_at hl 1 rfl) ?_
              refine va_iald hx hb hK hP 29 0 rfl rfl (vp_in_nI (by omega) (by omega)) dX5_bringIn_100 ?_
              refine lv_topi (fun v_38 ev => ?_)
              obtain rfl : v_38 = iI (u_4 k) := ev.trans (congrArg (fun q9 => iI (u_4 q9)) (nI_clamp (by omega)))
              have b_39 := hb_8 k
              refine lv_iadd hx hb dX5_bringIn_101 ?_
              refine lv_topi (fun v_40 ev => ?_)
              obtain rfl : v_40 = iI (cost cn k + (u_4 k)) := ev.trans (iA rfl rfl)
              refine lv_istore (lv' := [(4, .int (iI (cost cn k + (u_4 k)))), (6, .int 1), (5, .int (nI k)), (0, .ref sg), (1, .int (nI cn)), (2, .int (nI gl)), (3, .int (nI ch))]) hx hb dX5_bringIn_102 hl (by decide) rfl (fun ls hl => ?_)
              refine lv_iload hx hb dX5_bringIn_104 (lv_at hl 2 rfl) ?_
              refine lv_istore_n (lv' := [(3, .int (nI k)), (4, .int (iI (cost cn k + (u_4 k)))), (6, .int 1), (5, .int (nI k)), (0, .ref sg), (1, .int (nI cn)), (2, .int (nI gl))]) hx hb dX5_bringIn_106 rfl hl (by decide) rfl (fun ls hl => ?_)
              refine lv_iinc (v := nI (k + 1)) (lv' := [(5, .int (nI (k + 1))), (3, .int (nI k)), (4, .int (iI (cost cn k + (u_4 k)))), (6, .int 1), (0, .ref sg), (1, .int (nI cn)), (2, .int (nI gl))]) hx hb dX5_bringIn_107 hl (k := 3) rfl (nI_add k 1) (by decide) rfl (fun ls hl => ?_)
              refine lv_goto (tgt := 18) hx hb dX5_bringIn_110 (by decide) ?_
              exact ih18 (k + 1) k (cost cn k + (u_4 k)) _ _ _ (by omega) (by omega) (by omega) (by first | exact hle9 | exact Or.inr ⟨by omega, by omega, rfl⟩) (by intro s9 h1 h2 h3; by_cases q : s9 = k; (subst q; omega); (have z := hmin s9 (by omega) h2 h3; omega)) (by omega) hP hD hS (lv_sub hl [0, 4, 5, 6, 1, 2] rfl)
  exact hloop18 (18) 0 16 1000000 _ _ _ (by omega) (by omega) (by omega) (Or.inl rfl) (fun q hq => absurd hq (Nat.not_lt_zero _)) (by omega) hP hD hS (by rw [(show nI 0 = (0 : Int32) from by decide), (show nI 16 = (16 : Int32) from by decide), (show iI 1000000 = (1000000 : Int32) from by decide)]; exact lv_sub hl [0, 3, 4, 5, 2, 1] rfl)
