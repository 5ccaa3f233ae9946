theorem dX5_giveCheapest_0 : decode cX5_giveCheapest 0 = .ok (.aload_n 0, 1) := by decide +kernel
theorem dX5_giveCheapest_1 : decode cX5_giveCheapest 1 = .ok (.getfield 20, 3) := by decide +kernel
theorem dX5_giveCheapest_4 : decode cX5_giveCheapest 4 = .ok (.iconst 0, 1) := by decide +kernel
theorem dX5_giveCheapest_5 : decode cX5_giveCheapest 5 = .ok (.invokestatic 35, 3) := by decide +kernel
set_option maxRecDepth 20000 in
theorem ggX5_giveCheapest_J7_fill_53178 : GoodIn wsX5_giveCheapest wsJ7_fill_53178 := goodIn_r _ [8] rfl (by decide +kernel)
set_option maxRecDepth 20000 in
theorem gX5_giveCheapest_J7_fill_53178 : GoodIn wsX5_giveCheapest (va_wsS RX5 35 yJ7_fill_53178 wsJ7_fill_53178) := goodIn_app (goodIn_of _ (by decide +kernel)) ggX5_giveCheapest_J7_fill_53178
theorem dX5_giveCheapest_8 : decode cX5_giveCheapest 8 = .ok (.aload_n 0, 1) := by decide +kernel
theorem dX5_giveCheapest_9 : decode cX5_giveCheapest 9 = .ok (.getfield 41, 3) := by decide +kernel
theorem dX5_giveCheapest_12 : decode cX5_giveCheapest 12 = .ok (.iconst 1, 1) := by decide +kernel
theorem dX5_giveCheapest_13 : decode cX5_giveCheapest 13 = .ok (.isub, 1) := by decide +kernel
theorem dX5_giveCheapest_14 : decode cX5_giveCheapest 14 = .ok (.istore_n 1, 1) := by decide +kernel
theorem dX5_giveCheapest_15 : decode cX5_giveCheapest 15 = .ok (.iload_n 1, 1) := by decide +kernel
theorem dX5_giveCheapest_16 : decode cX5_giveCheapest 16 = .ok (.ifCond .lt 16, 3) := by decide +kernel
theorem dX5_giveCheapest_32 : decode cX5_giveCheapest 32 = .ok (.iconst 0, 1) := by decide +kernel
theorem dX5_giveCheapest_33 : decode cX5_giveCheapest 33 = .ok (.istore_n 1, 1) := by decide +kernel
theorem dX5_giveCheapest_34 : decode cX5_giveCheapest 34 = .ok (.iconst 0, 1) := by decide +kernel
theorem dX5_giveCheapest_35 : decode cX5_giveCheapest 35 = .ok (.istore_n 2, 1) := by decide +kernel
theorem dX5_giveCheapest_36 : decode cX5_giveCheapest 36 = .ok (.iload_n 2, 1) := by decide +kernel
theorem dX5_giveCheapest_37 : decode cX5_giveCheapest 37 = .ok (.aload_n 0, 1) := by decide +kernel
theorem dX5_giveCheapest_38 : decode cX5_giveCheapest 38 = .ok (.getfield 41, 3) := by decide +kernel
theorem dX5_giveCheapest_41 : decode cX5_giveCheapest 41 = .ok (.if_icmp .ge 25, 3) := by decide +kernel
theorem dX5_giveCheapest_66 : decode cX5_giveCheapest 66 = .ok (.iload_n 1, 1) := by decide +kernel
theorem dX5_giveCheapest_67 : decode cX5_giveCheapest 67 = .ok (.ireturn, 1) := by decide +kernel
theorem dX5_giveCheapest_44 : decode cX5_giveCheapest 44 = .ok (.iload_n 1, 1) := by decide +kernel
theorem dX5_giveCheapest_45 : decode cX5_giveCheapest 45 = .ok (.aload_n 0, 1) := by decide +kernel
theorem dX5_giveCheapest_46 : decode cX5_giveCheapest 46 = .ok (.getfield 11, 3) := by decide +kernel
theorem dX5_giveCheapest_49 : decode cX5_giveCheapest 49 = .ok (.iload_n 2, 1) := by decide +kernel
theorem dX5_giveCheapest_50 : decode cX5_giveCheapest 50 = .ok (.aaload, 1) := by decide +kernel
theorem dX5_giveCheapest_51 : decode cX5_giveCheapest 51 = .ok (.aload_n 0, 1) := by decide +kernel
theorem dX5_giveCheapest_52 : decode cX5_giveCheapest 52 = .ok (.getfield 23, 3) := by decide +kernel
theorem dX5_giveCheapest_55 : decode cX5_giveCheapest 55 = .ok (.iload_n 2, 1) := by decide +kernel
theorem dX5_giveCheapest_56 : decode cX5_giveCheapest 56 = .ok (.iaload, 1) := by decide +kernel
theorem dX5_giveCheapest_57 : decode cX5_giveCheapest 57 = .ok (.iaload, 1) := by decide +kernel
theorem dX5_giveCheapest_58 : decode cX5_giveCheapest 58 = .ok (.iadd, 1) := by decide +kernel
theorem dX5_giveCheapest_59 : decode cX5_giveCheapest 59 = .ok (.istore_n 1, 1) := by decide +kernel
theorem dX5_giveCheapest_60 : decode cX5_giveCheapest 60 = .ok (.iinc 2 1, 3) := by decide +kernel
theorem dX5_giveCheapest_63 : decode cX5_giveCheapest 63 = .ok (.goto (-27), 3) := by decide +kernel
theorem dX5_giveCheapest_19 : decode cX5_giveCheapest 19 = .ok (.aload_n 0, 1) := by decide +kernel
theorem dX5_giveCheapest_20 : decode cX5_giveCheapest 20 = .ok (.iload_n 1, 1) := by decide +kernel
theorem dX5_giveCheapest_21 : decode cX5_giveCheapest 21 = .ok (.bipush 17, 2) := by decide +kernel
theorem dX5_giveCheapest_23 : decode cX5_giveCheapest 23 = .ok (.invokevirtual 45, 3) := by decide +kernel
set_option maxRecDepth 20000 in
theorem ggX5_giveCheapest_X5_bringIn : GoodIn wsX5_giveCheapest wsX5_bringIn := goodIn_r _ [13, 14, 3, 15, 4, 1, 16, 17, 18, 12, 19, 20, 21, 2, 22, 23, 24, 25, 26, 27, 28, 29, 30, 31, 32, 33, 34, 35, 36, 37, 38, 39, 40, 41, 42, 43, 44, 45, 46] rfl (by decide +kernel)
set_option maxRecDepth 20000 in
theorem gX5_giveCheapest_X5_bringIn : GoodIn wsX5_giveCheapest (wsV RX5 45 RX5 yX5_bringIn wsX5_bringIn) := goodIn_app (goodIn_of _ (by decide +kernel)) ggX5_giveCheapest_X5_bringIn
theorem dX5_giveCheapest_26 : decode cX5_giveCheapest 26 = .ok (.iinc 1 (-1), 3) := by decide +kernel
theorem dX5_giveCheapest_29 : decode cX5_giveCheapest 29 = .ok (.goto (-14), 3) := by decide +kernel
set_option maxHeartbeats 4000000 in
set_option maxRecDepth 100000 in
theorem g_giveCheapest (l : Launch) (g : xG) (sz : Nat) (sg : Nat) (co : Nat) (ro : Nat) (us : Nat) (sl : Nat) (wc : Nat) (nx : Nat) (pu : Nat) (n : Nat) (cr : Nat → Nat) (cost : Nat → Nat → Int) (room : Nat → Int) (used : Nat → Int) (slot : Nat → Nat) (dd : Nat → Int) (nxt : Nat → Nat) (psh : Nat → Int)  (hcs : sCs cost n) (hn : n ≤ 24) (hroom : room 16 = 24) (b_cost : ∀ i j, 0 ≤ cost i j ∧ cost i j ≤ 1000000) (b_room : ∀ j, 0 ≤ room j ∧ room j ≤ 24) (b_used : ∀ j, 0 ≤ used j ∧ used j ≤ 30) (b_slot : ∀ j, slot j ≤ 16) (b_dd : ∀ j, (-3000000) ≤ dd j ∧ dd j ≤ 1000000) (b_nxt : ∀ j, nxt j ≤ 17) (b_psh : ∀ j, (-1) ≤ psh j ∧ psh j ≤ 23) : Met l yX5_giveCheapest wsX5_giveCheapest ({ frames := 4, cells := 0, slots := 0, locals := 100 }) (va_Pc [.ref sg] (fun U => xB g ([(sg, .inr (5, [.int (nI n), .ref co, .ref ro, .ref us, .ref sl, .ref wc, .ref nx, .ref pu])), (co, .inl (xM g, 24, .inr (.inr (.inr (.inr (fun i => if i < 24 then some (cr i) else none))))))] ++ (xRI (xI g) 24 17 cr cost ++ [(ro, .inl (xI g, 17, .inl (fun j => iI (room j)))), (us, .inl (xI g, 17, .inl (fun j => iI (used j)))), (sl, .inl (xI g, 24, .inl (fun j => nI (slot j)))), (wc, .inl (xI g, 18, .inl (fun j => iI (dd j)))), (nx, .inl (xI g, 18, .inl (fun j => nI (nxt j)))), (pu, .inl (xI g, 18, .inl (fun j => iI (psh j))))])) sz U)) (va_Qi (fun (r : Int32) (u : Nat → Nat) => r = iI (sSum (fun x => cost x (u x)) n)) (fun (u : Nat → Nat) (t : State) => ∃ (d2 : Nat → Int) (n2 : Nat → Nat) (p2 : Nat → Int) (us2 : Nat → Int), (sG1 us2 room u cost 0 n) ∧ (∀ j, 0 ≤ us2 j ∧ us2 j ≤ 30) ∧ (∀ j, u j ≤ 16) ∧ (∀ j, (-3000000) ≤ d2 j ∧ d2 j ≤ 1000000) ∧ (∀ j, n2 j ≤ 17) ∧ (∀ j, (-1) ≤ p2 j ∧ p2 j ≤ 23) ∧ xE g ([(sg, .inr (5, [.int (nI n), .ref co, .ref ro, .ref us, .ref sl, .ref wc, .ref nx, .ref pu])), (co, .inl (xM g, 24, .inr (.inr (.inr (.inr (fun i => if i < 24 then some (cr i) else none))))))] ++ (xRI (xI g) 24 17 cr cost ++ [(ro, .inl (xI g, 17, .inl (fun j => iI (room j)))), (us, .inl (xI g, 17, .inl (fun j => iI (us2 j)))), (sl, .inl (xI g, 24, .inl (fun j => nI (u j)))), (wc, .inl (xI g, 18, .inl (fun j => iI (d2 j)))), (nx, .inl (xI g, 18, .inl (fun j => nI (n2 j)))), (pu, .inl (xI g, 18, .inl (fun j => iI (p2 j))))])) (va_A ([(sg, .inr (5, [.int (nI n), .ref co, .ref ro, .ref us, .ref sl, .ref wc, .ref nx, .ref pu])), (co, .inl (xM g, 24, .inr (.inr (.inr (.inr (fun i => if i < 24 then some (cr i) else none))))))] ++ (xRI (xI g) 24 17 cr cost ++ [(ro, .inl (xI g, 17, .inl (fun j => iI (room j)))), (us, .inl (xI g, 17, .inl (fun j => iI (used j)))), (sl, .inl (xI g, 24, .inl (fun j => nI (slot j)))), (wc, .inl (xI g, 18, .inl (fun j => iI (dd j)))), (nx, .inl (xI g, 18, .inl (fun j => nI (nxt j)))), (pu, .inl (xI g, 18, .inl (fun j => iI (psh j))))])) sz) t) (va_A ([(sg, .inr (5, [.int (nI n), .ref co, .ref ro, .ref us, .ref sl, .ref wc, .ref nx, .ref pu])), (co, .inl (xM g, 24, .inr (.inr (.inr (.inr (fun i => if i < 24 then some (cr i) else none))))))] ++ (xRI (xI g) 24 17 cr cost ++ [(ro, .inl (xI g, 17, .inl (fun j => iI (room j)))), (us, .inl (xI g, 17, .inl (fun j => iI (used j)))), (sl, .inl (xI g, 24, .inl (fun j => nI (slot j)))), (wc, .inl (xI g, 18, .inl (fun j => iI (dd j)))), (nx, .inl (xI g, 18, .inl (fun j => nI (nxt j)))), (pu, .inl (xI g, 18, .inl (fun j => iI (psh j))))])) sz)) 0 0 (va_A ([(sg, .inr (5, [.int (nI n), .ref co, .ref ro, .ref us, .ref sl, .ref wc, .ref nx, .ref pu])), (co, .inl (xM g, 24, .inr (.inr (.inr (.inr (fun i => if i < 24 then some (cr i) else none))))))] ++ (xRI (xI g) 24 17 cr cost ++ [(ro, .inl (xI g, 17, .inl (fun j => iI (room j)))), (us, .inl (xI g, 17, .inl (fun j => iI (used j)))), (sl, .inl (xI g, 24, .inl (fun j => nI (slot j)))), (wc, .inl (xI g, 18, .inl (fun j => iI (dd j)))), (nx, .inl (xI g, 18, .inl (fun j => nI (nxt j)))), (pu, .inl (xI g, 18, .inl (fun j => iI (psh j))))])) sz) := by
  refine Met.ofW (cc := cX5_giveCheapest) (maxL := 3) (ret := (some .int)) (by decide) rfl ?_
  intro p e s m args below meth c s₁ B hml hv
  obtain ⟨rfl, hsz, hP, hK, hD0⟩ := hv
  have hx := B.exec
  have hb := B.bytes
  have hr := B.returns
  have hts := atoms_spec (ws := wsX5_giveCheapest) B.pre
  have hown : s.vm.findClass RX5 = some m.cls := findClass_of_methodNamed B.named
  have hlocks := B.notSynchronized
  subst hsz
  have hD := hD0.self (sz := s.heap.size)
  generalize hAe : va_A ([(sg, .inr (5, [.int (nI n), .ref co, .ref ro, .ref us, .ref sl, .ref wc, .ref nx, .ref pu])), (co, .inl (xM g, 24, .inr (.inr (.inr (.inr (fun i => if i < 24 then some (cr i) else none))))))] ++ (xRI (xI g) 24 17 cr cost ++ [(ro, .inl (xI g, 17, .inl (fun j => iI (room j)))), (us, .inl (xI g, 17, .inl (fun j => iI (used j)))), (sl, .inl (xI g, 24, .inl (fun j => nI (slot j)))), (wc, .inl (xI g, 18, .inl (fun j => iI (dd j)))), (nx, .inl (xI g, 18, .inl (fun j => nI (nxt j)))), (pu, .inl (xI g, 18, .inl (fun j => iI (psh j))))])) s.heap.size = A at hD ⊢
  have hA : ∀ q : Nat, s.heap.size ≤ q → A q := fun q h => by rw [← hAe]; exact Or.inr h
  have hS : va_S A s.heap s.heap [] := va_S.rf
  have hl := lv_entry ([.ref sg]) (n := 3) (Nat.le_of_ble_eq_true rfl)
  rw [lg_entry_eq]
  generalize (lg_sl ([.ref sg]) ++ List.replicate (3 - (lg_sl ([.ref sg])).length) Slot.unset).toArray = ls at hl ⊢
  have hl : lv_has ls 3 [(0, .ref sg)] := hl
  have hFX5 : ∀ w ∈ u_ws RX5 TX5 8, w ∈ wsX5_giveCheapest := by decide +kernel
  refine lv_aload_n hx hb dX5_giveCheapest_0 rfl (lv_at hl 0 rfl) ?_
  refine va_get (D := xD g) (ci := 5) (v := .ref us) (C := RX5) (T := TX5) (N := 8) hx hb hts hFX5 hown hK hP 0 rfl rfl 3 (by decide) (hts (.fieldLink RX5 20 "Stevedore$SlotGiver" "used" "[I") (by decide +kernel)) (fun _ h9 => h9) rfl dX5_giveCheapest_1 ?_
  refine lv_iconst (v := 0) hx hb dX5_giveCheapest_4 (by decide) ?_
  have hPc := hP.sub (ws' := [(us, .inl (xI g, 17, .inl (fun j => iI (used j))))]) [27] rfl
  have hDc := hD.sub (ws' := [(us, .inl (xI g, 17, .inl (fun j => iI (used j))))]) [27] (by decide) rfl
  have hFc := va_free (wc := [(us, .inl (xI g, 17, .inl (fun j => iI (used j))))]) hD hS hA [27] rfl
  refine va_callv (va_runS (As := [.ref us, .int 0]) (rest := []) ⟨hx, hb, hml, hown, hts⟩ (j_fill l g s.heap.size us 17 0 used (by first | assumption | omega)) (va_cwS 2 hts gX5_giveCheapest_J7_fill_53178 rfl rfl rfl (by decide +kernel) ⟨Nat.le_of_ble_eq_true rfl, Nat.le_of_ble_eq_true rfl⟩) ⟨xB.blind, fun U9 hU9 hW9 => ⟨rfl, xB.mk hPc hK hDc hU9 hW9⟩⟩ rfl rfl hl.1 rfl (lv_room (Nat.le_of_ble_eq_true rfl)) dX5_giveCheapest_5 ⟨Nat.le_of_ble_eq_true rfl, Nat.le_of_ble_eq_true rfl⟩) hS (fun q _ h => hFc q h) hFc (fun _ t H1 locs ht hvm hw_2 hB hz1 hk1 hS => ?_)
  obtain ⟨hP1, hK1, hD1⟩ := hB
  rw [ht] at hP1
  obtain ⟨hP, hD⟩ := va_join (wr := ([(sg, .inr (5, [.int (nI n), .ref co, .ref ro, .ref us, .ref sl, .ref wc, .ref nx, .ref pu])), (co, .inl (xM g, 24, .inr (.inr (.inr (.inr (fun i => if i < 24 then some (cr i) else none))))))] ++ (xRI (xI g) 24 17 cr cost ++ [(ro, .inl (xI g, 17, .inl (fun j => iI (room j)))), (sl, .inl (xI g, 24, .inl (fun j => nI (slot j)))), (wc, .inl (xI g, 18, .inl (fun j => iI (dd j)))), (nx, .inl (xI g, 18, .inl (fun j => nI (nxt j)))), (pu, .inl (xI g, 18, .inl (fun j => iI (psh j))))]))) (w1 := [(us, .inl (xI g, 17, .inl (fun j => iI ((fun (_ : Nat) => (0 : Int)) j))))]) hP hD [27] [0, 1, 2, 3, 4, 5, 6, 7, 8, 9, 10, 11, 12, 13, 14, 15, 16, 17, 18, 19, 20, 21, 22, 23, 24, 25, 26, 28, 29, 30, 31] rfl rfl (by decide) (by decide) hk1 hFc hP1 hD1
  generalize H1 = H at hP hS ⊢
  have hP : va_P (xD g) vwCl ([(sg, .inr (5, [.int (nI n), .ref co, .ref ro, .ref us, .ref sl, .ref wc, .ref nx, .ref pu])), (co, .inl (xM g, 24, .inr (.inr (.inr (.inr (fun i => if i < 24 then some (cr i) else none))))))] ++ (xRI (xI g) 24 17 cr cost ++ [(ro, .inl (xI g, 17, .inl (fun j => iI (room j)))), (sl, .inl (xI g, 24, .inl (fun j => nI (slot j)))), (wc, .inl (xI g, 18, .inl (fun j => iI (dd j)))), (nx, .inl (xI g, 18, .inl (fun j => nI (nxt j)))), (pu, .inl (xI g, 18, .inl (fun j => iI (psh j)))), (us, .inl (xI g, 17, .inl (fun j => iI ((fun (_ : Nat) => (0 : Int)) j))))])) H := hP
  have hD : va_D A ([(sg, .inr (5, [.int (nI n), .ref co, .ref ro, .ref us, .ref sl, .ref wc, .ref nx, .ref pu])), (co, .inl (xM g, 24, .inr (.inr (.inr (.inr (fun i => if i < 24 then some (cr i) else none))))))] ++ (xRI (xI g) 24 17 cr cost ++ [(ro, .inl (xI g, 17, .inl (fun j => iI (room j)))), (sl, .inl (xI g, 24, .inl (fun j => nI (slot j)))), (wc, .inl (xI g, 18, .inl (fun j => iI (dd j)))), (nx, .inl (xI g, 18, .inl (fun j => nI (nxt j)))), (pu, .inl (xI g, 18, .inl (fun j => iI (psh j)))), (us, .inl (xI g, 17, .inl (fun j => iI ((fun (_ : Nat) => (0 : Int)) j))))])) := hD
  try dsimp only at hw_2
  have hb_3 : ∀ j, 0 ≤ (fun (_ : Nat) => (0 : Int)) j ∧ (fun (_ : Nat) => (0 : Int)) j ≤ 30 := (fun j => by dsimp only; omega)
  refine lv_aload_n hx hb dX5_giveCheapest_8 rfl (lv_at hl 0 rfl) ?_
  refine va_get (D := xD g) (ci := 5) (v := .int (nI n)) (C := RX5) (T := TX5) (N := 8) hx hb hts hFX5 hown hK hP 0 rfl rfl 0 (by decide) (hts (.fieldLink RX5 41 "Stevedore$SlotGiver" "count" "I") (by decide +kernel)) (fun _ h9 => h9) rfl dX5_giveCheapest_9 ?_
  refine lv_iconst (v := 1) hx hb dX5_giveCheapest_12 (by decide) ?_
  refine lv_isub hx hb dX5_giveCheapest_13 ?_
  refine lv_topi (fun v_4 ev => ?_)
  obtain rfl : v_4 = iI (((n : Nat) : Int) - 1) := ev.trans (iS (iI_nI _) (by decide))
  refine lv_istore_n (lv' := [(1, .int (iI (((n : Nat) : Int) - 1))), (0, .ref sg)]) hx hb dX5_giveCheapest_14 rfl hl (by decide) rfl (fun ls hl => ?_)
  have hloop15 : ∀ (n9 : Nat) (j : Nat) (dk : Nat → Int) (nk : Nat → Nat) (pk : Nat → Int) (usk : Nat → Int) (slk : Nat → Nat) (H : Heap) (locs : List Loc) (ls : Array Slot), j < n9 → (j ≤ n) → (sG1 usk room slk cost j n) → (∀ j, 0 ≤ usk j ∧ usk j ≤ 30) → (∀ j, slk j ≤ 16) → (∀ j, (-3000000) ≤ dk j ∧ dk j ≤ 1000000) → (∀ j, nk j ≤ 17) → (∀ j, (-1) ≤ pk j ∧ pk j ≤ 23) → va_P (xD g) vwCl ([(sg, .inr (5, [.int (nI n), .ref co, .ref ro, .ref us, .ref sl, .ref wc, .ref nx, .ref pu])), (co, .inl (xM g, 24, .inr (.inr (.inr (.inr (fun i => if i < 24 then some (cr i) else none))))))] ++ (xRI (xI g) 24 17 cr cost ++ [(ro, .inl (xI g, 17, .inl (fun j => iI (room j)))), (us, .inl (xI g, 17, .inl (fun j => iI (usk j)))), (sl, .inl (xI g, 24, .inl (fun j => nI (slk j)))), (wc, .inl (xI g, 18, .inl (fun j => iI (dk j)))), (nx, .inl (xI g, 18, .inl (fun j => nI (nk j)))), (pu, .inl (xI g, 18, .inl (fun j => iI (pk j))))])) H → va_D A ([(sg, .inr (5, [.int (nI n), .ref co, .ref ro, .ref us, .ref sl, .ref wc, .ref nx, .ref pu])), (co, .inl (xM g, 24, .inr (.inr (.inr (.inr (fun i => if i < 24 then some (cr i) else none))))))] ++ (xRI (xI g) 24 17 cr cost ++ [(ro, .inl (xI g, 17, .inl (fun j => iI (room j)))), (us, .inl (xI g, 17, .inl (fun j => iI (usk j)))), (sl, .inl (xI g, 24, .inl (fun j => nI (slk j)))), (wc, .inl (xI g, 18, .inl (fun j => iI (dk j)))), (nx, .inl (xI g, 18, .inl (fun j => nI (nk j)))), (pu, .inl (xI g, 18, .inl (fun j => iI (pk j))))])) → va_S A s.heap H locs → lv_has ls 3 [(1, .int (iI (((j : Nat) : Int) - 1))), (0, .ref sg)] → W p l e (headSpec wsX5_giveCheapest ({ frames := 4, cells := 0, slots := 0, locals := 100 })).room s m ([.ref sg] : List Value).toArray below meth c H locs 0 0 (MQ below (va_Qi (fun (r : Int32) (u : Nat → Nat) => r = iI (sSum (fun x => cost x (u x)) n)) (fun (u : Nat → Nat) (t : State) => ∃ (d2 : Nat → Int) (n2 : Nat → Nat) (p2 : Nat → Int) (us2 : Nat → Int), (sG1 us2 room u cost 0 n) ∧ (∀ j, 0 ≤ us2 j ∧ us2 j ≤ 30) ∧ (∀ j, u j ≤ 16) ∧ (∀ j, (-3000000) ≤ d2 j ∧ d2 j ≤ 1000000) ∧ (∀ j, n2 j ≤ 17) ∧ (∀ j, (-1) ≤ p2 j ∧ p2 j ≤ 23) ∧ xE g ([(sg, .inr (5, [.int (nI n), .ref co, .ref ro, .ref us, .ref sl, .ref wc, .ref nx, .ref pu])), (co, .inl (xM g, 24, .inr (.inr (.inr (.inr (fun i => if i < 24 then some (cr i) else none))))))] ++ (xRI (xI g) 24 17 cr cost ++ [(ro, .inl (xI g, 17, .inl (fun j => iI (room j)))), (us, .inl (xI g, 17, .inl (fun j => iI (us2 j)))), (sl, .inl (xI g, 24, .inl (fun j => nI (u j)))), (wc, .inl (xI g, 18, .inl (fun j => iI (d2 j)))), (nx, .inl (xI g, 18, .inl (fun j => nI (n2 j)))), (pu, .inl (xI g, 18, .inl (fun j => iI (p2 j))))])) (A) t) (A)) ([.ref sg] : List Value).toArray s 0 0 A) (F0 m 15 ls []) := by
    intro n9
    induction n9 with
    | zero =>
      intro j dk nk pk usk slk H locs ls hm hj hg bb_usk bb_slk bb_dk bb_nk bb_pk hP hD hS hl
      exact absurd hm (Nat.not_lt_zero _)
    | succ n9 ih15 =>
      intro j dk nk pk usk slk H locs ls hm hj hg bb_usk bb_slk bb_dk bb_nk bb_pk hP hD hS hl
      refine lv_iload_n hx hb dX5_giveCheapest_15 rfl (lv_at hl 0 rfl) ?_
      refine lv_if_lt (tgt := 32) hx hb dX5_giveCheapest_16 (by decide) (fun c_5 => ?_) (fun c_5 => ?_)
      · have nc_5 := (iLt (a := ((j : Nat) : Int) - 1) (b := 0) rfl (by decide) (by omega)).mp c_5
        refine lv_iconst (v := 0) hx hb dX5_giveCheapest_32 (by decide) ?_
        refine lv_istore_n (lv' := [(1, .int 0), (0, .ref sg)]) hx hb dX5_giveCheapest_33 rfl hl (by decide) rfl (fun ls hl => ?_)
        refine lv_iconst (v := 0) hx hb dX5_giveCheapest_34 (by decide) ?_
        refine lv_istore_n (lv' := [(2, .int 0), (1, .int 0), (0, .ref sg)]) hx hb dX5_giveCheapest_35 rfl hl (by decide) rfl (fun ls hl => ?_)
        have hloop36 : ∀ (n9 : Nat) (k : Nat) (S9 : Int) (H : Heap) (locs : List Loc) (ls : Array Slot), n - k < n9 → (k ≤ n) → (S9 = sSum (fun x => cost x (slk x)) k) → va_P (xD g) vwCl ([(sg, .inr (5, [.int (nI n), .ref co, .ref ro, .ref us, .ref sl, .ref wc, .ref nx, .ref pu])), (co, .inl (xM g, 24, .inr (.inr (.inr (.inr (fun i => if i < 24 then some (cr i) else none))))))] ++ (xRI (xI g) 24 17 cr cost ++ [(ro, .inl (xI g, 17, .inl (fun j => iI (room j)))), (us, .inl (xI g, 17, .inl (fun j => iI (usk j)))), (sl, .inl (xI g, 24, .inl (fun j => nI (slk j)))), (wc, .inl (xI g, 18, .inl (fun j => iI (dk j)))), (nx, .inl (xI g, 18, .inl (fun j => nI (nk j)))), (pu, .inl (xI g, 18, .inl (fun j => iI (pk j))))])) H → va_D A ([(sg, .inr (5, [.int (nI n), .ref co, .ref ro, .ref us, .ref sl, .ref wc, .ref nx, .ref pu])), (co, .inl (xM g, 24, .inr (.inr (.inr (.inr (fun i => if i < 24 then some (cr i) else none))))))] ++ (xRI (xI g) 24 17 cr cost ++ [(ro, .inl (xI g, 17, .inl (fun j => iI (room j)))), (us, .inl (xI g, 17, .inl (fun j => iI (usk j)))), (sl, .inl (xI g, 24, .inl (fun j => nI (slk j)))), (wc, .inl (xI g, 18, .inl (fun j => iI (dk j)))), (nx, .inl (xI g, 18, .inl (fun j => nI (nk j)))), (pu, .inl (xI g, 18, .inl (fun j => iI (pk j))))])) → va_S A s.heap H locs → lv_has ls 3 [(2, .int (nI k)), (0, .ref sg), (1, .int (iI S9))] → W p l e (headSpec wsX5_giveCheapest ({ frames := 4, cells := 0, slots := 0, locals := 100 })).room s m ([.ref sg] : List Value).toArray below meth c H locs 0 0 (MQ below (va_Qi (fun (r : Int32) (u : Nat → Nat) => r = iI (sSum (fun x => cost x (u x)) n)) (fun (u : Nat → Nat) (t : State) => ∃ (d2 : Nat → Int) (n2 : Nat → Nat) (p2 : Nat → Int) (us2 : Nat → Int), (sG1 us2 room u cost 0 n) ∧ (∀ j, 0 ≤ us2 j ∧ us2 j ≤ 30) ∧ (∀ j, u j ≤ 16) ∧ (∀ j, (-3000000) ≤ d2 j ∧ d2 j ≤ 1000000) ∧ (∀ j, n2 j ≤ 17) ∧ (∀ j, (-1) ≤ p2 j ∧ p2 j ≤ 23) ∧ xE g ([(sg, .inr (5, [.int (nI n), .ref co, .ref ro, .ref us, .ref sl, .ref wc, .ref nx, .ref pu])), (co, .inl (xM g, 24, .inr (.inr (.inr (.inr (fun i => if i < 24 then some (cr i) else none))))))] ++ (xRI (xI g) 24 17 cr cost ++ [(ro, .inl (xI g, 17, .inl (fun j => iI (room j)))), (us, .inl (xI g, 17, .inl (fun j => iI (us2 j)))), (sl, .inl (xI g, 24, .inl (fun j => nI (u j)))), (wc, .inl (xI g, 18, .inl (fun j => iI (d2 j)))), (nx, .inl (xI g, 18, .inl (fun j => nI (n2 j)))), (pu, .inl (xI g, 18, .inl (fun j => iI (p2 j))))])) (A) t) (A)) ([.ref sg] : List Value).toArray s 0 0 A) (F0 m 36 ls []) := by
          intro n9
          induction n9 with
          | zero =>
            intro k S9 H locs ls hm hk hS9 hP hD hS hl
            exact absurd hm (Nat.not_lt_zero _)
          | succ n9 ih36 =>
            intro k S9 H locs ls hm hk hS9 hP hD hS hl
            refine lv_iload_n hx hb dX5_giveCheapest_36 rfl (lv_at hl 0 rfl) ?_
            refine lv_aload_n hx hb dX5_giveCheapest_37 rfl (lv_at hl 1 rfl) ?_
            refine va_get (D := xD g) (ci := 5) (v := .int (nI n)) (C := RX5) (T := TX5) (N := 8) hx hb hts hFX5 hown hK hP 0 rfl rfl 0 (by decide) (hts (.fieldLink RX5 41 "Stevedore$SlotGiver" "count" "I") (by decide +kernel)) (fun _ h9 => h9) rfl dX5_giveCheapest_38 ?_
            refine lv_icmp_ge (tgt := 66) hx hb dX5_giveCheapest_41 (by decide) (fun c_6 => ?_) (fun c_6 => ?_)
            · have nc_6 := (nI_leI (a := n) (b := k) (by omega) (by omega)).mp c_6
              refine lv_iload_n hx hb dX5_giveCheapest_66 rfl (lv_at hl 2 rfl) ?_
              have hP9 := hP
              have hD9 := hD
              exact W.iret (v := iI S9) hx hb hr (fun t ht hW => ⟨⟨iI S9, slk, rfl, (by obtain rfl : k = n := (by omega); rw [hS9]), ⟨dk, nk, pk, usk, (by obtain rfl : j = 0 := (by omega); exact hg), bb_usk, bb_slk, bb_dk, bb_nk, bb_pk, by rw [ht]; exact hP9, va_K.moved hW.alike hK, hD9⟩⟩, hS.F ht⟩) hS.2.2 dX5_giveCheapest_67
            · have nc_6 := mt (nI_leI (a := n) (b := k) (by omega) (by omega)).mpr c_6
              refine lv_iload_n hx hb dX5_giveCheapest_44 rfl (lv_at hl 2 rfl) ?_
              refine lv_aload_n hx hb dX5_giveCheapest_45 rfl (lv_at hl 1 rfl) ?_
              refine va_get (D := xD g) (ci := 5) (v := .ref co) (C := RX5) (T := TX5) (N := 8) hx hb hts hFX5 hown hK hP 0 rfl rfl 1 (by decide) (hts (.fieldLink RX5 11 "Stevedore$SlotGiver" "cost" "[[I") (by decide +kernel)) (fun _ h9 => h9) rfl dX5_giveCheapest_46 ?_
              refine lv_iload_n hx hb dX5_giveCheapest_49 rfl (lv_at hl 0 rfl) ?_
              refine xAldM hx hb hK hP 1 3 rfl rfl (vp_in_nI (by omega) (by omega)) dX5_giveCheapest_50 ?_
              refine W.eq (g2 := F0 m 51 ls (.ref (cr k) :: .int (iI S9) :: [])) (congrArg (fun q9 => F0 m 51 ls (q9 :: .int (iI S9) :: [])) (xRow (n := 24) (k := k) (nI_clamp (by omega)) (by omega))) ?_
              refine lv_aload_n hx hb dX5_giveCheapest_51 rfl (lv_at hl 1 rfl) ?_
              refine va_get (D := xD g) (ci := 5) (v := .ref sl) (C := RX5) (T := TX5) (N := 8) hx hb hts hFX5 hown hK hP 0 rfl rfl 4 (by decide) (hts (.fieldLink RX5 23 "Stevedore$SlotGiver" "slot" "[I") (by decide +kernel)) (fun _ h9 => h9) rfl dX5_giveCheapest_52 ?_
              refine lv_iload_n hx hb dX5_giveCheapest_55 rfl (lv_at hl 0 rfl) ?_
              refine va_iald hx hb hK hP 28 0 rfl rfl (vp_in_nI (by omega) (by omega)) dX5_giveCheapest_56 ?_
              refine lv_topi (fun v_7 ev => ?_)
              obtain rfl : v_7 = nI (slk k) := ev.trans (congrArg (fun q9 => nI (slk q9)) (nI_clamp (by omega)))
              have b_8 := bb_slk k
              refine va_iald hx hb hK hP _ 0 (xR_ap (X := [(sg, .inr (5, [.int (nI n), .ref co, .ref ro, .ref us, .ref sl, .ref wc, .ref nx, .ref pu])), (co, .inl (xM g, 24, .inr (.inr (.inr (.inr (fun i => if i < 24 then some (cr i) else none))))))]) (xR_get0 (i := k) (by omega))) rfl (vp_in_nI (by omega) (by omega)) dX5_giveCheapest_57 ?_
              refine lv_topi (fun v_9 ev => ?_)
              obtain rfl : v_9 = iI (cost k (slk k)) := ev.trans (congrArg (fun q9 => iI (cost k q9)) (nI_clamp (by omega)))
              have b_10 := b_cost k (slk k)
              refine lv_iadd hx hb dX5_giveCheapest_58 ?_
              refine lv_topi (fun v_11 ev => ?_)
              obtain rfl : v_11 = iI (S9 + (cost k (slk k))) := ev.trans (iA rfl rfl)
              refine lv_istore_n (lv' := [(1, .int (iI (S9 + (cost k (slk k))))), (2, .int (nI k)), (0, .ref sg)]) hx hb dX5_giveCheapest_59 rfl hl (by decide) rfl (fun ls hl => ?_)
              refine lv_iinc (v := nI (k + 1)) (lv' := [(2, .int (nI (k + 1))), (1, .int (iI (S9 + (cost k (slk k))))), (0, .ref sg)]) hx hb dX5_giveCheapest_60 hl (k := 1) rfl (nI_add k 1) (by decide) rfl (fun ls hl => ?_)
              refine lv_goto (tgt := 36) hx hb dX5_giveCheapest_63 (by decide) ?_
              exact ih36 (k + 1) (S9 + (cost k (slk k))) _ _ _ (by omega) (by omega) (by rw [hS9]; rfl) hP hD hS (lv_sub hl [0, 2, 1] rfl)
        exact hloop36 (n + 1) 0 0 _ _ _ (by omega) (by omega) rfl hP hD hS (by rw [(show nI 0 = (0 : Int32) from by decide), (show iI 0 = (0 : Int32) from by decide)]; exact lv_sub hl [0, 2, 1] rfl)
      · have nc_5 := mt (iLt (a := ((j : Nat) : Int) - 1) (b := 0) rfl (by decide) (by omega)).mpr c_5
        obtain ⟨i, rfl⟩ : ∃ i, j = i + 1 := ⟨j - 1, by omega⟩
        rw [show iI (((i + 1 : Nat) : Int) - 1) = nI i from by rw [iI_nI]; congr 1; omega] at hl
        obtain ⟨hg1, hg2, h8, hp8, hb8⟩ := hg
        have hgg : sG1 usk room slk cost (i + 1) n := ⟨hg1, hg2, h8, hp8, hb8⟩
        have hr16 : usk 16 < room 16 := by have z := sCnt_le (f := slk) (lo := i + 1) (s := 16) n; have y := hg2 16 (by omega); omega
        refine lv_aload_n hx hb dX5_giveCheapest_19 rfl (lv_at hl 1 rfl) ?_
        refine lv_iload_n hx hb dX5_giveCheapest_20 rfl (lv_at hl 0 rfl) ?_
        refine lv_bipush (v := 17) hx hb dX5_giveCheapest_21 (by decide) ?_
        have hPc := hP.sub (ws' := ([(sg, .inr (5, [.int (nI n), .ref co, .ref ro, .ref us, .ref sl, .ref wc, .ref nx, .ref pu])), (co, .inl (xM g, 24, .inr (.inr (.inr (.inr (fun i => if i < 24 then some (cr i) else none))))))] ++ (xRI (xI g) 24 17 cr cost ++ [(ro, .inl (xI g, 17, .inl (fun j => iI (room j)))), (us, .inl (xI g, 17, .inl (fun j => iI (usk j)))), (sl, .inl (xI g, 24, .inl (fun j => nI (slk j)))), (wc, .inl (xI g, 18, .inl (fun j => iI (dk j)))), (nx, .inl (xI g, 18, .inl (fun j => nI (nk j)))), (pu, .inl (xI g, 18, .inl (fun j => iI (pk j))))]))) [0, 1, 2, 3, 4, 5, 6, 7, 8, 9, 10, 11, 12, 13, 14, 15, 16, 17, 18, 19, 20, 21, 22, 23, 24, 25, 26, 27, 28, 29, 30, 31] rfl
        have hDc := hD.sub (ws' := ([(sg, .inr (5, [.int (nI n), .ref co, .ref ro, .ref us, .ref sl, .ref wc, .ref nx, .ref pu])), (co, .inl (xM g, 24, .inr (.inr (.inr (.inr (fun i => if i < 24 then some (cr i) else none))))))] ++ (xRI (xI g) 24 17 cr cost ++ [(ro, .inl (xI g, 17, .inl (fun j => iI (room j)))), (us, .inl (xI g, 17, .inl (fun j => iI (usk j)))), (sl, .inl (xI g, 24, .inl (fun j => nI (slk j)))), (wc, .inl (xI g, 18, .inl (fun j => iI (dk j)))), (nx, .inl (xI g, 18, .inl (fun j => nI (nk j)))), (pu, .inl (xI g, 18, .inl (fun j => iI (pk j))))]))) [0, 1, 2, 3, 4, 5, 6, 7, 8, 9, 10, 11, 12, 13, 14, 15, 16, 17, 18, 19, 20, 21, 22, 23, 24, 25, 26, 27, 28, 29, 30, 31] (by decide) rfl
        have hFc := va_free (wc := ([(sg, .inr (5, [.int (nI n), .ref co, .ref ro, .ref us, .ref sl, .ref wc, .ref nx, .ref pu])), (co, .inl (xM g, 24, .inr (.inr (.inr (.inr (fun i => if i < 24 then some (cr i) else none))))))] ++ (xRI (xI g) 24 17 cr cost ++ [(ro, .inl (xI g, 17, .inl (fun j => iI (room j)))), (us, .inl (xI g, 17, .inl (fun j => iI (usk j)))), (sl, .inl (xI g, 24, .inl (fun j => nI (slk j)))), (wc, .inl (xI g, 18, .inl (fun j => iI (dk j)))), (nx, .inl (xI g, 18, .inl (fun j => nI (nk j)))), (pu, .inl (xI g, 18, .inl (fun j => iI (pk j))))]))) hD hS hA [0, 1, 2, 3, 4, 5, 6, 7, 8, 9, 10, 11, 12, 13, 14, 15, 16, 17, 18, 19, 20, 21, 22, 23, 24, 25, 26, 27, 28, 29, 30, 31] rfl
        refine va_callv (va_runV (As := [.int (nI i), .int 17]) (rest := []) ⟨hx, hb, hml, hown, hts⟩ (g_bringIn l g H.size sg co ro us sl wc nx pu i 17 n (i + 1) cr h8 cost room usk slk dk nk pk hp8 hb8 (by first | assumption | omega) hg1 (by first | assumption | omega) (by first | assumption | omega) (by first | assumption | omega) (by first | assumption | omega) hg2 (by first | assumption | omega) (Or.inl rfl) b_cost b_room bb_usk bb_slk bb_dk bb_nk bb_pk) (cwV 2 hts gX5_giveCheapest_X5_bringIn rfl rfl rfl (by decide +kernel) ⟨Nat.le_of_ble_eq_true rfl, Nat.le_of_ble_eq_true rfl⟩) ⟨xB.blind, va_recv hK hPc (ci := 5) (q0 := 0) rfl rfl, fun U9 hU9 hW9 => ⟨rfl, xB.mk hPc hK hDc hU9 hW9⟩⟩ rfl rfl hl.1 rfl (lv_room (Nat.le_of_ble_eq_true rfl)) dX5_giveCheapest_23 ⟨Nat.le_of_ble_eq_true rfl, Nat.le_of_ble_eq_true rfl⟩) hS (fun q _ h => hFc q h) hFc (fun _ t H1 locs ht hvm hw_13 hB hz1 hk1 hS => ?_)
        obtain ⟨d2_14, n2_15, p2_16, us2_17, sl2_18, hc_19, hb_20, hb_21, hb_22, hb_23, hb_24, hP1, hK1, hD1⟩ := hB
        rw [ht] at hP1
        obtain ⟨hP, hD⟩ := va_join (wr := []) (w1 := ([(sg, .inr (5, [.int (nI n), .ref co, .ref ro, .ref us, .ref sl, .ref wc, .ref nx, .ref pu])), (co, .inl (xM g, 24, .inr (.inr (.inr (.inr (fun i => if i < 24 then some (cr i) else none))))))] ++ (xRI (xI g) 24 17 cr cost ++ [(ro, .inl (xI g, 17, .inl (fun j => iI (room j)))), (us, .inl (xI g, 17, .inl (fun j => iI (us2_17 j)))), (sl, .inl (xI g, 24, .inl (fun j => nI (sl2_18 j)))), (wc, .inl (xI g, 18, .inl (fun j => iI (d2_14 j)))), (nx, .inl (xI g, 18, .inl (fun j => nI (n2_15 j)))), (pu, .inl (xI g, 18, .inl (fun j => iI (p2_16 j))))]))) hP hD [0, 1, 2, 3, 4, 5, 6, 7, 8, 9, 10, 11, 12, 13, 14, 15, 16, 17, 18, 19, 20, 21, 22, 23, 24, 25, 26, 27, 28, 29, 30, 31] [] rfl rfl (by decide) (by decide) hk1 hFc hP1 hD1
        generalize H1 = H at hP hS ⊢
        have hP : va_P (xD g) vwCl ([(sg, .inr (5, [.int (nI n), .ref co, .ref ro, .ref us, .ref sl, .ref wc, .ref nx, .ref pu])), (co, .inl (xM g, 24, .inr (.inr (.inr (.inr (fun i => if i < 24 then some (cr i) else none))))))] ++ (xRI (xI g) 24 17 cr cost ++ [(ro, .inl (xI g, 17, .inl (fun j => iI (room j)))), (us, .inl (xI g, 17, .inl (fun j => iI (us2_17 j)))), (sl, .inl (xI g, 24, .inl (fun j => nI (sl2_18 j)))), (wc, .inl (xI g, 18, .inl (fun j => iI (d2_14 j)))), (nx, .inl (xI g, 18, .inl (fun j => nI (n2_15 j)))), (pu, .inl (xI g, 18, .inl (fun j => iI (p2_16 j))))])) H := hP
        have hD : va_D A ([(sg, .inr (5, [.int (nI n), .ref co, .ref ro, .ref us, .ref sl, .ref wc, .ref nx, .ref pu])), (co, .inl (xM g, 24, .inr (.inr (.inr (.inr (fun i => if i < 24 then some (cr i) else none))))))] ++ (xRI (xI g) 24 17 cr cost ++ [(ro, .inl (xI g, 17, .inl (fun j => iI (room j)))), (us, .inl (xI g, 17, .inl (fun j => iI (us2_17 j)))), (sl, .inl (xI g, 24, .inl (fun j => nI (sl2_18 j)))), (wc, .inl (xI g, 18, .inl (fun j => iI (d2_14 j)))), (nx, .inl (xI g, 18, .inl (fun j => nI (n2_15 j)))), (pu, .inl (xI g, 18, .inl (fun j => iI (p2_16 j))))])) := hD
        try dsimp only at hw_13
        refine lv_iinc (v := iI (((i : Nat) : Int) + (-1))) (lv' := [(1, .int (iI (((i : Nat) : Int) + (-1)))), (0, .ref sg)]) hx hb dX5_giveCheapest_26 hl (k := 0) rfl (iA (iI_nI _) (by decide)) (by decide) rfl (fun ls hl => ?_)
        refine lv_goto (tgt := 15) hx hb dX5_giveCheapest_29 (by decide) ?_
        exact ih15 i d2_14 n2_15 p2_16 us2_17 sl2_18 _ _ _ (by omega) (by omega) (sBr_G1 hgg hcs (by omega) (by omega) hc_19) hb_20 hb_21 hb_22 hb_23 hb_24 hP hD hS (lv_sub hl [0, 1] rfl)
  have hP := hP.sub (ws' := ([(sg, .inr (5, [.int (nI n), .ref co, .ref ro, .ref us, .ref sl, .ref wc, .ref nx, .ref pu])), (co, .inl (xM g, 24, .inr (.inr (.inr (.inr (fun i => if i < 24 then some (cr i) else none))))))] ++ (xRI (xI g) 24 17 cr cost ++ [(ro, .inl (xI g, 17, .inl (fun j => iI (room j)))), (us, .inl (xI g, 17, .inl (fun j => iI ((fun (_ : Nat) => (0 : Int)) j)))), (sl, .inl (xI g, 24, .inl (fun j => nI (slot j)))), (wc, .inl (xI g, 18, .inl (fun j => iI (dd j)))), (nx, .inl (xI g, 18, .inl (fun j => nI (nxt j)))), (pu, .inl (xI g, 18, .inl (fun j => iI (psh j))))]))) [0, 1, 2, 3, 4, 5, 6, 7, 8, 9, 10, 11, 12, 13, 14, 15, 16, 17, 18, 19, 20, 21, 22, 23, 24, 25, 26, 31, 27, 28, 29, 30] rfl
  have hD := hD.sub (ws' := ([(sg, .inr (5, [.int (nI n), .ref co, .ref ro, .ref us, .ref sl, .ref wc, .ref nx, .ref pu])), (co, .inl (xM g, 24, .inr (.inr (.inr (.inr (fun i => if i < 24 then some (cr i) else none))))))] ++ (xRI (xI g) 24 17 cr cost ++ [(ro, .inl (xI g, 17, .inl (fun j => iI (room j)))), (us, .inl (xI g, 17, .inl (fun j => iI ((fun (_ : Nat) => (0 : Int)) j)))), (sl, .inl (xI g, 24, .inl (fun j => nI (slot j)))), (wc, .inl (xI g, 18, .inl (fun j => iI (dd j)))), (nx, .inl (xI g, 18, .inl (fun j => nI (nxt j)))), (pu, .inl (xI g, 18, .inl (fun j => iI (psh j))))]))) [0, 1, 2, 3, 4, 5, 6, 7, 8, 9, 10, 11, 12, 13, 14, 15, 16, 17, 18, 19, 20, 21, 22, 23, 24, 25, 26, 31, 27, 28, 29, 30] (by decide) rfl
  exact hloop15 (n + 1) n dd nxt psh (fun (_ : Nat) => (0 : Int)) slot _ _ _ (by omega) (Nat.le_refl _) (sG1_start (fun _ => rfl)) hb_3 b_slot b_dd b_nxt b_psh hP hD hS (lv_sub hl [0, 1] rfl)
theorem dX5_giveEarliest_0 : decode cX5_giveEarliest 0 = .ok (.iconst 0, 1) := by decide +kernel
theorem dX5_giveEarliest_1 : decode cX5_giveEarliest 1 = .ok (.istore_n 1, 1) := by decide +kernel
theorem dX5_giveEarliest_2 : decode cX5_giveEarliest 2 = .ok (.iload_n 1, 1) := by decide +kernel
theorem dX5_giveEarliest_3 : decode cX5_giveEarliest 3 = .ok (.aload_n 0, 1) := by decide +kernel
theorem dX5_giveEarliest_4 : decode cX5_giveEarliest 4 = .ok (.getfield 41, 3) := by decide +kernel
theorem dX5_giveEarliest_7 : decode cX5_giveEarliest 7 = .ok (.if_icmp .ge 32, 3) := by decide +kernel
theorem dX5_giveEarliest_39 : decode cX5_giveEarliest 39 = .ok (.return_, 1) := by decide +kernel
theorem dX5_giveEarliest_10 : decode cX5_giveEarliest 10 = .ok (.aload_n 0, 1) := by decide +kernel
theorem dX5_giveEarliest_11 : decode cX5_giveEarliest 11 = .ok (.getfield 23, 3) := by decide +kernel
theorem dX5_giveEarliest_14 : decode cX5_giveEarliest 14 = .ok (.iload_n 1, 1) := by decide +kernel
theorem dX5_giveEarliest_15 : decode cX5_giveEarliest 15 = .ok (.iaload, 1) := by decide +kernel
theorem dX5_giveEarliest_16 : decode cX5_giveEarliest 16 = .ok (.istore_n 2, 1) := by decide +kernel
theorem dX5_giveEarliest_17 : decode cX5_giveEarliest 17 = .ok (.aload_n 0, 1) := by decide +kernel
theorem dX5_giveEarliest_18 : decode cX5_giveEarliest 18 = .ok (.iload_n 1, 1) := by decide +kernel
theorem dX5_giveEarliest_19 : decode cX5_giveEarliest 19 = .ok (.iload_n 2, 1) := by decide +kernel
theorem dX5_giveEarliest_20 : decode cX5_giveEarliest 20 = .ok (.invokevirtual 45, 3) := by decide +kernel
set_option maxRecDepth 20000 in
theorem ggX5_giveEarliest_X5_bringIn : GoodIn wsX5_giveEarliest wsX5_bringIn := goodIn_r _ [8, 9, 10, 11, 2, 3, 12, 13, 14, 7, 15, 16, 17, 1, 18, 19, 20, 21, 22, 23, 24, 25, 26, 27, 28, 29, 30, 31, 32, 33, 34, 35, 36, 37, 38, 39, 40, 41, 42] rfl (by decide +kernel)
set_option maxRecDepth 20000 in
theorem gX5_giveEarliest_X5_bringIn : GoodIn wsX5_giveEarliest (wsV RX5 45 RX5 yX5_bringIn wsX5_bringIn) := goodIn_app (goodIn_of _ (by decide +kernel)) ggX5_giveEarliest_X5_bringIn
theorem dX5_giveEarliest_23 : decode cX5_giveEarliest 23 = .ok (.aload_n 0, 1) := by decide +kernel
theorem dX5_giveEarliest_24 : decode cX5_giveEarliest 24 = .ok (.getfield 20, 3) := by decide +kernel
theorem dX5_giveEarliest_27 : decode cX5_giveEarliest 27 = .ok (.iload_n 2, 1) := by decide +kernel
theorem dX5_giveEarliest_28 : decode cX5_giveEarliest 28 = .ok (.dup2, 1) := by decide +kernel
theorem dX5_giveEarliest_29 : decode cX5_giveEarliest 29 = .ok (.iaload, 1) := by decide +kernel
theorem dX5_giveEarliest_30 : decode cX5_giveEarliest 30 = .ok (.iconst 1, 1) := by decide +kernel
theorem dX5_giveEarliest_31 : decode cX5_giveEarliest 31 = .ok (.isub, 1) := by decide +kernel
theorem dX5_giveEarliest_32 : decode cX5_giveEarliest 32 = .ok (.iastore, 1) := by decide +kernel
theorem dX5_giveEarliest_33 : decode cX5_giveEarliest 33 = .ok (.iinc 1 1, 3) := by decide +kernel
theorem dX5_giveEarliest_36 : decode cX5_giveEarliest 36 = .ok (.goto (-34), 3) := by decide +kernel
set_option maxHeartbeats 4000000 in
set_option maxRecDepth 100000 in
theorem g_giveEarliest (l : Launch) (g : xG) (sz : Nat) (sg : Nat) (co : Nat) (ro : Nat) (us : Nat) (sl : Nat) (wc : Nat) (nx : Nat) (pu : Nat) (n : Nat) (cr : Nat → Nat) (cost : Nat → Nat → Int) (room : Nat → Int) (used : Nat → Int) (slot : Nat → Nat) (dd : Nat → Int) (nxt : Nat → Nat) (psh : Nat → Int) (S0 : Int)  (hcs : sCs cost n) (hn : n < 24) (hroom : room 16 = 24) (hg0 : sG2 used room slot cost 0 n S0) (b_cost : ∀ i j, 0 ≤ cost i j ∧ cost i j ≤ 1000000) (b_room : ∀ j, 0 ≤ room j ∧ room j ≤ 24) (b_used : ∀ j, 0 ≤ used j ∧ used j ≤ 30) (b_slot : ∀ j, slot j ≤ 16) (b_dd : ∀ j, (-3000000) ≤ dd j ∧ dd j ≤ 1000000) (b_nxt : ∀ j, nxt j ≤ 17) (b_psh : ∀ j, (-1) ≤ psh j ∧ psh j ≤ 23) : Met l yX5_giveEarliest wsX5_giveEarliest ({ frames := 4, cells := 0, slots := 0, locals := 100 }) (va_Pc [.ref sg] (fun U => xB g ([(sg, .inr (5, [.int (nI n), .ref co, .ref ro, .ref us, .ref sl, .ref wc, .ref nx, .ref pu])), (co, .inl (xM g, 24, .inr (.inr (.inr (.inr (fun i => if i < 24 then some (cr i) else none))))))] ++ (xRI (xI g) 24 17 cr cost ++ [(ro, .inl (xI g, 17, .inl (fun j => iI (room j)))), (us, .inl (xI g, 17, .inl (fun j => iI (used j)))), (sl, .inl (xI g, 24, .inl (fun j => nI (slot j)))), (wc, .inl (xI g, 18, .inl (fun j => iI (dd j)))), (nx, .inl (xI g, 18, .inl (fun j => nI (nxt j)))), (pu, .inl (xI g, 18, .inl (fun j => iI (psh j))))])) sz U)) (va_Qv (fun (_ : Unit) => True) (fun (_ : Unit) (t : State) => ∃ (d2 : Nat → Int) (n2 : Nat → Nat) (p2 : Nat → Int) (us2 : Nat → Int) (sl2 : Nat → Nat), (sG2 us2 room sl2 cost n n S0) ∧ (∀ j, 0 ≤ us2 j ∧ us2 j ≤ 30) ∧ (∀ j, sl2 j ≤ 16) ∧ (∀ j, (-3000000) ≤ d2 j ∧ d2 j ≤ 1000000) ∧ (∀ j, n2 j ≤ 17) ∧ (∀ j, (-1) ≤ p2 j ∧ p2 j ≤ 23) ∧ xE g ([(sg, .inr (5, [.int (nI n), .ref co, .ref ro, .ref us, .ref sl, .ref wc, .ref nx, .ref pu])), (co, .inl (xM g, 24, .inr (.inr (.inr (.inr (fun i => if i < 24 then some (cr i) else none))))))] ++ (xRI (xI g) 24 17 cr cost ++ [(ro, .inl (xI g, 17, .inl (fun j => iI (room j)))), (us, .inl (xI g, 17, .inl (fun j => iI (us2 j)))), (sl, .inl (xI g, 24, .inl (fun j => nI (sl2 j)))), (wc, .inl (xI g, 18, .inl (fun j => iI (d2 j)))), (nx, .inl (xI g, 18, .inl (fun j => nI (n2 j)))), (pu, .inl (xI g, 18, .inl (fun j => iI (p2 j))))])) (va_A ([(sg, .inr (5, [.int (nI n), .ref co, .ref ro, .ref us, .ref sl, .ref wc, .ref nx, .ref pu])), (co, .inl (xM g, 24, .inr (.inr (.inr (.inr (fun i => if i < 24 then some (cr i) else none))))))] ++ (xRI (xI g) 24 17 cr cost ++ [(ro, .inl (xI g, 17, .inl (fun j => iI (room j)))), (us, .inl (xI g, 17, .inl (fun j => iI (used j)))), (sl, .inl (xI g, 24, .inl (fun j => nI (slot j)))), (wc, .inl (xI g, 18, .inl (fun j => iI (dd j)))), (nx, .inl (xI g, 18, .inl (fun j => nI (nxt j)))), (pu, .inl (xI g, 18, .inl (fun j => iI (psh j))))])) sz) t) (va_A ([(sg, .inr (5, [.int (nI n), .ref co, .ref ro, .ref us, .ref sl, .ref wc, .ref nx, .ref pu])), (co, .inl (xM g, 24, .inr (.inr (.inr (.inr (fun i => if i < 24 then some (cr i) else none))))))] ++ (xRI (xI g) 24 17 cr cost ++ [(ro, .inl (xI g, 17, .inl (fun j => iI (room j)))), (us, .inl (xI g, 17, .inl (fun j => iI (used j)))), (sl, .inl (xI g, 24, .inl (fun j => nI (slot j)))), (wc, .inl (xI g, 18, .inl (fun j => iI (dd j)))), (nx, .inl (xI g, 18, .inl (fun j => nI (nxt j)))), (pu, .inl (xI g, 18, .inl (fun j => iI (psh j))))])) sz)) 0 0 (va_A ([(sg, .inr (5, [.int (nI n), .ref co, .ref ro, .ref us, .ref sl, .ref wc, .ref nx, .ref pu])), (co, .inl (xM g, 24, .inr (.inr (.inr (.inr (fun i => if i < 24 then some (cr i) else none))))))] ++ (xRI (xI g) 24 17 cr cost ++ [(ro, .inl (xI g, 17, .inl (fun j => iI (room j)))), (us, .inl (xI g, 17, .inl (fun j => iI (used j)))), (sl, .inl (xI g, 24, .inl (fun j => nI (slot j)))), (wc, .inl (xI g, 18, .inl (fun j => iI (dd j)))), (nx, .inl (xI g, 18, .inl (fun j => nI (nxt j)))), (pu, .inl (xI g, 18, .inl (fun j => iI (psh j))))])) sz) := by
  refine Met.ofW (cc := cX5_giveEarliest) (maxL := 3) (ret := none) (by decide) rfl ?_
  intro p e s m args below meth c s₁ B hml hv
  obtain ⟨rfl, hsz, hP, hK, hD0⟩ := hv
  have hx := B.exec
  have hb := B.bytes
  have hr := B.returns
  have hts := atoms_spec (ws := wsX5_giveEarliest) B.pre
  have hown : s.vm.findClass RX5 = some m.cls := findClass_of_methodNamed B.named
  have hlocks := B.notSynchronized
  subst hsz
  have hD := hD0.self (sz := s.heap.size)
  generalize hAe : va_A ([(sg, .inr (5, [.int (nI n), .ref co, .ref ro, .ref us, .ref sl, .ref wc, .ref nx, .ref pu])), (co, .inl (xM g, 24, .inr (.inr (.inr (.inr (fun i => if i < 24 then some (cr i) else none))))))] ++ (xRI (xI g) 24 17 cr cost ++ [(ro, .inl (xI g, 17, .inl (fun j => iI (room j)))), (us, .inl (xI g, 17, .inl (fun j => iI (used j)))), (sl, .inl (xI g, 24, .inl (fun j => nI (slot j)))), (wc, .inl (xI g, 18, .inl (fun j => iI (dd j)))), (nx, .inl (xI g, 18, .inl (fun j => nI (nxt j)))), (pu, .inl (xI g, 18, .inl (fun j => iI (psh j))))])) s.heap.size = A at hD ⊢
  have hA : ∀ q : Nat, s.heap.size ≤ q → A q := fun q h => by rw [← hAe]; exact Or.inr h
  have hS : va_S A s.heap s.heap [] := va_S.rf
  have hl := lv_entry ([.ref sg]) (n := 3) (Nat.le_of_ble_eq_true rfl)
  rw [lg_entry_eq]
  generalize (lg_sl ([.ref sg]) ++ List.replicate (3 - (lg_sl ([.ref sg])).length) Slot.unset).toArray = ls at hl ⊢
  have hl : lv_has ls 3 [(0, .ref sg)] := hl
  have hFX5 : ∀ w ∈ u_ws RX5 TX5 8, w ∈ wsX5_giveEarliest := by decide +kernel
  refine lv_iconst (v := 0) hx hb dX5_giveEarliest_0 (by decide) ?_
  refine lv_istore_n (lv' := [(1, .int 0), (0, .ref sg)]) hx hb dX5_giveEarliest_1 rfl hl (by decide) rfl (fun ls hl => ?_)
  have hloop2 : ∀ (n9 : Nat) (k : Nat) (dk : Nat → Int) (nk : Nat → Nat) (pk : Nat → Int) (usk : Nat → Int) (slk : Nat → Nat) (H : Heap) (locs : List Loc) (ls : Array Slot), n - k < n9 → (k ≤ n) → (sG2 usk room slk cost k n S0) → (∀ j, 0 ≤ usk j ∧ usk j ≤ 30) → (∀ j, slk j ≤ 16) → (∀ j, (-3000000) ≤ dk j ∧ dk j ≤ 1000000) → (∀ j, nk j ≤ 17) → (∀ j, (-1) ≤ pk j ∧ pk j ≤ 23) → va_P (xD g) vwCl ([(sg, .inr (5, [.int (nI n), .ref co, .ref ro, .ref us, .ref sl, .ref wc, .ref nx, .ref pu])), (co, .inl (xM g, 24, .inr (.inr (.inr (.inr (fun i => if i < 24 then some (cr i) else none))))))] ++ (xRI (xI g) 24 17 cr cost ++ [(ro, .inl (xI g, 17, .inl (fun j => iI (room j)))), (us, .inl (xI g, 17, .inl (fun j => iI (usk j)))), (sl, .inl (xI g, 24, .inl (fun j => nI (slk j)))), (wc, .inl (xI g, 18, .inl (fun j => iI (dk j)))), (nx, .inl (xI g, 18, .inl (fun j => nI (nk j)))), (pu, .inl (xI g, 18, .inl (fun j => iI (pk j))))])) H → va_D A ([(sg, .inr (5, [.int (nI n), .ref co, .ref ro, .ref us, .ref sl, .ref wc, .ref nx, .ref pu])), (co, .inl (xM g, 24, .inr (.inr (.inr (.inr (fun i => if i < 24 then some (cr i) else none))))))] ++ (xRI (xI g) 24 17 cr cost ++ [(ro, .inl (xI g, 17, .inl (fun j => iI (room j)))), (us, .inl (xI g, 17, .inl (fun j => iI (usk j)))), (sl, .inl (xI g, 24, .inl (fun j => nI (slk j)))), (wc, .inl (xI g, 18, .inl (fun j => iI (dk j)))), (nx, .inl (xI g, 18, .inl (fun j => nI (nk j)))), (pu, .inl (xI g, 18, .inl (fun j => iI (pk j))))])) → va_S A s.heap H locs → lv_has ls 3 [(1, .int (nI k)), (0, .ref sg)] → W p l e (headSpec wsX5_giveEarliest ({ frames := 4, cells := 0, slots := 0, locals := 100 })).room s m ([.ref sg] : List Value).toArray below meth c H locs 0 0 (MQ below (va_Qv (fun (_ : Unit) => True) (fun (_ : Unit) (t : State) => ∃ (d2 : Nat → Int) (n2 : Nat → Nat) (p2 : Nat → Int) (us2 : Nat → Int) (sl2 : Nat → Nat), (sG2 us2 room sl2 cost n n S0) ∧ (∀ j, 0 ≤ us2 j ∧ us2 j ≤ 30) ∧ (∀ j, sl2 j ≤ 16) ∧ (∀ j, (-3000000) ≤ d2 j ∧ d2 j ≤ 1000000) ∧ (∀ j, n2 j ≤ 17) ∧ (∀ j, (-1) ≤ p2 j ∧ p2 j ≤ 23) ∧ xE g ([(sg, .inr (5, [.int (nI n), .ref co, .ref ro, .ref us, .ref sl, .ref wc, .ref nx, .ref pu])), (co, .inl (xM g, 24, .inr (.inr (.inr (.inr (fun i => if i < 24 then some (cr i) else none))))))] ++ (xRI (xI g) 24 17 cr cost ++ [(ro, .inl (xI g, 17, .inl (fun j => iI (room j)))), (us, .inl (xI g, 17, .inl (fun j => iI (us2 j)))), (sl, .inl (xI g, 24, .inl (fun j => nI (sl2 j)))), (wc, .inl (xI g, 18, .inl (fun j => iI (d2 j)))), (nx, .inl (xI g, 18, .inl (fun j => nI (n2 j)))), (pu, .inl (xI g, 18, .inl (fun j => iI (p2 j))))])) (A) t) (A)) ([.ref sg] : List Value).toArray s 0 0 A) (F0 m 2 ls []) := by
    intro n9
    induction n9 with
    | zero =>
      intro k dk nk pk usk slk H locs ls hm hk hg bb_usk bb_slk bb_dk bb_nk bb_pk hP hD hS hl
      exact absurd hm (Nat.not_lt_zero _)
    | succ n9 ih2 =>
      intro k dk nk pk usk slk H locs ls hm hk hg bb_usk bb_slk bb_dk bb_nk bb_pk hP hD hS hl
      refine lv_iload_n hx hb dX5_giveEarliest_2 rfl (lv_at hl 0 rfl) ?_
      refine lv_aload_n hx hb dX5_giveEarliest_3 rfl (lv_at hl 1 rfl) ?_
      refine va_get (D := xD g) (ci := 5) (v := .int (nI n)) (C := RX5) (T := TX5) (N := 8) hx hb hts hFX5 hown hK hP 0 rfl rfl 0 (by decide) (hts (.fieldLink RX5 41 "Stevedore$SlotGiver" "count" "I") (by decide +kernel)) (fun _ h9 => h9) rfl dX5_giveEarliest_4 ?_
      refine lv_icmp_ge (tgt := 39) hx hb dX5_giveEarliest_7 (by decide) (fun c_1 => ?_) (fun c_1 => ?_)
      · have nc_1 := (nI_leI (a := n) (b := k) (by omega) (by omega)).mp c_1
        have hP9 := hP
        have hD9 := hD
        exact W.vret hx hb hr (fun t ht hW => ⟨⟨(), rfl, (by first | trivial | rfl | assumption | omega), ⟨dk, nk, pk, usk, slk, (by obtain rfl : k = n := (by omega); exact hg), bb_usk, bb_slk, bb_dk, bb_nk, bb_pk, by rw [ht]; exact hP9, va_K.moved hW.alike hK, hD9⟩⟩, hS.F ht⟩) hS.2.2 dX5_giveEarliest_39
      · have nc_1 := mt (nI_leI (a := n) (b := k) (by omega) (by omega)).mpr c_1
        obtain ⟨hg1, hg2, ⟨h8, hp8, hb8⟩, hg4⟩ := hg
        have hgg : sG2 usk room slk cost k n S0 := ⟨hg1, hg2, ⟨h8, hp8, hb8⟩, hg4⟩
        have hi0 := hg1 k (by omega) (by omega)
        have hr16 : usk 16 < room 16 := by have z := sCnt_le (f := slk) (lo := 0) (s := 16) n; have y := hg2 16 (by omega); omega
        have hpos : 0 < usk (slk k) := by have z := sCnt_pos (f := slk) (lo := 0) (n := n) (c := k) (by omega) (by omega); have y := hg2 (slk k) hi0.1; omega
        refine lv_aload_n hx hb dX5_giveEarliest_10 rfl (lv_at hl 1 rfl) ?_
        refine va_get (D := xD g) (ci := 5) (v := .ref sl) (C := RX5) (T := TX5) (N := 8) hx hb hts hFX5 hown hK hP 0 rfl rfl 4 (by decide) (hts (.fieldLink RX5 23 "Stevedore$SlotGiver" "slot" "[I") (by decide +kernel)) (fun _ h9 => h9) rfl dX5_giveEarliest_11 ?_
        refine lv_iload_n hx hb dX5_giveEarliest_14 rfl (lv_at hl 0 rfl) ?_
        refine va_iald hx hb hK hP 28 0 rfl rfl (vp_in_nI (by omega) (by omega)) dX5_giveEarliest_15 ?_
        refine lv_topi (fun v_2 ev => ?_)
        obtain rfl : v_2 = nI (slk k) := ev.trans (congrArg (fun q9 => nI (slk q9)) (nI_clamp (by omega)))
        have b_3 := bb_slk k
        refine lv_istore_n (lv' := [(2, .int (nI (slk k))), (1, .int (nI k)), (0, .ref sg)]) hx hb dX5_giveEarliest_16 rfl hl (by decide) rfl (fun ls hl => ?_)
        refine lv_aload_n hx hb dX5_giveEarliest_17 rfl (lv_at hl 2 rfl) ?_
        refine lv_iload_n hx hb dX5_giveEarliest_18 rfl (lv_at hl 1 rfl) ?_
        refine lv_iload_n hx hb dX5_giveEarliest_19 rfl (lv_at hl 0 rfl) ?_
        have hPc := hP.sub (ws' := ([(sg, .inr (5, [.int (nI n), .ref co, .ref ro, .ref us, .ref sl, .ref wc, .ref nx, .ref pu])), (co, .inl (xM g, 24, .inr (.inr (.inr (.inr (fun i => if i < 24 then some (cr i) else none))))))] ++ (xRI (xI g) 24 17 cr cost ++ [(ro, .inl (xI g, 17, .inl (fun j => iI (room j)))), (us, .inl (xI g, 17, .inl (fun j => iI (usk j)))), (sl, .inl (xI g, 24, .inl (fun j => nI (slk j)))), (wc, .inl (xI g, 18, .inl (fun j => iI (dk j)))), (nx, .inl (xI g, 18, .inl (fun j => nI (nk j)))), (pu, .inl (xI g, 18, .inl (fun j => iI (pk j))))]))) [0, 1, 2, 3, 4, 5, 6, 7, 8, 9, 10, 11, 12, 13, 14, 15, 16, 17, 18, 19, 20, 21, 22, 23, 24, 25, 26, 27, 28, 29, 30, 31] rfl
        have hDc := hD.sub (ws' := ([(sg, .inr (5, [.int (nI n), .ref co, .ref ro, .ref us, .ref sl, .ref wc, .ref nx, .ref pu])), (co, .inl (xM g, 24, .inr (.inr (.inr (.inr (fun i => if i < 24 then some (cr i) else none))))))] ++ (xRI (xI g) 24 17 cr cost ++ [(ro, .inl (xI g, 17, .inl (fun j => iI (room j)))), (us, .inl (xI g, 17, .inl (fun j => iI (usk j)))), (sl, .inl (xI g, 24, .inl (fun j => nI (slk j)))), (wc, .inl (xI g, 18, .inl (fun j => iI (dk j)))), (nx, .inl (xI g, 18, .inl (fun j => nI (nk j)))), (pu, .inl (xI g, 18, .inl (fun j => iI (pk j))))]))) [0, 1, 2, 3, 4, 5, 6, 7, 8, 9, 10, 11, 12, 13, 14, 15, 16, 17, 18, 19, 20, 21, 22, 23, 24, 25, 26, 27, 28, 29, 30, 31] (by decide) rfl
        have hFc := va_free (wc := ([(sg, .inr (5, [.int (nI n), .ref co, .ref ro, .ref us, .ref sl, .ref wc, .ref nx, .ref pu])), (co, .inl (xM g, 24, .inr (.inr (.inr (.inr (fun i => if i < 24 then some (cr i) else none))))))] ++ (xRI (xI g) 24 17 cr cost ++ [(ro, .inl (xI g, 17, .inl (fun j => iI (room j)))), (us, .inl (xI g, 17, .inl (fun j => iI (usk j)))), (sl, .inl (xI g, 24, .inl (fun j => nI (slk j)))), (wc, .inl (xI g, 18, .inl (fun j => iI (dk j)))), (nx, .inl (xI g, 18, .inl (fun j => nI (nk j)))), (pu, .inl (xI g, 18, .inl (fun j => iI (pk j))))]))) hD hS hA [0, 1, 2, 3, 4, 5, 6, 7, 8, 9, 10, 11, 12, 13, 14, 15, 16, 17, 18, 19, 20, 21, 22, 23, 24, 25, 26, 27, 28, 29, 30, 31] rfl
        refine va_callv (va_runV (As := [.int (nI k), .int (nI (slk k))]) (rest := []) ⟨hx, hb, hml, hown, hts⟩ (g_bringIn l g H.size sg co ro us sl wc nx pu k (slk k) n 0 cr h8 cost room usk slk dk nk pk (sPot_sub (by omega) hp8) hb8 (by first | assumption | omega) (fun x hx hxn => hg1 x (by omega) hxn) (by first | assumption | omega) (by first | assumption | omega) (by first | assumption | omega) (by first | assumption | omega) hg2 (by first | assumption | omega) (Or.inr ⟨hi0.1, hpos⟩) b_cost b_room bb_usk bb_slk bb_dk bb_nk bb_pk) (cwV 2 hts gX5_giveEarliest_X5_bringIn rfl rfl rfl (by decide +kernel) ⟨Nat.le_of_ble_eq_true rfl, Nat.le_of_ble_eq_true rfl⟩) ⟨xB.blind, va_recv hK hPc (ci := 5) (q0 := 0) rfl rfl, fun U9 hU9 hW9 => ⟨rfl, xB.mk hPc hK hDc hU9 hW9⟩⟩ rfl rfl hl.1 rfl (lv_room (Nat.le_of_ble_eq_true rfl)) dX5_giveEarliest_20 ⟨Nat.le_of_ble_eq_true rfl, Nat.le_of_ble_eq_true rfl⟩) hS (fun q _ h => hFc q h) hFc (fun _ t H1 locs ht hvm hw_5 hB hz1 hk1 hS => ?_)
        obtain ⟨d2_6, n2_7, p2_8, us2_9, sl2_10, hc_11, hb_12, hb_13, hb_14, hb_15, hb_16, hP1, hK1, hD1⟩ := hB
        rw [ht] at hP1
        obtain ⟨hP, hD⟩ := va_join (wr := []) (w1 := ([(sg, .inr (5, [.int (nI n), .ref co, .ref ro, .ref us, .ref sl, .ref wc, .ref nx, .ref pu])), (co, .inl (xM g, 24, .inr (.inr (.inr (.inr (fun i => if i < 24 then some (cr i) else none))))))] ++ (xRI (xI g) 24 17 cr cost ++ [(ro, .inl (xI g, 17, .inl (fun j => iI (room j)))), (us, .inl (xI g, 17, .inl (fun j => iI (us2_9 j)))), (sl, .inl (xI g, 24, .inl (fun j => nI (sl2_10 j)))), (wc, .inl (xI g, 18, .inl (fun j => iI (d2_6 j)))), (nx, .inl (xI g, 18, .inl (fun j => nI (n2_7 j)))), (pu, .inl (xI g, 18, .inl (fun j => iI (p2_8 j))))]))) hP hD [0, 1, 2, 3, 4, 5, 6, 7, 8, 9, 10, 11, 12, 13, 14, 15, 16, 17, 18, 19, 20, 21, 22, 23, 24, 25, 26, 27, 28, 29, 30, 31] [] rfl rfl (by decide) (by decide) hk1 hFc hP1 hD1
        generalize H1 = H at hP hS ⊢
        have hP : va_P (xD g) vwCl ([(sg, .inr (5, [.int (nI n), .ref co, .ref ro, .ref us, .ref sl, .ref wc, .ref nx, .ref pu])), (co, .inl (xM g, 24, .inr (.inr (.inr (.inr (fun i => if i < 24 then some (cr i) else none))))))] ++ (xRI (xI g) 24 17 cr cost ++ [(ro, .inl (xI g, 17, .inl (fun j => iI (room j)))), (us, .inl (xI g, 17, .inl (fun j => iI (us2_9 j)))), (sl, .inl (xI g, 24, .inl (fun j => nI (sl2_10 j)))), (wc, .inl (xI g, 18, .inl (fun j => iI (d2_6 j)))), (nx, .inl (xI g, 18, .inl (fun j => nI (n2_7 j)))), (pu, .inl (xI g, 18, .inl (fun j => iI (p2_8 j))))])) H := hP
        have hD : va_D A ([(sg, .inr (5, [.int (nI n), .ref co, .ref ro, .ref us, .ref sl, .ref wc, .ref nx, .ref pu])), (co, .inl (xM g, 24, .inr (.inr (.inr (.inr (fun i => if i < 24 then some (cr i) else none))))))] ++ (xRI (xI g) 24 17 cr cost ++ [(ro, .inl (xI g, 17, .inl (fun j => iI (room j)))), (us, .inl (xI g, 17, .inl (fun j => iI (us2_9 j)))), (sl, .inl (xI g, 24, .inl (fun j => nI (sl2_10 j)))), (wc, .inl (xI g, 18, .inl (fun j => iI (d2_6 j)))), (nx, .inl (xI g, 18, .inl (fun j => nI (n2_7 j)))), (pu, .inl (xI g, 18, .inl (fun j => iI (p2_8 j))))])) := hD
        try dsimp only at hw_5
        obtain ⟨hg5, hg6⟩ := sBr_G2 hgg hcs (by omega) (by omega) hc_11
        refine lv_aload_n hx hb dX5_giveEarliest_23 rfl (lv_at hl 2 rfl) ?_
        refine va_get (D := xD g) (ci := 5) (v := .ref us) (C := RX5) (T := TX5) (N := 8) hx hb hts hFX5 hown hK hP 0 rfl rfl 3 (by decide) (hts (.fieldLink RX5 20 "Stevedore$SlotGiver" "used" "[I") (by decide +kernel)) (fun _ h9 => h9) rfl dX5_giveEarliest_24 ?_
        refine lv_iload_n hx hb dX5_giveEarliest_27 rfl (lv_at hl 0 rfl) ?_
        refine lv_dup2_11 hx hb dX5_giveEarliest_28 rfl rfl ?_
        refine va_iald hx hb hK hP 27 0 rfl rfl (vp_in_nI (by omega) (by omega)) dX5_giveEarliest_29 ?_
        refine lv_topi (fun v_17 ev => ?_)
        obtain rfl : v_17 = iI (us2_9 (slk k)) := ev.trans (congrArg (fun q9 => iI (us2_9 q9)) (nI_clamp (by omega)))
        have b_18 := hb_12 (slk k)
        refine lv_iconst (v := 1) hx hb dX5_giveEarliest_30 (by decide) ?_
        refine lv_isub hx hb dX5_giveEarliest_31 ?_
        refine lv_topi (fun v_19 ev => ?_)
        obtain rfl : v_19 = iI (us2_9 (slk k) - 1) := ev.trans (iS rfl (by decide))
        refine va_iast (x := iI (us2_9 (slk k) - 1)) hx hb hK hP hD hS 27 0 rfl rfl (vp_in_nI (by omega) (by omega)) dX5_giveEarliest_32 (fun H locs hP hD hS => ?_)
        rw [iU (f := us2_9) (k := slk k) (v := us2_9 (slk k) - 1) (nI_clamp (by omega)) rfl] at hP hD
        have hb_20 : ∀ j, 0 ≤ (zU us2_9 (slk k) (us2_9 (slk k) - 1)) j ∧ (zU us2_9 (slk k) (us2_9 (slk k) - 1)) j ≤ 30 := zU_all (P := fun q9 => 0 ≤ q9 ∧ q9 ≤ 30) hb_12 (by omega)
        have hP : va_P (xD g) vwCl ([(sg, .inr (5, [.int (nI n), .ref co, .ref ro, .ref us, .ref sl, .ref wc, .ref nx, .ref pu])), (co, .inl (xM g, 24, .inr (.inr (.inr (.inr (fun i => if i < 24 then some (cr i) else none))))))] ++ (xRI (xI g) 24 17 cr cost ++ [(ro, .inl (xI g, 17, .inl (fun j => iI (room j)))), (us, .inl (xI g, 17, .inl (fun j => iI ((zU us2_9 (slk k) (us2_9 (slk k) - 1)) j)))), (sl, .inl (xI g, 24, .inl (fun j => nI (sl2_10 j)))), (wc, .inl (xI g, 18, .inl (fun j => iI (d2_6 j)))), (nx, .inl (xI g, 18, .inl (fun j => nI (n2_7 j)))), (pu, .inl (xI g, 18, .inl (fun j => iI (p2_8 j))))])) H := hP
        have hD : va_D A ([(sg, .inr (5, [.int (nI n), .ref co, .ref ro, .ref us, .ref sl, .ref wc, .ref nx, .ref pu])), (co, .inl (xM g, 24, .inr (.inr (.inr (.inr (fun i => if i < 24 then some (cr i) else none))))))] ++ (xRI (xI g) 24 17 cr cost ++ [(ro, .inl (xI g, 17, .inl (fun j => iI (room j)))), (us, .inl (xI g, 17, .inl (fun j => iI ((zU us2_9 (slk k) (us2_9 (slk k) - 1)) j)))), (sl, .inl (xI g, 24, .inl (fun j => nI (sl2_10 j)))), (wc, .inl (xI g, 18, .inl (fun j => iI (d2_6 j)))), (nx, .inl (xI g, 18, .inl (fun j => nI (n2_7 j)))), (pu, .inl (xI g, 18, .inl (fun j => iI (p2_8 j))))])) := hD
        refine lv_iinc (v := nI (k + 1)) (lv' := [(1, .int (nI (k + 1))), (2, .int (nI (slk k))), (0, .ref sg)]) hx hb dX5_giveEarliest_33 hl (k := 1) rfl (nI_add k 1) (by decide) rfl (fun ls hl => ?_)
        refine lv_goto (tgt := 2) hx hb dX5_giveEarliest_36 (by decide) ?_
        exact ih2 (k + 1) d2_6 n2_7 p2_8 (zU us2_9 (slk k) (us2_9 (slk k) - 1)) sl2_10 _ _ _ (by omega) (by omega) hg5 hb_20 hb_13 hb_14 hb_15 hb_16 hP hD hS (lv_sub hl [0, 2] rfl)
  exact hloop2 (n + 1) 0 dd nxt psh used slot _ _ _ (by omega) (by omega) hg0 b_used b_slot b_dd b_nxt b_psh hP hD hS (by rw [(show nI 0 = (0 : Int32) from by decide)]; exact lv_sub hl [0, 1] rfl)
