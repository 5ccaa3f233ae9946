theorem dX5_pushAlong_0 : decode cX5_pushAlong 0 = .ok (.iload_n 1, 1) := by decide +kernel
theorem dX5_pushAlong_1 : decode cX5_pushAlong 1 = .ok (.istore_n 3, 1) := by decide +kernel
theorem dX5_pushAlong_2 : decode cX5_pushAlong 2 = .ok (.iconst 0, 1) := by decide +kernel
theorem dX5_pushAlong_3 : decode cX5_pushAlong 3 = .ok (.istore 4, 2) := by decide +kernel
theorem dX5_pushAlong_5 : decode cX5_pushAlong 5 = .ok (.iload 4, 2) := by decide +kernel
theorem dX5_pushAlong_7 : decode cX5_pushAlong 7 = .ok (.bipush 18, 2) := by decide +kernel
theorem dX5_pushAlong_9 : decode cX5_pushAlong 9 = .ok (.if_icmp .ge 68, 3) := by decide +kernel
theorem dX5_pushAlong_12 : decode cX5_pushAlong 12 = .ok (.iload_n 3, 1) := by decide +kernel
theorem dX5_pushAlong_13 : decode cX5_pushAlong 13 = .ok (.iload_n 2, 1) := by decide +kernel
theorem dX5_pushAlong_14 : decode cX5_pushAlong 14 = .ok (.if_icmp .eq 63, 3) := by decide +kernel
theorem dX5_pushAlong_77 : decode cX5_pushAlong 77 = .ok (.return_, 1) := by decide +kernel
theorem dX5_pushAlong_17 : decode cX5_pushAlong 17 = .ok (.aload_n 0, 1) := by decide +kernel
theorem dX5_pushAlong_18 : decode cX5_pushAlong 18 = .ok (.getfield 29, 3) := by decide +kernel
theorem dX5_pushAlong_21 : decode cX5_pushAlong 21 = .ok (.iload_n 3, 1) := by decide +kernel
theorem dX5_pushAlong_22 : decode cX5_pushAlong 22 = .ok (.iaload, 1) := by decide +kernel
theorem dX5_pushAlong_23 : decode cX5_pushAlong 23 = .ok (.istore 5, 2) := by decide +kernel
theorem dX5_pushAlong_25 : decode cX5_pushAlong 25 = .ok (.aload_n 0, 1) := by decide +kernel
theorem dX5_pushAlong_26 : decode cX5_pushAlong 26 = .ok (.getfield 32, 3) := by decide +kernel
theorem dX5_pushAlong_29 : decode cX5_pushAlong 29 = .ok (.iload_n 3, 1) := by decide +kernel
theorem dX5_pushAlong_30 : decode cX5_pushAlong 30 = .ok (.iaload, 1) := by decide +kernel
theorem dX5_pushAlong_31 : decode cX5_pushAlong 31 = .ok (.ifCond .lt 37, 3) := by decide +kernel
theorem dX5_pushAlong_68 : decode cX5_pushAlong 68 = .ok (.iload 5, 2) := by decide +kernel
theorem dX5_pushAlong_70 : decode cX5_pushAlong 70 = .ok (.istore_n 3, 1) := by decide +kernel
theorem dX5_pushAlong_71 : decode cX5_pushAlong 71 = .ok (.iinc 4 1, 3) := by decide +kernel
theorem dX5_pushAlong_74 : decode cX5_pushAlong 74 = .ok (.goto (-69), 3) := by decide +kernel
theorem dX5_pushAlong_34 : decode cX5_pushAlong 34 = .ok (.aload_n 0, 1) := by decide +kernel
theorem dX5_pushAlong_35 : decode cX5_pushAlong 35 = .ok (.getfield 23, 3) := by decide +kernel
theorem dX5_pushAlong_38 : decode cX5_pushAlong 38 = .ok (.aload_n 0, 1) := by decide +kernel
theorem dX5_pushAlong_39 : decode cX5_pushAlong 39 = .ok (.getfield 32, 3) := by decide +kernel
theorem dX5_pushAlong_42 : decode cX5_pushAlong 42 = .ok (.iload_n 3, 1) := by decide +kernel
theorem dX5_pushAlong_43 : decode cX5_pushAlong 43 = .ok (.iaload, 1) := by decide +kernel
theorem dX5_pushAlong_44 : decode cX5_pushAlong 44 = .ok (.iload 5, 2) := by decide +kernel
theorem dX5_pushAlong_46 : decode cX5_pushAlong 46 = .ok (.iastore, 1) := by decide +kernel
theorem dX5_pushAlong_47 : decode cX5_pushAlong 47 = .ok (.aload_n 0, 1) := by decide +kernel
theorem dX5_pushAlong_48 : decode cX5_pushAlong 48 = .ok (.getfield 20, 3) := by decide +kernel
theorem dX5_pushAlong_51 : decode cX5_pushAlong 51 = .ok (.iload_n 3, 1) := by decide +kernel
theorem dX5_pushAlong_52 : decode cX5_pushAlong 52 = .ok (.dup2, 1) := by decide +kernel
theorem dX5_pushAlong_53 : decode cX5_pushAlong 53 = .ok (.iaload, 1) := by decide +kernel
theorem dX5_pushAlong_54 : decode cX5_pushAlong 54 = .ok (.iconst 1, 1) := by decide +kernel
theorem dX5_pushAlong_55 : decode cX5_pushAlong 55 = .ok (.isub, 1) := by decide +kernel
theorem dX5_pushAlong_56 : decode cX5_pushAlong 56 = .ok (.iastore, 1) := by decide +kernel
theorem dX5_pushAlong_57 : decode cX5_pushAlong 57 = .ok (.aload_n 0, 1) := by decide +kernel
theorem dX5_pushAlong_58 : decode cX5_pushAlong 58 = .ok (.getfield 20, 3) := by decide +kernel
theorem dX5_pushAlong_61 : decode cX5_pushAlong 61 = .ok (.iload 5, 2) := by decide +kernel
theorem dX5_pushAlong_63 : decode cX5_pushAlong 63 = .ok (.dup2, 1) := by decide +kernel
theorem dX5_pushAlong_64 : decode cX5_pushAlong 64 = .ok (.iaload, 1) := by decide +kernel
theorem dX5_pushAlong_65 : decode cX5_pushAlong 65 = .ok (.iconst 1, 1) := by decide +kernel
theorem dX5_pushAlong_66 : decode cX5_pushAlong 66 = .ok (.iadd, 1) := by decide +kernel
theorem dX5_pushAlong_67 : decode cX5_pushAlong 67 = .ok (.iastore, 1) := by decide +kernel
set_option maxHeartbeats 4000000 in
set_option maxRecDepth 100000 in
theorem g_pushAlong (l : Launch) (g : xG) (sz : Nat) (sg : Nat) (us : Nat) (sl : Nat) (nx : Nat) (pu : Nat) (frm : Nat) (gl : Nat) (n : Nat) (fp : Nat) (lo : Nat) (room : Nat → Int) (cost : Nat → Nat → Int) (tt : Nat → Nat) (dd : Nat → Int) (g0 : Value) (g1 : Value) (g2 : Value) (g5 : Value) (used : Nat → Int) (slot : Nat → Nat) (nxt : Nat → Nat) (psh : Nat → Int)  (hW : sWays (sE used room slot cost fp n) gl dd nxt psh tt) (hin : sIn slot cost fp n) (hlo : lo ≤ fp) (hn : n ≤ 24) (hfr : frm ≤ 16) (hdf : dd frm < 1000000) (hu : ∀ s, s ≤ 16 → used s = sCnt slot lo n s) (hgl : gl ≤ 17) (b_used : ∀ j, 0 ≤ used j ∧ used j ≤ 30) (b_slot : ∀ j, slot j ≤ 16) (b_nxt : ∀ j, nxt j ≤ 17) (b_psh : ∀ j, (-1) ≤ psh j ∧ psh j ≤ 23) : Met l yX5_pushAlong wsX5_pushAlong ({ frames := 0, cells := 0, slots := 0, locals := 0 }) (va_Pc [.ref sg, .int (nI frm), .int (nI gl)] (fun U => xB g [(sg, .inr (5, [g0, g1, g2, .ref us, .ref sl, g5, .ref nx, .ref pu])), (us, .inl (xI g, 17, .inl (fun j => iI (used j)))), (sl, .inl (xI g, 24, .inl (fun j => nI (slot j)))), (nx, .inl (xI g, 18, .inl (fun j => nI (nxt j)))), (pu, .inl (xI g, 18, .inl (fun j => iI (psh j))))] sz U)) (va_Qv (fun (_ : Unit) => True) (fun (_ : Unit) (t : State) => ∃ (us1 : Nat → Int) (sl1 : Nat → Nat), (sAl used slot cost fp lo n dd tt frm gl us1 sl1) ∧ (∀ j, 0 ≤ us1 j ∧ us1 j ≤ 30) ∧ (∀ j, sl1 j ≤ 16) ∧ xE g [(sg, .inr (5, [g0, g1, g2, .ref us, .ref sl, g5, .ref nx, .ref pu])), (us, .inl (xI g, 17, .inl (fun j => iI (us1 j)))), (sl, .inl (xI g, 24, .inl (fun j => nI (sl1 j)))), (nx, .inl (xI g, 18, .inl (fun j => nI (nxt j)))), (pu, .inl (xI g, 18, .inl (fun j => iI (psh j))))] (va_A [(sg, .inr (5, [g0, g1, g2, .ref us, .ref sl, g5, .ref nx, .ref pu])), (us, .inl (xI g, 17, .inl (fun j => iI (used j)))), (sl, .inl (xI g, 24, .inl (fun j => nI (slot j)))), (nx, .inl (xI g, 18, .inl (fun j => nI (nxt j)))), (pu, .inl (xI g, 18, .inl (fun j => iI (psh j))))] sz) t) (va_A [(sg, .inr (5, [g0, g1, g2, .ref us, .ref sl, g5, .ref nx, .ref pu])), (us, .inl (xI g, 17, .inl (fun j => iI (used j)))), (sl, .inl (xI g, 24, .inl (fun j => nI (slot j)))), (nx, .inl (xI g, 18, .inl (fun j => nI (nxt j)))), (pu, .inl (xI g, 18, .inl (fun j => iI (psh j))))] sz)) 0 0 (va_A [(sg, .inr (5, [g0, g1, g2, .ref us, .ref sl, g5, .ref nx, .ref pu])), (us, .inl (xI g, 17, .inl (fun j => iI (used j)))), (sl, .inl (xI g, 24, .inl (fun j => nI (slot j)))), (nx, .inl (xI g, 18, .inl (fun j => nI (nxt j)))), (pu, .inl (xI g, 18, .inl (fun j => iI (psh j))))] sz) := by
  refine Met.ofW (cc := cX5_pushAlong) (maxL := 6) (ret := none) (by decide) rfl ?_
  intro p e s m args below meth c s₁ B hml hv
  obtain ⟨rfl, hsz, hP, hK, hD0⟩ := hv
  have hx := B.exec
  have hb := B.bytes
  have hr := B.returns
  have hts := atoms_spec (ws := wsX5_pushAlong) B.pre
  have hown : s.vm.findClass RX5 = some m.cls := findClass_of_methodNamed B.named
  have hlocks := B.notSynchronized
  subst hsz
  have hD := hD0.self (sz := s.heap.size)
  generalize hAe : va_A [(sg, .inr (5, [g0, g1, g2, .ref us, .ref sl, g5, .ref nx, .ref pu])), (us, .inl (xI g, 17, .inl (fun j => iI (used j)))), (sl, .inl (xI g, 24, .inl (fun j => nI (slot j)))), (nx, .inl (xI g, 18, .inl (fun j => nI (nxt j)))), (pu, .inl (xI g, 18, .inl (fun j => iI (psh j))))] s.heap.size = A at hD ⊢
  have hA : ∀ q : Nat, s.heap.size ≤ q → A q := fun q h => by rw [← hAe]; exact Or.inr h
  have hS : va_S A s.heap s.heap [] := va_S.rf
  have hl := lv_entry ([.ref sg, .int (nI frm), .int (nI gl)]) (n := 6) (Nat.le_of_ble_eq_true rfl)
  rw [lg_entry_eq]
  generalize (lg_sl ([.ref sg, .int (nI frm), .int (nI gl)]) ++ List.replicate (6 - (lg_sl ([.ref sg, .int (nI frm), .int (nI gl)])).length) Slot.unset).toArray = ls at hl ⊢
  have hl : lv_has ls 6 [(0, .ref sg), (1, .int (nI frm)), (2, .int (nI gl))] := hl
  have hFX5 : ∀ w ∈ u_ws RX5 TX5 8, w ∈ wsX5_pushAlong := by decide +kernel
  refine lv_iload_n hx hb dX5_pushAlong_0 rfl (lv_at hl 1 rfl) ?_
  refine lv_istore_n (lv' := [(3, .int (nI frm)), (0, .ref sg), (1, .int (nI frm)), (2, .int (nI gl))]) hx hb dX5_pushAlong_1 rfl hl (by decide) rfl (fun ls hl => ?_)
  refine lv_iconst (v := 0) hx hb dX5_pushAlong_2 (by decide) ?_
  refine lv_istore (lv' := [(4, .int 0), (3, .int (nI frm)), (0, .ref sg), (1, .int (nI frm)), (2, .int (nI gl))]) hx hb dX5_pushAlong_3 hl (by decide) rfl (fun ls hl => ?_)
  have hloop5 : ∀ (n9 : Nat) (i : Nat) (nd : Nat) (usk : Nat → Int) (slk : Nat → Nat) (H : Heap) (locs : List Loc) (ls : Array Slot), 18 - i < n9 → (i ≤ 18) → (sAl used slot cost fp lo n dd tt frm nd usk slk) → (∃ f : Nat → Nat, (∀ j, j ≤ i → f j ≤ 17) ∧ (∀ j, j < i → tt (f (j + 1)) < tt (f j)) ∧ f i = nd) → (∀ j, 0 ≤ usk j ∧ usk j ≤ 30) → (∀ j, slk j ≤ 16) → va_P (xD g) vwCl [(sg, .inr (5, [g0, g1, g2, .ref us, .ref sl, g5, .ref nx, .ref pu])), (us, .inl (xI g, 17, .inl (fun j => iI (usk j)))), (sl, .inl (xI g, 24, .inl (fun j => nI (slk j)))), (nx, .inl (xI g, 18, .inl (fun j => nI (nxt j)))), (pu, .inl (xI g, 18, .inl (fun j => iI (psh j))))] H → va_D A [(sg, .inr (5, [g0, g1, g2, .ref us, .ref sl, g5, .ref nx, .ref pu])), (us, .inl (xI g, 17, .inl (fun j => iI (usk j)))), (sl, .inl (xI g, 24, .inl (fun j => nI (slk j)))), (nx, .inl (xI g, 18, .inl (fun j => nI (nxt j)))), (pu, .inl (xI g, 18, .inl (fun j => iI (psh j))))] → va_S A s.heap H locs → lv_has ls 6 [(4, .int (nI i)), (0, .ref sg), (2, .int (nI gl)), (3, .int (nI nd))] → W p l e (headSpec wsX5_pushAlong ({ frames := 0, cells := 0, slots := 0, locals := 0 })).room s m ([.ref sg, .int (nI frm), .int (nI gl)] : List Value).toArray below meth c H locs 0 0 (MQ below (va_Qv (fun (_ : Unit) => True) (fun (_ : Unit) (t : State) => ∃ (us1 : Nat → Int) (sl1 : Nat → Nat), (sAl used slot cost fp lo n dd tt frm gl us1 sl1) ∧ (∀ j, 0 ≤ us1 j ∧ us1 j ≤ 30) ∧ (∀ j, sl1 j ≤ 16) ∧ xE g [(sg, .inr (5, [g0, g1, g2, .ref us, .ref sl, g5, .ref nx, .ref pu])), (us, .inl (xI g, 17, .inl (fun j => iI (us1 j)))), (sl, .inl (xI g, 24, .inl (fun j => nI (sl1 j)))), (nx, .inl (xI g, 18, .inl (fun j => nI (nxt j)))), (pu, .inl (xI g, 18, .inl (fun j => iI (psh j))))] (A) t) (A)) ([.ref sg, .int (nI frm), .int (nI gl)] : List Value).toArray s 0 0 A) (F0 m 5 ls []) := by
    intro n9
    induction n9 with
    | zero =>
      intro i nd usk slk H locs ls hm hi hal hseq bb_usk bb_slk hP hD hS hl
      exact absurd hm (Nat.not_lt_zero _)
    | succ n9 ih5 =>
      intro i nd usk slk H locs ls hm hi hal hseq bb_usk bb_slk hP hD hS hl
      have hnd : nd ≤ 17 := hal.1
      have hz1 := bb_slk
      have hz2 := b_psh nd
      have hz3 := b_nxt nd
      refine lv_iload hx hb dX5_pushAlong_5 (lv_at hl 0 rfl) ?_
      refine lv_bipush (v := 18) hx hb dX5_pushAlong_7 (by decide) ?_
      refine lv_icmp_ge (tgt := 77) hx hb dX5_pushAlong_9 (by decide) (fun c_1 => ?_) (fun c_1 => ?_)
      · have nc_1 := (nI_leI (a := 18) (b := i) (by omega) (by omega)).mp c_1
        (obtain ⟨f, f1, f2, f3⟩ := hseq; exact (sNo18 ⟨f, fun j hj => f1 j (by omega), fun j hj => f2 j (by omega)⟩).elim)
      · have nc_1 := mt (nI_leI (a := 18) (b := i) (by omega) (by omega)).mpr c_1
        refine lv_iload_n hx hb dX5_pushAlong_12 rfl (lv_at hl 3 rfl) ?_
        refine lv_iload_n hx hb dX5_pushAlong_13 rfl (lv_at hl 2 rfl) ?_
        refine lv_icmp_eq (tgt := 77) hx hb dX5_pushAlong_14 (by decide) (fun c_2 => ?_) (fun c_2 => ?_)
        · have nc_2 := (nI_eq (a := nd) (b := gl) (by omega) (by omega)).mp c_2
          have hP9 := hP
          have hD9 := hD
          exact W.vret hx hb hr (fun t ht hW => ⟨⟨(), rfl, (by first | trivial | rfl | assumption | omega), ⟨usk, slk, (by obtain rfl : nd = gl := (by omega); exact hal), bb_usk, bb_slk, by rw [ht]; exact hP9, va_K.moved hW.alike hK, hD9⟩⟩, hS.F ht⟩) hS.2.2 dX5_pushAlong_77
        · have nc_2 := mt (nI_eq (a := nd) (b := gl) (by omega) (by omega)).mpr c_2
          have hne : nd ≠ gl := by omega
          refine lv_aload_n hx hb dX5_pushAlong_17 rfl (lv_at hl 1 rfl) ?_
          refine va_get (D := xD g) (ci := 5) (v := .ref nx) (C := RX5) (T := TX5) (N := 8) hx hb hts hFX5 hown hK hP 0 rfl rfl 6 (by decide) (hts (.fieldLink RX5 29 "Stevedore$SlotGiver" "next" "[I") (by decide +kernel)) (fun _ h9 => h9) rfl dX5_pushAlong_18 ?_
          refine lv_iload_n hx hb dX5_pushAlong_21 rfl (lv_at hl 3 rfl) ?_
          refine va_iald hx hb hK hP 3 0 rfl rfl (vp_in_nI (by omega) (by omega)) dX5_pushAlong_22 ?_
          refine lv_topi (fun v_3 ev => ?_)
          obtain rfl : v_3 = nI (nxt nd) := ev.trans (congrArg (fun q9 => nI (nxt q9)) (nI_clamp (by omega)))
          have b_4 := b_nxt nd
          refine lv_istore (lv' := [(5, .int (nI (nxt nd))), (4, .int (nI i)), (0, .ref sg), (2, .int (nI gl)), (3, .int (nI nd))]) hx hb dX5_pushAlong_23 hl (by decide) rfl (fun ls hl => ?_)
          refine lv_aload_n hx hb dX5_pushAlong_25 rfl (lv_at hl 2 rfl) ?_
          refine va_get (D := xD g) (ci := 5) (v := .ref pu) (C := RX5) (T := TX5) (N := 8) hx hb hts hFX5 hown hK hP 0 rfl rfl 7 (by decide) (hts (.fieldLink RX5 32 "Stevedore$SlotGiver" "pushed" "[I") (by decide +kernel)) (fun _ h9 => h9) rfl dX5_pushAlong_26 ?_
          refine lv_iload_n hx hb dX5_pushAlong_29 rfl (lv_at hl 4 rfl) ?_
          refine va_iald hx hb hK hP 4 0 rfl rfl (vp_in_nI (by omega) (by omega)) dX5_pushAlong_30 ?_
          refine lv_topi (fun v_5 ev => ?_)
          obtain rfl : v_5 = iI (psh nd) := ev.trans (congrArg (fun q9 => iI (psh q9)) (nI_clamp (by omega)))
          have b_6 := b_psh nd
          refine lv_if_lt (tgt := 68) hx hb dX5_pushAlong_31 (by decide) (fun c_7 => ?_) (fun c_7 => ?_)
          · have nc_7 := (iLt (a := psh nd) (b := 0) rfl (by decide) (by omega)).mp c_7
            refine lv_iload hx hb dX5_pushAlong_68 (lv_at hl 0 rfl) ?_
            refine lv_istore_n (lv' := [(3, .int (nI (nxt nd))), (5, .int (nI (nxt nd))), (4, .int (nI i)), (0, .ref sg), (2, .int (nI gl))]) hx hb dX5_pushAlong_70 rfl hl (by decide) rfl (fun ls hl => ?_)
            refine lv_iinc (v := nI (i + 1)) (lv' := [(4, .int (nI (i + 1))), (3, .int (nI (nxt nd))), (5, .int (nI (nxt nd))), (0, .ref sg), (2, .int (nI gl))]) hx hb dX5_pushAlong_71 hl (k := 2) rfl (nI_add i 1) (by decide) rfl (fun ls hl => ?_)
            refine lv_goto (tgt := 5) hx hb dX5_pushAlong_74 (by decide) ?_
            exact ih5 (i + 1) (nxt nd) usk slk _ _ _ (by omega) (by omega) (sAl_pass hW hne hal (by omega)).1 (by obtain ⟨f, f1, f2, f3⟩ := hseq; exact sSeq_more f1 f2 f3 (b_nxt nd) (sAl_pass hW hne hal (by omega)).2) bb_usk bb_slk hP hD hS (lv_sub hl [0, 3, 4, 1] rfl)
          · have nc_7 := mt (iLt (a := psh nd) (b := 0) rfl (by decide) (by omega)).mpr c_7
            obtain ⟨p1, p2, p3, p4, p5, p6, hal2⟩ := sAl_push2 hW hin hlo hne hal (by omega)
            have p7 : zU usk nd (usk nd - 1) (nxt nd) = usk (nxt nd) := zU_ne p3
            refine lv_aload_n hx hb dX5_pushAlong_34 rfl (lv_at hl 2 rfl) ?_
            refine va_get (D := xD g) (ci := 5) (v := .ref sl) (C := RX5) (T := TX5) (N := 8) hx hb hts hFX5 hown hK hP 0 rfl rfl 4 (by decide) (hts (.fieldLink RX5 23 "Stevedore$SlotGiver" "slot" "[I") (by decide +kernel)) (fun _ h9 => h9) rfl dX5_pushAlong_35 ?_
            refine lv_aload_n hx hb dX5_pushAlong_38 rfl (lv_at hl 2 rfl) ?_
            refine va_get (D := xD g) (ci := 5) (v := .ref pu) (C := RX5) (T := TX5) (N := 8) hx hb hts hFX5 hown hK hP 0 rfl rfl 7 (by decide) (hts (.fieldLink RX5 32 "Stevedore$SlotGiver" "pushed" "[I") (by decide +kernel)) (fun _ h9 => h9) rfl dX5_pushAlong_39 ?_
            refine lv_iload_n hx hb dX5_pushAlong_42 rfl (lv_at hl 4 rfl) ?_
            refine va_iald hx hb hK hP 4 0 rfl rfl (vp_in_nI (by omega) (by omega)) dX5_pushAlong_43 ?_
            refine lv_topi (fun v_8 ev => ?_)
            obtain rfl : v_8 = iI (psh nd) := ev.trans (congrArg (fun q9 => iI (psh q9)) (nI_clamp (by omega)))
            have b_9 := b_psh nd
            refine lv_iload hx hb dX5_pushAlong_44 (lv_at hl 0 rfl) ?_
            refine va_iast (x := nI (nxt nd)) hx hb hK hP hD hS 2 0 rfl rfl (iI_in (by omega) (by omega) (by omega)) dX5_pushAlong_46 (fun H locs hP hD hS => ?_)
            rw [nU (f := slk) (k := (psh nd).toNat) (v := nxt nd) (iI_clamp (by omega) (by omega)) rfl] at hP hD
            have hb_10 : ∀ j, (nV slk ((psh nd).toNat) (nxt nd)) j ≤ 16 := nV_all (P := fun q9 => q9 ≤ 16) bb_slk (by omega)
            have hP : va_P (xD g) vwCl [(sg, .inr (5, [g0, g1, g2, .ref us, .ref sl, g5, .ref nx, .ref pu])), (us, .inl (xI g, 17, .inl (fun j => iI (usk j)))), (sl, .inl (xI g, 24, .inl (fun j => nI ((nV slk ((psh nd).toNat) (nxt nd)) j)))), (nx, .inl (xI g, 18, .inl (fun j => nI (nxt j)))), (pu, .inl (xI g, 18, .inl (fun j => iI (psh j))))] H := hP
            have hD : va_D A [(sg, .inr (5, [g0, g1, g2, .ref us, .ref sl, g5, .ref nx, .ref pu])), (us, .inl (xI g, 17, .inl (fun j => iI (usk j)))), (sl, .inl (xI g, 24, .inl (fun j => nI ((nV slk ((psh nd).toNat) (nxt nd)) j)))), (nx, .inl (xI g, 18, .inl (fun j => nI (nxt j)))), (pu, .inl (xI g, 18, .inl (fun j => iI (psh j))))] := hD
            refine lv_aload_n hx hb dX5_pushAlong_47 rfl (lv_at hl 2 rfl) ?_
            refine va_get (D := xD g) (ci := 5) (v := .ref us) (C := RX5) (T := TX5) (N := 8) hx hb hts hFX5 hown hK hP 0 rfl rfl 3 (by decide) (hts (.fieldLink RX5 20 "Stevedore$SlotGiver" "used" "[I") (by decide +kernel)) (fun _ h9 => h9) rfl dX5_pushAlong_48 ?_
            refine lv_iload_n hx hb dX5_pushAlong_51 rfl (lv_at hl 4 rfl) ?_
            refine lv_dup2_11 hx hb dX5_pushAlong_52 rfl rfl ?_
            refine va_iald hx hb hK hP 1 0 rfl rfl (vp_in_nI (by omega) (by omega)) dX5_pushAlong_53 ?_
            refine lv_topi (fun v_11 ev => ?_)
            obtain rfl : v_11 = iI (usk nd) := ev.trans (congrArg (fun q9 => iI (usk q9)) (nI_clamp (by omega)))
            have b_12 := bb_usk nd
            refine lv_iconst (v := 1) hx hb dX5_pushAlong_54 (by decide) ?_
            refine lv_isub hx hb dX5_pushAlong_55 ?_
            refine lv_topi (fun v_13 ev => ?_)
            obtain rfl : v_13 = iI (usk nd - 1) := ev.trans (iS rfl (by decide))
            refine va_iast (x := iI (usk nd - 1)) hx hb hK hP hD hS 1 0 rfl rfl (vp_in_nI (by omega) (by omega)) dX5_pushAlong_56 (fun H locs hP hD hS => ?_)
            rw [iU (f := usk) (k := nd) (v := usk nd - 1) (nI_clamp (by omega)) rfl] at hP hD
            have hb_14 : ∀ j, 0 ≤ (zU usk nd (usk nd - 1)) j ∧ (zU usk nd (usk nd - 1)) j ≤ 30 := zU_all (P := fun q9 => 0 ≤ q9 ∧ q9 ≤ 30) bb_usk (by omega)
            have hP : va_P (xD g) vwCl [(sg, .inr (5, [g0, g1, g2, .ref us, .ref sl, g5, .ref nx, .ref pu])), (us, .inl (xI g, 17, .inl (fun j => iI ((zU usk nd (usk nd - 1)) j)))), (sl, .inl (xI g, 24, .inl (fun j => nI ((nV slk ((psh nd).toNat) (nxt nd)) j)))), (nx, .inl (xI g, 18, .inl (fun j => nI (nxt j)))), (pu, .inl (xI g, 18, .inl (fun j => iI (psh j))))] H := hP
            have hD : va_D A [(sg, .inr (5, [g0, g1, g2, .ref us, .ref sl, g5, .ref nx, .ref pu])), (us, .inl (xI g, 17, .inl (fun j => iI ((zU usk nd (usk nd - 1)) j)))), (sl, .inl (xI g, 24, .inl (fun j => nI ((nV slk ((psh nd).toNat) (nxt nd)) j)))), (nx, .inl (xI g, 18, .inl (fun j => nI (nxt j)))), (pu, .inl (xI g, 18, .inl (fun j => iI (psh j))))] := hD
            refine lv_aload_n hx hb dX5_pushAlong_57 rfl (lv_at hl 2 rfl) ?_
            refine va_get (D := xD g) (ci := 5) (v := .ref us) (C := RX5) (T := TX5) (N := 8) hx hb hts hFX5 hown hK hP 0 rfl rfl 3 (by decide) (hts (.fieldLink RX5 20 "Stevedore$SlotGiver" "used" "[I") (by decide +kernel)) (fun _ h9 => h9) rfl dX5_pushAlong_58 ?_
            refine lv_iload hx hb dX5_pushAlong_61 (lv_at hl 0 rfl) ?_
            refine lv_dup2_11 hx hb dX5_pushAlong_63 rfl rfl ?_
            refine va_iald hx hb hK hP 1 0 rfl rfl (vp_in_nI (by omega) (by omega)) dX5_pushAlong_64 ?_
            refine lv_topi (fun v_15 ev => ?_)
            obtain rfl : v_15 = iI ((zU usk nd (usk nd - 1)) (nxt nd)) := ev.trans (congrArg (fun q9 => iI ((zU usk nd (usk nd - 1)) q9)) (nI_clamp (by omega)))
            have b_16 := hb_14 (nxt nd)
            refine lv_iconst (v := 1) hx hb dX5_pushAlong_65 (by decide) ?_
            refine lv_iadd hx hb dX5_pushAlong_66 ?_
            refine lv_topi (fun v_17 ev => ?_)
            obtain rfl : v_17 = iI ((zU usk nd (usk nd - 1)) (nxt nd) + 1) := ev.trans (iA rfl (by decide))
            refine va_iast (x := iI ((zU usk nd (usk nd - 1)) (nxt nd) + 1)) hx hb hK hP hD hS 1 0 rfl rfl (vp_in_nI (by omega) (by omega)) dX5_pushAlong_67 (fun H locs hP hD hS => ?_)
            rw [iU (f := zU usk nd (usk nd - 1)) (k := nxt nd) (v := (zU usk nd (usk nd - 1)) (nxt nd) + 1) (nI_clamp (by omega)) rfl] at hP hD
            have hb_18 : ∀ j, 0 ≤ (zU (zU usk nd (usk nd - 1)) (nxt nd) ((zU usk nd (usk nd - 1)) (nxt nd) + 1)) j ∧ (zU (zU usk nd (usk nd - 1)) (nxt nd) ((zU usk nd (usk nd - 1)) (nxt nd) + 1)) j ≤ 30 := zU_all (P := fun q9 => 0 ≤ q9 ∧ q9 ≤ 30) hb_14 (by omega)
            have hP : va_P (xD g) vwCl [(sg, .inr (5, [g0, g1, g2, .ref us, .ref sl, g5, .ref nx, .ref pu])), (us, .inl (xI g, 17, .inl (fun j => iI ((zU (zU usk nd (usk nd - 1)) (nxt nd) ((zU usk nd (usk nd - 1)) (nxt nd) + 1)) j)))), (sl, .inl (xI g, 24, .inl (fun j => nI ((nV slk ((psh nd).toNat) (nxt nd)) j)))), (nx, .inl (xI g, 18, .inl (fun j => nI (nxt j)))), (pu, .inl (xI g, 18, .inl (fun j => iI (psh j))))] H := hP
            have hD : va_D A [(sg, .inr (5, [g0, g1, g2, .ref us, .ref sl, g5, .ref nx, .ref pu])), (us, .inl (xI g, 17, .inl (fun j => iI ((zU (zU usk nd (usk nd - 1)) (nxt nd) ((zU usk nd (usk nd - 1)) (nxt nd) + 1)) j)))), (sl, .inl (xI g, 24, .inl (fun j => nI ((nV slk ((psh nd).toNat) (nxt nd)) j)))), (nx, .inl (xI g, 18, .inl (fun j => nI (nxt j)))), (pu, .inl (xI g, 18, .inl (fun j => iI (psh j))))] := hD
            refine lv_iload hx hb dX5_pushAlong_68 (lv_at hl 0 rfl) ?_
            refine lv_istore_n (lv' := [(3, .int (nI (nxt nd))), (5, .int (nI (nxt nd))), (4, .int (nI i)), (0, .ref sg), (2, .int (nI gl))]) hx hb dX5_pushAlong_70 rfl hl (by decide) rfl (fun ls hl => ?_)
            refine lv_iinc (v := nI (i + 1)) (lv' := [(4, .int (nI (i + 1))), (3, .int (nI (nxt nd))), (5, .int (nI (nxt nd))), (0, .ref sg), (2, .int (nI gl))]) hx hb dX5_pushAlong_71 hl (k := 2) rfl (nI_add i 1) (by decide) rfl (fun ls hl => ?_)
            refine lv_goto (tgt := 5) hx hb dX5_pushAlong_74 (by decide) ?_
            exact ih5 (i + 1) (nxt nd) (zU (zU usk nd (usk nd - 1)) (nxt nd) ((zU usk nd (usk nd - 1)) (nxt nd) + 1)) (nV slk ((psh nd).toNat) (nxt nd)) _ _ _ (by omega) (by omega) hal2 (by obtain ⟨f, f1, f2, f3⟩ := hseq; exact sSeq_more f1 f2 f3 (b_nxt nd) p4) hb_18 hb_10 hP hD hS (lv_sub hl [0, 3, 4, 1] rfl)
  exact hloop5 (19) 0 frm used slot _ _ _ (by omega) (by omega) (sAl_start (goal := gl) (nx := nxt) (pu := psh) hfr hdf hu) ⟨fun _ => frm, fun j hj => (by dsimp only; omega), fun j hj => absurd hj (Nat.not_lt_zero _), rfl⟩ b_used b_slot hP hD hS (by rw [(show nI 0 = (0 : Int32) from by decide)]; exact lv_sub hl [0, 2, 4, 1] rfl)
