theorem dL_law_76 : decode cL_law 76 = .ok (.aload_n 1, 1) := by decide +kernel
theorem dL_law_77 : decode cL_law 77 = .ok (.invokevirtual 95, 3) := by decide +kernel
set_option maxRecDepth 20000 in
theorem ggL_law_X8_giveSlots : GoodIn wsL_law wsX8_giveSlots := goodIn_ca (goodIn_r _ [444, 36, 445, 37, 19, 256, 446, 335, 336, 337, 160, 45, 383, 384, 385, 2, 386, 176, 177, 32, 155, 447, 448, 449, 450, 451, 20, 452, 259, 453, 261, 454, 455, 200, 456, 457, 458, 459, 460, 461, 257, 13, 462, 258, 416, 463, 464, 465, 18, 466, 467, 58, 59, 468, 469, 470, 471, 61, 472, 473, 474, 35, 475, 106, 476, 104, 107, 477, 65, 66, 67, 478, 479, 480, 481, 482, 108, 483, 484, 485, 486, 109, 110, 487, 488, 489, 490, 105, 491, 492, 493, 494, 495, 496, 497, 498, 499, 500, 501, 502, 503, 504, 505, 506, 507, 508, 509, 510, 41, 161, 511, 260, 512, 513, 514, 515, 516, 517, 518, 519, 40, 520, 521, 115, 522, 523, 524, 525, 162, 163, 164, 44, 165, 166, 167, 121, 126, 127, 129, 757, 758, 759, 760, 761, 762, 763, 764, 765, 766, 767, 768, 769, 770, 771, 811, 812, 813, 814, 815, 816, 817, 818, 783, 784, 785, 786, 787, 788, 807, 808, 809, 810, 772, 773, 774, 775, 776, 777, 778, 779, 780, 781, 782, 819, 820, 821, 822, 823, 824, 825, 826, 827, 828, 829, 830, 831] rfl (by decide +kernel)) (goodIn_sub (fun _ h => List.mem_append_left _ (List.mem_append_right _ h)) (by decide +kernel))
set_option maxRecDepth 20000 in
theorem gL_law_X8_giveSlots : GoodIn wsL_law (wsV RL 95 RX8 yX8_giveSlots wsX8_giveSlots) := goodIn_app (goodIn_of _ (by decide +kernel)) ggL_law_X8_giveSlots
theorem dL_law_80 : decode cL_law 80 = .ok (.istore 5, 2) := by decide +kernel
theorem dL_law_82 : decode cL_law 82 = .ok (.iconst 0, 1) := by decide +kernel
theorem dL_law_83 : decode cL_law 83 = .ok (.istore 6, 2) := by decide +kernel
theorem dL_law_85 : decode cL_law 85 = .ok (.iconst 0, 1) := by decide +kernel
theorem dL_law_86 : decode cL_law 86 = .ok (.istore 7, 2) := by decide +kernel
theorem dL_law_88 : decode cL_law 88 = .ok (.iload 7, 2) := by decide +kernel
theorem dL_law_90 : decode cL_law 90 = .ok (.iload_n 3, 1) := by decide +kernel
theorem dL_law_91 : decode cL_law 91 = .ok (.if_icmp .ge 58, 3) := by decide +kernel
theorem dL_law_149 : decode cL_law 149 = .ok (.iload 5, 2) := by decide +kernel
theorem dL_law_151 : decode cL_law 151 = .ok (.iload 6, 2) := by decide +kernel
theorem dL_law_153 : decode cL_law 153 = .ok (.if_icmp .ge 5, 3) := by decide +kernel
theorem dL_law_158 : decode cL_law 158 = .ok (.iconst 4, 1) := by decide +kernel
theorem dL_law_159 : decode cL_law 159 = .ok (.newarray .int, 2) := by decide +kernel
theorem dL_law_161 : decode cL_law 161 = .ok (.dup, 1) := by decide +kernel
theorem dL_law_162 : decode cL_law 162 = .ok (.iconst 0, 1) := by decide +kernel
theorem dL_law_163 : decode cL_law 163 = .ok (.aload_n 1, 1) := by decide +kernel
theorem dL_law_164 : decode cL_law 164 = .ok (.iconst 0, 1) := by decide +kernel
theorem dL_law_165 : decode cL_law 165 = .ok (.invokevirtual 104, 3) := by decide +kernel
set_option maxRecDepth 20000 in
theorem ggL_law_X8_inTheEnd : GoodIn wsL_law wsX8_inTheEnd := goodIn_ca (goodIn_ca (goodIn_r _ [545, 46, 45, 41, 161, 546, 146, 147, 2, 148, 149, 150, 530, 531, 532, 533, 176, 177, 160, 547, 548, 549, 44, 550, 551, 166, 167, 120, 552, 335, 336, 337, 121, 123, 124, 125, 126, 127, 553, 554, 555, 556, 557, 558, 559, 560, 40, 561, 115, 562, 563, 564, 565, 566, 567, 568, 569, 570, 571, 572, 573, 574, 575, 576, 577, 578, 579, 580, 581, 582, 583, 584, 585, 586, 203, 200, 204, 587, 588, 589, 590, 591, 592, 593, 594, 595, 596, 597, 598, 599, 600, 601, 602, 603, 604, 605, 128, 606, 607, 608, 609, 610, 611, 612, 613, 614, 615, 616, 617, 757, 758, 759, 760, 761, 762, 763, 764, 765, 766, 767, 768, 769, 770, 771, 819, 820, 821, 822, 823, 824, 825, 826, 827, 828, 829, 830, 831] rfl (by decide +kernel)) (goodIn_sub (fun _ h => List.mem_append_left _ (List.mem_append_left _ (List.mem_append_right _ h))) (by decide +kernel))) (goodIn_sub (fun _ h => List.mem_append_left _ (List.mem_append_right _ h)) (by decide +kernel))
set_option maxRecDepth 20000 in
theorem gL_law_X8_inTheEnd : GoodIn wsL_law (wsV RL 104 RX8 yX8_inTheEnd wsX8_inTheEnd) := goodIn_app (goodIn_of _ (by decide +kernel)) ggL_law_X8_inTheEnd
theorem dL_law_168 : decode cL_law 168 = .ok (.iastore, 1) := by decide +kernel
theorem dL_law_169 : decode cL_law 169 = .ok (.dup, 1) := by decide +kernel
theorem dL_law_170 : decode cL_law 170 = .ok (.iconst 1, 1) := by decide +kernel
theorem dL_law_171 : decode cL_law 171 = .ok (.aload_n 1, 1) := by decide +kernel
theorem dL_law_172 : decode cL_law 172 = .ok (.iconst 1, 1) := by decide +kernel
theorem dL_law_173 : decode cL_law 173 = .ok (.invokevirtual 104, 3) := by decide +kernel
theorem dL_law_176 : decode cL_law 176 = .ok (.iastore, 1) := by decide +kernel
theorem dL_law_177 : decode cL_law 177 = .ok (.dup, 1) := by decide +kernel
theorem dL_law_178 : decode cL_law 178 = .ok (.iconst 2, 1) := by decide +kernel
theorem dL_law_179 : decode cL_law 179 = .ok (.aload_n 1, 1) := by decide +kernel
theorem dL_law_180 : decode cL_law 180 = .ok (.iconst 2, 1) := by decide +kernel
theorem dL_law_181 : decode cL_law 181 = .ok (.invokevirtual 104, 3) := by decide +kernel
theorem dL_law_184 : decode cL_law 184 = .ok (.iastore, 1) := by decide +kernel
theorem dL_law_185 : decode cL_law 185 = .ok (.dup, 1) := by decide +kernel
theorem dL_law_186 : decode cL_law 186 = .ok (.iconst 3, 1) := by decide +kernel
theorem dL_law_187 : decode cL_law 187 = .ok (.aload_n 1, 1) := by decide +kernel
theorem dL_law_188 : decode cL_law 188 = .ok (.iconst 3, 1) := by decide +kernel
theorem dL_law_189 : decode cL_law 189 = .ok (.invokevirtual 104, 3) := by decide +kernel
theorem dL_law_192 : decode cL_law 192 = .ok (.iastore, 1) := by decide +kernel
theorem dL_law_193 : decode cL_law 193 = .ok (.astore 7, 2) := by decide +kernel
theorem dL_law_156 : decode cL_law 156 = .ok (.iconst 0, 1) := by decide +kernel
theorem dL_law_157 : decode cL_law 157 = .ok (.ireturn, 1) := by decide +kernel
theorem dL_law_94 : decode cL_law 94 = .ok (.aload_n 1, 1) := by decide +kernel
theorem dL_law_95 : decode cL_law 95 = .ok (.iload 7, 2) := by decide +kernel
theorem dL_law_97 : decode cL_law 97 = .ok (.invokevirtual 98, 3) := by decide +kernel
set_option maxRecDepth 20000 in
theorem ggL_law_X8_slotOf : GoodIn wsL_law wsX8_slotOf := goodIn_ca (goodIn_ca (goodIn_r _ [529, 37, 530, 531, 532, 2, 533, 176, 177, 160, 534, 535, 536, 537, 267, 268, 19, 256, 757, 758, 759, 760, 761, 762, 763, 764, 765, 766, 767, 768, 769, 770, 771, 783, 784, 785, 786, 787, 788] rfl (by decide +kernel)) (goodIn_sub (fun _ h => List.mem_append_left _ (List.mem_append_right _ h)) (by decide +kernel))) (goodIn_sub (fun _ h => List.mem_append_right _ h) (by decide +kernel))
set_option maxRecDepth 20000 in
theorem gL_law_X8_slotOf : GoodIn wsL_law (wsV RL 98 RX8 yX8_slotOf wsX8_slotOf) := goodIn_app (goodIn_of _ (by decide +kernel)) ggL_law_X8_slotOf
theorem dL_law_100 : decode cL_law 100 = .ok (.istore 8, 2) := by decide +kernel
theorem dL_law_102 : decode cL_law 102 = .ok (.iload 8, 2) := by decide +kernel
theorem dL_law_104 : decode cL_law 104 = .ok (.iconst (-1), 1) := by decide +kernel
theorem dL_law_105 : decode cL_law 105 = .ok (.if_icmp .lt 20, 3) := by decide +kernel
theorem dL_law_108 : decode cL_law 108 = .ok (.iload 8, 2) := by decide +kernel
theorem dL_law_110 : decode cL_law 110 = .ok (.bipush 15, 2) := by decide +kernel
theorem dL_law_112 : decode cL_law 112 = .ok (.if_icmp .gt 13, 3) := by decide +kernel
theorem dL_law_115 : decode cL_law 115 = .ok (.aload_n 1, 1) := by decide +kernel
theorem dL_law_116 : decode cL_law 116 = .ok (.iload 7, 2) := by decide +kernel
theorem dL_law_118 : decode cL_law 118 = .ok (.invokevirtual 101, 3) := by decide +kernel
set_option maxRecDepth 20000 in
theorem ggL_law_X8_movedAt : GoodIn wsL_law wsX8_movedAt := goodIn_ca (goodIn_ca (goodIn_r _ [541, 383, 384, 385, 2, 386, 176, 177, 32, 155, 534, 535, 536, 537, 267, 268, 19, 256, 458, 459, 460, 461, 257, 13, 462, 258, 416, 463, 464, 465, 18, 466, 467, 58, 59, 468, 469, 470, 471, 61, 757, 758, 759, 760, 761, 762, 763, 764, 765, 766, 767, 768, 769, 770, 771, 807, 808, 809, 810, 783, 784, 785, 786, 787, 788, 772, 773, 774, 775, 776, 777, 778, 779, 780, 781, 782] rfl (by decide +kernel)) (goodIn_sub (fun _ h => List.mem_append_left _ (List.mem_append_right _ h)) (by decide +kernel))) (goodIn_sub (fun _ h => List.mem_append_right _ h) (by decide +kernel))
set_option maxRecDepth 20000 in
theorem gL_law_X8_movedAt : GoodIn wsL_law (wsV RL 101 RX8 yX8_movedAt wsX8_movedAt) := goodIn_app (goodIn_of _ (by decide +kernel)) ggL_law_X8_movedAt
theorem dL_law_121 : decode cL_law 121 = .ok (.iconst 2, 1) := by decide +kernel
theorem dL_law_122 : decode cL_law 122 = .ok (.if_icmp .ge 5, 3) := by decide +kernel
theorem dL_law_127 : decode cL_law 127 = .ok (.iload 6, 2) := by decide +kernel
theorem dL_law_129 : decode cL_law 129 = .ok (.iload 8, 2) := by decide +kernel
theorem dL_law_131 : decode cL_law 131 = .ok (.ifCond .ge 8, 3) := by decide +kernel
theorem dL_law_134 : decode cL_law 134 = .ok (.bipush 40, 2) := by decide +kernel
theorem dL_law_136 : decode cL_law 136 = .ok (.goto 4, 3) := by decide +kernel
theorem dL_law_140 : decode cL_law 140 = .ok (.iadd, 1) := by decide +kernel
theorem dL_law_141 : decode cL_law 141 = .ok (.istore 6, 2) := by decide +kernel
theorem dL_law_143 : decode cL_law 143 = .ok (.iinc 7 1, 3) := by decide +kernel
theorem dL_law_146 : decode cL_law 146 = .ok (.goto (-58), 3) := by decide +kernel
theorem dL_law_125 : decode cL_law 125 = .ok (.iconst 0, 1) := by decide +kernel
theorem dL_law_126 : decode cL_law 126 = .ok (.ireturn, 1) := by decide +kernel
theorem dL_law_139 : decode cL_law 139 = .ok (.iconst 0, 1) := by decide +kernel
set_option maxHeartbeats 16000000 in
set_option maxRecDepth 100000 in
theorem law_slots {p : Program} {l : Launch} {e : Env} {s : State} {m : MethodId} {below : List Frame} {meth : Method} {c : Code} {g : xG} {sb Ls : Nat} {xs : Nat → Int32} {Q : State → Prop} (hx : p.tables.exec = Jvm.exec) (hb : c.code = cL_law) (hml : c.maxLocals = 14) (hown : s.vm.findClass RL = some m.cls) (hts : ∀ w ∈ wsL_law, w.before #[Value.ref sb] s = true) (hX0 : va_X sb Ls xs s s.heap) (hL : Ls ≤ 260) (hbl : sb < s.heap.size) (hK : va_K (xD g) vwCl (xT g) s) (A : Nat → Prop) (hA : ∀ q : Nat, s.heap.size ≤ q → A q) (hbA : ¬ A sb) (Kend : ∀ (H : Heap) (locs : List Loc) (ls : Array Slot), va_S A s.heap H locs → W p l e room_1 s m #[Value.ref sb] below meth c H locs 200 3000 Q (F0 m 563 ls [.int 1])) (ad : Nat → Nat) (ga : Nat → Nat → Nat) (aQ : xQ_) (aV : xV_) (aC : xC_) (aP : xP_) (aG : xG_) (aY : xY_) (aN : (Nat → Nat)) (aW : xW_) (aK : xK_) (aS : xS_) (aT : xT_) (nv : Nat) (nc : Nat) (hInv : xInv aV aC aP aG aY aN aW aK aS aT) (hFl : lFill nv nc aQ aV aC aY) (hPl : lPl aQ aV aP) (hnv : 1 ≤ nv ∧ nv ≤ 4) (hnc : 2 ≤ nc ∧ nc ≤ 19) (hscy : 1 ≤ o_sc aY ∧ o_sc aY ≤ 4) {H : Heap} {locs : List Loc} {ls : Array Slot} (hP : va_P (xD g) vwCl (SW g ad ga (.int 1) (.int 0) aQ aV aC aP aG aY aN aW aK aS aT) H) (hD : va_D A (SW g ad ga (.int 1) (.int 0) aQ aV aC aP aG aY aN aW aK aS aT)) (hS : va_S A s.heap H locs) (hl : lv_has ls 14 [(0, .ref sb), (1, .ref (ad 0)), (3, .int (nI nc))]) : W p l e room_1 s m #[Value.ref sb] below meth c H locs 180 2800 Q (F0 m 76 ls []) := by
  have hX : xS sb Ls xs A s := ⟨hX0, hbl, hbA⟩
  have hmt := lMt hFl hPl hInv.1 (by omega)
  have hcn : o_n aC = nc := hFl.2.2.2.1
  have hvn : o_vc aQ = nv := hFl.2.2.1
  refine lv_aload_n hx hb dL_law_76 rfl (lv_at hl 1 rfl) ?_
  have hPc := hP
  have hDc := hD
  have hFc := xFa hD hS hA
  refine va_calli (va_runV (As := []) (rest := []) ⟨hx, hb, hml, hown, hts⟩ (L_giveSlots2 l g H.size ad ga (.int 0) aQ aV aC aP aG aY aN aW aK aS aT (show xInv aV aC aP aG aY aN aW aK aS aT from by first | assumption | omega) (show (o_n aC) ≤ 23 from by first | assumption | omega) hmt) (cwV 0 hts gL_law_X8_giveSlots rfl rfl rfl (by decide +kernel) ⟨Nat.le_of_ble_eq_true rfl, Nat.le_of_ble_eq_true rfl⟩) ⟨xB.blind, va_recv hK hPc (ci := 8) (q0 := 0) rfl rfl, fun U9 hU9 hW9 => ⟨rfl, xB.mk hPc hK hDc hU9 hW9⟩⟩ rfl rfl hl.1 rfl (lv_room (Nat.le_of_ble_eq_true rfl)) dL_law_77 ⟨Nat.le_of_ble_eq_true rfl, Nat.le_of_ble_eq_true rfl⟩) hS (fun q _ h => hFc q h) hFc (fun r_1 u_3 t H1 locs ht hvm hw_2 hB hz1 hk1 hS => ?_)
  obtain ⟨aG2_4, aY2_5, aS2_6, hc_7, hP1, hK1, hD1⟩ := hB
  rw [ht] at hP1
  have hInv : xInv aV aC aP aG2_4 aY2_5 aN aW aK aS2_6 aT := hc_7.1
  have hrel : (∀ c, c < o_n aC → o_gsv aG2_4 c ≤ 16 ∧ (o_gsv aG2_4 c = 16 ∨ aCan (o_cex aC) (mT (o_qta aP) (o_bgz aV) (o_cve aC) (o_cba aC) (o_cex aC) (o_n aC)) c (o_gsv aG2_4 c))) ∧ 40 * ((sNo (o_gsv aG2_4) (o_n aC) : Nat) : Int) ≤ u_3 ∧ u_3 ≤ 1000 ∧ aSet (o_kf aG2_4) (o_cnt aG2_4) (aEvs (o_cex aC) (o_gsv aG2_4) (mT (o_qta aP) (o_bgz aV) (o_cve aC) (o_cba aC) (o_cex aC) (o_n aC)) (o_n aC)) ∧ o_cnt aG2_4 ≤ 48 ∧ o_sc aY2_5 = o_sc aY ∧ o_rs aY2_5 = 0 ∧ o_wo aY2_5 = 0 ∧ o_lim aY2_5 = o_lim aY ∧ o_hgt aY2_5 = (fun _ => 0) ∧ o_sd aY2_5 = o_sd aY ∧ o_stt aY2_5 = (fun _ => 0) ∧ o_oo aY2_5 = (fun _ => -1) := hc_7.2
  obtain ⟨hP, hD⟩ := xJa hD hk1 hFc hP1 hD1
  generalize H1 = H at hP hS ⊢
  have hP : va_P (xD g) vwCl (SW g ad ga (.int 1) (.int 1) aQ aV aC aP aG2_4 aY2_5 aN aW aK aS2_6 aT) H := hP
  have hD : va_D A (SW g ad ga (.int 1) (.int 1) aQ aV aC aP aG2_4 aY2_5 aN aW aK aS2_6 aT) := hD
  try dsimp only at hw_2
  obtain ⟨g1, g2, g3, g4, g5, g6, g7, g8, g9, g10, g11, g12, g13⟩ := hrel
  obtain rfl : r_1 = iI u_3 := hw_2
  have hG : yAg (o_n aC) (o_kf aG2_4) (o_cnt aG2_4) := aSet_yAg (by omega) (fun c9 hc => (g1 c9 hc).2) g4
  have hsr := g4.1
  have hI0 : yInv (o_n aC) (o_sc aY2_5) (o_lim aY2_5) (o_kf aG2_4) (yWof aY2_5) 0 := by show yInv _ _ _ _ (((o_hgt aY2_5, o_sd aY2_5, o_oo aY2_5), o_stt aY2_5), o_rs aY2_5) 0; rw [g10, g12, g13]; exact lY0 hInv.2.2.2.2.1.2.2.2.2.2.2.2
  have hIw : yInv (o_n aC) (o_sc aY2_5) (o_lim aY2_5) (o_kf aG2_4) (yWof aY2_5) (o_wo aY2_5) := by rw [g8]; exact hI0
  have hsc2 : 1 ≤ o_sc aY2_5 ∧ o_sc aY2_5 ≤ 4 := by rw [g6]; exact hscy
  refine lv_istore (lv' := [(5, .int (iI u_3)), (0, .ref sb), (1, .ref (ad 0)), (3, .int (nI nc))]) hx hb dL_law_80 hl (by decide) rfl (fun ls hl => ?_)
  refine lv_iconst (v := 0) hx hb dL_law_82 (by decide) ?_
  refine lv_istore (lv' := [(6, .int 0), (5, .int (iI u_3)), (0, .ref sb), (1, .ref (ad 0)), (3, .int (nI nc))]) hx hb dL_law_83 hl (by decide) rfl (fun ls hl => ?_)
  refine lv_iconst (v := 0) hx hb dL_law_85 (by decide) ?_
  refine lv_istore (lv' := [(7, .int 0), (6, .int 0), (5, .int (iI u_3)), (0, .ref sb), (1, .ref (ad 0)), (3, .int (nI nc))]) hx hb dL_law_86 hl (by decide) rfl (fun ls hl => ?_)
  have hloop88 : ∀ (n9 : Nat) (c9 : Nat) (mv : Nat) (H : Heap) (locs : List Loc) (ls : Array Slot), nc - c9 < n9 → (c9 ≤ nc) → (mv = 40 * sNo (o_gsv aG2_4) c9) → va_P (xD g) vwCl (SW g ad ga (.int 1) (.int 1) aQ aV aC aP aG2_4 aY2_5 aN aW aK aS2_6 aT) H → va_D A (SW g ad ga (.int 1) (.int 1) aQ aV aC aP aG2_4 aY2_5 aN aW aK aS2_6 aT) → va_S A s.heap H locs → lv_has ls 14 [(7, .int (nI c9)), (0, .ref sb), (1, .ref (ad 0)), (3, .int (nI nc)), (5, .int (iI u_3)), (6, .int (nI mv))] → W p l e room_1 s m #[Value.ref sb] below meth c H locs 180 2800 Q (F0 m 88 ls []) := by
    intro n9
    induction n9 with
    | zero =>
      intro c9 mv H locs ls hm hc9 hmv hP hD hS hl
      exact absurd hm (Nat.not_lt_zero _)
    | succ n9 ih88 =>
      intro c9 mv H locs ls hm hc9 hmv hP hD hS hl
      have hsn := sNo_bd (gs := o_gsv aG2_4) c9
      have hmm := mT_2 (qta := o_qta aP) (bgz := o_bgz aV) (cve := o_cve aC) (cba := o_cba aC) (cex := o_cex aC) (n := o_n aC) (c := c9)
      refine lv_iload hx hb dL_law_88 (lv_at hl 0 rfl) ?_
      refine lv_iload_n hx hb dL_law_90 rfl (lv_at hl 3 rfl) ?_
      refine lv_icmp_ge (tgt := 149) hx hb dL_law_91 (by decide) (fun c_8 => ?_) (fun c_8 => ?_)
      · have nc_8 := (nI_leI (a := nc) (b := c9) (by omega) (by omega)).mp c_8
        have hce : c9 = o_n aC := by omega
        rw [hce] at hmv
        refine lv_iload hx hb dL_law_149 (lv_at hl 4 rfl) ?_
        refine lv_iload hx hb dL_law_151 (lv_at hl 5 rfl) ?_
        refine lv_icmp_ge (tgt := 158) hx hb dL_law_153 (by decide) (fun c_9 => ?_) (fun c_9 => ?_)
        · have nc_9 := (iLe (a := ((mv : Nat) : Int)) (b := u_3) (iI_nI _) rfl (by omega)).mp c_9
          refine lv_iconst (v := 4) hx hb dL_law_158 (by decide) ?_
          refine va_newa (atype := .int) (ty := .int) (N' := 4) (a0 := (4, .inl (fun _ => 0))) hx hb (hts (.arrayClass .int) (by decide +kernel)) rfl hK hP hD hS hA (fun cA => by rfl) (by decide) (by decide) (by decide) (Nat.le_of_ble_eq_true rfl) (Nat.le_of_ble_eq_true rfl) dL_law_159 (fun q_10 cA H hK9 hP hD hS => ?_)
          obtain rfl := xIEq hK9
          refine W.widen (k := 181) (n := 2804) (by omega) (by omega) ?_
          have hP : va_P (xD g) vwCl (SW g ad ga (.int 1) (.int 1) aQ aV aC aP aG2_4 aY2_5 aN aW aK aS2_6 aT ++ [(q_10, .inl (xI g, 4, .inl (fun j => nI ((fun (_ : Nat) => (0 : Nat)) j))))]) H := hP
          have hD : va_D A (SW g ad ga (.int 1) (.int 1) aQ aV aC aP aG2_4 aY2_5 aN aW aK aS2_6 aT ++ [(q_10, .inl (xI g, 4, .inl (fun j => nI ((fun (_ : Nat) => (0 : Nat)) j))))]) := hD
          refine lv_dup hx hb dL_law_161 rfl ?_
          refine lv_iconst (v := 0) hx hb dL_law_162 (by decide) ?_
          refine lv_aload_n hx hb dL_law_163 rfl (lv_at hl 2 rfl) ?_
          refine lv_iconst (v := 0) hx hb dL_law_164 (by decide) ?_
          have hPc := xPl hP
          have hDc := xDl hD
          have hFc := xFl hD hS hA
          refine va_calli (va_runV (As := [.int 0]) (rest := [.int 0, .ref q_10, .ref q_10]) ⟨hx, hb, hml, hown, hts⟩ (L_inTheEnd l g H.size ad ga (.int 1) aQ aV aC aP aG2_4 aY2_5 aN aW aK aS2_6 aT 0 (o_n aC) (show xInv aV aC aP aG2_4 aY2_5 aN aW aK aS2_6 aT from by first | assumption | omega) (show 0 ≤ 3 from by first | assumption | omega) (show (o_sc aY2_5) ≤ 12 from by first | assumption | omega) (show (o_n aC) ≤ 24 from by first | assumption | omega) (show (o_cnt aG2_4) ≤ 48 from by first | assumption | omega) (show (o_wo aY2_5) ≤ (o_cnt aG2_4) from by first | assumption | omega) hG hIw) (cwV 1 hts gL_law_X8_inTheEnd rfl rfl rfl (by decide +kernel) ⟨Nat.le_of_ble_eq_true rfl, Nat.le_of_ble_eq_true rfl⟩) ⟨xB.blind, va_recv hK hPc (ci := 8) (q0 := 0) rfl rfl, fun U9 hU9 hW9 => ⟨rfl, xB.mk hPc hK hDc hU9 hW9⟩⟩ rfl rfl hl.1 rfl (lv_room (Nat.le_of_ble_eq_true rfl)) dL_law_165 ⟨Nat.le_of_ble_eq_true rfl, Nat.le_of_ble_eq_true rfl⟩) hS (fun q _ h => hFc q h) hFc (fun r_11 u_13 t H1 locs ht hvm hw_12 hB hz1 hk1 hS => ?_)
          obtain ⟨aT2_14, hc_15, hP1, hK1, hD1⟩ := hB
          rw [ht] at hP1
          have hInv : xInv aV aC aP aG2_4 aY2_5 aN aW aK aS2_6 aT2_14 := hc_15.1
          have hrel : (u_13 = o_cnt aG2_4 ∨ o_wo aY2_5 + u_13 = o_cnt aG2_4) ∧ o_wo aY2_5 + u_13 ≤ o_cnt aG2_4 := hc_15.2
          obtain ⟨hP, hD⟩ := xJl hP hD hk1 hFc hP1 hD1
          generalize H1 = H at hP hS ⊢
          have hP : va_P (xD g) vwCl (SW g ad ga (.int 1) (.int 1) aQ aV aC aP aG2_4 aY2_5 aN aW aK aS2_6 aT2_14 ++ [(q_10, .inl (xI g, 4, .inl (fun j => nI ((fun (_ : Nat) => (0 : Nat)) j))))]) H := hP
          have hD : va_D A (SW g ad ga (.int 1) (.int 1) aQ aV aC aP aG2_4 aY2_5 aN aW aK aS2_6 aT2_14 ++ [(q_10, .inl (xI g, 4, .inl (fun j => nI ((fun (_ : Nat) => (0 : Nat)) j))))]) := hD
          try dsimp only at hw_12
          obtain rfl : u_13 = o_cnt aG2_4 := by omega
          obtain rfl : r_11 = nI ((yRun (o_sc aY2_5) (o_lim aY2_5) (o_wt aY2_5) (o_lv aY2_5) (o_kf aG2_4) (o_wo aY2_5) (yWof aY2_5) (o_cnt aG2_4)).2) := hw_12.1 rfl
          refine va_iast (x := nI ((yRun (o_sc aY2_5) (o_lim aY2_5) (o_wt aY2_5) (o_lv aY2_5) (o_kf aG2_4) (o_wo aY2_5) (yWof aY2_5) (o_cnt aG2_4)).2)) hx hb hK hP hD hS 140 0 rfl rfl (by unfold vp_in; decide) dL_law_168 (fun H locs hP hD hS => ?_)
          rw [nU (f := (fun (_ : Nat) => (0 : Nat))) (k := 0) (v := (yRun (o_sc aY2_5) (o_lim aY2_5) (o_wt aY2_5) (o_lv aY2_5) (o_kf aG2_4) (o_wo aY2_5) (yWof aY2_5) (o_cnt aG2_4)).2) (by decide) rfl] at hP hD
          have hP : va_P (xD g) vwCl (SW g ad ga (.int 1) (.int 1) aQ aV aC aP aG2_4 aY2_5 aN aW aK aS2_6 aT2_14 ++ [(q_10, .inl (xI g, 4, .inl (fun j => nI ((nV (fun (_ : Nat) => (0 : Nat)) 0 ((yRun (o_sc aY2_5) (o_lim aY2_5) (o_wt aY2_5) (o_lv aY2_5) (o_kf aG2_4) (o_wo aY2_5) (yWof aY2_5) (o_cnt aG2_4)).2)) j))))]) H := hP
          have hD : va_D A (SW g ad ga (.int 1) (.int 1) aQ aV aC aP aG2_4 aY2_5 aN aW aK aS2_6 aT2_14 ++ [(q_10, .inl (xI g, 4, .inl (fun j => nI ((nV (fun (_ : Nat) => (0 : Nat)) 0 ((yRun (o_sc aY2_5) (o_lim aY2_5) (o_wt aY2_5) (o_lv aY2_5) (o_kf aG2_4) (o_wo aY2_5) (yWof aY2_5) (o_cnt aG2_4)).2)) j))))]) := hD
          refine lv_dup hx hb dL_law_169 rfl ?_
          refine lv_iconst (v := 1) hx hb dL_law_170 (by decide) ?_
          refine lv_aload_n hx hb dL_law_171 rfl (lv_at hl 2 rfl) ?_
          refine lv_iconst (v := 1) hx hb dL_law_172 (by decide) ?_
          have hPc := xPl hP
          have hDc := xDl hD
          have hFc := xFl hD hS hA
          refine va_calli (va_runV (As := [.int 1]) (rest := [.int 1, .ref q_10, .ref q_10]) ⟨hx, hb, hml, hown, hts⟩ (L_inTheEnd l g H.size ad ga (.int 1) aQ aV aC aP aG2_4 aY2_5 aN aW aK aS2_6 aT2_14 1 (o_n aC) (show xInv aV aC aP aG2_4 aY2_5 aN aW aK aS2_6 aT2_14 from by first | assumption | omega) (show 1 ≤ 3 from by first | assumption | omega) (show (o_sc aY2_5) ≤ 12 from by first | assumption | omega) (show (o_n aC) ≤ 24 from by first | assumption | omega) (show (o_cnt aG2_4) ≤ 48 from by first | assumption | omega) (show (o_wo aY2_5) ≤ (o_cnt aG2_4) from by first | assumption | omega) hG hIw) (cwV 1 hts gL_law_X8_inTheEnd rfl rfl rfl (by decide +kernel) ⟨Nat.le_of_ble_eq_true rfl, Nat.le_of_ble_eq_true rfl⟩) ⟨xB.blind, va_recv hK hPc (ci := 8) (q0 := 0) rfl rfl, fun U9 hU9 hW9 => ⟨rfl, xB.mk hPc hK hDc hU9 hW9⟩⟩ rfl rfl hl.1 rfl (lv_room (Nat.le_of_ble_eq_true rfl)) dL_law_173 ⟨Nat.le_of_ble_eq_true rfl, Nat.le_of_ble_eq_true rfl⟩) hS (fun q _ h => hFc q h) hFc (fun r_16 u_18 t H1 locs ht hvm hw_17 hB hz1 hk1 hS => ?_)
          obtain ⟨aT2_19, hc_20, hP1, hK1, hD1⟩ := hB
          rw [ht] at hP1
          have hInv : xInv aV aC aP aG2_4 aY2_5 aN aW aK aS2_6 aT2_19 := hc_20.1
          have hrel : (u_18 = o_cnt aG2_4 ∨ o_wo aY2_5 + u_18 = o_cnt aG2_4) ∧ o_wo aY2_5 + u_18 ≤ o_cnt aG2_4 := hc_20.2
          obtain ⟨hP, hD⟩ := xJl hP hD hk1 hFc hP1 hD1
          generalize H1 = H at hP hS ⊢
          have hP : va_P (xD g) vwCl (SW g ad ga (.int 1) (.int 1) aQ aV aC aP aG2_4 aY2_5 aN aW aK aS2_6 aT2_19 ++ [(q_10, .inl (xI g, 4, .inl (fun j => nI ((nV (fun (_ : Nat) => (0 : Nat)) 0 ((yRun (o_sc aY2_5) (o_lim aY2_5) (o_wt aY2_5) (o_lv aY2_5) (o_kf aG2_4) (o_wo aY2_5) (yWof aY2_5) (o_cnt aG2_4)).2)) j))))]) H := hP
          have hD : va_D A (SW g ad ga (.int 1) (.int 1) aQ aV aC aP aG2_4 aY2_5 aN aW aK aS2_6 aT2_19 ++ [(q_10, .inl (xI g, 4, .inl (fun j => nI ((nV (fun (_ : Nat) => (0 : Nat)) 0 ((yRun (o_sc aY2_5) (o_lim aY2_5) (o_wt aY2_5) (o_lv aY2_5) (o_kf aG2_4) (o_wo aY2_5) (yWof aY2_5) (o_cnt aG2_4)).2)) j))))]) := hD
          try dsimp only at hw_17
          obtain rfl : u_18 = o_cnt aG2_4 := by omega
          obtain rfl : r_16 = nI (yCnt (yRun (o_sc aY2_5) (o_lim aY2_5) (o_wt aY2_5) (o_lv aY2_5) (o_kf aG2_4) (o_wo aY2_5) (yWof aY2_5) (o_cnt aG2_4)).1.2 3 24) := hw_17.2.1 rfl
          refine va_iast (x := nI (yCnt (yRun (o_sc aY2_5) (o_lim aY2_5) (o_wt aY2_5) (o_lv aY2_5) (o_kf aG2_4) (o_wo aY2_5) (yWof aY2_5) (o_cnt aG2_4)).1.2 3 24)) hx hb hK hP hD hS 140 0 rfl rfl (by unfold vp_in; decide) dL_law_176 (fun H locs hP hD hS => ?_)
          rw [nU (f := nV (fun (_ : Nat) => (0 : Nat)) 0 ((yRun (o_sc aY2_5) (o_lim aY2_5) (o_wt aY2_5) (o_lv aY2_5) (o_kf aG2_4) (o_wo aY2_5) (yWof aY2_5) (o_cnt aG2_4)).2)) (k := 1) (v := yCnt (yRun (o_sc aY2_5) (o_lim aY2_5) (o_wt aY2_5) (o_lv aY2_5) (o_kf aG2_4) (o_wo aY2_5) (yWof aY2_5) (o_cnt aG2_4)).1.2 3 24) (by decide) rfl] at hP hD
          have hP : va_P (xD g) vwCl (SW g ad ga (.int 1) (.int 1) aQ aV aC aP aG2_4 aY2_5 aN aW aK aS2_6 aT2_19 ++ [(q_10, .inl (xI g, 4, .inl (fun j => nI ((nV (nV (fun (_ : Nat) => (0 : Nat)) 0 ((yRun (o_sc aY2_5) (o_lim aY2_5) (o_wt aY2_5) (o_lv aY2_5) (o_kf aG2_4) (o_wo aY2_5) (yWof aY2_5) (o_cnt aG2_4)).2)) 1 (yCnt (yRun (o_sc aY2_5) (o_lim aY2_5) (o_wt aY2_5) (o_lv aY2_5) (o_kf aG2_4) (o_wo aY2_5) (yWof aY2_5) (o_cnt aG2_4)).1.2 3 24)) j))))]) H := hP
          have hD : va_D A (SW g ad ga (.int 1) (.int 1) aQ aV aC aP aG2_4 aY2_5 aN aW aK aS2_6 aT2_19 ++ [(q_10, .inl (xI g, 4, .inl (fun j => nI ((nV (nV (fun (_ : Nat) => (0 : Nat)) 0 ((yRun (o_sc aY2_5) (o_lim aY2_5) (o_wt aY2_5) (o_lv aY2_5) (o_kf aG2_4) (o_wo aY2_5) (yWof aY2_5) (o_cnt aG2_4)).2)) 1 (yCnt (yRun (o_sc aY2_5) (o_lim aY2_5) (o_wt aY2_5) (o_lv aY2_5) (o_kf aG2_4) (o_wo aY2_5) (yWof aY2_5) (o_cnt aG2_4)).1.2 3 24)) j))))]) := hD
          refine lv_dup hx hb dL_law_177 rfl ?_
          refine lv_iconst (v := 2) hx hb dL_law_178 (by decide) ?_
          refine lv_aload_n hx hb dL_law_179 rfl (lv_at hl 2 rfl) ?_
          refine lv_iconst (v := 2) hx hb dL_law_180 (by decide) ?_
          have hPc := xPl hP
          have hDc := xDl hD
          have hFc := xFl hD hS hA
          refine va_calli (va_runV (As := [.int 2]) (rest := [.int 2, .ref q_10, .ref q_10]) ⟨hx, hb, hml, hown, hts⟩ (L_inTheEnd l g H.size ad ga (.int 1) aQ aV aC aP aG2_4 aY2_5 aN aW aK aS2_6 aT2_19 2 (o_n aC) (show xInv aV aC aP aG2_4 aY2_5 aN aW aK aS2_6 aT2_19 from by first | assumption | omega) (show 2 ≤ 3 from by first | assumption | omega) (show (o_sc aY2_5) ≤ 12 from by first | assumption | omega) (show (o_n aC) ≤ 24 from by first | assumption | omega) (show (o_cnt aG2_4) ≤ 48 from by first | assumption | omega) (show (o_wo aY2_5) ≤ (o_cnt aG2_4) from by first | assumption | omega) hG hIw) (cwV 1 hts gL_law_X8_inTheEnd rfl rfl rfl (by decide +kernel) ⟨Nat.le_of_ble_eq_true rfl, Nat.le_of_ble_eq_true rfl⟩) ⟨xB.blind, va_recv hK hPc (ci := 8) (q0 := 0) rfl rfl, fun U9 hU9 hW9 => ⟨rfl, xB.mk hPc hK hDc hU9 hW9⟩⟩ rfl rfl hl.1 rfl (lv_room (Nat.le_of_ble_eq_true rfl)) dL_law_181 ⟨Nat.le_of_ble_eq_true rfl, Nat.le_of_ble_eq_true rfl⟩) hS (fun q _ h => hFc q h) hFc (fun r_21 u_23 t H1 locs ht hvm hw_22 hB hz1 hk1 hS => ?_)
          obtain ⟨aT2_24, hc_25, hP1, hK1, hD1⟩ := hB
          rw [ht] at hP1
          have hInv : xInv aV aC aP aG2_4 aY2_5 aN aW aK aS2_6 aT2_24 := hc_25.1
          have hrel : (u_23 = o_cnt aG2_4 ∨ o_wo aY2_5 + u_23 = o_cnt aG2_4) ∧ o_wo aY2_5 + u_23 ≤ o_cnt aG2_4 := hc_25.2
          obtain ⟨hP, hD⟩ := xJl hP hD hk1 hFc hP1 hD1
          generalize H1 = H at hP hS ⊢
          have hP : va_P (xD g) vwCl (SW g ad ga (.int 1) (.int 1) aQ aV aC aP aG2_4 aY2_5 aN aW aK aS2_6 aT2_24 ++ [(q_10, .inl (xI g, 4, .inl (fun j => nI ((nV (nV (fun (_ : Nat) => (0 : Nat)) 0 ((yRun (o_sc aY2_5) (o_lim aY2_5) (o_wt aY2_5) (o_lv aY2_5) (o_kf aG2_4) (o_wo aY2_5) (yWof aY2_5) (o_cnt aG2_4)).2)) 1 (yCnt (yRun (o_sc aY2_5) (o_lim aY2_5) (o_wt aY2_5) (o_lv aY2_5) (o_kf aG2_4) (o_wo aY2_5) (yWof aY2_5) (o_cnt aG2_4)).1.2 3 24)) j))))]) H := hP
          have hD : va_D A (SW g ad ga (.int 1) (.int 1) aQ aV aC aP aG2_4 aY2_5 aN aW aK aS2_6 aT2_24 ++ [(q_10, .inl (xI g, 4, .inl (fun j => nI ((nV (nV (fun (_ : Nat) => (0 : Nat)) 0 ((yRun (o_sc aY2_5) (o_lim aY2_5) (o_wt aY2_5) (o_lv aY2_5) (o_kf aG2_4) (o_wo aY2_5) (yWof aY2_5) (o_cnt aG2_4)).2)) 1 (yCnt (yRun (o_sc aY2_5) (o_lim aY2_5) (o_wt aY2_5) (o_lv aY2_5) (o_kf aG2_4) (o_wo aY2_5) (yWof aY2_5) (o_cnt aG2_4)).1.2 3 24)) j))))]) := hD
          try dsimp only at hw_22
          obtain rfl : u_23 = o_cnt aG2_4 := by omega
          obtain rfl : r_21 = nI (yCnt (yRun (o_sc aY2_5) (o_lim aY2_5) (o_wt aY2_5) (o_lv aY2_5) (o_kf aG2_4) (o_wo aY2_5) (yWof aY2_5) (o_cnt aG2_4)).1.2 4 24) := hw_22.2.2.1 rfl
          refine va_iast (x := nI (yCnt (yRun (o_sc aY2_5) (o_lim aY2_5) (o_wt aY2_5) (o_lv aY2_5) (o_kf aG2_4) (o_wo aY2_5) (yWof aY2_5) (o_cnt aG2_4)).1.2 4 24)) hx hb hK hP hD hS 140 0 rfl rfl (by unfold vp_in; decide) dL_law_184 (fun H locs hP hD hS => ?_)
          rw [nU (f := nV (nV (fun (_ : Nat) => (0 : Nat)) 0 ((yRun (o_sc aY2_5) (o_lim aY2_5) (o_wt aY2_5) (o_lv aY2_5) (o_kf aG2_4) (o_wo aY2_5) (yWof aY2_5) (o_cnt aG2_4)).2)) 1 (yCnt (yRun (o_sc aY2_5) (o_lim aY2_5) (o_wt aY2_5) (o_lv aY2_5) (o_kf aG2_4) (o_wo aY2_5) (yWof aY2_5) (o_cnt aG2_4)).1.2 3 24)) (k := 2) (v := yCnt (yRun (o_sc aY2_5) (o_lim aY2_5) (o_wt aY2_5) (o_lv aY2_5) (o_kf aG2_4) (o_wo aY2_5) (yWof aY2_5) (o_cnt aG2_4)).1.2 4 24) (by decide) rfl] at hP hD
          have hP : va_P (xD g) vwCl (SW g ad ga (.int 1) (.int 1) aQ aV aC aP aG2_4 aY2_5 aN aW aK aS2_6 aT2_24 ++ [(q_10, .inl (xI g, 4, .inl (fun j => nI ((nV (nV (nV (fun (_ : Nat) => (0 : Nat)) 0 ((yRun (o_sc aY2_5) (o_lim aY2_5) (o_wt aY2_5) (o_lv aY2_5) (o_kf aG2_4) (o_wo aY2_5) (yWof aY2_5) (o_cnt aG2_4)).2)) 1 (yCnt (yRun (o_sc aY2_5) (o_lim aY2_5) (o_wt aY2_5) (o_lv aY2_5) (o_kf aG2_4) (o_wo aY2_5) (yWof aY2_5) (o_cnt aG2_4)).1.2 3 24)) 2 (yCnt (yRun (o_sc aY2_5) (o_lim aY2_5) (o_wt aY2_5) (o_lv aY2_5) (o_kf aG2_4) (o_wo aY2_5) (yWof aY2_5) (o_cnt aG2_4)).1.2 4 24)) j))))]) H := hP
          have hD : va_D A (SW g ad ga (.int 1) (.int 1) aQ aV aC aP aG2_4 aY2_5 aN aW aK aS2_6 aT2_24 ++ [(q_10, .inl (xI g, 4, .inl (fun j => nI ((nV (nV (nV (fun (_ : Nat) => (0 : Nat)) 0 ((yRun (o_sc aY2_5) (o_lim aY2_5) (o_wt aY2_5) (o_lv aY2_5) (o_kf aG2_4) (o_wo aY2_5) (yWof aY2_5) (o_cnt aG2_4)).2)) 1 (yCnt (yRun (o_sc aY2_5) (o_lim aY2_5) (o_wt aY2_5) (o_lv aY2_5) (o_kf aG2_4) (o_wo aY2_5) (yWof aY2_5) (o_cnt aG2_4)).1.2 3 24)) 2 (yCnt (yRun (o_sc aY2_5) (o_lim aY2_5) (o_wt aY2_5) (o_lv aY2_5) (o_kf aG2_4) (o_wo aY2_5) (yWof aY2_5) (o_cnt aG2_4)).1.2 4 24)) j))))]) := hD
          refine lv_dup hx hb dL_law_185 rfl ?_
          refine lv_iconst (v := 3) hx hb dL_law_186 (by decide) ?_
          refine lv_aload_n hx hb dL_law_187 rfl (lv_at hl 2 rfl) ?_
          refine lv_iconst (v := 3) hx hb dL_law_188 (by decide) ?_
          have hPc := xPl hP
          have hDc := xDl hD
          have hFc := xFl hD hS hA
          refine va_calli (va_runV (As := [.int 3]) (rest := [.int 3, .ref q_10, .ref q_10]) ⟨hx, hb, hml, hown, hts⟩ (L_inTheEnd l g H.size ad ga (.int 1) aQ aV aC aP aG2_4 aY2_5 aN aW aK aS2_6 aT2_24 3 (o_n aC) (show xInv aV aC aP aG2_4 aY2_5 aN aW aK aS2_6 aT2_24 from by first | assumption | omega) (show 3 ≤ 3 from by first | assumption | omega) (show (o_sc aY2_5) ≤ 12 from by first | assumption | omega) (show (o_n aC) ≤ 24 from by first | assumption | omega) (show (o_cnt aG2_4) ≤ 48 from by first | assumption | omega) (show (o_wo aY2_5) ≤ (o_cnt aG2_4) from by first | assumption | omega) hG hIw) (cwV 1 hts gL_law_X8_inTheEnd rfl rfl rfl (by decide +kernel) ⟨Nat.le_of_ble_eq_true rfl, Nat.le_of_ble_eq_true rfl⟩) ⟨xB.blind, va_recv hK hPc (ci := 8) (q0 := 0) rfl rfl, fun U9 hU9 hW9 => ⟨rfl, xB.mk hPc hK hDc hU9 hW9⟩⟩ rfl rfl hl.1 rfl (lv_room (Nat.le_of_ble_eq_true rfl)) dL_law_189 ⟨Nat.le_of_ble_eq_true rfl, Nat.le_of_ble_eq_true rfl⟩) hS (fun q _ h => hFc q h) hFc (fun r_26 u_28 t H1 locs ht hvm hw_27 hB hz1 hk1 hS => ?_)
          obtain ⟨aT2_29, hc_30, hP1, hK1, hD1⟩ := hB
          rw [ht] at hP1
          have hInv : xInv aV aC aP aG2_4 aY2_5 aN aW aK aS2_6 aT2_29 := hc_30.1
          have hrel : (u_28 = o_cnt aG2_4 ∨ o_wo aY2_5 + u_28 = o_cnt aG2_4) ∧ o_wo aY2_5 + u_28 ≤ o_cnt aG2_4 := hc_30.2
          obtain ⟨hP, hD⟩ := xJl hP hD hk1 hFc hP1 hD1
          generalize H1 = H at hP hS ⊢
          have hP : va_P (xD g) vwCl (SW g ad ga (.int 1) (.int 1) aQ aV aC aP aG2_4 aY2_5 aN aW aK aS2_6 aT2_29 ++ [(q_10, .inl (xI g, 4, .inl (fun j => nI ((nV (nV (nV (fun (_ : Nat) => (0 : Nat)) 0 ((yRun (o_sc aY2_5) (o_lim aY2_5) (o_wt aY2_5) (o_lv aY2_5) (o_kf aG2_4) (o_wo aY2_5) (yWof aY2_5) (o_cnt aG2_4)).2)) 1 (yCnt (yRun (o_sc aY2_5) (o_lim aY2_5) (o_wt aY2_5) (o_lv aY2_5) (o_kf aG2_4) (o_wo aY2_5) (yWof aY2_5) (o_cnt aG2_4)).1.2 3 24)) 2 (yCnt (yRun (o_sc aY2_5) (o_lim aY2_5) (o_wt aY2_5) (o_lv aY2_5) (o_kf aG2_4) (o_wo aY2_5) (yWof aY2_5) (o_cnt aG2_4)).1.2 4 24)) j))))]) H := hP
          have hD : va_D A (SW g ad ga (.int 1) (.int 1) aQ aV aC aP aG2_4 aY2_5 aN aW aK aS2_6 aT2_29 ++ [(q_10, .inl (xI g, 4, .inl (fun j => nI ((nV (nV (nV (fun (_ : Nat) => (0 : Nat)) 0 ((yRun (o_sc aY2_5) (o_lim aY2_5) (o_wt aY2_5) (o_lv aY2_5) (o_kf aG2_4) (o_wo aY2_5) (yWof aY2_5) (o_cnt aG2_4)).2)) 1 (yCnt (yRun (o_sc aY2_5) (o_lim aY2_5) (o_wt aY2_5) (o_lv aY2_5) (o_kf aG2_4) (o_wo aY2_5) (yWof aY2_5) (o_cnt aG2_4)).1.2 3 24)) 2 (yCnt (yRun (o_sc aY2_5) (o_lim aY2_5) (o_wt aY2_5) (o_lv aY2_5) (o_kf aG2_4) (o_wo aY2_5) (yWof aY2_5) (o_cnt aG2_4)).1.2 4 24)) j))))]) := hD
          try dsimp only at hw_27
          obtain rfl : u_28 = o_cnt aG2_4 := by omega
          obtain rfl : r_26 = nI (yCnt (yRun (o_sc aY2_5) (o_lim aY2_5) (o_wt aY2_5) (o_lv aY2_5) (o_kf aG2_4) (o_wo aY2_5) (yWof aY2_5) (o_cnt aG2_4)).1.2 1 24 + yCnt (yRun (o_sc aY2_5) (o_lim aY2_5) (o_wt aY2_5) (o_lv aY2_5) (o_kf aG2_4) (o_wo aY2_5) (yWof aY2_5) (o_cnt aG2_4)).1.2 4 24) := hw_27.2.2.2 rfl
          refine va_iast (x := nI (yCnt (yRun (o_sc aY2_5) (o_lim aY2_5) (o_wt aY2_5) (o_lv aY2_5) (o_kf aG2_4) (o_wo aY2_5) (yWof aY2_5) (o_cnt aG2_4)).1.2 1 24 + yCnt (yRun (o_sc aY2_5) (o_lim aY2_5) (o_wt aY2_5) (o_lv aY2_5) (o_kf aG2_4) (o_wo aY2_5) (yWof aY2_5) (o_cnt aG2_4)).1.2 4 24)) hx hb hK hP hD hS 140 0 rfl rfl (by unfold vp_in; decide) dL_law_192 (fun H locs hP hD hS => ?_)
          rw [nU (f := nV (nV (nV (fun (_ : Nat) => (0 : Nat)) 0 ((yRun (o_sc aY2_5) (o_lim aY2_5) (o_wt aY2_5) (o_lv aY2_5) (o_kf aG2_4) (o_wo aY2_5) (yWof aY2_5) (o_cnt aG2_4)).2)) 1 (yCnt (yRun (o_sc aY2_5) (o_lim aY2_5) (o_wt aY2_5) (o_lv aY2_5) (o_kf aG2_4) (o_wo aY2_5) (yWof aY2_5) (o_cnt aG2_4)).1.2 3 24)) 2 (yCnt (yRun (o_sc aY2_5) (o_lim aY2_5) (o_wt aY2_5) (o_lv aY2_5) (o_kf aG2_4) (o_wo aY2_5) (yWof aY2_5) (o_cnt aG2_4)).1.2 4 24)) (k := 3) (v := yCnt (yRun (o_sc aY2_5) (o_lim aY2_5) (o_wt aY2_5) (o_lv aY2_5) (o_kf aG2_4) (o_wo aY2_5) (yWof aY2_5) (o_cnt aG2_4)).1.2 1 24 + yCnt (yRun (o_sc aY2_5) (o_lim aY2_5) (o_wt aY2_5) (o_lv aY2_5) (o_kf aG2_4) (o_wo aY2_5) (yWof aY2_5) (o_cnt aG2_4)).1.2 4 24) (by decide) rfl] at hP hD
          have hP : va_P (xD g) vwCl (SW g ad ga (.int 1) (.int 1) aQ aV aC aP aG2_4 aY2_5 aN aW aK aS2_6 aT2_29 ++ [(q_10, .inl (xI g, 4, .inl (fun j => nI ((nV (nV (nV (nV (fun (_ : Nat) => (0 : Nat)) 0 ((yRun (o_sc aY2_5) (o_lim aY2_5) (o_wt aY2_5) (o_lv aY2_5) (o_kf aG2_4) (o_wo aY2_5) (yWof aY2_5) (o_cnt aG2_4)).2)) 1 (yCnt (yRun (o_sc aY2_5) (o_lim aY2_5) (o_wt aY2_5) (o_lv aY2_5) (o_kf aG2_4) (o_wo aY2_5) (yWof aY2_5) (o_cnt aG2_4)).1.2 3 24)) 2 (yCnt (yRun (o_sc aY2_5) (o_lim aY2_5) (o_wt aY2_5) (o_lv aY2_5) (o_kf aG2_4) (o_wo aY2_5) (yWof aY2_5) (o_cnt aG2_4)).1.2 4 24)) 3 (yCnt (yRun (o_sc aY2_5) (o_lim aY2_5) (o_wt aY2_5) (o_lv aY2_5) (o_kf aG2_4) (o_wo aY2_5) (yWof aY2_5) (o_cnt aG2_4)).1.2 1 24 + yCnt (yRun (o_sc aY2_5) (o_lim aY2_5) (o_wt aY2_5) (o_lv aY2_5) (o_kf aG2_4) (o_wo aY2_5) (yWof aY2_5) (o_cnt aG2_4)).1.2 4 24)) j))))]) H := hP
          have hD : va_D A (SW g ad ga (.int 1) (.int 1) aQ aV aC aP aG2_4 aY2_5 aN aW aK aS2_6 aT2_29 ++ [(q_10, .inl (xI g, 4, .inl (fun j => nI ((nV (nV (nV (nV (fun (_ : Nat) => (0 : Nat)) 0 ((yRun (o_sc aY2_5) (o_lim aY2_5) (o_wt aY2_5) (o_lv aY2_5) (o_kf aG2_4) (o_wo aY2_5) (yWof aY2_5) (o_cnt aG2_4)).2)) 1 (yCnt (yRun (o_sc aY2_5) (o_lim aY2_5) (o_wt aY2_5) (o_lv aY2_5) (o_kf aG2_4) (o_wo aY2_5) (yWof aY2_5) (o_cnt aG2_4)).1.2 3 24)) 2 (yCnt (yRun (o_sc aY2_5) (o_lim aY2_5) (o_wt aY2_5) (o_lv aY2_5) (o_kf aG2_4) (o_wo aY2_5) (yWof aY2_5) (o_cnt aG2_4)).1.2 4 24)) 3 (yCnt (yRun (o_sc aY2_5) (o_lim aY2_5) (o_wt aY2_5) (o_lv aY2_5) (o_kf aG2_4) (o_wo aY2_5) (yWof aY2_5) (o_cnt aG2_4)).1.2 1 24 + yCnt (yRun (o_sc aY2_5) (o_lim aY2_5) (o_wt aY2_5) (o_lv aY2_5) (o_kf aG2_4) (o_wo aY2_5) (yWof aY2_5) (o_cnt aG2_4)).1.2 4 24)) j))))]) := hD
          refine lv_astore (lv' := [(7, .ref q_10), (0, .ref sb), (1, .ref (ad 0)), (3, .int (nI nc)), (5, .int (iI u_3)), (6, .int (nI mv))]) hx hb dL_law_193 hl (by decide) rfl (fun ls hl => ?_)
          obtain ⟨ez, eze⟩ : ∃ f : Nat → Nat, f = nV (nV (nV (nV (fun (_ : Nat) => (0 : Nat)) 0 ((yRun (o_sc aY2_5) (o_lim aY2_5) (o_wt aY2_5) (o_lv aY2_5) (o_kf aG2_4) (o_wo aY2_5) (yWof aY2_5) (o_cnt aG2_4)).2)) 1 (yCnt (yRun (o_sc aY2_5) (o_lim aY2_5) (o_wt aY2_5) (o_lv aY2_5) (o_kf aG2_4) (o_wo aY2_5) (yWof aY2_5) (o_cnt aG2_4)).1.2 3 24)) 2 (yCnt (yRun (o_sc aY2_5) (o_lim aY2_5) (o_wt aY2_5) (o_lv aY2_5) (o_kf aG2_4) (o_wo aY2_5) (yWof aY2_5) (o_cnt aG2_4)).1.2 4 24)) 3 (yCnt (yRun (o_sc aY2_5) (o_lim aY2_5) (o_wt aY2_5) (o_lv aY2_5) (o_kf aG2_4) (o_wo aY2_5) (yWof aY2_5) (o_cnt aG2_4)).1.2 1 24 + yCnt (yRun (o_sc aY2_5) (o_lim aY2_5) (o_wt aY2_5) (o_lv aY2_5) (o_kf aG2_4) (o_wo aY2_5) (yWof aY2_5) (o_cnt aG2_4)).1.2 4 24) := ⟨_, rfl⟩
          rw [← eze] at hP hD
          have hP : va_P (xD g) vwCl (SW g ad ga (.int 1) (.int 1) aQ aV aC aP aG2_4 aY2_5 aN aW aK aS2_6 aT2_29 ++ [(q_10, .inl (xI g, 4, .inl (fun j => nI (ez j))))]) H := hP
          have hD : va_D A (SW g ad ga (.int 1) (.int 1) aQ aV aC aP aG2_4 aY2_5 aN aW aK aS2_6 aT2_29 ++ [(q_10, .inl (xI g, 4, .inl (fun j => nI (ez j))))]) := hD
          have gz0 : ez 0 = (yRun (o_sc aY2_5) (o_lim aY2_5) (o_wt aY2_5) (o_lv aY2_5) (o_kf aG2_4) (o_wo aY2_5) (yWof aY2_5) (o_cnt aG2_4)).2 := by rw [eze]; rfl
          have gz1 : ez 1 = yCnt (yRun (o_sc aY2_5) (o_lim aY2_5) (o_wt aY2_5) (o_lv aY2_5) (o_kf aG2_4) (o_wo aY2_5) (yWof aY2_5) (o_cnt aG2_4)).1.2 3 24 := by rw [eze]; rfl
          have gz2 : ez 2 = yCnt (yRun (o_sc aY2_5) (o_lim aY2_5) (o_wt aY2_5) (o_lv aY2_5) (o_kf aG2_4) (o_wo aY2_5) (yWof aY2_5) (o_cnt aG2_4)).1.2 4 24 := by rw [eze]; rfl
          have gz3 : ez 3 = yCnt (yRun (o_sc aY2_5) (o_lim aY2_5) (o_wt aY2_5) (o_lv aY2_5) (o_kf aG2_4) (o_wo aY2_5) (yWof aY2_5) (o_cnt aG2_4)).1.2 1 24 + yCnt (yRun (o_sc aY2_5) (o_lim aY2_5) (o_wt aY2_5) (o_lv aY2_5) (o_kf aG2_4) (o_wo aY2_5) (yWof aY2_5) (o_cnt aG2_4)).1.2 4 24 := by rw [eze]; rfl
          refine W.widen (k := 190) (n := 2900) (by omega) (by omega) ?_
          exact law_events hx hb hml hown hts hX0 hL hbl hK A hA hbA Kend ad ga aQ aV aC aP aG2_4 aY2_5 aN aW aK aS2_6 aT2_29 q_10 ez hInv (⟨by omega, by omega⟩) hsc2 (by omega) g5 hG hsr g8 g7 hI0 gz0 gz1 gz2 gz3 hP hD hS (lv_sub hl [1, 2, 0] rfl)
        · have nc_9 := mt (iLe (a := ((mv : Nat) : Int)) (b := u_3) (iI_nI _) rfl (by omega)).mpr c_9
          refine lv_iconst (v := 0) hx hb dL_law_156 (by decide) ?_
          exfalso; omega
      · have nc_8 := mt (nI_leI (a := nc) (b := c9) (by omega) (by omega)).mpr c_8
        refine lv_aload_n hx hb dL_law_94 rfl (lv_at hl 2 rfl) ?_
        refine lv_iload hx hb dL_law_95 (lv_at hl 0 rfl) ?_
        have hPc := hP
        have hDc := hD
        have hFc := xFree hS hA
        refine va_calli (va_runV (As := [.int (nI c9)]) (rest := []) ⟨hx, hb, hml, hown, hts⟩ (L_slotOf l g H.size ad ga (.int 1) aQ aV aC aP aG2_4 aY2_5 aN aW aK aS2_6 aT c9 (show xInv aV aC aP aG2_4 aY2_5 aN aW aK aS2_6 aT from by first | assumption | omega) (show c9 < (o_n aC) from by first | assumption | omega) (show (o_n aC) ≤ 24 from by first | assumption | omega)) (cwV 1 hts gL_law_X8_slotOf rfl rfl rfl (by decide +kernel) ⟨Nat.le_of_ble_eq_true rfl, Nat.le_of_ble_eq_true rfl⟩) ⟨xB.blind, va_recv hK hPc (ci := 8) (q0 := 0) rfl rfl, fun U9 hU9 hW9 => ⟨rfl, xB.mk hPc hK hDc hU9 hW9⟩⟩ rfl rfl hl.1 rfl (lv_room (Nat.le_of_ble_eq_true rfl)) dL_law_97 ⟨Nat.le_of_ble_eq_true rfl, Nat.le_of_ble_eq_true rfl⟩) hS (fun q _ h => hFc q h) hFc (fun r_31 _ t H1 locs ht hvm hw_32 hB hz1 hk1 hS => ?_)
        have hP := xSame hP hk1
        generalize H1 = H at hP hS ⊢
        have hP : va_P (xD g) vwCl (SW g ad ga (.int 1) (.int 1) aQ aV aC aP aG2_4 aY2_5 aN aW aK aS2_6 aT) H := hP
        have hD : va_D A (SW g ad ga (.int 1) (.int 1) aQ aV aC aP aG2_4 aY2_5 aN aW aK aS2_6 aT) := hD
        try dsimp only at hw_32
        obtain rfl : r_31 = iI (if (o_gsv aG2_4) c9 = 16 then -1 else (((o_gsv aG2_4) c9 : Nat) : Int)) := hw_32
        have hg9 := (g1 c9 (by omega)).1
        have hmk := hmt c9 (by omega)
        by_cases hq9 : o_gsv aG2_4 c9 = 16
        · rw [show iI (if (o_gsv aG2_4) c9 = 16 then -1 else (((o_gsv aG2_4) c9 : Nat) : Int)) = (-1 : Int32) from by rw [if_pos hq9]; decide]
          refine lv_istore (lv' := [(8, .int (-1)), (7, .int (nI c9)), (0, .ref sb), (1, .ref (ad 0)), (3, .int (nI nc)), (5, .int (iI u_3)), (6, .int (nI mv))]) hx hb dL_law_100 hl (by decide) rfl (fun ls hl => ?_)
          refine lv_iload hx hb dL_law_102 (lv_at hl 0 rfl) ?_
          refine lv_iconst (v := (-1)) hx hb dL_law_104 (by decide) ?_
          refine lv_icmp_lt (tgt := 125) hx hb dL_law_105 (by decide) (fun c0 => absurd c0 (by decide)) (fun _ => ?_)
          refine lv_iload hx hb dL_law_108 (lv_at hl 0 rfl) ?_
          refine lv_bipush (v := 15) hx hb dL_law_110 (by decide) ?_
          refine lv_icmp_gt (tgt := 125) hx hb dL_law_112 (by decide) (fun c0 => absurd c0 (by decide)) (fun _ => ?_)
          refine lv_aload_n hx hb dL_law_115 rfl (lv_at hl 3 rfl) ?_
          refine lv_iload hx hb dL_law_116 (lv_at hl 1 rfl) ?_
          have hPc := hP
          have hDc := hD
          have hFc := xFree hS hA
          refine va_calli (va_runV (As := [.int (nI c9)]) (rest := []) ⟨hx, hb, hml, hown, hts⟩ (L_movedAt l g H.size ad ga (.int 1) aQ aV aC aP aG2_4 aY2_5 aN aW aK aS2_6 aT c9 (show xInv aV aC aP aG2_4 aY2_5 aN aW aK aS2_6 aT from by first | assumption | omega) (show c9 < (o_n aC) from by first | assumption | omega) (show (o_n aC) ≤ 24 from by first | assumption | omega)) (cwV 1 hts gL_law_X8_movedAt rfl rfl rfl (by decide +kernel) ⟨Nat.le_of_ble_eq_true rfl, Nat.le_of_ble_eq_true rfl⟩) ⟨xB.blind, va_recv hK hPc (ci := 8) (q0 := 0) rfl rfl, fun U9 hU9 hW9 => ⟨rfl, xB.mk hPc hK hDc hU9 hW9⟩⟩ rfl rfl hl.1 rfl (lv_room (Nat.le_of_ble_eq_true rfl)) dL_law_118 ⟨Nat.le_of_ble_eq_true rfl, Nat.le_of_ble_eq_true rfl⟩) hS (fun q _ h => hFc q h) hFc (fun r_33 _ t H1 locs ht hvm hw_34 hB hz1 hk1 hS => ?_)
          have hP := xSame hP hk1
          generalize H1 = H at hP hS ⊢
          have hP : va_P (xD g) vwCl (SW g ad ga (.int 1) (.int 1) aQ aV aC aP aG2_4 aY2_5 aN aW aK aS2_6 aT) H := hP
          have hD : va_D A (SW g ad ga (.int 1) (.int 1) aQ aV aC aP aG2_4 aY2_5 aN aW aK aS2_6 aT) := hD
          try dsimp only at hw_34
          obtain rfl : r_33 = nI (mT (o_qta aP) (o_bgz aV) (o_cve aC) (o_cba aC) (o_cex aC) (o_n aC) c9) := hw_34
          refine lv_iconst (v := 2) hx hb dL_law_121 (by decide) ?_
          refine lv_icmp_ge (tgt := 127) hx hb dL_law_122 (by decide) (fun c_35 => ?_) (fun c_35 => ?_)
          · have nc_35 := (nI_leI (a := 2) (b := mT (o_qta aP) (o_bgz aV) (o_cve aC) (o_cba aC) (o_cex aC) (o_n aC) c9) (by omega) (by omega)).mp c_35
            refine lv_iload hx hb dL_law_127 (lv_at hl 6 rfl) ?_
            refine lv_iload hx hb dL_law_129 (lv_at hl 0 rfl) ?_
            refine lv_if_ge (tgt := 139) hx hb dL_law_131 (by decide) (fun c0 => absurd c0 (by decide)) (fun _ => ?_)
            refine lv_bipush (v := 40) hx hb dL_law_134 (by decide) ?_
            refine lv_goto (tgt := 140) hx hb dL_law_136 (by decide) ?_
            refine lv_iadd hx hb dL_law_140 ?_
            refine lv_topi (fun v_36 ev => ?_)
            obtain rfl : v_36 = nI (mv + 40) := ev.trans (nI_add mv 40)
            refine lv_istore (lv' := [(6, .int (nI (mv + 40))), (8, .int (-1)), (7, .int (nI c9)), (0, .ref sb), (1, .ref (ad 0)), (3, .int (nI nc)), (5, .int (iI u_3))]) hx hb dL_law_141 hl (by decide) rfl (fun ls hl => ?_)
            refine lv_iinc (v := nI (c9 + 1)) (lv' := [(7, .int (nI (c9 + 1))), (6, .int (nI (mv + 40))), (8, .int (-1)), (0, .ref sb), (1, .ref (ad 0)), (3, .int (nI nc)), (5, .int (iI u_3))]) hx hb dL_law_143 hl (k := 2) rfl (nI_add c9 1) (by decide) rfl (fun ls hl => ?_)
            refine lv_goto (tgt := 88) hx hb dL_law_146 (by decide) ?_
            exact ih88 (c9 + 1) (mv + 40) _ _ _ (by omega) (by omega) (by simp only [sNo]; first | (rw [if_pos (by assumption)]; omega) | (rw [if_neg (by assumption)]; omega)) hP hD hS (lv_sub hl [0, 3, 4, 5, 6, 1] rfl)
          · have nc_35 := mt (nI_leI (a := 2) (b := mT (o_qta aP) (o_bgz aV) (o_cve aC) (o_cba aC) (o_cex aC) (o_n aC) c9) (by omega) (by omega)).mpr c_35
            refine lv_iconst (v := 0) hx hb dL_law_125 (by decide) ?_
            exfalso; omega
        · rw [show iI (if (o_gsv aG2_4) c9 = 16 then -1 else (((o_gsv aG2_4) c9 : Nat) : Int)) = nI (o_gsv aG2_4 c9) from by rw [if_neg hq9]; exact (iI_nI _).symm]
          refine lv_istore (lv' := [(8, .int (nI (o_gsv aG2_4 c9))), (7, .int (nI c9)), (0, .ref sb), (1, .ref (ad 0)), (3, .int (nI nc)), (5, .int (iI u_3)), (6, .int (nI mv))]) hx hb dL_law_100 hl (by decide) rfl (fun ls hl => ?_)
          refine lv_iload hx hb dL_law_102 (lv_at hl 0 rfl) ?_
          refine lv_iconst (v := (-1)) hx hb dL_law_104 (by decide) ?_
          refine lv_icmp_lt (tgt := 125) hx hb dL_law_105 (by decide) (fun c_37 => ?_) (fun c_37 => ?_)
          · have nc_37 := (iLt (a := ((o_gsv aG2_4 c9 : Nat) : Int)) (b := (-1)) (iI_nI _) (by decide) (by omega)).mp c_37
            refine lv_iconst (v := 0) hx hb dL_law_125 (by decide) ?_
            exfalso; omega
          · have nc_37 := mt (iLt (a := ((o_gsv aG2_4 c9 : Nat) : Int)) (b := (-1)) (iI_nI _) (by decide) (by omega)).mpr c_37
            refine lv_iload hx hb dL_law_108 (lv_at hl 0 rfl) ?_
            refine lv_bipush (v := 15) hx hb dL_law_110 (by decide) ?_
            refine lv_icmp_gt (tgt := 125) hx hb dL_law_112 (by decide) (fun c_38 => ?_) (fun c_38 => ?_)
            · have nc_38 := (nI_ltI (a := 15) (b := o_gsv aG2_4 c9) (by omega) (by omega)).mp c_38
              refine lv_iconst (v := 0) hx hb dL_law_125 (by decide) ?_
              exfalso; omega
            · have nc_38 := mt (nI_ltI (a := 15) (b := o_gsv aG2_4 c9) (by omega) (by omega)).mpr c_38
              refine lv_aload_n hx hb dL_law_115 rfl (lv_at hl 3 rfl) ?_
              refine lv_iload hx hb dL_law_116 (lv_at hl 1 rfl) ?_
              have hPc := hP
              have hDc := hD
              have hFc := xFree hS hA
              refine va_calli (va_runV (As := [.int (nI c9)]) (rest := []) ⟨hx, hb, hml, hown, hts⟩ (L_movedAt l g H.size ad ga (.int 1) aQ aV aC aP aG2_4 aY2_5 aN aW aK aS2_6 aT c9 (show xInv aV aC aP aG2_4 aY2_5 aN aW aK aS2_6 aT from by first | assumption | omega) (show c9 < (o_n aC) from by first | assumption | omega) (show (o_n aC) ≤ 24 from by first | assumption | omega)) (cwV 1 hts gL_law_X8_movedAt rfl rfl rfl (by decide +kernel) ⟨Nat.le_of_ble_eq_true rfl, Nat.le_of_ble_eq_true rfl⟩) ⟨xB.blind, va_recv hK hPc (ci := 8) (q0 := 0) rfl rfl, fun U9 hU9 hW9 => ⟨rfl, xB.mk hPc hK hDc hU9 hW9⟩⟩ rfl rfl hl.1 rfl (lv_room (Nat.le_of_ble_eq_true rfl)) dL_law_118 ⟨Nat.le_of_ble_eq_true rfl, Nat.le_of_ble_eq_true rfl⟩) hS (fun q _ h => hFc q h) hFc (fun r_39 _ t H1 locs ht hvm hw_40 hB hz1 hk1 hS => ?_)
              have hP := xSame hP hk1
              generalize H1 = H at hP hS ⊢
              have hP : va_P (xD g) vwCl (SW g ad ga (.int 1) (.int 1) aQ aV aC aP aG2_4 aY2_5 aN aW aK aS2_6 aT) H := hP
              have hD : va_D A (SW g ad ga (.int 1) (.int 1) aQ aV aC aP aG2_4 aY2_5 aN aW aK aS2_6 aT) := hD
              try dsimp only at hw_40
              obtain rfl : r_39 = nI (mT (o_qta aP) (o_bgz aV) (o_cve aC) (o_cba aC) (o_cex aC) (o_n aC) c9) := hw_40
              refine lv_iconst (v := 2) hx hb dL_law_121 (by decide) ?_
              refine lv_icmp_ge (tgt := 127) hx hb dL_law_122 (by decide) (fun c_41 => ?_) (fun c_41 => ?_)
              · have nc_41 := (nI_leI (a := 2) (b := mT (o_qta aP) (o_bgz aV) (o_cve aC) (o_cba aC) (o_cex aC) (o_n aC) c9) (by omega) (by omega)).mp c_41
                refine lv_iload hx hb dL_law_127 (lv_at hl 6 rfl) ?_
                refine lv_iload hx hb dL_law_129 (lv_at hl 0 rfl) ?_
                refine lv_if_ge (tgt := 139) hx hb dL_law_131 (by decide) (fun c_42 => ?_) (fun c_42 => ?_)
                · have nc_42 := (nI_leI (a := 0) (b := o_gsv aG2_4 c9) (by omega) (by omega)).mp c_42
                  refine lv_iconst (v := 0) hx hb dL_law_139 (by decide) ?_
                  refine lv_iadd hx hb dL_law_140 ?_
                  refine lv_topi (fun v_43 ev => ?_)
                  obtain rfl : v_43 = nI (mv + 0) := ev.trans (nI_add mv 0)
                  refine lv_istore (lv' := [(6, .int (nI (mv + 0))), (8, .int (nI (o_gsv aG2_4 c9))), (7, .int (nI c9)), (0, .ref sb), (1, .ref (ad 0)), (3, .int (nI nc)), (5, .int (iI u_3))]) hx hb dL_law_141 hl (by decide) rfl (fun ls hl => ?_)
                  refine lv_iinc (v := nI (c9 + 1)) (lv' := [(7, .int (nI (c9 + 1))), (6, .int (nI (mv + 0))), (8, .int (nI (o_gsv aG2_4 c9))), (0, .ref sb), (1, .ref (ad 0)), (3, .int (nI nc)), (5, .int (iI u_3))]) hx hb dL_law_143 hl (k := 2) rfl (nI_add c9 1) (by decide) rfl (fun ls hl => ?_)
                  refine lv_goto (tgt := 88) hx hb dL_law_146 (by decide) ?_
                  exact ih88 (c9 + 1) (mv + 0) _ _ _ (by omega) (by omega) (by simp only [sNo]; first | (rw [if_pos (by assumption)]; omega) | (rw [if_neg (by assumption)]; omega)) hP hD hS (lv_sub hl [0, 3, 4, 5, 6, 1] rfl)
                · have nc_42 := mt (nI_leI (a := 0) (b := o_gsv aG2_4 c9) (by omega) (by omega)).mpr c_42
                  refine lv_bipush (v := 40) hx hb dL_law_134 (by decide) ?_
                  refine lv_goto (tgt := 140) hx hb dL_law_136 (by decide) ?_
                  refine lv_iadd hx hb dL_law_140 ?_
                  refine lv_topi (fun v_44 ev => ?_)
                  obtain rfl : v_44 = nI (mv + 40) := ev.trans (nI_add mv 40)
                  refine lv_istore (lv' := [(6, .int (nI (mv + 40))), (8, .int (nI (o_gsv aG2_4 c9))), (7, .int (nI c9)), (0, .ref sb), (1, .ref (ad 0)), (3, .int (nI nc)), (5, .int (iI u_3))]) hx hb dL_law_141 hl (by decide) rfl (fun ls hl => ?_)
                  refine lv_iinc (v := nI (c9 + 1)) (lv' := [(7, .int (nI (c9 + 1))), (6, .int (nI (mv + 40))), (8, .int (nI (o_gsv aG2_4 c9))), (0, .ref sb), (1, .ref (ad 0)), (3, .int (nI nc)), (5, .int (iI u_3))]) hx hb dL_law_143 hl (k := 2) rfl (nI_add c9 1) (by decide) rfl (fun ls hl => ?_)
                  refine lv_goto (tgt := 88) hx hb dL_law_146 (by decide) ?_
                  exact ih88 (c9 + 1) (mv + 40) _ _ _ (by omega) (by omega) (by simp only [sNo]; first | (rw [if_pos (by assumption)]; omega) | (rw [if_neg (by assumption)]; omega)) hP hD hS (lv_sub hl [0, 3, 4, 5, 6, 1] rfl)
              · have nc_41 := mt (nI_leI (a := 2) (b := mT (o_qta aP) (o_bgz aV) (o_cve aC) (o_cba aC) (o_cex aC) (o_n aC) c9) (by omega) (by omega)).mpr c_41
                refine lv_iconst (v := 0) hx hb dL_law_125 (by decide) ?_
                exfalso; omega
  exact hloop88 (nc + 1) 0 0 _ _ _ (by omega) (Nat.zero_le _) rfl hP hD hS (by rw [(show nI 0 = (0 : Int32) from by decide)]; exact lv_sub hl [0, 3, 4, 5, 2, 1] rfl)
