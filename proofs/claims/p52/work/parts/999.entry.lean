theorem dL_law_0 : decode cL_law 0 = .ok (.new 20, 3) := by decide +kernel
theorem dL_law_3 : decode cL_law 3 = .ok (.dup, 1) := by decide +kernel
theorem dL_law_4 : decode cL_law 4 = .ok (.invokespecial 80, 3) := by decide +kernel
set_option maxRecDepth 20000 in
theorem ggL_law_X8_init : GoodIn wsL_law wsX8_init := goodIn_r _ [6, 7, 8, 9, 10, 11, 12, 13, 14, 15, 16, 17, 18, 19, 3, 20, 21, 22, 23, 24, 25, 26, 27, 28, 29, 30, 31, 32, 33, 34, 35, 36, 37, 38, 39, 40, 41, 42, 43, 44, 45, 46, 47, 48, 49, 50, 51, 52, 53, 54, 55, 56, 57, 58, 59, 60, 61, 62, 63, 64, 65, 66, 67, 68, 69, 70, 71, 72, 73, 74, 75, 76, 77, 78, 79, 80, 81, 82, 83, 84, 85, 86, 87, 88, 89, 90, 91, 92, 93, 94, 95, 96, 97, 98, 99, 100, 101, 102, 103, 104, 105, 106, 107, 108, 109, 110, 111, 112, 113, 114, 115, 116, 117, 118, 119, 120, 121, 122, 123, 124, 125, 126, 127, 128, 129, 757, 758, 759, 760, 761, 762, 763, 764, 765, 766, 767, 768, 769, 770, 771, 772, 773, 774, 775, 776, 777, 778, 779, 780, 781, 782, 783, 784, 785, 786, 787, 788, 789, 790, 791, 792, 793, 794, 795, 796, 797, 798, 799, 800, 801, 802, 803, 804, 805, 806, 807, 808, 809, 810, 811, 812, 813, 814, 815, 816, 817, 818, 819, 820, 821, 822, 823, 824, 825, 826, 827, 828, 829, 830, 831] rfl (by decide +kernel)
set_option maxRecDepth 20000 in
theorem gL_law_X8_init : GoodIn wsL_law (wsX8_init) := ggL_law_X8_init
theorem dL_law_7 : decode cL_law 7 = .ok (.astore_n 1, 1) := by decide +kernel
theorem dL_law_8 : decode cL_law 8 = .ok (.iconst 1, 1) := by decide +kernel
theorem dL_law_9 : decode cL_law 9 = .ok (.aload_n 0, 1) := by decide +kernel
theorem dL_law_10 : decode cL_law 10 = .ok (.iconst 0, 1) := by decide +kernel
theorem dL_law_11 : decode cL_law 11 = .ok (.invokestatic 9, 3) := by decide +kernel
set_option maxRecDepth 20000 in
theorem ggL_law_L_cell : GoodIn wsL_law wsL_cell := goodIn_r _ [133, 134] rfl (by decide +kernel)
set_option maxRecDepth 20000 in
theorem gL_law_L_cell : GoodIn wsL_law (va_wsS RL 9 yL_cell wsL_cell) := goodIn_app (goodIn_of _ (by decide +kernel)) ggL_law_L_cell
theorem dL_law_14 : decode cL_law 14 = .ok (.bipush 9, 2) := by decide +kernel
theorem dL_law_16 : decode cL_law 16 = .ok (.ishr, 1) := by decide +kernel
theorem dL_law_17 : decode cL_law 17 = .ok (.iconst 4, 1) := by decide +kernel
theorem dL_law_18 : decode cL_law 18 = .ok (.invokestatic 15, 3) := by decide +kernel
set_option maxRecDepth 20000 in
theorem ggL_law_L_below : GoodIn wsL_law wsL_below := goodIn_r _ [137, 138] rfl (by decide +kernel)
set_option maxRecDepth 20000 in
theorem gL_law_L_below : GoodIn wsL_law (va_wsS RL 15 yL_below wsL_below) := goodIn_app (goodIn_of _ (by decide +kernel)) ggL_law_L_below
theorem dL_law_21 : decode cL_law 21 = .ok (.iadd, 1) := by decide +kernel
theorem dL_law_22 : decode cL_law 22 = .ok (.istore_n 2, 1) := by decide +kernel
theorem dL_law_23 : decode cL_law 23 = .ok (.iconst 2, 1) := by decide +kernel
theorem dL_law_24 : decode cL_law 24 = .ok (.aload_n 0, 1) := by decide +kernel
theorem dL_law_25 : decode cL_law 25 = .ok (.bipush 13, 2) := by decide +kernel
theorem dL_law_27 : decode cL_law 27 = .ok (.invokestatic 9, 3) := by decide +kernel
theorem dL_law_30 : decode cL_law 30 = .ok (.iconst 4, 1) := by decide +kernel
theorem dL_law_31 : decode cL_law 31 = .ok (.ishr, 1) := by decide +kernel
theorem dL_law_32 : decode cL_law 32 = .ok (.bipush 18, 2) := by decide +kernel
theorem dL_law_34 : decode cL_law 34 = .ok (.invokestatic 15, 3) := by decide +kernel
theorem dL_law_37 : decode cL_law 37 = .ok (.iadd, 1) := by decide +kernel
theorem dL_law_38 : decode cL_law 38 = .ok (.istore_n 3, 1) := by decide +kernel
theorem dL_law_39 : decode cL_law 39 = .ok (.aload_n 1, 1) := by decide +kernel
theorem dL_law_40 : decode cL_law 40 = .ok (.aload_n 0, 1) := by decide +kernel
theorem dL_law_41 : decode cL_law 41 = .ok (.iload_n 2, 1) := by decide +kernel
theorem dL_law_42 : decode cL_law 42 = .ok (.iload_n 3, 1) := by decide +kernel
theorem dL_law_43 : decode cL_law 43 = .ok (.invokestatic 81, 3) := by decide +kernel
set_option maxRecDepth 20000 in
theorem ggL_law_L_fill : GoodIn wsL_law wsL_fill := goodIn_ca (goodIn_ca (goodIn_ca (goodIn_r _ [141, 3, 130, 131, 132, 133, 134, 135, 136, 137, 138, 142, 143, 144, 2, 145, 10, 146, 147, 148, 149, 150, 151, 152, 153, 154, 32, 155, 156, 157, 158, 159, 160, 41, 161, 45, 162, 163, 164, 44, 165, 166, 167, 121, 126, 127, 129, 65, 66, 67, 168, 169, 170, 171, 11, 172, 173, 174, 175, 176, 177, 178, 13, 179, 180, 181, 182, 24, 183, 184, 185, 23, 186, 187, 188, 189, 190, 191, 73, 192, 193, 194, 195, 196, 197, 198, 199, 200, 201, 202, 203, 204, 205, 206, 207, 15, 208, 51, 209, 210, 211, 212, 213, 214, 215, 216, 217, 218, 219, 220, 221, 222, 223, 224, 225, 226, 227, 228, 229, 230, 74, 75, 231, 232, 233, 234, 235, 52, 236, 237, 238, 239, 240, 76, 241, 242, 243, 244, 245, 246, 247, 248, 249, 250, 53, 251, 252, 253, 254, 255, 19, 256, 257, 258, 259, 260, 261, 262, 263, 264, 265, 266, 267, 268, 269, 270, 271, 272, 273, 274, 275, 276, 277, 278, 279, 280, 281, 282, 20, 283, 284, 285, 757, 758, 759, 760, 761, 762, 763, 764, 765, 766, 767, 768, 769, 770, 771, 807, 808, 809, 810, 819, 820, 821, 822, 823, 824, 825, 826, 827, 828, 829, 830, 831, 772, 773, 774, 775, 776, 777, 778, 779, 780, 781, 782, 789, 790, 791, 792, 783, 784, 785, 786, 787, 788] rfl (by decide +kernel)) (goodIn_sub (fun _ h => List.mem_append_left _ (List.mem_append_left _ (List.mem_append_right _ h))) (by decide +kernel))) (goodIn_sub (fun _ h => List.mem_append_left _ (List.mem_append_right _ h)) (by decide +kernel))) (goodIn_sub (fun _ h => List.mem_append_right _ h) (by decide +kernel))
set_option maxRecDepth 20000 in
theorem gL_law_L_fill : GoodIn wsL_law (va_wsS RL 81 yL_fill wsL_fill) := goodIn_app (goodIn_of _ (by decide +kernel)) ggL_law_L_fill
theorem dL_law_46 : decode cL_law 46 = .ok (.aload_n 1, 1) := by decide +kernel
theorem dL_law_47 : decode cL_law 47 = .ok (.invokevirtual 85, 3) := by decide +kernel
set_option maxRecDepth 20000 in
theorem ggL_law_X8_plan : GoodIn wsL_law wsX8_plan := goodIn_ca (goodIn_r _ [289, 28, 13, 178, 10, 11, 32, 290, 155, 291, 292, 293, 2, 294, 176, 177, 295, 296, 297, 27, 298, 299, 300, 301, 81, 302, 82, 303, 83, 304, 84, 305, 85, 306, 307, 308, 309, 310, 311, 312, 313, 89, 314, 199, 200, 201, 315, 316, 317, 318, 319, 320, 321, 88, 322, 323, 324, 325, 326, 327, 328, 329, 90, 87, 330, 331, 332, 31, 333, 95, 334, 335, 336, 337, 96, 97, 338, 339, 340, 341, 342, 343, 344, 345, 346, 347, 348, 349, 350, 351, 352, 353, 354, 355, 356, 357, 358, 359, 360, 361, 362, 363, 364, 365, 366, 367, 368, 369, 203, 204, 370, 371, 372, 373, 374, 156, 157, 158, 159, 160, 41, 161, 45, 162, 163, 164, 44, 165, 166, 167, 121, 126, 127, 129, 65, 66, 67, 757, 758, 759, 760, 761, 762, 763, 764, 765, 766, 767, 768, 769, 770, 771, 793, 794, 795, 796, 797, 798, 799, 800, 801, 802, 803, 804, 805, 806, 807, 808, 809, 810, 772, 773, 774, 775, 776, 777, 778, 779, 780, 781, 782, 819, 820, 821, 822, 823, 824, 825, 826, 827, 828, 829, 830, 831] rfl (by decide +kernel)) (goodIn_sub (fun _ h => List.mem_append_left _ (List.mem_append_right _ h)) (by decide +kernel))
set_option maxRecDepth 20000 in
theorem gL_law_X8_plan : GoodIn wsL_law (wsV RL 85 RX8 yX8_plan wsX8_plan) := goodIn_app (goodIn_of _ (by decide +kernel)) ggL_law_X8_plan
theorem dL_law_50 : decode cL_law 50 = .ok (.istore 4, 2) := by decide +kernel
theorem dL_law_52 : decode cL_law 52 = .ok (.iload 4, 2) := by decide +kernel
theorem dL_law_54 : decode cL_law 54 = .ok (.ifCond .lt 20, 3) := by decide +kernel
theorem dL_law_57 : decode cL_law 57 = .ok (.aload_n 1, 1) := by decide +kernel
theorem dL_law_58 : decode cL_law 58 = .ok (.iload_n 2, 1) := by decide +kernel
theorem dL_law_59 : decode cL_law 59 = .ok (.invokestatic 88, 3) := by decide +kernel
set_option maxRecDepth 20000 in
theorem ggL_law_L_isPlanSound : GoodIn wsL_law wsL_isPlanSound := goodIn_ca (goodIn_ca (goodIn_r _ [377, 378, 379, 380, 2, 381, 267, 268, 178, 32, 382, 383, 384, 385, 386, 176, 177, 155, 387, 388, 389, 390, 13, 391, 269, 270, 271, 272, 392, 393, 394, 395, 396, 397, 398, 399, 400, 401, 402, 403, 404, 405, 406, 407, 408, 409, 410, 411, 412, 413, 414, 415, 416, 417, 418, 419, 420, 10, 180, 421, 422, 423, 424, 425, 426, 427, 428, 182, 429, 430, 431, 432, 179, 757, 758, 759, 760, 761, 762, 763, 764, 765, 766, 767, 768, 769, 770, 771, 807, 808, 809, 810, 772, 773, 774, 775, 776, 777, 778, 779, 780, 781, 782] rfl (by decide +kernel)) (goodIn_sub (fun _ h => List.mem_append_right _ h) (by decide +kernel))) (goodIn_sub (fun _ h => List.mem_append_left _ (List.mem_append_right _ h)) (by decide +kernel))
set_option maxRecDepth 20000 in
theorem gL_law_L_isPlanSound : GoodIn wsL_law (va_wsS RL 88 yL_isPlanSound wsL_isPlanSound) := goodIn_app (goodIn_of _ (by decide +kernel)) ggL_law_L_isPlanSound
theorem dL_law_62 : decode cL_law 62 = .ok (.ifCond .eq 12, 3) := by decide +kernel
theorem dL_law_65 : decode cL_law 65 = .ok (.iload 4, 2) := by decide +kernel
theorem dL_law_67 : decode cL_law 67 = .ok (.aload_n 1, 1) := by decide +kernel
theorem dL_law_68 : decode cL_law 68 = .ok (.invokevirtual 92, 3) := by decide +kernel
set_option maxRecDepth 20000 in
theorem ggL_law_X8_delayByNumbers : GoodIn wsL_law wsX8_delayByNumbers := goodIn_ca (goodIn_r _ [436, 28, 13, 178, 10, 11, 291, 292, 293, 2, 294, 176, 177, 295, 296, 297, 27, 298, 299, 300, 301, 81, 302, 82, 303, 83, 304, 84, 305, 85, 306, 437, 438, 439, 440, 315, 316, 317, 318, 338, 339, 340, 341, 87, 342, 343, 344, 88, 345, 346, 347, 348, 349, 350, 351, 352, 353, 354, 355, 356, 357, 358, 359, 360, 361, 362, 363, 364, 365, 366, 367, 368, 311, 369, 203, 200, 204, 370, 371, 372, 373, 757, 758, 759, 760, 761, 762, 763, 764, 765, 766, 767, 768, 769, 770, 771, 793, 794, 795, 796, 797, 798, 799, 800, 801, 802, 803, 804, 805, 806, 772, 773, 774, 775, 776, 777, 778, 779, 780, 781, 782, 807, 808, 809, 810] rfl (by decide +kernel)) (goodIn_sub (fun _ h => List.mem_append_left _ (List.mem_append_right _ h)) (by decide +kernel))
set_option maxRecDepth 20000 in
theorem gL_law_X8_delayByNumbers : GoodIn wsL_law (wsV RL 92 RX8 yX8_delayByNumbers wsX8_delayByNumbers) := goodIn_app (goodIn_of _ (by decide +kernel)) ggL_law_X8_delayByNumbers
theorem dL_law_71 : decode cL_law 71 = .ok (.if_icmp .le 5, 3) := by decide +kernel
set_option maxHeartbeats 16000000 in
set_option maxRecDepth 100000 in
theorem law_entry {p : Program} {l : Launch} {e : Env} {s : State} {m : MethodId} {below : List Frame} {meth : Method} {c : Code} {g : xG} {sb Ls : Nat} {xs : Nat → Int32} {Q : State → Prop} (hx : p.tables.exec = Jvm.exec) (hb : c.code = cL_law) (hml : c.maxLocals = 14) (hown : s.vm.findClass RL = some m.cls) (hts : ∀ w ∈ wsL_law, w.before #[Value.ref sb] s = true) (hX0 : va_X sb Ls xs s s.heap) (hL : Ls ≤ 260) (hbl : sb < s.heap.size) (hK : va_K (xD g) vwCl (xT g) s) (hO : xO s) (Kend : ∀ (H : Heap) (locs : List Loc) (ls : Array Slot), va_S (fun q : Nat => s.heap.size ≤ q) s.heap H locs → W p l e room_1 s m #[Value.ref sb] below meth c H locs 200 3000 Q (F0 m 563 ls [.int 1])) : W p l e room_1 s m #[Value.ref sb] below meth c s.heap [] 0 0 Q (entryFrame m ([Value.ref sb] : List Value).toArray 14) := by
  have hA : ∀ q : Nat, s.heap.size ≤ q → (fun q : Nat => s.heap.size ≤ q) q := fun _ h => h
  have hbA : ¬ (fun q : Nat => s.heap.size ≤ q) sb := Nat.not_le.mpr hbl
  have hS : va_S (fun q : Nat => s.heap.size ≤ q) s.heap s.heap [] := va_S.rf
  have hP : va_P (xD g) vwCl [] s.heap := fun k q h => by simp at h
  have hD : va_D (fun q : Nat => s.heap.size ≤ q) [] := ⟨fun i j p q h => by simp at h, fun k q h => by simp at h⟩
  generalize hAe : (fun q : Nat => s.heap.size ≤ q) = A at hD hS hA hbA Kend
  have hX : xS sb Ls xs A s := ⟨hX0, hbl, hbA⟩
  have hl := lv_entry ([.ref sb]) (n := 14) (Nat.le_of_ble_eq_true rfl)
  rw [lg_entry_eq]
  generalize (lg_sl ([.ref sb]) ++ List.replicate (14 - (lg_sl ([.ref sb])).length) Slot.unset).toArray = ls at hl ⊢
  have hl : lv_has ls 14 [(0, .ref sb)] := hl
  have hFX8 : ∀ w ∈ u_ws RX8 TX8 15, w ∈ wsL_law := inlX8
  refine va_new (ci := 8) (fs := [.int 0, .int 0, .int 0, .null, .null, .null, .null, .null, .null, .null, .int 0, .null, .null, .null, .null]) (C := RX8) (T := TX8) (N := 15) hx hb hts hFX8 tyX8 tyX8_ok hown (hts (.classLink RL 20 RX8) (by decide +kernel)) (hts (.instantiable RX8 15) (by decide +kernel)) (hts (.initialized RX8) (by decide +kernel)) hK hP hD hS hA rfl (fun j hj => by rcases (show j = 0 ∨ j = 1 ∨ j = 2 ∨ j = 3 ∨ j = 4 ∨ j = 5 ∨ j = 6 ∨ j = 7 ∨ j = 8 ∨ j = 9 ∨ j = 10 ∨ j = 11 ∨ j = 12 ∨ j = 13 ∨ j = 14 by omega) with rfl | rfl | rfl | rfl | rfl | rfl | rfl | rfl | rfl | rfl | rfl | rfl | rfl | rfl | rfl <;> rfl) (Nat.le_of_ble_eq_true rfl) (Nat.le_of_ble_eq_true rfl) dL_law_0 (fun q_1 H hP hD hS => ?_)
  refine W.widen (k := 1) (n := 15) (by omega) (by omega) ?_
  have hP : va_P (xD g) vwCl [(q_1, .inr (8, [.int 0, .int 0, .int 0, .null, .null, .null, .null, .null, .null, .null, .int 0, .null, .null, .null, .null]))] H := hP
  have hD : va_D A [(q_1, .inr (8, [.int 0, .int 0, .int 0, .null, .null, .null, .null, .null, .null, .null, .int 0, .null, .null, .null, .null]))] := hD
  refine lv_dup hx hb dL_law_3 rfl ?_
  have hPc := hP.sub (ws' := [(q_1, .inr (8, [.int 0, .int 0, .int 0, .null, .null, .null, .null, .null, .null, .null, .int 0, .null, .null, .null, .null]))]) [0] rfl
  have hDc := hD.sub (ws' := [(q_1, .inr (8, [.int 0, .int 0, .int 0, .null, .null, .null, .null, .null, .null, .null, .int 0, .null, .null, .null, .null]))]) [0] (by decide) rfl
  have hFc := va_free (wc := [(q_1, .inr (8, [.int 0, .int 0, .int 0, .null, .null, .null, .null, .null, .null, .null, .int 0, .null, .null, .null, .null]))]) hD hS hA [0] rfl
  refine va_callv (va_runI (As := []) (rest := [.ref q_1]) ⟨hx, hb, hml, hown, hts⟩ (i_X8 l g H.size q_1) (cwI 0 hts ggL_law_X8_init rfl rfl rfl (hts (.initialized RX8) (by decide +kernel)) (hts (.methodLink RL 80 yX8_init) (by decide +kernel)) (hts (.instanceMethod yX8_init) (by decide +kernel)) rfl (by decide +kernel) ⟨Nat.le_of_ble_eq_true rfl, Nat.le_of_ble_eq_true rfl⟩) ⟨xBO.blind, fun U9 hU9 hW9 => ⟨rfl, xB.mk hPc hK hDc hU9 hW9, hO.warm hW9⟩⟩ rfl rfl hl.1 rfl (lv_room (Nat.le_of_ble_eq_true rfl)) dL_law_4 ⟨Nat.le_of_ble_eq_true rfl, Nat.le_of_ble_eq_true rfl⟩) hS (fun q _ h => hFc q h) hFc (fun _ t H1 locs ht hvm hw_3 hB hz1 hk1 hS => ?_)
  obtain ⟨fl_4, vr_5, wb_6, fr_7, bg_8, ca_9, cv_10, cb_11, ce_12, cw__13, ci__14, rm_15, cw_16, lo__17, bc_18, ii_19, wl_20, lr_21, bp_22, ar_23, ha_24, ba_25, rk_26, wa_27, tr_28, un_29, ip_30, bn_31, to__32, ts_33, tp_34, bo_35, bs_36, bq_37, pn_38, po_39, ps_40, pp_41, sg_42, co_43, ro_44, us_45, sl_46, wc_47, nx_48, pu_49, cr_50, gv_51, ag_52, ky_53, ya_54, li_55, he_56, so_57, we_58, le_59, sa_60, so2_61, wn_62, rr_63, tb_64, tl_65, th_66, to2_67, tw_68, te_69, ta_70, t2_71, tn_72, trr_73, hP1, hK1, hD1⟩ := hB
  rw [ht] at hP1
  obtain ⟨hP, hD⟩ := va_join (wr := []) (w1 := ([(q_1, .inr (8, [.int 20, .int 3, .int 0, .ref fl_4, .ref ca_9, .ref rm_15, .ref cw_16, .ref bp_22, .ref pn_38, .ref sg_42, .int 0, .ref gv_51, .ref ag_52, .ref ya_54, .ref tb_64])), (fl_4, .inl (xV g, 6, .inr (.inr (.inr (.inr (fun i => if i < 6 then some (vr_5 i) else none))))))] ++ (xR 6 (fun i => (vr_5 i, .inr (6, [.int (iI ((fun (_ : Nat) => (0 : Int)) i)), .int (nI ((fun (_ : Nat) => (0 : Nat)) i)), .int (iI ((fun (_ : Nat) => (0 : Int)) i)), .int (nI ((fun (_ : Nat) => (0 : Nat)) i)), .int (nI ((fun (_ : Nat) => (0 : Nat)) i)), .int (iI ((fun (_ : Nat) => (0 : Int)) i)), .int (iI ((fun (_ : Nat) => (0 : Int)) i)), .int (iI ((fun (_ : Nat) => (0 : Int)) i)), .ref (wb_6 i), .ref (fr_7 i), .ref (bg_8 i)]))) ++ (xRI (xI g) 6 10 wb_6 (fun (_ _ : Nat) => (0 : Int)) ++ (xRN (xI g) 6 4 fr_7 (fun (_ _ : Nat) => (0 : Nat)) ++ (xRI (xI g) 6 10 bg_8 (fun (_ _ : Nat) => (0 : Int)) ++ ([(ca_9, .inr (2, [.int 0, .ref cv_10, .ref cb_11, .ref ce_12, .ref cw__13, .ref ci__14])), (cv_10, .inl (xI g, 24, .inl (fun j => nI ((fun (_ : Nat) => (0 : Nat)) j)))), (cb_11, .inl (xI g, 24, .inl (fun j => nI ((fun (_ : Nat) => (0 : Nat)) j)))), (ce_12, .inl (xZ g, 24, .inl (fun j => iI ((fun (_ : Nat) => (0 : Int)) j)))), (cw__13, .inl (xI g, 24, .inl (fun j => iI ((fun (_ : Nat) => (0 : Int)) j)))), (ci__14, .inl (xI g, 24, .inl (fun j => iI ((fun (_ : Nat) => (0 : Int)) j)))), (rm_15, .inl (xI g, 16, .inl (fun j => iI ((fun (_ : Nat) => (2 : Int)) j)))), (cw_16, .inr (3, [.ref lo__17, .ref bc_18, .ref ii_19, .ref wl_20])), (lo__17, .inl (xM g, 5, .inr (.inr (.inr (.inr (fun i => if i < 5 then some (lr_21 i) else none))))))] ++ (xRI (xI g) 5 11 lr_21 (fun (_ _ : Nat) => (0 : Int)) ++ ([(bc_18, .inl (xI g, 4, .inl (fun j => nI ((fun (_ : Nat) => (0 : Nat)) j)))), (ii_19, .inl (xZ g, 4, .inl (fun j => iI ((fun (_ : Nat) => (0 : Int)) j)))), (wl_20, .inl (xI g, 4, .inl (fun j => iI ((fun (_ : Nat) => (0 : Int)) j)))), (bp_22, .inr (1, [.int 0, .int 0, .int 0, .ref ar_23, .ref ha_24, .ref ba_25, .ref rk_26, .ref wa_27, .ref tr_28, .ref un_29, .ref ip_30, .ref bn_31, .int 0, .int 0])), (ar_23, .inl (xI g, 6, .inl (fun j => iI ((fun (_ : Nat) => (0 : Int)) j)))), (ha_24, .inl (xI g, 6, .inl (fun j => iI ((fun (_ : Nat) => (0 : Int)) j)))), (ba_25, .inl (xI g, 6, .inl (fun j => iI ((fun (_ : Nat) => (0 : Int)) j)))), (rk_26, .inl (xI g, 6, .inl (fun j => iI ((fun (_ : Nat) => (0 : Int)) j)))), (wa_27, .inl (xI g, 6, .inl (fun j => iI ((fun (_ : Nat) => (0 : Int)) j)))), (tr_28, .inr (4, [.int 0, .ref to__32, .ref ts_33, .ref tp_34])), (to__32, .inl (xI g, 6, .inl (fun j => nI ((fun (_ : Nat) => (0 : Nat)) j)))), (ts_33, .inl (xI g, 6, .inl (fun j => iI ((fun (_ : Nat) => (0 : Int)) j)))), (tp_34, .inl (xI g, 6, .inl (fun j => iI ((fun (_ : Nat) => (0 : Int)) j)))), (un_29, .inl (xI g, 6, .inl (fun j => iI ((fun (_ : Nat) => (0 : Int)) j)))), (ip_30, .inl (xZ g, 6, .inl (fun j => iI ((fun (_ : Nat) => (0 : Int)) j)))), (bn_31, .inr (4, [.int 0, .ref bo_35, .ref bs_36, .ref bq_37])), (bo_35, .inl (xI g, 6, .inl (fun j => nI ((fun (_ : Nat) => (0 : Nat)) j)))), (bs_36, .inl (xI g, 6, .inl (fun j => iI ((fun (_ : Nat) => (0 : Int)) j)))), (bq_37, .inl (xI g, 6, .inl (fun j => iI ((fun (_ : Nat) => (0 : Int)) j)))), (pn_38, .inr (4, [.int 0, .ref po_39, .ref ps_40, .ref pp_41])), (po_39, .inl (xI g, 6, .inl (fun j => nI ((fun (_ : Nat) => (0 : Nat)) j)))), (ps_40, .inl (xI g, 6, .inl (fun j => iI ((fun (_ : Nat) => (0 : Int)) j)))), (pp_41, .inl (xI g, 6, .inl (fun j => iI ((fun (_ : Nat) => (0 : Int)) j)))), (sg_42, .inr (5, [.int 0, .ref co_43, .ref ro_44, .ref us_45, .ref sl_46, .ref wc_47, .ref nx_48, .ref pu_49])), (co_43, .inl (xM g, 24, .inr (.inr (.inr (.inr (fun i => if i < 24 then some (cr_50 i) else none))))))] ++ (xRI (xI g) 24 17 cr_50 (fun (_ _ : Nat) => (0 : Int)) ++ ([(ro_44, .inl (xI g, 17, .inl (fun j => iI ((zU (fun (_ : Nat) => (0 : Int)) 16 24) j)))), (us_45, .inl (xI g, 17, .inl (fun j => iI ((fun (_ : Nat) => (0 : Int)) j)))), (sl_46, .inl (xI g, 24, .inl (fun j => nI ((fun (_ : Nat) => (0 : Nat)) j)))), (wc_47, .inl (xI g, 18, .inl (fun j => iI ((fun (_ : Nat) => (0 : Int)) j)))), (nx_48, .inl (xI g, 18, .inl (fun j => nI ((fun (_ : Nat) => (0 : Nat)) j)))), (pu_49, .inl (xI g, 18, .inl (fun j => iI ((fun (_ : Nat) => (0 : Int)) j)))), (gv_51, .inl (xI g, 24, .inl (fun j => nI ((fun (_ : Nat) => (0 : Nat)) j)))), (ag_52, .inr (0, [.int 0, .ref ky_53])), (ky_53, .inl (xI g, 48, .inl (fun j => nI ((fun (_ : Nat) => (0 : Nat)) j)))), (ya_54, .inr (7, [.int 0, .int 0, .int 0, .ref li_55, .ref he_56, .ref so_57, .ref we_58, .ref le_59, .ref sa_60, .ref so2_61, .ref wn_62])), (li_55, .inl (xI g, 12, .inl (fun j => nI ((fun (_ : Nat) => (0 : Nat)) j)))), (he_56, .inl (xI g, 12, .inl (fun j => nI ((fun (_ : Nat) => (0 : Nat)) j)))), (so_57, .inl (xM g, 12, .inr (.inr (.inr (.inr (fun i => if i < 12 then some (rr_63 i) else none))))))] ++ (xRN (xI g) 12 5 rr_63 (fun (_ _ : Nat) => (0 : Nat)) ++ ([(we_58, .inl (xI g, 24, .inl (fun j => iI ((fun (_ : Nat) => (0 : Int)) j)))), (le_59, .inl (xI g, 24, .inl (fun j => iI ((fun (_ : Nat) => (0 : Int)) j)))), (sa_60, .inl (xI g, 24, .inl (fun j => iI ((fun (_ : Nat) => (0 : Int)) j)))), (so2_61, .inl (xI g, 24, .inl (fun j => iI ((fun (_ : Nat) => (-1 : Int)) j)))), (wn_62, .inl (xI g, 5, .inl (fun j => nI ((fun (_ : Nat) => (0 : Nat)) j)))), (tb_64, .inr (7, [.int 0, .int 0, .int 0, .ref tl_65, .ref th_66, .ref to2_67, .ref tw_68, .ref te_69, .ref ta_70, .ref t2_71, .ref tn_72])), (tl_65, .inl (xI g, 12, .inl (fun j => nI ((fun (_ : Nat) => (0 : Nat)) j)))), (th_66, .inl (xI g, 12, .inl (fun j => nI ((fun (_ : Nat) => (0 : Nat)) j)))), (to2_67, .inl (xM g, 12, .inr (.inr (.inr (.inr (fun i => if i < 12 then some (trr_73 i) else none))))))] ++ (xRN (xI g) 12 5 trr_73 (fun (_ _ : Nat) => (0 : Nat)) ++ [(tw_68, .inl (xI g, 24, .inl (fun j => iI ((fun (_ : Nat) => (0 : Int)) j)))), (te_69, .inl (xI g, 24, .inl (fun j => iI ((fun (_ : Nat) => (0 : Int)) j)))), (ta_70, .inl (xI g, 24, .inl (fun j => iI ((fun (_ : Nat) => (0 : Int)) j)))), (t2_71, .inl (xI g, 24, .inl (fun j => iI ((fun (_ : Nat) => (-1 : Int)) j)))), (tn_72, .inl (xI g, 5, .inl (fun j => nI ((fun (_ : Nat) => (0 : Nat)) j))))])))))))))))))) hP hD [0] [] rfl rfl (by decide) (by decide) hk1 hFc hP1 hD1
  generalize H1 = H at hP hS ⊢
  have hP : va_P (xD g) vwCl ([(q_1, .inr (8, [.int 20, .int 3, .int 0, .ref fl_4, .ref ca_9, .ref rm_15, .ref cw_16, .ref bp_22, .ref pn_38, .ref sg_42, .int 0, .ref gv_51, .ref ag_52, .ref ya_54, .ref tb_64])), (fl_4, .inl (xV g, 6, .inr (.inr (.inr (.inr (fun i => if i < 6 then some (vr_5 i) else none))))))] ++ (xR 6 (fun i => (vr_5 i, .inr (6, [.int (iI ((fun (_ : Nat) => (0 : Int)) i)), .int (nI ((fun (_ : Nat) => (0 : Nat)) i)), .int (iI ((fun (_ : Nat) => (0 : Int)) i)), .int (nI ((fun (_ : Nat) => (0 : Nat)) i)), .int (nI ((fun (_ : Nat) => (0 : Nat)) i)), .int (iI ((fun (_ : Nat) => (0 : Int)) i)), .int (iI ((fun (_ : Nat) => (0 : Int)) i)), .int (iI ((fun (_ : Nat) => (0 : Int)) i)), .ref (wb_6 i), .ref (fr_7 i), .ref (bg_8 i)]))) ++ (xRI (xI g) 6 10 wb_6 (fun (_ _ : Nat) => (0 : Int)) ++ (xRN (xI g) 6 4 fr_7 (fun (_ _ : Nat) => (0 : Nat)) ++ (xRI (xI g) 6 10 bg_8 (fun (_ _ : Nat) => (0 : Int)) ++ ([(ca_9, .inr (2, [.int 0, .ref cv_10, .ref cb_11, .ref ce_12, .ref cw__13, .ref ci__14])), (cv_10, .inl (xI g, 24, .inl (fun j => nI ((fun (_ : Nat) => (0 : Nat)) j)))), (cb_11, .inl (xI g, 24, .inl (fun j => nI ((fun (_ : Nat) => (0 : Nat)) j)))), (ce_12, .inl (xZ g, 24, .inl (fun j => iI ((fun (_ : Nat) => (0 : Int)) j)))), (cw__13, .inl (xI g, 24, .inl (fun j => iI ((fun (_ : Nat) => (0 : Int)) j)))), (ci__14, .inl (xI g, 24, .inl (fun j => iI ((fun (_ : Nat) => (0 : Int)) j)))), (rm_15, .inl (xI g, 16, .inl (fun j => iI ((fun (_ : Nat) => (2 : Int)) j)))), (cw_16, .inr (3, [.ref lo__17, .ref bc_18, .ref ii_19, .ref wl_20])), (lo__17, .inl (xM g, 5, .inr (.inr (.inr (.inr (fun i => if i < 5 then some (lr_21 i) else none))))))] ++ (xRI (xI g) 5 11 lr_21 (fun (_ _ : Nat) => (0 : Int)) ++ ([(bc_18, .inl (xI g, 4, .inl (fun j => nI ((fun (_ : Nat) => (0 : Nat)) j)))), (ii_19, .inl (xZ g, 4, .inl (fun j => iI ((fun (_ : Nat) => (0 : Int)) j)))), (wl_20, .inl (xI g, 4, .inl (fun j => iI ((fun (_ : Nat) => (0 : Int)) j)))), (bp_22, .inr (1, [.int 0, .int 0, .int 0, .ref ar_23, .ref ha_24, .ref ba_25, .ref rk_26, .ref wa_27, .ref tr_28, .ref un_29, .ref ip_30, .ref bn_31, .int 0, .int 0])), (ar_23, .inl (xI g, 6, .inl (fun j => iI ((fun (_ : Nat) => (0 : Int)) j)))), (ha_24, .inl (xI g, 6, .inl (fun j => iI ((fun (_ : Nat) => (0 : Int)) j)))), (ba_25, .inl (xI g, 6, .inl (fun j => iI ((fun (_ : Nat) => (0 : Int)) j)))), (rk_26, .inl (xI g, 6, .inl (fun j => iI ((fun (_ : Nat) => (0 : Int)) j)))), (wa_27, .inl (xI g, 6, .inl (fun j => iI ((fun (_ : Nat) => (0 : Int)) j)))), (tr_28, .inr (4, [.int 0, .ref to__32, .ref ts_33, .ref tp_34])), (to__32, .inl (xI g, 6, .inl (fun j => nI ((fun (_ : Nat) => (0 : Nat)) j)))), (ts_33, .inl (xI g, 6, .inl (fun j => iI ((fun (_ : Nat) => (0 : Int)) j)))), (tp_34, .inl (xI g, 6, .inl (fun j => iI ((fun (_ : Nat) => (0 : Int)) j)))), (un_29, .inl (xI g, 6, .inl (fun j => iI ((fun (_ : Nat) => (0 : Int)) j)))), (ip_30, .inl (xZ g, 6, .inl (fun j => iI ((fun (_ : Nat) => (0 : Int)) j)))), (bn_31, .inr (4, [.int 0, .ref bo_35, .ref bs_36, .ref bq_37])), (bo_35, .inl (xI g, 6, .inl (fun j => nI ((fun (_ : Nat) => (0 : Nat)) j)))), (bs_36, .inl (xI g, 6, .inl (fun j => iI ((fun (_ : Nat) => (0 : Int)) j)))), (bq_37, .inl (xI g, 6, .inl (fun j => iI ((fun (_ : Nat) => (0 : Int)) j)))), (pn_38, .inr (4, [.int 0, .ref po_39, .ref ps_40, .ref pp_41])), (po_39, .inl (xI g, 6, .inl (fun j => nI ((fun (_ : Nat) => (0 : Nat)) j)))), (ps_40, .inl (xI g, 6, .inl (fun j => iI ((fun (_ : Nat) => (0 : Int)) j)))), (pp_41, .inl (xI g, 6, .inl (fun j => iI ((fun (_ : Nat) => (0 : Int)) j)))), (sg_42, .inr (5, [.int 0, .ref co_43, .ref ro_44, .ref us_45, .ref sl_46, .ref wc_47, .ref nx_48, .ref pu_49])), (co_43, .inl (xM g, 24, .inr (.inr (.inr (.inr (fun i => if i < 24 then some (cr_50 i) else none))))))] ++ (xRI (xI g) 24 17 cr_50 (fun (_ _ : Nat) => (0 : Int)) ++ ([(ro_44, .inl (xI g, 17, .inl (fun j => iI ((zU (fun (_ : Nat) => (0 : Int)) 16 24) j)))), (us_45, .inl (xI g, 17, .inl (fun j => iI ((fun (_ : Nat) => (0 : Int)) j)))), (sl_46, .inl (xI g, 24, .inl (fun j => nI ((fun (_ : Nat) => (0 : Nat)) j)))), (wc_47, .inl (xI g, 18, .inl (fun j => iI ((fun (_ : Nat) => (0 : Int)) j)))), (nx_48, .inl (xI g, 18, .inl (fun j => nI ((fun (_ : Nat) => (0 : Nat)) j)))), (pu_49, .inl (xI g, 18, .inl (fun j => iI ((fun (_ : Nat) => (0 : Int)) j)))), (gv_51, .inl (xI g, 24, .inl (fun j => nI ((fun (_ : Nat) => (0 : Nat)) j)))), (ag_52, .inr (0, [.int 0, .ref ky_53])), (ky_53, .inl (xI g, 48, .inl (fun j => nI ((fun (_ : Nat) => (0 : Nat)) j)))), (ya_54, .inr (7, [.int 0, .int 0, .int 0, .ref li_55, .ref he_56, .ref so_57, .ref we_58, .ref le_59, .ref sa_60, .ref so2_61, .ref wn_62])), (li_55, .inl (xI g, 12, .inl (fun j => nI ((fun (_ : Nat) => (0 : Nat)) j)))), (he_56, .inl (xI g, 12, .inl (fun j => nI ((fun (_ : Nat) => (0 : Nat)) j)))), (so_57, .inl (xM g, 12, .inr (.inr (.inr (.inr (fun i => if i < 12 then some (rr_63 i) else none))))))] ++ (xRN (xI g) 12 5 rr_63 (fun (_ _ : Nat) => (0 : Nat)) ++ ([(we_58, .inl (xI g, 24, .inl (fun j => iI ((fun (_ : Nat) => (0 : Int)) j)))), (le_59, .inl (xI g, 24, .inl (fun j => iI ((fun (_ : Nat) => (0 : Int)) j)))), (sa_60, .inl (xI g, 24, .inl (fun j => iI ((fun (_ : Nat) => (0 : Int)) j)))), (so2_61, .inl (xI g, 24, .inl (fun j => iI ((fun (_ : Nat) => (-1 : Int)) j)))), (wn_62, .inl (xI g, 5, .inl (fun j => nI ((fun (_ : Nat) => (0 : Nat)) j)))), (tb_64, .inr (7, [.int 0, .int 0, .int 0, .ref tl_65, .ref th_66, .ref to2_67, .ref tw_68, .ref te_69, .ref ta_70, .ref t2_71, .ref tn_72])), (tl_65, .inl (xI g, 12, .inl (fun j => nI ((fun (_ : Nat) => (0 : Nat)) j)))), (th_66, .inl (xI g, 12, .inl (fun j => nI ((fun (_ : Nat) => (0 : Nat)) j)))), (to2_67, .inl (xM g, 12, .inr (.inr (.inr (.inr (fun i => if i < 12 then some (trr_73 i) else none))))))] ++ (xRN (xI g) 12 5 trr_73 (fun (_ _ : Nat) => (0 : Nat)) ++ [(tw_68, .inl (xI g, 24, .inl (fun j => iI ((fun (_ : Nat) => (0 : Int)) j)))), (te_69, .inl (xI g, 24, .inl (fun j => iI ((fun (_ : Nat) => (0 : Int)) j)))), (ta_70, .inl (xI g, 24, .inl (fun j => iI ((fun (_ : Nat) => (0 : Int)) j)))), (t2_71, .inl (xI g, 24, .inl (fun j => iI ((fun (_ : Nat) => (-1 : Int)) j)))), (tn_72, .inl (xI g, 5, .inl (fun j => nI ((fun (_ : Nat) => (0 : Nat)) j))))]))))))))))))) H := hP
  have hD : va_D A ([(q_1, .inr (8, [.int 20, .int 3, .int 0, .ref fl_4, .ref ca_9, .ref rm_15, .ref cw_16, .ref bp_22, .ref pn_38, .ref sg_42, .int 0, .ref gv_51, .ref ag_52, .ref ya_54, .ref tb_64])), (fl_4, .inl (xV g, 6, .inr (.inr (.inr (.inr (fun i => if i < 6 then some (vr_5 i) else none))))))] ++ (xR 6 (fun i => (vr_5 i, .inr (6, [.int (iI ((fun (_ : Nat) => (0 : Int)) i)), .int (nI ((fun (_ : Nat) => (0 : Nat)) i)), .int (iI ((fun (_ : Nat) => (0 : Int)) i)), .int (nI ((fun (_ : Nat) => (0 : Nat)) i)), .int (nI ((fun (_ : Nat) => (0 : Nat)) i)), .int (iI ((fun (_ : Nat) => (0 : Int)) i)), .int (iI ((fun (_ : Nat) => (0 : Int)) i)), .int (iI ((fun (_ : Nat) => (0 : Int)) i)), .ref (wb_6 i), .ref (fr_7 i), .ref (bg_8 i)]))) ++ (xRI (xI g) 6 10 wb_6 (fun (_ _ : Nat) => (0 : Int)) ++ (xRN (xI g) 6 4 fr_7 (fun (_ _ : Nat) => (0 : Nat)) ++ (xRI (xI g) 6 10 bg_8 (fun (_ _ : Nat) => (0 : Int)) ++ ([(ca_9, .inr (2, [.int 0, .ref cv_10, .ref cb_11, .ref ce_12, .ref cw__13, .ref ci__14])), (cv_10, .inl (xI g, 24, .inl (fun j => nI ((fun (_ : Nat) => (0 : Nat)) j)))), (cb_11, .inl (xI g, 24, .inl (fun j => nI ((fun (_ : Nat) => (0 : Nat)) j)))), (ce_12, .inl (xZ g, 24, .inl (fun j => iI ((fun (_ : Nat) => (0 : Int)) j)))), (cw__13, .inl (xI g, 24, .inl (fun j => iI ((fun (_ : Nat) => (0 : Int)) j)))), (ci__14, .inl (xI g, 24, .inl (fun j => iI ((fun (_ : Nat) => (0 : Int)) j)))), (rm_15, .inl (xI g, 16, .inl (fun j => iI ((fun (_ : Nat) => (2 : Int)) j)))), (cw_16, .inr (3, [.ref lo__17, .ref bc_18, .ref ii_19, .ref wl_20])), (lo__17, .inl (xM g, 5, .inr (.inr (.inr (.inr (fun i => if i < 5 then some (lr_21 i) else none))))))] ++ (xRI (xI g) 5 11 lr_21 (fun (_ _ : Nat) => (0 : Int)) ++ ([(bc_18, .inl (xI g, 4, .inl (fun j => nI ((fun (_ : Nat) => (0 : Nat)) j)))), (ii_19, .inl (xZ g, 4, .inl (fun j => iI ((fun (_ : Nat) => (0 : Int)) j)))), (wl_20, .inl (xI g, 4, .inl (fun j => iI ((fun (_ : Nat) => (0 : Int)) j)))), (bp_22, .inr (1, [.int 0, .int 0, .int 0, .ref ar_23, .ref ha_24, .ref ba_25, .ref rk_26, .ref wa_27, .ref tr_28, .ref un_29, .ref ip_30, .ref bn_31, .int 0, .int 0])), (ar_23, .inl (xI g, 6, .inl (fun j => iI ((fun (_ : Nat) => (0 : Int)) j)))), (ha_24, .inl (xI g, 6, .inl (fun j => iI ((fun (_ : Nat) => (0 : Int)) j)))), (ba_25, .inl (xI g, 6, .inl (fun j => iI ((fun (_ : Nat) => (0 : Int)) j)))), (rk_26, .inl (xI g, 6, .inl (fun j => iI ((fun (_ : Nat) => (0 : Int)) j)))), (wa_27, .inl (xI g, 6, .inl (fun j => iI ((fun (_ : Nat) => (0 : Int)) j)))), (tr_28, .inr (4, [.int 0, .ref to__32, .ref ts_33, .ref tp_34])), (to__32, .inl (xI g, 6, .inl (fun j => nI ((fun (_ : Nat) => (0 : Nat)) j)))), (ts_33, .inl (xI g, 6, .inl (fun j => iI ((fun (_ : Nat) => (0 : Int)) j)))), (tp_34, .inl (xI g, 6, .inl (fun j => iI ((fun (_ : Nat) => (0 : Int)) j)))), (un_29, .inl (xI g, 6, .inl (fun j => iI ((fun (_ : Nat) => (0 : Int)) j)))), (ip_30, .inl (xZ g, 6, .inl (fun j => iI ((fun (_ : Nat) => (0 : Int)) j)))), (bn_31, .inr (4, [.int 0, .ref bo_35, .ref bs_36, .ref bq_37])), (bo_35, .inl (xI g, 6, .inl (fun j => nI ((fun (_ : Nat) => (0 : Nat)) j)))), (bs_36, .inl (xI g, 6, .inl (fun j => iI ((fun (_ : Nat) => (0 : Int)) j)))), (bq_37, .inl (xI g, 6, .inl (fun j => iI ((fun (_ : Nat) => (0 : Int)) j)))), (pn_38, .inr (4, [.int 0, .ref po_39, .ref ps_40, .ref pp_41])), (po_39, .inl (xI g, 6, .inl (fun j => nI ((fun (_ : Nat) => (0 : Nat)) j)))), (ps_40, .inl (xI g, 6, .inl (fun j => iI ((fun (_ : Nat) => (0 : Int)) j)))), (pp_41, .inl (xI g, 6, .inl (fun j => iI ((fun (_ : Nat) => (0 : Int)) j)))), (sg_42, .inr (5, [.int 0, .ref co_43, .ref ro_44, .ref us_45, .ref sl_46, .ref wc_47, .ref nx_48, .ref pu_49])), (co_43, .inl (xM g, 24, .inr (.inr (.inr (.inr (fun i => if i < 24 then some (cr_50 i) else none))))))] ++ (xRI (xI g) 24 17 cr_50 (fun (_ _ : Nat) => (0 : Int)) ++ ([(ro_44, .inl (xI g, 17, .inl (fun j => iI ((zU (fun (_ : Nat) => (0 : Int)) 16 24) j)))), (us_45, .inl (xI g, 17, .inl (fun j => iI ((fun (_ : Nat) => (0 : Int)) j)))), (sl_46, .inl (xI g, 24, .inl (fun j => nI ((fun (_ : Nat) => (0 : Nat)) j)))), (wc_47, .inl (xI g, 18, .inl (fun j => iI ((fun (_ : Nat) => (0 : Int)) j)))), (nx_48, .inl (xI g, 18, .inl (fun j => nI ((fun (_ : Nat) => (0 : Nat)) j)))), (pu_49, .inl (xI g, 18, .inl (fun j => iI ((fun (_ : Nat) => (0 : Int)) j)))), (gv_51, .inl (xI g, 24, .inl (fun j => nI ((fun (_ : Nat) => (0 : Nat)) j)))), (ag_52, .inr (0, [.int 0, .ref ky_53])), (ky_53, .inl (xI g, 48, .inl (fun j => nI ((fun (_ : Nat) => (0 : Nat)) j)))), (ya_54, .inr (7, [.int 0, .int 0, .int 0, .ref li_55, .ref he_56, .ref so_57, .ref we_58, .ref le_59, .ref sa_60, .ref so2_61, .ref wn_62])), (li_55, .inl (xI g, 12, .inl (fun j => nI ((fun (_ : Nat) => (0 : Nat)) j)))), (he_56, .inl (xI g, 12, .inl (fun j => nI ((fun (_ : Nat) => (0 : Nat)) j)))), (so_57, .inl (xM g, 12, .inr (.inr (.inr (.inr (fun i => if i < 12 then some (rr_63 i) else none))))))] ++ (xRN (xI g) 12 5 rr_63 (fun (_ _ : Nat) => (0 : Nat)) ++ ([(we_58, .inl (xI g, 24, .inl (fun j => iI ((fun (_ : Nat) => (0 : Int)) j)))), (le_59, .inl (xI g, 24, .inl (fun j => iI ((fun (_ : Nat) => (0 : Int)) j)))), (sa_60, .inl (xI g, 24, .inl (fun j => iI ((fun (_ : Nat) => (0 : Int)) j)))), (so2_61, .inl (xI g, 24, .inl (fun j => iI ((fun (_ : Nat) => (-1 : Int)) j)))), (wn_62, .inl (xI g, 5, .inl (fun j => nI ((fun (_ : Nat) => (0 : Nat)) j)))), (tb_64, .inr (7, [.int 0, .int 0, .int 0, .ref tl_65, .ref th_66, .ref to2_67, .ref tw_68, .ref te_69, .ref ta_70, .ref t2_71, .ref tn_72])), (tl_65, .inl (xI g, 12, .inl (fun j => nI ((fun (_ : Nat) => (0 : Nat)) j)))), (th_66, .inl (xI g, 12, .inl (fun j => nI ((fun (_ : Nat) => (0 : Nat)) j)))), (to2_67, .inl (xM g, 12, .inr (.inr (.inr (.inr (fun i => if i < 12 then some (trr_73 i) else none))))))] ++ (xRN (xI g) 12 5 trr_73 (fun (_ _ : Nat) => (0 : Nat)) ++ [(tw_68, .inl (xI g, 24, .inl (fun j => iI ((fun (_ : Nat) => (0 : Int)) j)))), (te_69, .inl (xI g, 24, .inl (fun j => iI ((fun (_ : Nat) => (0 : Int)) j)))), (ta_70, .inl (xI g, 24, .inl (fun j => iI ((fun (_ : Nat) => (0 : Int)) j)))), (t2_71, .inl (xI g, 24, .inl (fun j => iI ((fun (_ : Nat) => (-1 : Int)) j)))), (tn_72, .inl (xI g, 5, .inl (fun j => nI ((fun (_ : Nat) => (0 : Nat)) j))))]))))))))))))) := hD
  refine W.widen (k := 140) (n := 1613) (by omega) (by omega) ?_
  try dsimp only at hw_3
  obtain ⟨ad, ead⟩ : ∃ y, y = xTab [q_1, fl_4, ca_9, cv_10, cb_11, ce_12, cw__13, ci__14, rm_15, cw_16, lo__17, bc_18, ii_19, wl_20, bp_22, ar_23, ha_24, ba_25, rk_26, wa_27, tr_28, to__32, ts_33, tp_34, un_29, ip_30, bn_31, bo_35, bs_36, bq_37, pn_38, po_39, ps_40, pp_41, sg_42, co_43, ro_44, us_45, sl_46, wc_47, nx_48, pu_49, gv_51, ag_52, ky_53, ya_54, li_55, he_56, so_57, we_58, le_59, sa_60, so2_61, wn_62, tb_64, tl_65, th_66, to2_67, tw_68, te_69, ta_70, t2_71, tn_72] := ⟨_, rfl⟩
  obtain ⟨ga, ega⟩ : ∃ y, y = xTabF [vr_5, wb_6, fr_7, bg_8, lr_21, cr_50, rr_63, trr_73] := ⟨_, rfl⟩
  replace hP : va_P (xD g) vwCl (SW g ad ga (.int 0) (.int 0) (20, 3, 0) v0aV v0aC v0aP v0aG v0aY v0aN v0aW v0aK v0aS v0aT) H := by rw [ead, ega]; exact hP
  replace hD : va_D A (SW g ad ga (.int 0) (.int 0) (20, 3, 0) v0aV v0aC v0aP v0aG v0aY v0aN v0aW v0aK v0aS v0aT) := by rw [ead, ega]; exact hD
  have eq0 : q_1 = ad 0 := by rw [ead]; rfl
  clear ead ega
  rw [eq0]
  have hInv := inv0
  refine lv_astore_n (lv' := [(1, .ref (ad 0)), (0, .ref sb)]) hx hb dL_law_7 rfl hl (by decide) rfl (fun ls hl => ?_)
  refine lv_iconst (v := 1) hx hb dL_law_8 (by decide) ?_
  refine lv_aload_n hx hb dL_law_9 rfl (lv_at hl 1 rfl) ?_
  refine lv_iconst (v := 0) hx hb dL_law_10 (by decide) ?_
  have hPc := hP.sub (ws' := []) [] rfl
  have hDc := hD.sub (ws' := []) [] (by decide) rfl
  have hFc := xFree hS hA
  refine va_calli (va_runS (As := [.ref sb, .int 0]) (rest := [.int 1]) ⟨hx, hb, hml, hown, hts⟩ (l_cell l g H.size sb Ls xs 0 (by first | assumption | omega) (by first | assumption | omega)) (va_cwS 2 hts gL_law_L_cell rfl rfl rfl (by decide +kernel) ⟨Nat.le_of_ble_eq_true rfl, Nat.le_of_ble_eq_true rfl⟩) ⟨xBS.blind, fun U9 hU9 hW9 => ⟨rfl, xB.mk hPc hK hDc hU9 hW9, hX.call hS hFc hU9 hW9⟩⟩ rfl rfl hl.1 rfl (lv_room (Nat.le_of_ble_eq_true rfl)) dL_law_11 ⟨Nat.le_of_ble_eq_true rfl, Nat.le_of_ble_eq_true rfl⟩) hS (fun q _ h => hFc q h) hFc (fun r_74 _ t H1 locs ht hvm hw_75 hB hz1 hk1 hS => ?_)
  have hP := xSame hP hk1
  generalize H1 = H at hP hS ⊢
  have hP : va_P (xD g) vwCl (SW g ad ga (.int 0) (.int 0) (20, 3, 0) v0aV v0aC v0aP v0aG v0aY v0aN v0aW v0aK v0aS v0aT) H := hP
  have hD : va_D A (SW g ad ga (.int 0) (.int 0) (20, 3, 0) v0aV v0aC v0aP v0aG v0aY v0aN v0aW v0aK v0aS v0aT) := hD
  try dsimp only at hw_75
  refine lv_bipush (v := 9) hx hb dL_law_14 (by decide) ?_
  refine lv_ishr hx hb dL_law_16 ?_
  refine lv_topi (fun x_76 ex_76 => ?_)
  refine lv_iconst (v := 4) hx hb dL_law_17 (by decide) ?_
  have hPc := hP.sub (ws' := []) [] rfl
  have hDc := hD.sub (ws' := []) [] (by decide) rfl
  have hFc := xFree hS hA
  refine va_calli (va_runS (As := [.int x_76, .int 4]) (rest := [.int 1]) ⟨hx, hb, hml, hown, hts⟩ (l_below l g H.size x_76 4 (by first | assumption | omega) (by first | assumption | omega)) (va_cwS 2 hts gL_law_L_below rfl rfl rfl (by decide +kernel) ⟨Nat.le_of_ble_eq_true rfl, Nat.le_of_ble_eq_true rfl⟩) ⟨xB.blind, fun U9 hU9 hW9 => ⟨rfl, xB.mk hPc hK hDc hU9 hW9⟩⟩ rfl rfl hl.1 rfl (lv_room (Nat.le_of_ble_eq_true rfl)) dL_law_18 ⟨Nat.le_of_ble_eq_true rfl, Nat.le_of_ble_eq_true rfl⟩) hS (fun q _ h => hFc q h) hFc (fun r_77 _ t H1 locs ht hvm hw_78 hB hz1 hk1 hS => ?_)
  have hP := xSame hP hk1
  generalize H1 = H at hP hS ⊢
  have hP : va_P (xD g) vwCl (SW g ad ga (.int 0) (.int 0) (20, 3, 0) v0aV v0aC v0aP v0aG v0aY v0aN v0aW v0aK v0aS v0aT) H := hP
  have hD : va_D A (SW g ad ga (.int 0) (.int 0) (20, 3, 0) v0aV v0aC v0aP v0aG v0aY v0aN v0aW v0aK v0aS v0aT) := hD
  try dsimp only at hw_78
  obtain ⟨k_79, hk_79, rfl⟩ := hw_78
  refine lv_iadd hx hb dL_law_21 ?_
  refine lv_topi (fun v_80 ev => ?_)
  obtain rfl : v_80 = nI (1 + k_79) := ev.trans (nI_add 1 k_79)
  refine lv_istore_n (lv' := [(2, .int (nI (1 + k_79))), (1, .ref (ad 0)), (0, .ref sb)]) hx hb dL_law_22 rfl hl (by decide) rfl (fun ls hl => ?_)
  refine lv_iconst (v := 2) hx hb dL_law_23 (by decide) ?_
  refine lv_aload_n hx hb dL_law_24 rfl (lv_at hl 2 rfl) ?_
  refine lv_bipush (v := 13) hx hb dL_law_25 (by decide) ?_
  have hPc := hP.sub (ws' := []) [] rfl
  have hDc := hD.sub (ws' := []) [] (by decide) rfl
  have hFc := xFree hS hA
  refine va_calli (va_runS (As := [.ref sb, .int 13]) (rest := [.int 2]) ⟨hx, hb, hml, hown, hts⟩ (l_cell l g H.size sb Ls xs 13 (by first | assumption | omega) (by first | assumption | omega)) (va_cwS 2 hts gL_law_L_cell rfl rfl rfl (by decide +kernel) ⟨Nat.le_of_ble_eq_true rfl, Nat.le_of_ble_eq_true rfl⟩) ⟨xBS.blind, fun U9 hU9 hW9 => ⟨rfl, xB.mk hPc hK hDc hU9 hW9, hX.call hS hFc hU9 hW9⟩⟩ rfl rfl hl.1 rfl (lv_room (Nat.le_of_ble_eq_true rfl)) dL_law_27 ⟨Nat.le_of_ble_eq_true rfl, Nat.le_of_ble_eq_true rfl⟩) hS (fun q _ h => hFc q h) hFc (fun r_81 _ t H1 locs ht hvm hw_82 hB hz1 hk1 hS => ?_)
  have hP := xSame hP hk1
  generalize H1 = H at hP hS ⊢
  have hP : va_P (xD g) vwCl (SW g ad ga (.int 0) (.int 0) (20, 3, 0) v0aV v0aC v0aP v0aG v0aY v0aN v0aW v0aK v0aS v0aT) H := hP
  have hD : va_D A (SW g ad ga (.int 0) (.int 0) (20, 3, 0) v0aV v0aC v0aP v0aG v0aY v0aN v0aW v0aK v0aS v0aT) := hD
  try dsimp only at hw_82
  refine lv_iconst (v := 4) hx hb dL_law_30 (by decide) ?_
  refine lv_ishr hx hb dL_law_31 ?_
  refine lv_topi (fun x_83 ex_83 => ?_)
  refine lv_bipush (v := 18) hx hb dL_law_32 (by decide) ?_
  have hPc := hP.sub (ws' := []) [] rfl
  have hDc := hD.sub (ws' := []) [] (by decide) rfl
  have hFc := xFree hS hA
  refine va_calli (va_runS (As := [.int x_83, .int 18]) (rest := [.int 2]) ⟨hx, hb, hml, hown, hts⟩ (l_below l g H.size x_83 18 (by first | assumption | omega) (by first | assumption | omega)) (va_cwS 2 hts gL_law_L_below rfl rfl rfl (by decide +kernel) ⟨Nat.le_of_ble_eq_true rfl, Nat.le_of_ble_eq_true rfl⟩) ⟨xB.blind, fun U9 hU9 hW9 => ⟨rfl, xB.mk hPc hK hDc hU9 hW9⟩⟩ rfl rfl hl.1 rfl (lv_room (Nat.le_of_ble_eq_true rfl)) dL_law_34 ⟨Nat.le_of_ble_eq_true rfl, Nat.le_of_ble_eq_true rfl⟩) hS (fun q _ h => hFc q h) hFc (fun r_84 _ t H1 locs ht hvm hw_85 hB hz1 hk1 hS => ?_)
  have hP := xSame hP hk1
  generalize H1 = H at hP hS ⊢
  have hP : va_P (xD g) vwCl (SW g ad ga (.int 0) (.int 0) (20, 3, 0) v0aV v0aC v0aP v0aG v0aY v0aN v0aW v0aK v0aS v0aT) H := hP
  have hD : va_D A (SW g ad ga (.int 0) (.int 0) (20, 3, 0) v0aV v0aC v0aP v0aG v0aY v0aN v0aW v0aK v0aS v0aT) := hD
  try dsimp only at hw_85
  obtain ⟨k_86, hk_86, rfl⟩ := hw_85
  refine lv_iadd hx hb dL_law_37 ?_
  refine lv_topi (fun v_87 ev => ?_)
  obtain rfl : v_87 = nI (2 + k_86) := ev.trans (nI_add 2 k_86)
  refine lv_istore_n (lv' := [(3, .int (nI (2 + k_86))), (2, .int (nI (1 + k_79))), (1, .ref (ad 0)), (0, .ref sb)]) hx hb dL_law_38 rfl hl (by decide) rfl (fun ls hl => ?_)
  refine lv_aload_n hx hb dL_law_39 rfl (lv_at hl 2 rfl) ?_
  refine lv_aload_n hx hb dL_law_40 rfl (lv_at hl 3 rfl) ?_
  refine lv_iload_n hx hb dL_law_41 rfl (lv_at hl 1 rfl) ?_
  refine lv_iload_n hx hb dL_law_42 rfl (lv_at hl 0 rfl) ?_
  have hPc := hP
  have hDc := hD
  have hFc := xFa hD hS hA
  refine va_callv (va_runS (As := [.ref (ad 0), .ref sb, .int (nI (1 + k_79)), .int (nI (2 + k_86))]) (rest := []) ⟨hx, hb, hml, hown, hts⟩ (l_fill l g H.size ad ga (.int 0) (.int 0) v0aV v0aC v0aP v0aG v0aY v0aN v0aW v0aK v0aS v0aT sb Ls xs 20 3 (1 + k_79) (2 + k_86) (show Ls ≤ 260 from by first | assumption | omega) (show 1 ≤ (1 + k_79) ∧ (1 + k_79) ≤ 4 from by first | assumption | omega) (show (2 + k_86) ≤ 19 from by first | assumption | omega) (show xInv v0aV v0aC v0aP v0aG v0aY v0aN v0aW v0aK v0aS v0aT from by first | assumption | omega) rfl rfl (fun _ _ => Int.le_refl _)) (va_cwS 4 hts gL_law_L_fill rfl rfl rfl (by decide +kernel) ⟨Nat.le_of_ble_eq_true rfl, Nat.le_of_ble_eq_true rfl⟩) ⟨xBS.blind, fun U9 hU9 hW9 => ⟨rfl, xB.mk hPc hK hDc hU9 hW9, hX.call hS hFc hU9 hW9⟩⟩ rfl rfl hl.1 rfl (lv_room (Nat.le_of_ble_eq_true rfl)) dL_law_43 ⟨Nat.le_of_ble_eq_true rfl, Nat.le_of_ble_eq_true rfl⟩) hS (fun q _ h => hFc q h) hFc (fun _ t H1 locs ht hvm hw_89 hB hz1 hk1 hS => ?_)
  obtain ⟨aQ2_90, aV2_91, aC2_92, aG2_93, aY2_94, aW2_95, hc_96, hP1, hK1, hD1⟩ := hB
  rw [ht] at hP1
  have hInv : xInv aV2_91 aC2_92 v0aP aG2_93 aY2_94 v0aN aW2_95 v0aK v0aS v0aT := hc_96.1
  have hrel : lFill (1 + k_79) (2 + k_86) aQ2_90 aV2_91 aC2_92 aY2_94 := hc_96.2
  obtain ⟨hP, hD⟩ := xJa hD hk1 hFc hP1 hD1
  generalize H1 = H at hP hS ⊢
  have hP : va_P (xD g) vwCl (SW g ad ga (.int 0) (.int 0) aQ2_90 aV2_91 aC2_92 v0aP aG2_93 aY2_94 v0aN aW2_95 v0aK v0aS v0aT) H := hP
  have hD : va_D A (SW g ad ga (.int 0) (.int 0) aQ2_90 aV2_91 aC2_92 v0aP aG2_93 aY2_94 v0aN aW2_95 v0aK v0aS v0aT) := hD
  refine W.widen (k := 141) (n := 1617) (by omega) (by omega) ?_
  try dsimp only at hw_89
  have hFl := hrel
  have hInvF := hInv
  have hvn : o_vc aQ2_90 = (1 + k_79) := hFl.2.2.1
  have hin := lIn hFl
  have hq1 := hFl.1
  have hq2 := hFl.2.1
  refine lv_aload_n hx hb dL_law_46 rfl (lv_at hl 2 rfl) ?_
  have hPc := hP
  have hDc := hD
  have hFc := xFa hD hS hA
  refine va_calli (va_runV (As := []) (rest := []) ⟨hx, hb, hml, hown, hts⟩ (L_plan l g H.size ad ga (.int 0) (.int 0) aQ2_90 aV2_91 aC2_92 v0aP aG2_93 aY2_94 v0aN aW2_95 v0aK v0aS v0aT (show xInv aV2_91 aC2_92 v0aP aG2_93 aY2_94 v0aN aW2_95 v0aK v0aS v0aT from by first | assumption | omega) (show 0 < (o_vc aQ2_90) from by first | assumption | omega) (show (o_vc aQ2_90) ≤ 4 from by first | assumption | omega) (show (o_crq aQ2_90) ≤ 6 from by first | assumption | omega) (show (o_qy aQ2_90) ≤ 60 from by first | assumption | omega) hin) (cwV 0 hts gL_law_X8_plan rfl rfl rfl (by decide +kernel) ⟨Nat.le_of_ble_eq_true rfl, Nat.le_of_ble_eq_true rfl⟩) ⟨xB.blind, va_recv hK hPc (ci := 8) (q0 := 0) rfl rfl, fun U9 hU9 hW9 => ⟨rfl, xB.mk hPc hK hDc hU9 hW9⟩⟩ rfl rfl hl.1 rfl (lv_room (Nat.le_of_ble_eq_true rfl)) dL_law_47 ⟨Nat.le_of_ble_eq_true rfl, Nat.le_of_ble_eq_true rfl⟩) hS (fun q _ h => hFc q h) hFc (fun r_97 u_99 t H1 locs ht hvm hw_98 hB hz1 hk1 hS => ?_)
  obtain ⟨aP2_100, aG2_101, aY2_102, aK2_103, hc_104, hP1, hK1, hD1⟩ := hB
  rw [ht] at hP1
  have hInv : xInv aV2_91 aC2_92 aP2_100 aG2_101 aY2_102 v0aN aW2_95 aK2_103 v0aS v0aT := hc_104.1
  have hrel : (bFound (o_Var aV2_91) (o_Vhd aV2_91) (fun j => ((o_Vba aV2_91 j : Nat) : Int)) (o_Vrk aV2_91) (fun j => ((o_Vwa aV2_91 j : Nat) : Int)) ((o_qy aQ2_90 : Nat) : Int) ((o_crq aQ2_90 : Nat) : Int) (o_vc aQ2_90) u_99 (o_qrd aP2_100) (o_qta aP2_100) (o_qla aP2_100) ∧ 0 ≤ u_99 ∧ u_99 ≤ 3600000) ∧ o_sc aY2_102 = o_sc aY2_94 := hc_104.2
  obtain ⟨hP, hD⟩ := xJa hD hk1 hFc hP1 hD1
  generalize H1 = H at hP hS ⊢
  have hP : va_P (xD g) vwCl (SW g ad ga (.int 1) (.int 0) aQ2_90 aV2_91 aC2_92 aP2_100 aG2_101 aY2_102 v0aN aW2_95 aK2_103 v0aS v0aT) H := hP
  have hD : va_D A (SW g ad ga (.int 1) (.int 0) aQ2_90 aV2_91 aC2_92 aP2_100 aG2_101 aY2_102 v0aN aW2_95 aK2_103 v0aS v0aT) := hD
  try dsimp only at hw_98
  obtain rfl : r_97 = iI u_99 := hw_98
  obtain ⟨⟨hfd, hu0, hu1⟩, hsy⟩ := hrel
  have hbi := lBin hFl hInvF.1
  have hPl := lPl_of (aP := aP2_100) (by omega) (by omega) hbi hfd
  have hdl := lDel hbi (by omega) (by omega) hfd
  have hFl2 : lFill (1 + k_79) (2 + k_86) aQ2_90 aV2_91 aC2_92 aY2_102 := ⟨hFl.1, hFl.2.1, hFl.2.2.1, hFl.2.2.2.1, hFl.2.2.2.2.1, hFl.2.2.2.2.2.1, by rw [hsy]; exact hFl.2.2.2.2.2.2⟩
  refine lv_istore (lv' := [(4, .int (iI u_99)), (3, .int (nI (2 + k_86))), (2, .int (nI (1 + k_79))), (1, .ref (ad 0)), (0, .ref sb)]) hx hb dL_law_50 hl (by decide) rfl (fun ls hl => ?_)
  refine lv_iload hx hb dL_law_52 (lv_at hl 0 rfl) ?_
  refine lv_if_lt (tgt := 74) hx hb dL_law_54 (by decide) (fun c_105 => ?_) (fun c_105 => ?_)
  · have nc_105 := (iLt (a := u_99) (b := 0) rfl (by decide) (by omega)).mp c_105
    exfalso; omega
  · have nc_105 := mt (iLt (a := u_99) (b := 0) rfl (by decide) (by omega)).mpr c_105
    refine lv_aload_n hx hb dL_law_57 rfl (lv_at hl 3 rfl) ?_
    refine lv_iload_n hx hb dL_law_58 rfl (lv_at hl 2 rfl) ?_
    have hPc := hP
    have hDc := hD
    have hFc := xFree hS hA
    refine va_calli (va_runS (As := [.ref (ad 0), .int (nI (1 + k_79))]) (rest := []) ⟨hx, hb, hml, hown, hts⟩ (l_sound l g H.size ad ga (.int 0) aQ2_90 aV2_91 aC2_92 aP2_100 aG2_101 aY2_102 v0aN aW2_95 aK2_103 v0aS v0aT (1 + k_79) (2 + k_86) (show xInv aV2_91 aC2_92 aP2_100 aG2_101 aY2_102 v0aN aW2_95 aK2_103 v0aS v0aT from by first | assumption | omega) hFl2 hPl (show 1 ≤ (1 + k_79) ∧ (1 + k_79) ≤ 4 from by first | assumption | omega) (show o_vc aQ2_90 = (1 + k_79) from by first | assumption | omega)) (va_cwS 2 hts gL_law_L_isPlanSound rfl rfl rfl (by decide +kernel) ⟨Nat.le_of_ble_eq_true rfl, Nat.le_of_ble_eq_true rfl⟩) ⟨xB.blind, fun U9 hU9 hW9 => ⟨rfl, xB.mk hPc hK hDc hU9 hW9⟩⟩ rfl rfl hl.1 rfl (lv_room (Nat.le_of_ble_eq_true rfl)) dL_law_59 ⟨Nat.le_of_ble_eq_true rfl, Nat.le_of_ble_eq_true rfl⟩) hS (fun q _ h => hFc q h) hFc (fun r_106 _ t H1 locs ht hvm hw_107 hB hz1 hk1 hS => ?_)
    have hP := xSame hP hk1
    generalize H1 = H at hP hS ⊢
    have hP : va_P (xD g) vwCl (SW g ad ga (.int 1) (.int 0) aQ2_90 aV2_91 aC2_92 aP2_100 aG2_101 aY2_102 v0aN aW2_95 aK2_103 v0aS v0aT) H := hP
    have hD : va_D A (SW g ad ga (.int 1) (.int 0) aQ2_90 aV2_91 aC2_92 aP2_100 aG2_101 aY2_102 v0aN aW2_95 aK2_103 v0aS v0aT) := hD
    try dsimp only at hw_107
    obtain rfl : r_106 = 1 := hw_107
    refine lv_if_eq (tgt := 74) hx hb dL_law_62 (by decide) (fun c0 => absurd c0 (by decide)) (fun _ => ?_)
    refine lv_iload hx hb dL_law_65 (lv_at hl 0 rfl) ?_
    refine lv_aload_n hx hb dL_law_67 rfl (lv_at hl 3 rfl) ?_
    have hPc := hP
    have hDc := hD
    have hFc := xFa hD hS hA
    refine va_calli (va_runV (As := []) (rest := [.int (iI u_99)]) ⟨hx, hb, hml, hown, hts⟩ (L_delayByNumbers l g H.size ad ga (.int 1) (.int 0) aQ2_90 aV2_91 aC2_92 aP2_100 aG2_101 aY2_102 v0aN aW2_95 aK2_103 v0aS v0aT (show xInv aV2_91 aC2_92 aP2_100 aG2_101 aY2_102 v0aN aW2_95 aK2_103 v0aS v0aT from by first | assumption | omega) (show 0 < (o_vc aQ2_90) from by first | assumption | omega) (show (o_vc aQ2_90) ≤ 6 from by first | assumption | omega) (show (o_crq aQ2_90) ≤ 6 from by first | assumption | omega) (show (o_qy aQ2_90) ≤ 60 from by first | assumption | omega) hin) (cwV 0 hts gL_law_X8_delayByNumbers rfl rfl rfl (by decide +kernel) ⟨Nat.le_of_ble_eq_true rfl, Nat.le_of_ble_eq_true rfl⟩) ⟨xB.blind, va_recv hK hPc (ci := 8) (q0 := 0) rfl rfl, fun U9 hU9 hW9 => ⟨rfl, xB.mk hPc hK hDc hU9 hW9⟩⟩ rfl rfl hl.1 rfl (lv_room (Nat.le_of_ble_eq_true rfl)) dL_law_68 ⟨Nat.le_of_ble_eq_true rfl, Nat.le_of_ble_eq_true rfl⟩) hS (fun q _ h => hFc q h) hFc (fun r_108 _ t H1 locs ht hvm hw_109 hB hz1 hk1 hS => ?_)
    obtain ⟨aK2_110, hc_111, hP1, hK1, hD1⟩ := hB
    rw [ht] at hP1
    have hInv : xInv aV2_91 aC2_92 aP2_100 aG2_101 aY2_102 v0aN aW2_95 aK2_110 v0aS v0aT := hc_111
    obtain ⟨hP, hD⟩ := xJa hD hk1 hFc hP1 hD1
    generalize H1 = H at hP hS ⊢
    have hP : va_P (xD g) vwCl (SW g ad ga (.int 1) (.int 0) aQ2_90 aV2_91 aC2_92 aP2_100 aG2_101 aY2_102 v0aN aW2_95 aK2_110 v0aS v0aT) H := hP
    have hD : va_D A (SW g ad ga (.int 1) (.int 0) aQ2_90 aV2_91 aC2_92 aP2_100 aG2_101 aY2_102 v0aN aW2_95 aK2_110 v0aS v0aT) := hD
    try dsimp only at hw_109
    obtain rfl : r_108 = iI (bD (o_Var aV2_91) (o_Vhd aV2_91) (fun j => (((o_Vba aV2_91) j : Nat) : Int)) (o_Vrk aV2_91) (fun j => (((o_Vwa aV2_91) j : Nat) : Int)) (((o_qy aQ2_90) : Nat) : Int) (((o_crq aQ2_90) : Nat) : Int) (fun i => i) (o_vc aQ2_90)) := hw_109
    refine lv_icmp_le (tgt := 76) hx hb dL_law_71 (by decide) (fun c_112 => ?_) (fun c_112 => ?_)
    · have nc_112 := (iLe (a := u_99) (b := bD (o_Var aV2_91) (o_Vhd aV2_91) (fun j => (((o_Vba aV2_91) j : Nat) : Int)) (o_Vrk aV2_91) (fun j => (((o_Vwa aV2_91) j : Nat) : Int)) (((o_qy aQ2_90) : Nat) : Int) (((o_crq aQ2_90) : Nat) : Int) (fun i => i) (o_vc aQ2_90)) rfl rfl (by omega)).mp c_112
      refine W.widen (k := 180) (n := 2800) (by omega) (by omega) ?_
      exact law_slots hx hb hml hown hts hX0 hL hbl hK A hA hbA Kend ad ga aQ2_90 aV2_91 aC2_92 aP2_100 aG2_101 aY2_102 v0aN aW2_95 aK2_110 v0aS v0aT (1 + k_79) (2 + k_86) hInv hFl2 hPl (by omega) (by omega) (by rw [hsy]; exact hFl.2.2.2.2.2.2) hP hD hS (lv_sub hl [4, 3, 1] rfl)
    · have nc_112 := mt (iLe (a := u_99) (b := bD (o_Var aV2_91) (o_Vhd aV2_91) (fun j => (((o_Vba aV2_91) j : Nat) : Int)) (o_Vrk aV2_91) (fun j => (((o_Vwa aV2_91) j : Nat) : Int)) (((o_qy aQ2_90) : Nat) : Int) (((o_crq aQ2_90) : Nat) : Int) (fun i => i) (o_vc aQ2_90)) rfl rfl (by omega)).mpr c_112
      exfalso; omega
