theorem dL_law_435 : decode cL_law 435 = .ok (.aload_n 1, 1) := by decide +kernel
theorem dL_law_436 : decode cL_law 436 = .ok (.invokevirtual 144, 3) := by decide +kernel
set_option maxRecDepth 20000 in
theorem ggL_law_X8_reshuffles : GoodIn wsL_law wsX8_reshuffles := goodIn_r _ [710, 45, 546, 757, 758, 759, 760, 761, 762, 763, 764, 765, 766, 767, 768, 769, 770, 771, 821, 822, 823, 824, 825, 826, 827, 828, 829, 830, 831] rfl (by decide +kernel)
set_option maxRecDepth 20000 in
theorem gL_law_X8_reshuffles : GoodIn wsL_law (wsV RL 144 RX8 yX8_reshuffles wsX8_reshuffles) := goodIn_app (goodIn_of _ (by decide +kernel)) ggL_law_X8_reshuffles
theorem dL_law_439 : decode cL_law 439 = .ok (.aload 7, 2) := by decide +kernel
theorem dL_law_441 : decode cL_law 441 = .ok (.iconst 0, 1) := by decide +kernel
theorem dL_law_442 : decode cL_law 442 = .ok (.iaload, 1) := by decide +kernel
theorem dL_law_443 : decode cL_law 443 = .ok (.if_icmp .ne 45, 3) := by decide +kernel
theorem dL_law_488 : decode cL_law 488 = .ok (.iconst 0, 1) := by decide +kernel
theorem dL_law_489 : decode cL_law 489 = .ok (.ireturn, 1) := by decide +kernel
theorem dL_law_446 : decode cL_law 446 = .ok (.aload_n 1, 1) := by decide +kernel
theorem dL_law_447 : decode cL_law 447 = .ok (.iconst 3, 1) := by decide +kernel
theorem dL_law_448 : decode cL_law 448 = .ok (.invokestatic 128, 3) := by decide +kernel
set_option maxRecDepth 20000 in
theorem ggL_law_L_inYard : GoodIn wsL_law wsL_inYard := goodIn_ca (goodIn_r _ [672, 673, 674, 675, 2, 676, 19, 256, 665, 666, 667, 668, 45, 669, 534, 535, 536, 537, 267, 268, 757, 758, 759, 760, 761, 762, 763, 764, 765, 766, 767, 768, 769, 770, 771, 783, 784, 785, 786, 787, 788, 821, 822, 823, 824, 825, 826, 827, 828, 829, 830, 831] rfl (by decide +kernel)) (goodIn_sub (fun _ h => List.mem_append_right _ h) (by decide +kernel))
set_option maxRecDepth 20000 in
theorem gL_law_L_inYard : GoodIn wsL_law (va_wsS RL 128 yL_inYard wsL_inYard) := goodIn_app (goodIn_of _ (by decide +kernel)) ggL_law_L_inYard
theorem dL_law_451 : decode cL_law 451 = .ok (.aload 7, 2) := by decide +kernel
theorem dL_law_453 : decode cL_law 453 = .ok (.iconst 1, 1) := by decide +kernel
theorem dL_law_454 : decode cL_law 454 = .ok (.iaload, 1) := by decide +kernel
theorem dL_law_455 : decode cL_law 455 = .ok (.if_icmp .ne 33, 3) := by decide +kernel
theorem dL_law_458 : decode cL_law 458 = .ok (.aload_n 1, 1) := by decide +kernel
theorem dL_law_459 : decode cL_law 459 = .ok (.iconst 4, 1) := by decide +kernel
theorem dL_law_460 : decode cL_law 460 = .ok (.invokestatic 128, 3) := by decide +kernel
theorem dL_law_463 : decode cL_law 463 = .ok (.aload 7, 2) := by decide +kernel
theorem dL_law_465 : decode cL_law 465 = .ok (.iconst 2, 1) := by decide +kernel
theorem dL_law_466 : decode cL_law 466 = .ok (.iaload, 1) := by decide +kernel
theorem dL_law_467 : decode cL_law 467 = .ok (.if_icmp .ne 21, 3) := by decide +kernel
theorem dL_law_470 : decode cL_law 470 = .ok (.aload_n 1, 1) := by decide +kernel
theorem dL_law_471 : decode cL_law 471 = .ok (.iconst 1, 1) := by decide +kernel
theorem dL_law_472 : decode cL_law 472 = .ok (.invokestatic 128, 3) := by decide +kernel
theorem dL_law_475 : decode cL_law 475 = .ok (.aload_n 1, 1) := by decide +kernel
theorem dL_law_476 : decode cL_law 476 = .ok (.iconst 4, 1) := by decide +kernel
theorem dL_law_477 : decode cL_law 477 = .ok (.invokestatic 128, 3) := by decide +kernel
theorem dL_law_480 : decode cL_law 480 = .ok (.iadd, 1) := by decide +kernel
theorem dL_law_481 : decode cL_law 481 = .ok (.aload 7, 2) := by decide +kernel
theorem dL_law_483 : decode cL_law 483 = .ok (.iconst 3, 1) := by decide +kernel
theorem dL_law_484 : decode cL_law 484 = .ok (.iaload, 1) := by decide +kernel
theorem dL_law_485 : decode cL_law 485 = .ok (.if_icmp .eq 5, 3) := by decide +kernel
theorem dL_law_490 : decode cL_law 490 = .ok (.aload_n 1, 1) := by decide +kernel
theorem dL_law_491 : decode cL_law 491 = .ok (.invokevirtual 147, 3) := by decide +kernel
set_option maxRecDepth 20000 in
theorem ggL_law_X8_digest : GoodIn wsL_law wsX8_digest := goodIn_r _ [714, 715, 178, 19, 256, 45, 277, 13, 716, 717, 2, 718, 719, 720, 721, 722, 391, 396, 723, 401, 406, 180, 262, 462, 724, 248, 249, 15, 250, 53, 251, 206, 207, 208, 51, 209, 199, 200, 201, 725, 726, 727, 728, 32, 155, 382, 416, 411, 458, 459, 460, 461, 257, 258, 463, 464, 465, 18, 466, 467, 58, 59, 468, 469, 470, 471, 61, 729, 730, 731, 732, 160, 37, 733, 734, 735, 736, 41, 161, 630, 631, 632, 40, 633, 115, 638, 563, 564, 565, 643, 559, 560, 561, 737, 738, 739, 740, 669, 693, 660, 698, 546, 681, 682, 683, 44, 684, 551, 121, 685, 686, 687, 688, 125, 123, 582, 583, 584, 585, 586, 203, 204, 757, 758, 759, 760, 761, 762, 763, 764, 765, 766, 767, 768, 769, 770, 771, 783, 784, 785, 786, 787, 788, 821, 822, 823, 824, 825, 826, 827, 828, 829, 830, 831, 772, 773, 774, 775, 776, 777, 778, 779, 780, 781, 782, 807, 808, 809, 810, 819, 820] rfl (by decide +kernel)
set_option maxRecDepth 20000 in
theorem gL_law_X8_digest : GoodIn wsL_law (wsV RL 147 RX8 yX8_digest wsX8_digest) := goodIn_app (goodIn_of _ (by decide +kernel)) ggL_law_X8_digest
theorem dL_law_494 : decode cL_law 494 = .ok (.lstore 9, 2) := by decide +kernel
theorem dL_law_496 : decode cL_law 496 = .ok (.aload_n 1, 1) := by decide +kernel
theorem dL_law_497 : decode cL_law 497 = .ok (.invokevirtual 132, 3) := by decide +kernel
set_option maxRecDepth 20000 in
theorem ggL_law_X8_blocking : GoodIn wsL_law wsX8_blocking := goodIn_r _ [680, 45, 681, 682, 683, 44, 684, 551, 121, 685, 686, 687, 688, 125, 123, 582, 583, 584, 585, 586, 203, 200, 204, 757, 758, 759, 760, 761, 762, 763, 764, 765, 766, 767, 768, 769, 770, 771, 821, 822, 823, 824, 825, 826, 827, 828, 829, 830, 831] rfl (by decide +kernel)
set_option maxRecDepth 20000 in
theorem gL_law_X8_blocking : GoodIn wsL_law (wsV RL 132 RX8 yX8_blocking wsX8_blocking) := goodIn_app (goodIn_of _ (by decide +kernel)) ggL_law_X8_blocking
theorem dL_law_500 : decode cL_law 500 = .ok (.istore 11, 2) := by decide +kernel
theorem dL_law_502 : decode cL_law 502 = .ok (.aload_n 1, 1) := by decide +kernel
theorem dL_law_503 : decode cL_law 503 = .ok (.bipush 50, 2) := by decide +kernel
theorem dL_law_505 : decode cL_law 505 = .ok (.invokevirtual 151, 3) := by decide +kernel
set_option maxRecDepth 20000 in
theorem ggL_law_X8_tidy : GoodIn wsL_law wsX8_tidy := goodIn_ca (goodIn_r _ [744, 45, 649, 650, 2, 651, 149, 150, 745, 746, 747, 44, 748, 166, 749, 750, 751, 752, 551, 121, 685, 686, 687, 688, 125, 123, 582, 583, 584, 585, 586, 203, 200, 204, 578, 579, 580, 581, 753, 754, 755, 756, 574, 575, 576, 577, 120, 124, 610, 611, 612, 613, 127, 590, 591, 592, 593, 757, 758, 759, 760, 761, 762, 763, 764, 765, 766, 767, 768, 769, 770, 771, 821, 822, 823, 824, 825, 826, 827, 828, 829, 830, 831] rfl (by decide +kernel)) (goodIn_sub (fun _ h => List.mem_append_left _ (List.mem_append_left _ (List.mem_append_right _ h))) (by decide +kernel))
set_option maxRecDepth 20000 in
theorem gL_law_X8_tidy : GoodIn wsL_law (wsV RL 151 RX8 yX8_tidy wsX8_tidy) := goodIn_app (goodIn_of _ (by decide +kernel)) ggL_law_X8_tidy
theorem dL_law_508 : decode cL_law 508 = .ok (.istore 12, 2) := by decide +kernel
theorem dL_law_510 : decode cL_law 510 = .ok (.iload 12, 2) := by decide +kernel
theorem dL_law_512 : decode cL_law 512 = .ok (.iload 11, 2) := by decide +kernel
theorem dL_law_514 : decode cL_law 514 = .ok (.if_icmp .gt 48, 3) := by decide +kernel
theorem dL_law_562 : decode cL_law 562 = .ok (.iconst 0, 1) := by decide +kernel
theorem dL_law_563 : decode cL_law 563 = .ok (.ireturn, 1) := by decide +kernel
theorem dL_law_517 : decode cL_law 517 = .ok (.aload_n 1, 1) := by decide +kernel
theorem dL_law_518 : decode cL_law 518 = .ok (.invokevirtual 132, 3) := by decide +kernel
theorem dL_law_521 : decode cL_law 521 = .ok (.iload 11, 2) := by decide +kernel
theorem dL_law_523 : decode cL_law 523 = .ok (.iload 12, 2) := by decide +kernel
theorem dL_law_525 : decode cL_law 525 = .ok (.isub, 1) := by decide +kernel
theorem dL_law_526 : decode cL_law 526 = .ok (.if_icmp .gt 36, 3) := by decide +kernel
theorem dL_law_529 : decode cL_law 529 = .ok (.iload 12, 2) := by decide +kernel
theorem dL_law_531 : decode cL_law 531 = .ok (.ifCond .gt 13, 3) := by decide +kernel
theorem dL_law_544 : decode cL_law 544 = .ok (.aload_n 1, 1) := by decide +kernel
theorem dL_law_545 : decode cL_law 545 = .ok (.invokevirtual 144, 3) := by decide +kernel
theorem dL_law_548 : decode cL_law 548 = .ok (.aload 7, 2) := by decide +kernel
theorem dL_law_550 : decode cL_law 550 = .ok (.iconst 0, 1) := by decide +kernel
theorem dL_law_551 : decode cL_law 551 = .ok (.iaload, 1) := by decide +kernel
theorem dL_law_552 : decode cL_law 552 = .ok (.iload 12, 2) := by decide +kernel
theorem dL_law_554 : decode cL_law 554 = .ok (.iadd, 1) := by decide +kernel
theorem dL_law_555 : decode cL_law 555 = .ok (.if_icmp .ne 7, 3) := by decide +kernel
theorem dL_law_558 : decode cL_law 558 = .ok (.iconst 1, 1) := by decide +kernel
theorem dL_law_559 : decode cL_law 559 = .ok (.goto 4, 3) := by decide +kernel
theorem dL_law_534 : decode cL_law 534 = .ok (.aload_n 1, 1) := by decide +kernel
theorem dL_law_535 : decode cL_law 535 = .ok (.invokevirtual 147, 3) := by decide +kernel
theorem dL_law_538 : decode cL_law 538 = .ok (.lload 9, 2) := by decide +kernel
theorem dL_law_540 : decode cL_law 540 = .ok (.lcmp, 1) := by decide +kernel
theorem dL_law_541 : decode cL_law 541 = .ok (.ifCond .ne 21, 3) := by decide +kernel
set_option maxHeartbeats 16000000 in
set_option maxRecDepth 100000 in
theorem law_end {p : Program} {l : Launch} {e : Env} {s : State} {m : MethodId} {below : List Frame} {meth : Method} {c : Code} {g : xG} {sb Ls : Nat} {xs : Nat → Int32} {Q : State → Prop} (hx : p.tables.exec = Jvm.exec) (hb : c.code = cL_law) (hml : c.maxLocals = 14) (hown : s.vm.findClass RL = some m.cls) (hts : ∀ w ∈ wsL_law, w.before #[Value.ref sb] s = true) (hX0 : va_X sb Ls xs s s.heap) (hL : Ls ≤ 260) (hbl : sb < s.heap.size) (hK : va_K (xD g) vwCl (xT g) s) (A : Nat → Prop) (hA : ∀ q : Nat, s.heap.size ≤ q → A q) (hbA : ¬ A sb) (Kend : ∀ (H : Heap) (locs : List Loc) (ls : Array Slot), va_S A s.heap H locs → W p l e room_1 s m #[Value.ref sb] below meth c H locs 200 3000 Q (F0 m 563 ls [.int 1])) (ad : Nat → Nat) (ga : Nat → Nat → Nat) (aQ : xQ_) (aV : xV_) (aC : xC_) (aP : xP_) (aG : xG_) (aY : xY_) (aN : (Nat → Nat)) (aW : xW_) (aK : xK_) (aS : xS_) (aT : xT_) (za : Nat) (ez : Nat → Nat) (hInv : xInv aV aC aP aG aY aN aW aK aS aT) (hn24 : 2 ≤ o_n aC ∧ o_n aC ≤ 24) (hsc : o_sc aY ≤ 12) (hvc : o_vc aQ ≤ 6) (hct : o_cnt aG ≤ 48) (hG : yAg (o_n aC) (o_kf aG) (o_cnt aG)) (hI : yInv (o_n aC) (o_sc aY) (o_lim aY) (o_kf aG) (yWof aY) (o_cnt aG)) (hz0 : ez 0 = o_rs aY) (hz1 : ez 1 = yCnt (o_stt aY) 3 24) (hz2 : ez 2 = yCnt (o_stt aY) 4 24) (hz3 : ez 3 = yCnt (o_stt aY) 1 24 + yCnt (o_stt aY) 4 24) (hrs : o_rs aY ≤ 1000) {H : Heap} {locs : List Loc} {ls : Array Slot} (hP : va_P (xD g) vwCl (SW g ad ga (.int 1) (.int 1) aQ aV aC aP aG aY aN aW aK aS aT ++ [(za, .inl (xI g, 4, .inl (fun j => nI (ez j))))]) H) (hD : va_D A (SW g ad ga (.int 1) (.int 1) aQ aV aC aP aG aY aN aW aK aS aT ++ [(za, .inl (xI g, 4, .inl (fun j => nI (ez j))))])) (hS : va_S A s.heap H locs) (hl : lv_has ls 14 [(0, .ref sb), (1, .ref (ad 0)), (7, .ref za)]) : W p l e room_1 s m #[Value.ref sb] below meth c H locs 190 2900 Q (F0 m 435 ls []) := by
  have hX : xS sb Ls xs A s := ⟨hX0, hbl, hbA⟩
  have hy1 := yCnt_24 (x := 1) hI hG (Nat.le_refl _) hn24.2 (by decide)
  have hy3 := yCnt_24 (x := 3) hI hG (Nat.le_refl _) hn24.2 (by decide)
  have hy4 := yCnt_24 (x := 4) hI hG (Nat.le_refl _) hn24.2 (by decide)
  (try dsimp only at hy1 hy3 hy4)
  have hc1 := yCnt_le (stt := o_stt aY) (w := 1) 24
  have hc3 := yCnt_le (stt := o_stt aY) (w := 3) 24
  have hc4 := yCnt_le (stt := o_stt aY) (w := 4) 24
  have hyb := yBl_le (lv := o_lv aY) (ht := o_hgt aY) (sd := o_sd aY) (o_sc aY)
  have hys : sSum (fun x => (o_hgt aY x : Int)) (o_sc aY) = (yCnt (o_stt aY) 1 (o_n aC) : Int) + (yCnt (o_stt aY) 4 (o_n aC) : Int) := hI.2.1
  refine lv_aload_n hx hb dL_law_435 rfl (lv_at hl 1 rfl) ?_
  have hPc := xPl hP
  have hDc := xDl hD
  have hFc := xFree hS hA
  refine va_calli (va_runV (As := []) (rest := []) ⟨hx, hb, hml, hown, hts⟩ (L_reshuffles l g H.size ad ga (.int 1) (.int 1) aQ aV aC aP aG aY aN aW aK aS aT (show xInv aV aC aP aG aY aN aW aK aS aT from by first | assumption | omega)) (cwV 0 hts gL_law_X8_reshuffles rfl rfl rfl (by decide +kernel) ⟨Nat.le_of_ble_eq_true rfl, Nat.le_of_ble_eq_true rfl⟩) ⟨xB.blind, va_recv hK hPc (ci := 8) (q0 := 0) rfl rfl, fun U9 hU9 hW9 => ⟨rfl, xB.mk hPc hK hDc hU9 hW9⟩⟩ rfl rfl hl.1 rfl (lv_room (Nat.le_of_ble_eq_true rfl)) dL_law_436 ⟨Nat.le_of_ble_eq_true rfl, Nat.le_of_ble_eq_true rfl⟩) hS (fun q _ h => hFc q h) hFc (fun r_1 _ t H1 locs ht hvm hw_2 hB hz1 hk1 hS => ?_)
  have hP := xSame hP hk1
  generalize H1 = H at hP hS ⊢
  have hP : va_P (xD g) vwCl (SW g ad ga (.int 1) (.int 1) aQ aV aC aP aG aY aN aW aK aS aT ++ [(za, .inl (xI g, 4, .inl (fun j => nI (ez j))))]) H := hP
  have hD : va_D A (SW g ad ga (.int 1) (.int 1) aQ aV aC aP aG aY aN aW aK aS aT ++ [(za, .inl (xI g, 4, .inl (fun j => nI (ez j))))]) := hD
  try dsimp only at hw_2
  obtain rfl : r_1 = nI (o_rs aY) := hw_2
  refine lv_aload hx hb dL_law_439 (lv_at hl 2 rfl) ?_
  refine lv_iconst (v := 0) hx hb dL_law_441 (by decide) ?_
  refine va_iald hx hb hK hP 140 0 rfl rfl (by unfold vp_in; decide) dL_law_442 ?_
  refine lv_topi (fun v_3 ev => ?_)
  obtain rfl : v_3 = nI (ez 0) := ev.trans (congrArg (fun q9 => nI (ez q9)) (by decide))
  refine lv_icmp_ne (tgt := 488) hx hb dL_law_443 (by decide) (fun c_4 => ?_) (fun c_4 => ?_)
  · have nc_4 := mt (nI_eq (a := o_rs aY) (b := ez 0) (by omega) (by omega)).mpr c_4
    refine lv_iconst (v := 0) hx hb dL_law_488 (by decide) ?_
    exfalso; omega
  · have nc_4 := (nI_eq (a := o_rs aY) (b := ez 0) (by omega) (by omega)).mp c_4
    refine lv_aload_n hx hb dL_law_446 rfl (lv_at hl 1 rfl) ?_
    refine lv_iconst (v := 3) hx hb dL_law_447 (by decide) ?_
    have hPc := xPl hP
    have hDc := xDl hD
    have hFc := xFree hS hA
    refine va_calli (va_runS (As := [.ref (ad 0), .int 3]) (rest := []) ⟨hx, hb, hml, hown, hts⟩ (l_inYard l g H.size ad ga (.int 1) (.int 1) aQ aV aC aP aG aY aN aW aK aS aT 3 (show xInv aV aC aP aG aY aN aW aK aS aT from by first | assumption | omega) (show o_n aC ≤ 24 from by first | assumption | omega) (show 0 ≤ 3 ∧ 3 ≤ 4 from by first | assumption | omega)) (va_cwS 2 hts gL_law_L_inYard rfl rfl rfl (by decide +kernel) ⟨Nat.le_of_ble_eq_true rfl, Nat.le_of_ble_eq_true rfl⟩) ⟨xB.blind, fun U9 hU9 hW9 => ⟨rfl, xB.mk hPc hK hDc hU9 hW9⟩⟩ rfl rfl hl.1 rfl (lv_room (Nat.le_of_ble_eq_true rfl)) dL_law_448 ⟨Nat.le_of_ble_eq_true rfl, Nat.le_of_ble_eq_true rfl⟩) hS (fun q _ h => hFc q h) hFc (fun r_5 _ t H1 locs ht hvm hw_6 hB hz1 hk1 hS => ?_)
    have hP := xSame hP hk1
    generalize H1 = H at hP hS ⊢
    have hP : va_P (xD g) vwCl (SW g ad ga (.int 1) (.int 1) aQ aV aC aP aG aY aN aW aK aS aT ++ [(za, .inl (xI g, 4, .inl (fun j => nI (ez j))))]) H := hP
    have hD : va_D A (SW g ad ga (.int 1) (.int 1) aQ aV aC aP aG aY aN aW aK aS aT ++ [(za, .inl (xI g, 4, .inl (fun j => nI (ez j))))]) := hD
    try dsimp only at hw_6
    obtain rfl : r_5 = nI (yCnt (o_stt aY) 3 (o_n aC)) := hw_6
    refine lv_aload hx hb dL_law_451 (lv_at hl 2 rfl) ?_
    refine lv_iconst (v := 1) hx hb dL_law_453 (by decide) ?_
    refine va_iald hx hb hK hP 140 0 rfl rfl (by unfold vp_in; decide) dL_law_454 ?_
    refine lv_topi (fun v_7 ev => ?_)
    obtain rfl : v_7 = nI (ez 1) := ev.trans (congrArg (fun q9 => nI (ez q9)) (by decide))
    refine lv_icmp_ne (tgt := 488) hx hb dL_law_455 (by decide) (fun c_8 => ?_) (fun c_8 => ?_)
    · have nc_8 := mt (nI_eq (a := yCnt (o_stt aY) 3 (o_n aC)) (b := ez 1) (by omega) (by omega)).mpr c_8
      refine lv_iconst (v := 0) hx hb dL_law_488 (by decide) ?_
      exfalso; omega
    · have nc_8 := (nI_eq (a := yCnt (o_stt aY) 3 (o_n aC)) (b := ez 1) (by omega) (by omega)).mp c_8
      refine lv_aload_n hx hb dL_law_458 rfl (lv_at hl 1 rfl) ?_
      refine lv_iconst (v := 4) hx hb dL_law_459 (by decide) ?_
      have hPc := xPl hP
      have hDc := xDl hD
      have hFc := xFree hS hA
      refine va_calli (va_runS (As := [.ref (ad 0), .int 4]) (rest := []) ⟨hx, hb, hml, hown, hts⟩ (l_inYard l g H.size ad ga (.int 1) (.int 1) aQ aV aC aP aG aY aN aW aK aS aT 4 (show xInv aV aC aP aG aY aN aW aK aS aT from by first | assumption | omega) (show o_n aC ≤ 24 from by first | assumption | omega) (show 0 ≤ 4 ∧ 4 ≤ 4 from by first | assumption | omega)) (va_cwS 2 hts gL_law_L_inYard rfl rfl rfl (by decide +kernel) ⟨Nat.le_of_ble_eq_true rfl, Nat.le_of_ble_eq_true rfl⟩) ⟨xB.blind, fun U9 hU9 hW9 => ⟨rfl, xB.mk hPc hK hDc hU9 hW9⟩⟩ rfl rfl hl.1 rfl (lv_room (Nat.le_of_ble_eq_true rfl)) dL_law_460 ⟨Nat.le_of_ble_eq_true rfl, Nat.le_of_ble_eq_true rfl⟩) hS (fun q _ h => hFc q h) hFc (fun r_9 _ t H1 locs ht hvm hw_10 hB hz1 hk1 hS => ?_)
      have hP := xSame hP hk1
      generalize H1 = H at hP hS ⊢
      have hP : va_P (xD g) vwCl (SW g ad ga (.int 1) (.int 1) aQ aV aC aP aG aY aN aW aK aS aT ++ [(za, .inl (xI g, 4, .inl (fun j => nI (ez j))))]) H := hP
      have hD : va_D A (SW g ad ga (.int 1) (.int 1) aQ aV aC aP aG aY aN aW aK aS aT ++ [(za, .inl (xI g, 4, .inl (fun j => nI (ez j))))]) := hD
      try dsimp only at hw_10
      obtain rfl : r_9 = nI (yCnt (o_stt aY) 4 (o_n aC)) := hw_10
      refine lv_aload hx hb dL_law_463 (lv_at hl 2 rfl) ?_
      refine lv_iconst (v := 2) hx hb dL_law_465 (by decide) ?_
      refine va_iald hx hb hK hP 140 0 rfl rfl (by unfold vp_in; decide) dL_law_466 ?_
      refine lv_topi (fun v_11 ev => ?_)
      obtain rfl : v_11 = nI (ez 2) := ev.trans (congrArg (fun q9 => nI (ez q9)) (by decide))
      refine lv_icmp_ne (tgt := 488) hx hb dL_law_467 (by decide) (fun c_12 => ?_) (fun c_12 => ?_)
      · have nc_12 := mt (nI_eq (a := yCnt (o_stt aY) 4 (o_n aC)) (b := ez 2) (by omega) (by omega)).mpr c_12
        refine lv_iconst (v := 0) hx hb dL_law_488 (by decide) ?_
        exfalso; omega
      · have nc_12 := (nI_eq (a := yCnt (o_stt aY) 4 (o_n aC)) (b := ez 2) (by omega) (by omega)).mp c_12
        refine lv_aload_n hx hb dL_law_470 rfl (lv_at hl 1 rfl) ?_
        refine lv_iconst (v := 1) hx hb dL_law_471 (by decide) ?_
        have hPc := xPl hP
        have hDc := xDl hD
        have hFc := xFree hS hA
        refine va_calli (va_runS (As := [.ref (ad 0), .int 1]) (rest := []) ⟨hx, hb, hml, hown, hts⟩ (l_inYard l g H.size ad ga (.int 1) (.int 1) aQ aV aC aP aG aY aN aW aK aS aT 1 (show xInv aV aC aP aG aY aN aW aK aS aT from by first | assumption | omega) (show o_n aC ≤ 24 from by first | assumption | omega) (show 0 ≤ 1 ∧ 1 ≤ 4 from by first | assumption | omega)) (va_cwS 2 hts gL_law_L_inYard rfl rfl rfl (by decide +kernel) ⟨Nat.le_of_ble_eq_true rfl, Nat.le_of_ble_eq_true rfl⟩) ⟨xB.blind, fun U9 hU9 hW9 => ⟨rfl, xB.mk hPc hK hDc hU9 hW9⟩⟩ rfl rfl hl.1 rfl (lv_room (Nat.le_of_ble_eq_true rfl)) dL_law_472 ⟨Nat.le_of_ble_eq_true rfl, Nat.le_of_ble_eq_true rfl⟩) hS (fun q _ h => hFc q h) hFc (fun r_13 _ t H1 locs ht hvm hw_14 hB hz1 hk1 hS => ?_)
        have hP := xSame hP hk1
        generalize H1 = H at hP hS ⊢
        have hP : va_P (xD g) vwCl (SW g ad ga (.int 1) (.int 1) aQ aV aC aP aG aY aN aW aK aS aT ++ [(za, .inl (xI g, 4, .inl (fun j => nI (ez j))))]) H := hP
        have hD : va_D A (SW g ad ga (.int 1) (.int 1) aQ aV aC aP aG aY aN aW aK aS aT ++ [(za, .inl (xI g, 4, .inl (fun j => nI (ez j))))]) := hD
        try dsimp only at hw_14
        obtain rfl : r_13 = nI (yCnt (o_stt aY) 1 (o_n aC)) := hw_14
        refine lv_aload_n hx hb dL_law_475 rfl (lv_at hl 1 rfl) ?_
        refine lv_iconst (v := 4) hx hb dL_law_476 (by decide) ?_
        have hPc := xPl hP
        have hDc := xDl hD
        have hFc := xFree hS hA
        refine va_calli (va_runS (As := [.ref (ad 0), .int 4]) (rest := [.int (nI (yCnt (o_stt aY) 1 (o_n aC)))]) ⟨hx, hb, hml, hown, hts⟩ (l_inYard l g H.size ad ga (.int 1) (.int 1) aQ aV aC aP aG aY aN aW aK aS aT 4 (show xInv aV aC aP aG aY aN aW aK aS aT from by first | assumption | omega) (show o_n aC ≤ 24 from by first | assumption | omega) (show 0 ≤ 4 ∧ 4 ≤ 4 from by first | assumption | omega)) (va_cwS 2 hts gL_law_L_inYard rfl rfl rfl (by decide +kernel) ⟨Nat.le_of_ble_eq_true rfl, Nat.le_of_ble_eq_true rfl⟩) ⟨xB.blind, fun U9 hU9 hW9 => ⟨rfl, xB.mk hPc hK hDc hU9 hW9⟩⟩ rfl rfl hl.1 rfl (lv_room (Nat.le_of_ble_eq_true rfl)) dL_law_477 ⟨Nat.le_of_ble_eq_true rfl, Nat.le_of_ble_eq_true rfl⟩) hS (fun q _ h => hFc q h) hFc (fun r_15 _ t H1 locs ht hvm hw_16 hB hz1 hk1 hS => ?_)
        have hP := xSame hP hk1
        generalize H1 = H at hP hS ⊢
        have hP : va_P (xD g) vwCl (SW g ad ga (.int 1) (.int 1) aQ aV aC aP aG aY aN aW aK aS aT ++ [(za, .inl (xI g, 4, .inl (fun j => nI (ez j))))]) H := hP
        have hD : va_D A (SW g ad ga (.int 1) (.int 1) aQ aV aC aP aG aY aN aW aK aS aT ++ [(za, .inl (xI g, 4, .inl (fun j => nI (ez j))))]) := hD
        try dsimp only at hw_16
        obtain rfl : r_15 = nI (yCnt (o_stt aY) 4 (o_n aC)) := hw_16
        refine lv_iadd hx hb dL_law_480 ?_
        refine lv_topi (fun v_17 ev => ?_)
        obtain rfl : v_17 = nI ((yCnt (o_stt aY) 1 (o_n aC)) + (yCnt (o_stt aY) 4 (o_n aC))) := ev.trans (nI_add (yCnt (o_stt aY) 1 (o_n aC)) (yCnt (o_stt aY) 4 (o_n aC)))
        refine lv_aload hx hb dL_law_481 (lv_at hl 2 rfl) ?_
        refine lv_iconst (v := 3) hx hb dL_law_483 (by decide) ?_
        refine va_iald hx hb hK hP 140 0 rfl rfl (by unfold vp_in; decide) dL_law_484 ?_
        refine lv_topi (fun v_18 ev => ?_)
        obtain rfl : v_18 = nI (ez 3) := ev.trans (congrArg (fun q9 => nI (ez q9)) (by decide))
        refine lv_icmp_eq (tgt := 490) hx hb dL_law_485 (by decide) (fun c_19 => ?_) (fun c_19 => ?_)
        · have nc_19 := (nI_eq (a := (yCnt (o_stt aY) 1 (o_n aC)) + (yCnt (o_stt aY) 4 (o_n aC))) (b := ez 3) (by omega) (by omega)).mp c_19
          refine lv_aload_n hx hb dL_law_490 rfl (lv_at hl 1 rfl) ?_
          have hPc := xPl hP
          have hDc := xDl hD
          have hFc := xFree hS hA
          refine va_calll (va_runV (As := []) (rest := []) ⟨hx, hb, hml, hown, hts⟩ (L_digest l g H.size ad ga aQ aV aC aP aG aY aN aW aK aS aT (show xInv aV aC aP aG aY aN aW aK aS aT from by first | assumption | omega) (show (o_vc aQ) ≤ 6 from by first | assumption | omega) (show (o_n aC) ≤ 24 from by first | assumption | omega) (show (o_sc aY) ≤ 12 from by first | assumption | omega) (show (o_cnt aG) ≤ 48 from by first | assumption | omega)) (cwV 0 hts gL_law_X8_digest rfl rfl rfl (by decide +kernel) ⟨Nat.le_of_ble_eq_true rfl, Nat.le_of_ble_eq_true rfl⟩) ⟨xB.blind, va_recv hK hPc (ci := 8) (q0 := 0) rfl rfl, fun U9 hU9 hW9 => ⟨rfl, xB.mk hPc hK hDc hU9 hW9⟩⟩ rfl rfl hl.1 rfl (lv_room (Nat.le_of_ble_eq_true rfl)) dL_law_491 ⟨Nat.le_of_ble_eq_true rfl, Nat.le_of_ble_eq_true rfl⟩) hS (fun q _ h => hFc q h) hFc (fun r_20 _ t H1 locs ht hvm hw_21 hB hz1 hk1 hS => ?_)
          have hP := xSame hP hk1
          generalize H1 = H at hP hS ⊢
          have hP : va_P (xD g) vwCl (SW g ad ga (.int 1) (.int 1) aQ aV aC aP aG aY aN aW aK aS aT ++ [(za, .inl (xI g, 4, .inl (fun j => nI (ez j))))]) H := hP
          have hD : va_D A (SW g ad ga (.int 1) (.int 1) aQ aV aC aP aG aY aN aW aK aS aT ++ [(za, .inl (xI g, 4, .inl (fun j => nI (ez j))))]) := hD
          try dsimp only at hw_21
          obtain rfl : r_20 = dDg (o_vc aQ) (o_n aC) (o_sc aY) (o_rs aY) (o_cnt aG) (o_Vba aV) (o_Vrc aV) (o_Vgl aV) (o_Vhd aV) (o_Vwt aV) (o_wbz aV) (o_frh aV) (o_bgz aV) (mT (o_qta aP) (o_bgz aV) (o_cve aC) (o_cba aC) (o_cex aC) (o_n aC)) (o_qrd aP) (o_qta aP) (o_qla aP) (o_gsv aG) (o_kf aG) (o_hgt aY) (o_sd aY) (o_lv aY) (o_stt aY) (o_oo aY) := hw_21
          refine lv_lstore (lv' := [(9, .long (dDg (o_vc aQ) (o_n aC) (o_sc aY) (o_rs aY) (o_cnt aG) (o_Vba aV) (o_Vrc aV) (o_Vgl aV) (o_Vhd aV) (o_Vwt aV) (o_wbz aV) (o_frh aV) (o_bgz aV) (mT (o_qta aP) (o_bgz aV) (o_cve aC) (o_cba aC) (o_cex aC) (o_n aC)) (o_qrd aP) (o_qta aP) (o_qla aP) (o_gsv aG) (o_kf aG) (o_hgt aY) (o_sd aY) (o_lv aY) (o_stt aY) (o_oo aY))), (0, .ref sb), (1, .ref (ad 0)), (7, .ref za)]) hx hb dL_law_494 hl (by decide) rfl (fun ls hl => ?_)
          refine lv_aload_n hx hb dL_law_496 rfl (lv_at hl 2 rfl) ?_
          have hPc := xPl hP
          have hDc := xDl hD
          have hFc := xFree hS hA
          refine va_calli (va_runV (As := []) (rest := []) ⟨hx, hb, hml, hown, hts⟩ (L_blocking l g H.size ad ga (.int 1) (.int 1) aQ aV aC aP aG aY aN aW aK aS aT (show xInv aV aC aP aG aY aN aW aK aS aT from by first | assumption | omega) (show (o_sc aY) ≤ 12 from by first | assumption | omega)) (cwV 0 hts gL_law_X8_blocking rfl rfl rfl (by decide +kernel) ⟨Nat.le_of_ble_eq_true rfl, Nat.le_of_ble_eq_true rfl⟩) ⟨xB.blind, va_recv hK hPc (ci := 8) (q0 := 0) rfl rfl, fun U9 hU9 hW9 => ⟨rfl, xB.mk hPc hK hDc hU9 hW9⟩⟩ rfl rfl hl.1 rfl (lv_room (Nat.le_of_ble_eq_true rfl)) dL_law_497 ⟨Nat.le_of_ble_eq_true rfl, Nat.le_of_ble_eq_true rfl⟩) hS (fun q _ h => hFc q h) hFc (fun r_22 _ t H1 locs ht hvm hw_23 hB hz1 hk1 hS => ?_)
          have hP := xSame hP hk1
          generalize H1 = H at hP hS ⊢
          have hP : va_P (xD g) vwCl (SW g ad ga (.int 1) (.int 1) aQ aV aC aP aG aY aN aW aK aS aT ++ [(za, .inl (xI g, 4, .inl (fun j => nI (ez j))))]) H := hP
          have hD : va_D A (SW g ad ga (.int 1) (.int 1) aQ aV aC aP aG aY aN aW aK aS aT ++ [(za, .inl (xI g, 4, .inl (fun j => nI (ez j))))]) := hD
          try dsimp only at hw_23
          obtain rfl : r_22 = nI (yBl (o_lv aY) (o_hgt aY) (o_sd aY) (o_sc aY)) := hw_23
          refine lv_istore (lv' := [(11, .int (nI (yBl (o_lv aY) (o_hgt aY) (o_sd aY) (o_sc aY)))), (9, .long (dDg (o_vc aQ) (o_n aC) (o_sc aY) (o_rs aY) (o_cnt aG) (o_Vba aV) (o_Vrc aV) (o_Vgl aV) (o_Vhd aV) (o_Vwt aV) (o_wbz aV) (o_frh aV) (o_bgz aV) (mT (o_qta aP) (o_bgz aV) (o_cve aC) (o_cba aC) (o_cex aC) (o_n aC)) (o_qrd aP) (o_qta aP) (o_qla aP) (o_gsv aG) (o_kf aG) (o_hgt aY) (o_sd aY) (o_lv aY) (o_stt aY) (o_oo aY))), (0, .ref sb), (1, .ref (ad 0)), (7, .ref za)]) hx hb dL_law_500 hl (by decide) rfl (fun ls hl => ?_)
          refine lv_aload_n hx hb dL_law_502 rfl (lv_at hl 3 rfl) ?_
          refine lv_bipush (v := 50) hx hb dL_law_503 (by decide) ?_
          have hPc := xPl hP
          have hDc := xDl hD
          have hFc := xFl hD hS hA
          refine va_calli (va_runV (As := [.int 50]) (rest := []) ⟨hx, hb, hml, hown, hts⟩ (L_tidy l g H.size ad ga (.int 1) (.int 1) aQ aV aC aP aG aY aN aW aK aS aT 50 (o_n aC) (show xInv aV aC aP aG aY aN aW aK aS aT from by first | assumption | omega) (show (o_sc aY) ≤ 12 from by first | assumption | omega) (show 50 < 1000000 from by first | assumption | omega) hI.1) (cwV 1 hts gL_law_X8_tidy rfl rfl rfl (by decide +kernel) ⟨Nat.le_of_ble_eq_true rfl, Nat.le_of_ble_eq_true rfl⟩) ⟨xB.blind, va_recv hK hPc (ci := 8) (q0 := 0) rfl rfl, fun U9 hU9 hW9 => ⟨rfl, xB.mk hPc hK hDc hU9 hW9⟩⟩ rfl rfl hl.1 rfl (lv_room (Nat.le_of_ble_eq_true rfl)) dL_law_505 ⟨Nat.le_of_ble_eq_true rfl, Nat.le_of_ble_eq_true rfl⟩) hS (fun q _ h => hFc q h) hFc (fun r_24 u_26 t H1 locs ht hvm hw_25 hB hz1 hk1 hS => ?_)
          obtain ⟨aY2_27, hc_28, hP1, hK1, hD1⟩ := hB
          rw [ht] at hP1
          have hInv : xInv aV aC aP aG aY2_27 aN aW aK aS aT := hc_28.1
          have hrel : (o_hgt aY2_27, o_sd aY2_27, o_oo aY2_27) = u_26.1 ∧ o_rs aY2_27 = o_rs aY + u_26.2 ∧ o_stt aY2_27 = o_stt aY ∧ o_wo aY2_27 = o_wo aY ∧ (o_sc aY2_27 = o_sc aY ∧ o_lim aY2_27 = o_lim aY ∧ o_wt aY2_27 = o_wt aY ∧ o_lv aY2_27 = o_lv aY) ∧ yOk (o_n aC) (o_sc aY) (o_lim aY) u_26.1 (o_stt aY) ∧ yBl (o_lv aY) u_26.1.1 u_26.1.2.1 (o_sc aY) + u_26.2 = yBl (o_lv aY) (o_hgt aY) (o_sd aY) (o_sc aY) ∧ (u_26.2 = 0 → u_26.1 = (o_hgt aY, o_sd aY, o_oo aY)) ∧ u_26.2 ≤ 50 := hc_28.2
          obtain ⟨hP, hD⟩ := xJl hP hD hk1 hFc hP1 hD1
          generalize H1 = H at hP hS ⊢
          have hP : va_P (xD g) vwCl (SW g ad ga (.int 1) (.int 1) aQ aV aC aP aG aY2_27 aN aW aK aS aT ++ [(za, .inl (xI g, 4, .inl (fun j => nI (ez j))))]) H := hP
          have hD : va_D A (SW g ad ga (.int 1) (.int 1) aQ aV aC aP aG aY2_27 aN aW aK aS aT ++ [(za, .inl (xI g, 4, .inl (fun j => nI (ez j))))]) := hD
          try dsimp only at hw_25
          obtain ⟨ht1, ht2, ht3, ht4, ht5, ht6, ht7, ht8, ht9⟩ := hrel
          obtain rfl : r_24 = nI u_26.2 := hw_25
          have hbl2 : yBl (o_lv aY2_27) (o_hgt aY2_27) (o_sd aY2_27) (o_sc aY2_27) + u_26.2 = yBl (o_lv aY) (o_hgt aY) (o_sd aY) (o_sc aY) := by rw [ht5.2.2.2, ht5.1]; have z1 : o_hgt aY2_27 = u_26.1.1 := congrArg (fun q => q.1) ht1; have z2 : o_sd aY2_27 = u_26.1.2.1 := congrArg (fun q => q.2.1) ht1; rw [z1, z2]; exact ht7
          have hsc2 : o_sc aY2_27 ≤ 12 := by rw [ht5.1]; exact hsc
          have hbb := yBl_le (lv := o_lv aY) (ht := o_hgt aY) (sd := o_sd aY) (o_sc aY)
          refine lv_istore (lv' := [(12, .int (nI (u_26.2))), (11, .int (nI (yBl (o_lv aY) (o_hgt aY) (o_sd aY) (o_sc aY)))), (9, .long (dDg (o_vc aQ) (o_n aC) (o_sc aY) (o_rs aY) (o_cnt aG) (o_Vba aV) (o_Vrc aV) (o_Vgl aV) (o_Vhd aV) (o_Vwt aV) (o_wbz aV) (o_frh aV) (o_bgz aV) (mT (o_qta aP) (o_bgz aV) (o_cve aC) (o_cba aC) (o_cex aC) (o_n aC)) (o_qrd aP) (o_qta aP) (o_qla aP) (o_gsv aG) (o_kf aG) (o_hgt aY) (o_sd aY) (o_lv aY) (o_stt aY) (o_oo aY))), (0, .ref sb), (1, .ref (ad 0)), (7, .ref za)]) hx hb dL_law_508 hl (by decide) rfl (fun ls hl => ?_)
          refine lv_iload hx hb dL_law_510 (lv_at hl 0 rfl) ?_
          refine lv_iload hx hb dL_law_512 (lv_at hl 1 rfl) ?_
          refine lv_icmp_gt (tgt := 562) hx hb dL_law_514 (by decide) (fun c_29 => ?_) (fun c_29 => ?_)
          · have nc_29 := (nI_ltI (a := yBl (o_lv aY) (o_hgt aY) (o_sd aY) (o_sc aY)) (b := u_26.2) (by omega) (by omega)).mp c_29
            refine lv_iconst (v := 0) hx hb dL_law_562 (by decide) ?_
            exfalso; omega
          · have nc_29 := mt (nI_ltI (a := yBl (o_lv aY) (o_hgt aY) (o_sd aY) (o_sc aY)) (b := u_26.2) (by omega) (by omega)).mpr c_29
            refine lv_aload_n hx hb dL_law_517 rfl (lv_at hl 4 rfl) ?_
            have hPc := xPl hP
            have hDc := xDl hD
            have hFc := xFree hS hA
            refine va_calli (va_runV (As := []) (rest := []) ⟨hx, hb, hml, hown, hts⟩ (L_blocking l g H.size ad ga (.int 1) (.int 1) aQ aV aC aP aG aY2_27 aN aW aK aS aT (show xInv aV aC aP aG aY2_27 aN aW aK aS aT from by first | assumption | omega) (show (o_sc aY2_27) ≤ 12 from by first | assumption | omega)) (cwV 0 hts gL_law_X8_blocking rfl rfl rfl (by decide +kernel) ⟨Nat.le_of_ble_eq_true rfl, Nat.le_of_ble_eq_true rfl⟩) ⟨xB.blind, va_recv hK hPc (ci := 8) (q0 := 0) rfl rfl, fun U9 hU9 hW9 => ⟨rfl, xB.mk hPc hK hDc hU9 hW9⟩⟩ rfl rfl hl.1 rfl (lv_room (Nat.le_of_ble_eq_true rfl)) dL_law_518 ⟨Nat.le_of_ble_eq_true rfl, Nat.le_of_ble_eq_true rfl⟩) hS (fun q _ h => hFc q h) hFc (fun r_30 _ t H1 locs ht hvm hw_31 hB hz1 hk1 hS => ?_)
            have hP := xSame hP hk1
            generalize H1 = H at hP hS ⊢
            have hP : va_P (xD g) vwCl (SW g ad ga (.int 1) (.int 1) aQ aV aC aP aG aY2_27 aN aW aK aS aT ++ [(za, .inl (xI g, 4, .inl (fun j => nI (ez j))))]) H := hP
            have hD : va_D A (SW g ad ga (.int 1) (.int 1) aQ aV aC aP aG aY2_27 aN aW aK aS aT ++ [(za, .inl (xI g, 4, .inl (fun j => nI (ez j))))]) := hD
            try dsimp only at hw_31
            obtain rfl : r_30 = nI (yBl (o_lv aY2_27) (o_hgt aY2_27) (o_sd aY2_27) (o_sc aY2_27)) := hw_31
            refine lv_iload hx hb dL_law_521 (lv_at hl 1 rfl) ?_
            refine lv_iload hx hb dL_law_523 (lv_at hl 0 rfl) ?_
            refine lv_isub hx hb dL_law_525 ?_
            refine lv_topi (fun v_32 ev => ?_)
            obtain rfl : v_32 = nI ((yBl (o_lv aY) (o_hgt aY) (o_sd aY) (o_sc aY)) - u_26.2) := ev.trans (pk_sub (a := yBl (o_lv aY) (o_hgt aY) (o_sd aY) (o_sc aY)) (b := u_26.2) (by omega))
            refine lv_icmp_gt (tgt := 562) hx hb dL_law_526 (by decide) (fun c_33 => ?_) (fun c_33 => ?_)
            · have nc_33 := (nI_ltI (a := (yBl (o_lv aY) (o_hgt aY) (o_sd aY) (o_sc aY)) - u_26.2) (b := yBl (o_lv aY2_27) (o_hgt aY2_27) (o_sd aY2_27) (o_sc aY2_27)) (by omega) (by omega)).mp c_33
              refine lv_iconst (v := 0) hx hb dL_law_562 (by decide) ?_
              exfalso; omega
            · have nc_33 := mt (nI_ltI (a := (yBl (o_lv aY) (o_hgt aY) (o_sd aY) (o_sc aY)) - u_26.2) (b := yBl (o_lv aY2_27) (o_hgt aY2_27) (o_sd aY2_27) (o_sc aY2_27)) (by omega) (by omega)).mpr c_33
              refine lv_iload hx hb dL_law_529 (lv_at hl 0 rfl) ?_
              refine lv_if_gt (tgt := 544) hx hb dL_law_531 (by decide) (fun c_34 => ?_) (fun c_34 => ?_)
              · have nc_34 := (nI_ltI (a := 0) (b := u_26.2) (by omega) (by omega)).mp c_34
                refine lv_aload_n hx hb dL_law_544 rfl (lv_at hl 4 rfl) ?_
                have hPc := xPl hP
                have hDc := xDl hD
                have hFc := xFree hS hA
                refine va_calli (va_runV (As := []) (rest := []) ⟨hx, hb, hml, hown, hts⟩ (L_reshuffles l g H.size ad ga (.int 1) (.int 1) aQ aV aC aP aG aY2_27 aN aW aK aS aT (show xInv aV aC aP aG aY2_27 aN aW aK aS aT from by first | assumption | omega)) (cwV 0 hts gL_law_X8_reshuffles rfl rfl rfl (by decide +kernel) ⟨Nat.le_of_ble_eq_true rfl, Nat.le_of_ble_eq_true rfl⟩) ⟨xB.blind, va_recv hK hPc (ci := 8) (q0 := 0) rfl rfl, fun U9 hU9 hW9 => ⟨rfl, xB.mk hPc hK hDc hU9 hW9⟩⟩ rfl rfl hl.1 rfl (lv_room (Nat.le_of_ble_eq_true rfl)) dL_law_545 ⟨Nat.le_of_ble_eq_true rfl, Nat.le_of_ble_eq_true rfl⟩) hS (fun q _ h => hFc q h) hFc (fun r_35 _ t H1 locs ht hvm hw_36 hB hz1 hk1 hS => ?_)
                have hP := xSame hP hk1
                generalize H1 = H at hP hS ⊢
                have hP : va_P (xD g) vwCl (SW g ad ga (.int 1) (.int 1) aQ aV aC aP aG aY2_27 aN aW aK aS aT ++ [(za, .inl (xI g, 4, .inl (fun j => nI (ez j))))]) H := hP
                have hD : va_D A (SW g ad ga (.int 1) (.int 1) aQ aV aC aP aG aY2_27 aN aW aK aS aT ++ [(za, .inl (xI g, 4, .inl (fun j => nI (ez j))))]) := hD
                try dsimp only at hw_36
                obtain rfl : r_35 = nI (o_rs aY2_27) := hw_36
                refine lv_aload hx hb dL_law_548 (lv_at hl 5 rfl) ?_
                refine lv_iconst (v := 0) hx hb dL_law_550 (by decide) ?_
                refine va_iald hx hb hK hP 140 0 rfl rfl (by unfold vp_in; decide) dL_law_551 ?_
                refine lv_topi (fun v_37 ev => ?_)
                obtain rfl : v_37 = nI (ez 0) := ev.trans (congrArg (fun q9 => nI (ez q9)) (by decide))
                refine lv_iload hx hb dL_law_552 (lv_at hl 0 rfl) ?_
                refine lv_iadd hx hb dL_law_554 ?_
                refine lv_topi (fun v_38 ev => ?_)
                obtain rfl : v_38 = nI ((ez 0) + u_26.2) := ev.trans (nI_add (ez 0) u_26.2)
                refine lv_icmp_ne (tgt := 562) hx hb dL_law_555 (by decide) (fun c_39 => ?_) (fun c_39 => ?_)
                · have nc_39 := mt (nI_eq (a := o_rs aY2_27) (b := (ez 0) + u_26.2) (by omega) (by omega)).mpr c_39
                  refine lv_iconst (v := 0) hx hb dL_law_562 (by decide) ?_
                  exfalso; omega
                · have nc_39 := (nI_eq (a := o_rs aY2_27) (b := (ez 0) + u_26.2) (by omega) (by omega)).mp c_39
                  refine lv_iconst (v := 1) hx hb dL_law_558 (by decide) ?_
                  refine lv_goto (tgt := 563) hx hb dL_law_559 (by decide) ?_
                  refine W.widen (k := 200) (n := 3000) (by omega) (by omega) ?_
                  exact Kend H locs ls hS
              · have nc_34 := mt (nI_ltI (a := 0) (b := u_26.2) (by omega) (by omega)).mpr c_34
                refine lv_aload_n hx hb dL_law_534 rfl (lv_at hl 4 rfl) ?_
                have hPc := xPl hP
                have hDc := xDl hD
                have hFc := xFree hS hA
                refine va_calll (va_runV (As := []) (rest := []) ⟨hx, hb, hml, hown, hts⟩ (L_digest l g H.size ad ga aQ aV aC aP aG aY2_27 aN aW aK aS aT (show xInv aV aC aP aG aY2_27 aN aW aK aS aT from by first | assumption | omega) (show (o_vc aQ) ≤ 6 from by first | assumption | omega) (show (o_n aC) ≤ 24 from by first | assumption | omega) (show (o_sc aY2_27) ≤ 12 from by first | assumption | omega) (show (o_cnt aG) ≤ 48 from by first | assumption | omega)) (cwV 0 hts gL_law_X8_digest rfl rfl rfl (by decide +kernel) ⟨Nat.le_of_ble_eq_true rfl, Nat.le_of_ble_eq_true rfl⟩) ⟨xB.blind, va_recv hK hPc (ci := 8) (q0 := 0) rfl rfl, fun U9 hU9 hW9 => ⟨rfl, xB.mk hPc hK hDc hU9 hW9⟩⟩ rfl rfl hl.1 rfl (lv_room (Nat.le_of_ble_eq_true rfl)) dL_law_535 ⟨Nat.le_of_ble_eq_true rfl, Nat.le_of_ble_eq_true rfl⟩) hS (fun q _ h => hFc q h) hFc (fun r_40 _ t H1 locs ht hvm hw_41 hB hz1 hk1 hS => ?_)
                have hP := xSame hP hk1
                generalize H1 = H at hP hS ⊢
                have hP : va_P (xD g) vwCl (SW g ad ga (.int 1) (.int 1) aQ aV aC aP aG aY2_27 aN aW aK aS aT ++ [(za, .inl (xI g, 4, .inl (fun j => nI (ez j))))]) H := hP
                have hD : va_D A (SW g ad ga (.int 1) (.int 1) aQ aV aC aP aG aY2_27 aN aW aK aS aT ++ [(za, .inl (xI g, 4, .inl (fun j => nI (ez j))))]) := hD
                try dsimp only at hw_41
                obtain rfl : r_40 = dDg (o_vc aQ) (o_n aC) (o_sc aY2_27) (o_rs aY2_27) (o_cnt aG) (o_Vba aV) (o_Vrc aV) (o_Vgl aV) (o_Vhd aV) (o_Vwt aV) (o_wbz aV) (o_frh aV) (o_bgz aV) (mT (o_qta aP) (o_bgz aV) (o_cve aC) (o_cba aC) (o_cex aC) (o_n aC)) (o_qrd aP) (o_qta aP) (o_qla aP) (o_gsv aG) (o_kf aG) (o_hgt aY2_27) (o_sd aY2_27) (o_lv aY2_27) (o_stt aY2_27) (o_oo aY2_27) := hw_41
                have hu0 : u_26.2 = 0 := by omega
                have hsm := ht8 hu0
                have hdg : dDg (o_vc aQ) (o_n aC) (o_sc aY2_27) (o_rs aY2_27) (o_cnt aG) (o_Vba aV) (o_Vrc aV) (o_Vgl aV) (o_Vhd aV) (o_Vwt aV) (o_wbz aV) (o_frh aV) (o_bgz aV) (mT (o_qta aP) (o_bgz aV) (o_cve aC) (o_cba aC) (o_cex aC) (o_n aC)) (o_qrd aP) (o_qta aP) (o_qla aP) (o_gsv aG) (o_kf aG) (o_hgt aY2_27) (o_sd aY2_27) (o_lv aY2_27) (o_stt aY2_27) (o_oo aY2_27) = dDg (o_vc aQ) (o_n aC) (o_sc aY) (o_rs aY) (o_cnt aG) (o_Vba aV) (o_Vrc aV) (o_Vgl aV) (o_Vhd aV) (o_Vwt aV) (o_wbz aV) (o_frh aV) (o_bgz aV) (mT (o_qta aP) (o_bgz aV) (o_cve aC) (o_cba aC) (o_cex aC) (o_n aC)) (o_qrd aP) (o_qta aP) (o_qla aP) (o_gsv aG) (o_kf aG) (o_hgt aY) (o_sd aY) (o_lv aY) (o_stt aY) (o_oo aY) := by have z1 : o_hgt aY2_27 = o_hgt aY := (congrArg (fun q => q.1) ht1).trans (congrArg (fun q => q.1) hsm); have z2 : o_sd aY2_27 = o_sd aY := (congrArg (fun q => q.2.1) ht1).trans (congrArg (fun q => q.2.1) hsm); have z3 : o_oo aY2_27 = o_oo aY := (congrArg (fun q => q.2.2) ht1).trans (congrArg (fun q => q.2.2) hsm); rw [z1, z2, z3, ht2, ht3, ht5.1, ht5.2.2.2, hu0, Nat.add_zero]
                rw [hdg]
                refine lv_lload hx hb dL_law_538 (lv_at hl 2 rfl) ?_
                refine W.lcmp hx hb dL_law_540 ?_
                refine lv_topi (fun z_42 ez_42 => ?_)
                obtain rfl : z_42 = (0 : Int32) := ez_42.trans (lg_refl _)
                refine lv_if_ne (tgt := 562) hx hb dL_law_541 (by decide) (fun c0 => absurd (by decide) c0) (fun _ => ?_)
                refine lv_aload_n hx hb dL_law_544 rfl (lv_at hl 4 rfl) ?_
                have hPc := xPl hP
                have hDc := xDl hD
                have hFc := xFree hS hA
                refine va_calli (va_runV (As := []) (rest := []) ⟨hx, hb, hml, hown, hts⟩ (L_reshuffles l g H.size ad ga (.int 1) (.int 1) aQ aV aC aP aG aY2_27 aN aW aK aS aT (show xInv aV aC aP aG aY2_27 aN aW aK aS aT from by first | assumption | omega)) (cwV 0 hts gL_law_X8_reshuffles rfl rfl rfl (by decide +kernel) ⟨Nat.le_of_ble_eq_true rfl, Nat.le_of_ble_eq_true rfl⟩) ⟨xB.blind, va_recv hK hPc (ci := 8) (q0 := 0) rfl rfl, fun U9 hU9 hW9 => ⟨rfl, xB.mk hPc hK hDc hU9 hW9⟩⟩ rfl rfl hl.1 rfl (lv_room (Nat.le_of_ble_eq_true rfl)) dL_law_545 ⟨Nat.le_of_ble_eq_true rfl, Nat.le_of_ble_eq_true rfl⟩) hS (fun q _ h => hFc q h) hFc (fun r_43 _ t H1 locs ht hvm hw_44 hB hz1 hk1 hS => ?_)
                have hP := xSame hP hk1
                generalize H1 = H at hP hS ⊢
                have hP : va_P (xD g) vwCl (SW g ad ga (.int 1) (.int 1) aQ aV aC aP aG aY2_27 aN aW aK aS aT ++ [(za, .inl (xI g, 4, .inl (fun j => nI (ez j))))]) H := hP
                have hD : va_D A (SW g ad ga (.int 1) (.int 1) aQ aV aC aP aG aY2_27 aN aW aK aS aT ++ [(za, .inl (xI g, 4, .inl (fun j => nI (ez j))))]) := hD
                try dsimp only at hw_44
                obtain rfl : r_43 = nI (o_rs aY2_27) := hw_44
                refine lv_aload hx hb dL_law_548 (lv_at hl 5 rfl) ?_
                refine lv_iconst (v := 0) hx hb dL_law_550 (by decide) ?_
                refine va_iald hx hb hK hP 140 0 rfl rfl (by unfold vp_in; decide) dL_law_551 ?_
                refine lv_topi (fun v_45 ev => ?_)
                obtain rfl : v_45 = nI (ez 0) := ev.trans (congrArg (fun q9 => nI (ez q9)) (by decide))
                refine lv_iload hx hb dL_law_552 (lv_at hl 0 rfl) ?_
                refine lv_iadd hx hb dL_law_554 ?_
                refine lv_topi (fun v_46 ev => ?_)
                obtain rfl : v_46 = nI ((ez 0) + u_26.2) := ev.trans (nI_add (ez 0) u_26.2)
                refine lv_icmp_ne (tgt := 562) hx hb dL_law_555 (by decide) (fun c_47 => ?_) (fun c_47 => ?_)
                · have nc_47 := mt (nI_eq (a := o_rs aY2_27) (b := (ez 0) + u_26.2) (by omega) (by omega)).mpr c_47
                  refine lv_iconst (v := 0) hx hb dL_law_562 (by decide) ?_
                  exfalso; omega
                · have nc_47 := (nI_eq (a := o_rs aY2_27) (b := (ez 0) + u_26.2) (by omega) (by omega)).mp c_47
                  refine lv_iconst (v := 1) hx hb dL_law_558 (by decide) ?_
                  refine lv_goto (tgt := 563) hx hb dL_law_559 (by decide) ?_
                  refine W.widen (k := 200) (n := 3000) (by omega) (by omega) ?_
                  exact Kend H locs ls hS
        · have nc_19 := mt (nI_eq (a := (yCnt (o_stt aY) 1 (o_n aC)) + (yCnt (o_stt aY) 4 (o_n aC))) (b := ez 3) (by omega) (by omega)).mpr c_19
          refine lv_iconst (v := 0) hx hb dL_law_488 (by decide) ?_
          exfalso; omega
