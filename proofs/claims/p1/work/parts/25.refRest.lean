theorem dX9_addStack_0 : decode cX9_addStack 0 = .ok (.aload_n 0, 1) := by decide +kernel
theorem dX9_addStack_1 : decode cX9_addStack 1 = .ok (.iload_n 1, 1) := by decide +kernel
theorem dX9_addStack_2 : decode cX9_addStack 2 = .ok (.iconst 1, 1) := by decide +kernel
theorem dX9_addStack_3 : decode cX9_addStack 3 = .ok (.iconst 5, 1) := by decide +kernel
theorem dX9_addStack_4 : decode cX9_addStack 4 = .ok (.invokestatic 134, 3) := by decide +kernel
set_option maxRecDepth 20000 in
theorem ggX9_addStack_X9_isIn : GoodIn wsX9_addStack wsX9_isIn := goodIn_r _ [6] rfl (by decide +kernel)
set_option maxRecDepth 20000 in
theorem gX9_addStack_X9_isIn : GoodIn wsX9_addStack (va_wsS RX9 134 yX9_isIn wsX9_isIn) := goodIn_app (goodIn_of _ (by decide +kernel)) ggX9_addStack_X9_isIn
theorem dX9_addStack_7 : decode cX9_addStack 7 = .ok (.ifCond .ne 7, 3) := by decide +kernel
theorem dX9_addStack_14 : decode cX9_addStack 14 = .ok (.iconst 0, 1) := by decide +kernel
theorem dX9_addStack_15 : decode cX9_addStack 15 = .ok (.iconst 1, 1) := by decide +kernel
theorem dX9_addStack_16 : decode cX9_addStack 16 = .ok (.invokevirtual 138, 3) := by decide +kernel
set_option maxRecDepth 20000 in
theorem ggX9_addStack_X9_start : GoodIn wsX9_addStack wsX9_start := goodIn_r _ [10, 11, 12, 13, 14, 5, 15, 26, 27, 28, 29, 30, 31, 32, 33, 34, 35, 36, 37, 38, 39, 40, 41, 42, 43, 44, 45, 46, 47, 48, 49, 50, 51, 52, 53, 54, 55, 56, 57, 58, 59, 60, 61, 62, 63, 64, 65, 66, 67, 68, 69, 70, 71, 72, 73, 74, 75] rfl (by decide +kernel)
set_option maxRecDepth 20000 in
theorem gX9_addStack_X9_start : GoodIn wsX9_addStack (wsV RX9 138 RX9 yX9_start wsX9_start) := goodIn_app (goodIn_of _ (by decide +kernel)) ggX9_addStack_X9_start
theorem dX9_addStack_19 : decode cX9_addStack 19 = .ok (.ifCond .ne 25, 3) := by decide +kernel
theorem dX9_addStack_22 : decode cX9_addStack 22 = .ok (.aload_n 0, 1) := by decide +kernel
theorem dX9_addStack_23 : decode cX9_addStack 23 = .ok (.aload_n 0, 1) := by decide +kernel
theorem dX9_addStack_24 : decode cX9_addStack 24 = .ok (.getfield 161, 3) := by decide +kernel
theorem dX9_addStack_27 : decode cX9_addStack 27 = .ok (.bipush 12, 2) := by decide +kernel
theorem dX9_addStack_29 : decode cX9_addStack 29 = .ok (.if_icmp .ne 7, 3) := by decide +kernel
theorem dX9_addStack_36 : decode cX9_addStack 36 = .ok (.iconst 0, 1) := by decide +kernel
theorem dX9_addStack_37 : decode cX9_addStack 37 = .ok (.iconst 2, 1) := by decide +kernel
theorem dX9_addStack_38 : decode cX9_addStack 38 = .ok (.invokevirtual 114, 3) := by decide +kernel
set_option maxRecDepth 20000 in
theorem ggX9_addStack_X9_refuse : GoodIn wsX9_addStack wsX9_refuse := goodIn_r _ [15, 11, 26, 27, 28, 29, 30, 31, 32, 33, 34, 35, 36, 37, 38, 39, 40, 41, 42, 43, 44, 45, 46, 47, 48, 49, 50, 51, 52, 53, 54, 55, 56, 57, 58, 59, 60, 61, 62, 63, 64, 65, 66, 67, 68, 69, 70, 71, 72, 73, 74, 75] rfl (by decide +kernel)
set_option maxRecDepth 20000 in
theorem gX9_addStack_X9_refuse : GoodIn wsX9_addStack (wsV RX9 114 RX9 yX9_refuse wsX9_refuse) := goodIn_app (goodIn_of _ (by decide +kernel)) ggX9_addStack_X9_refuse
theorem dX9_addStack_41 : decode cX9_addStack 41 = .ok (.ifCond .eq 5, 3) := by decide +kernel
theorem dX9_addStack_46 : decode cX9_addStack 46 = .ok (.aload_n 0, 1) := by decide +kernel
theorem dX9_addStack_47 : decode cX9_addStack 47 = .ok (.getfield 48, 3) := by decide +kernel
theorem dX9_addStack_50 : decode cX9_addStack 50 = .ok (.aload_n 0, 1) := by decide +kernel
theorem dX9_addStack_51 : decode cX9_addStack 51 = .ok (.getfield 161, 3) := by decide +kernel
theorem dX9_addStack_54 : decode cX9_addStack 54 = .ok (.iload_n 1, 1) := by decide +kernel
theorem dX9_addStack_55 : decode cX9_addStack 55 = .ok (.iastore, 1) := by decide +kernel
theorem dX9_addStack_56 : decode cX9_addStack 56 = .ok (.aload_n 0, 1) := by decide +kernel
theorem dX9_addStack_57 : decode cX9_addStack 57 = .ok (.dup, 1) := by decide +kernel
theorem dX9_addStack_58 : decode cX9_addStack 58 = .ok (.getfield 161, 3) := by decide +kernel
theorem dX9_addStack_61 : decode cX9_addStack 61 = .ok (.iconst 1, 1) := by decide +kernel
theorem dX9_addStack_62 : decode cX9_addStack 62 = .ok (.iadd, 1) := by decide +kernel
theorem dX9_addStack_63 : decode cX9_addStack 63 = .ok (.putfield 161, 3) := by decide +kernel
theorem dX9_addStack_66 : decode cX9_addStack 66 = .ok (.aload_n 0, 1) := by decide +kernel
theorem dX9_addStack_67 : decode cX9_addStack 67 = .ok (.invokevirtual 131, 3) := by decide +kernel
set_option maxRecDepth 20000 in
theorem ggX9_addStack_X9_emptyYard : GoodIn wsX9_addStack wsX9_emptyYard := goodIn_r _ [19, 20, 21, 22, 23, 24, 25, 26, 27, 28, 29, 30, 31, 32, 33, 34, 35, 36, 37, 38, 39, 40, 41, 42, 43, 44, 45, 46, 47, 48, 49, 50, 51, 52, 53, 54, 55, 56, 57, 58, 59, 60, 61, 62, 63, 64, 65, 66, 67, 68, 69, 70, 71, 72, 73, 74, 75] rfl (by decide +kernel)
set_option maxRecDepth 20000 in
theorem gX9_addStack_X9_emptyYard : GoodIn wsX9_addStack (wsV RX9 131 RX9 yX9_emptyYard wsX9_emptyYard) := goodIn_app (goodIn_of _ (by decide +kernel)) ggX9_addStack_X9_emptyYard
theorem dX9_addStack_70 : decode cX9_addStack 70 = .ok (.aload_n 0, 1) := by decide +kernel
theorem dX9_addStack_71 : decode cX9_addStack 71 = .ok (.getfield 161, 3) := by decide +kernel
theorem dX9_addStack_74 : decode cX9_addStack 74 = .ok (.iconst 1, 1) := by decide +kernel
theorem dX9_addStack_75 : decode cX9_addStack 75 = .ok (.isub, 1) := by decide +kernel
theorem dX9_addStack_76 : decode cX9_addStack 76 = .ok (.ireturn, 1) := by decide +kernel
theorem dX9_addStack_10 : decode cX9_addStack 10 = .ok (.iconst 1, 1) := by decide +kernel
theorem dX9_addStack_11 : decode cX9_addStack 11 = .ok (.goto 4, 3) := by decide +kernel
theorem dX9_addStack_44 : decode cX9_addStack 44 = .ok (.iconst 0, 1) := by decide +kernel
theorem dX9_addStack_45 : decode cX9_addStack 45 = .ok (.ireturn, 1) := by decide +kernel
set_option maxHeartbeats 4000000 in
set_option maxRecDepth 100000 in
theorem m0_addStack (l : Launch) (g : xG) (sz : Nat) (h0 : Nat) (hg : Nat) (fh : Nat → Int32) (m0 : Value) (m1 : Value) (m2 : Value) (m3 : Value) (m4 : Value) (m5 : Value) (m6 : Value) (m7 : Value) (m8 : Value) (m9 : Value) (m10 : Value) (m11 : Value) (m12 : Value) (m13 : Value) (m14 : Value) (m17 : Value) (m18 : Value) (m19 : Value) (m20 : Value) (m21 : Value) (m22 : Value) (m23 : Value) (m24 : Value) (m25 : Value) (m26 : Value) (m27 : Value) (m28 : Value) (m29 : Value) (m30 : Value) (m31 : Value) (m32 : Value) (m33 : Value) (m34 : Value) (m35 : Value) (m36 : Value) (m37 : Value) (m38 : Value) (m39 : Value) (m40 : Value) (m41 : Value) (m42 : Value) (m43 : Value) (m44 : Value) (m45 : Value) (m46 : Value) (m47 : Value) (m48 : Value) (m49 : Value) (p0 : Int32)  : Met l yX9_addStack wsX9_addStack ({ frames := 2, cells := 3, slots := 96, locals := 44 }) (va_Pc [.ref h0, .int p0] (fun U => xB g [(h0, .inr (9, [m0, m1, m2, m3, m4, m5, m6, m7, m8, m9, m10, m11, m12, m13, m14, .int 0, .ref hg, m17, m18, m19, m20, m21, m22, m23, m24, m25, m26, m27, m28, m29, m30, m31, m32, m33, m34, m35, m36, m37, m38, m39, m40, m41, m42, m43, m44, m45, m46, m47, m48, m49])), (hg, .inl (xI g, 12, .inl fh))] sz U)) (va_Qi (fun (r : Int32) (u : Int32) => (u = 1 ∧ r = 0 ∧ (p0 < 1 ∨ 5 < p0)) ∨ (u = 0 ∧ r = 0 ∧ (¬ p0 < 1 ∧ ¬ 5 < p0))) (fun (u : Int32) (t : State) => ∃ (w1 : Value) (w2 : Value) (w3 : Value) (w4 : Value) (w5 : Value) (w6 : Value) (w7 : Value) (w8 : Value) (w9 : Value) (w10 : Value) (w11 : Value) (w12 : Value) (w13 : Value) (w14 : Value) (w15 : Value) (w16 : Value) (w17 : Value) (w18 : Value) (w19 : Value) (w20 : Value) (w21 : Value) (w22 : Value) (w23 : Value) (w24 : Value) (w25 : Value) (w26 : Value) (w27 : Value) (w28 : Value) (w29 : Value) (w30 : Value) (w31 : Value) (w32 : Value) (w33 : Value) (w34 : Value) (w35 : Value) (w36 : Value) (w37 : Value) (w38 : Value) (w39 : Value) (w40 : Value) (w41 : Value) (w42 : Value) (w43 : Value) (w44 : Value) (w45 : Value) (w46 : Value) (w47 : Value) (w48 : Value) (w49 : Value), xE g [(h0, .inr (9, [.int u, w1, w2, w3, w4, w5, w6, w7, w8, w9, w10, w11, w12, w13, w14, w15, w16, w17, w18, w19, w20, w21, w22, w23, w24, w25, w26, w27, w28, w29, w30, w31, w32, w33, w34, w35, w36, w37, w38, w39, w40, w41, w42, w43, w44, w45, w46, w47, w48, w49]))] (va_A [(h0, .inr (9, [m0, m1, m2, m3, m4, m5, m6, m7, m8, m9, m10, m11, m12, m13, m14, .int 0, .ref hg, m17, m18, m19, m20, m21, m22, m23, m24, m25, m26, m27, m28, m29, m30, m31, m32, m33, m34, m35, m36, m37, m38, m39, m40, m41, m42, m43, m44, m45, m46, m47, m48, m49])), (hg, .inl (xI g, 12, .inl fh))] sz) t) (va_A [(h0, .inr (9, [m0, m1, m2, m3, m4, m5, m6, m7, m8, m9, m10, m11, m12, m13, m14, .int 0, .ref hg, m17, m18, m19, m20, m21, m22, m23, m24, m25, m26, m27, m28, m29, m30, m31, m32, m33, m34, m35, m36, m37, m38, m39, m40, m41, m42, m43, m44, m45, m46, m47, m48, m49])), (hg, .inl (xI g, 12, .inl fh))] sz)) 3 96 (va_A [(h0, .inr (9, [m0, m1, m2, m3, m4, m5, m6, m7, m8, m9, m10, m11, m12, m13, m14, .int 0, .ref hg, m17, m18, m19, m20, m21, m22, m23, m24, m25, m26, m27, m28, m29, m30, m31, m32, m33, m34, m35, m36, m37, m38, m39, m40, m41, m42, m43, m44, m45, m46, m47, m48, m49])), (hg, .inl (xI g, 12, .inl fh))] sz) := by
  refine Met.ofW (cc := cX9_addStack) (maxL := 2) (ret := (some .int)) (by decide) rfl ?_
  intro p e s m args below meth c s₁ B hml hv
  obtain ⟨rfl, ⟨hsz, hP, hK, hD0⟩⟩ := hv
  have hx := B.exec
  have hb := B.bytes
  have hr := B.returns
  have hts := atoms_spec (ws := wsX9_addStack) B.pre
  have hown : s.vm.findClass RX9 = some m.cls := findClass_of_methodNamed B.named
  have hlocks := B.notSynchronized
  subst hsz
  have hD := hD0.self (sz := s.heap.size)
  generalize hAe : va_A [(h0, .inr (9, [m0, m1, m2, m3, m4, m5, m6, m7, m8, m9, m10, m11, m12, m13, m14, .int 0, .ref hg, m17, m18, m19, m20, m21, m22, m23, m24, m25, m26, m27, m28, m29, m30, m31, m32, m33, m34, m35, m36, m37, m38, m39, m40, m41, m42, m43, m44, m45, m46, m47, m48, m49])), (hg, .inl (xI g, 12, .inl fh))] s.heap.size = A at hD ⊢
  have hA : ∀ q : Nat, s.heap.size ≤ q → A q := fun q h => by rw [← hAe]; exact Or.inr h
  have hS : va_S A s.heap s.heap [] := va_S.rf
  have hl := lv_entry ([.ref h0, .int p0]) (n := 2) (Nat.le_of_ble_eq_true rfl)
  rw [lg_entry_eq]
  generalize (lg_sl ([.ref h0, .int p0]) ++ List.replicate (2 - (lg_sl ([.ref h0, .int p0])).length) Slot.unset).toArray = ls at hl ⊢
  have hl : lv_has ls 2 [(0, .ref h0), (1, .int p0)] := hl
  have hFX9 : ∀ w ∈ u_ws RX9 TX9 50, w ∈ wsX9_addStack := by decide +kernel
  refine lv_aload_n hx hb dX9_addStack_0 rfl (lv_at hl 0 rfl) ?_
  refine lv_iload_n hx hb dX9_addStack_1 rfl (lv_at hl 1 rfl) ?_
  refine lv_iconst (v := 1) hx hb dX9_addStack_2 (by decide) ?_
  refine lv_iconst (v := 5) hx hb dX9_addStack_3 (by decide) ?_
  have hPc := hP.sub (ws' := []) [] rfl
  have hDc := hD.sub (ws' := []) [] (by decide) rfl
  have hFc := xFree hS hA
  refine va_calli (va_runS (As := [.int p0, .int 1, .int 5]) (rest := [.ref h0]) ⟨hx, hb, hml, hown, hts⟩ (m_isIn l g s.heap.size p0 1 5) (va_cwS 3 hts gX9_addStack_X9_isIn rfl rfl rfl (by decide +kernel) ⟨Nat.le_of_ble_eq_true rfl, Nat.le_of_ble_eq_true rfl⟩) ⟨xB.blind, fun U9 hU9 hW9 => ⟨rfl, xB.mk hPc hK hDc hU9 hW9⟩⟩ rfl rfl hl.1 rfl (lv_room (Nat.le_of_ble_eq_true rfl)) dX9_addStack_4 ⟨Nat.le_of_ble_eq_true rfl, Nat.le_of_ble_eq_true rfl⟩) hS (fun q _ h => hFc q h) hFc (fun r_1 u_2 t H1 locs ht hvm hw_3 hB hz1 hk1 hS => ?_)
  have hP := xSame hP hk1
  generalize H1 = H at hP hS ⊢
  have hP : va_P (xD g) vwCl [(h0, .inr (9, [m0, m1, m2, m3, m4, m5, m6, m7, m8, m9, m10, m11, m12, m13, m14, .int 0, .ref hg, m17, m18, m19, m20, m21, m22, m23, m24, m25, m26, m27, m28, m29, m30, m31, m32, m33, m34, m35, m36, m37, m38, m39, m40, m41, m42, m43, m44, m45, m46, m47, m48, m49])), (hg, .inl (xI g, 12, .inl fh))] H := hP
  have hD : va_D A [(h0, .inr (9, [m0, m1, m2, m3, m4, m5, m6, m7, m8, m9, m10, m11, m12, m13, m14, .int 0, .ref hg, m17, m18, m19, m20, m21, m22, m23, m24, m25, m26, m27, m28, m29, m30, m31, m32, m33, m34, m35, m36, m37, m38, m39, m40, m41, m42, m43, m44, m45, m46, m47, m48, m49])), (hg, .inl (xI g, 12, .inl fh))] := hD
  try dsimp only at hw_3
  rcases hw_3 with ⟨rfl, c_4⟩ | ⟨rfl, c_5⟩
  · refine lv_if_ne (tgt := 14) hx hb dX9_addStack_7 (by decide) (fun _ => ?_) (fun c0 => absurd c0 (by decide))
    refine lv_iconst (v := 0) hx hb dX9_addStack_14 (by decide) ?_
    refine lv_iconst (v := 1) hx hb dX9_addStack_15 (by decide) ?_
    have hPc := hP.sub (ws' := [(h0, .inr (9, [m0, m1, m2, m3, m4, m5, m6, m7, m8, m9, m10, m11, m12, m13, m14, .int 0, .ref hg, m17, m18, m19, m20, m21, m22, m23, m24, m25, m26, m27, m28, m29, m30, m31, m32, m33, m34, m35, m36, m37, m38, m39, m40, m41, m42, m43, m44, m45, m46, m47, m48, m49]))]) [0] rfl
    have hDc := hD.sub (ws' := [(h0, .inr (9, [m0, m1, m2, m3, m4, m5, m6, m7, m8, m9, m10, m11, m12, m13, m14, .int 0, .ref hg, m17, m18, m19, m20, m21, m22, m23, m24, m25, m26, m27, m28, m29, m30, m31, m32, m33, m34, m35, m36, m37, m38, m39, m40, m41, m42, m43, m44, m45, m46, m47, m48, m49]))]) [0] (by decide) rfl
    have hFc := va_free (wc := [(h0, .inr (9, [m0, m1, m2, m3, m4, m5, m6, m7, m8, m9, m10, m11, m12, m13, m14, .int 0, .ref hg, m17, m18, m19, m20, m21, m22, m23, m24, m25, m26, m27, m28, m29, m30, m31, m32, m33, m34, m35, m36, m37, m38, m39, m40, m41, m42, m43, m44, m45, m46, m47, m48, m49]))]) hD hS hA [0] rfl
    refine va_calli (va_runV (As := [.int 0, .int 1]) (rest := []) ⟨hx, hb, hml, hown, hts⟩ (m_start0 l g H.size h0 m0 m1 m2 m3 m4 m5 m6 m7 m8 m9 m10 m11 m12 m13 m14 (.int 0) (.ref hg) m17 m18 m19 m20 m21 m22 m23 m24 m25 m26 m27 m28 m29 m30 m31 m32 m33 m34 m35 m36 m37 m38 m39 m40 m41 m42 m43 m44 m45 m46 m47 m48 m49 1) (cwV 2 hts gX9_addStack_X9_start rfl rfl rfl (by decide +kernel) ⟨Nat.le_of_ble_eq_true rfl, Nat.le_of_ble_eq_true rfl⟩) ⟨xB.blind, va_recv hK hPc (ci := 9) (q0 := 0) rfl rfl, fun U9 hU9 hW9 => ⟨rfl, xB.mk hPc hK hDc hU9 hW9⟩⟩ rfl rfl hl.1 rfl (lv_room (Nat.le_of_ble_eq_true rfl)) dX9_addStack_16 ⟨Nat.le_of_ble_eq_true rfl, Nat.le_of_ble_eq_true rfl⟩) hS (fun q _ h => hFc q h) hFc (fun r_6 u_7 t H1 locs ht hvm hw_8 hB hz1 hk1 hS => ?_)
    obtain ⟨hP1, hK1, hD1⟩ := hB
    rw [ht] at hP1
    obtain ⟨hP, hD⟩ := va_join (wr := [(hg, .inl (xI g, 12, .inl fh))]) (w1 := [(h0, .inr (9, [.int 0, m1, m2, m3, m4, m5, m6, m7, m8, m9, m10, m11, m12, m13, m14, .int 0, .ref hg, m17, m18, m19, m20, m21, m22, m23, m24, m25, m26, m27, m28, m29, m30, m31, m32, m33, m34, m35, m36, m37, m38, m39, m40, m41, m42, m43, m44, m45, m46, m47, m48, m49]))]) hP hD [0] [1] rfl rfl (by decide) (by decide) hk1 hFc hP1 hD1
    generalize H1 = H at hP hS ⊢
    have hP : va_P (xD g) vwCl [(hg, .inl (xI g, 12, .inl fh)), (h0, .inr (9, [.int 0, m1, m2, m3, m4, m5, m6, m7, m8, m9, m10, m11, m12, m13, m14, .int 0, .ref hg, m17, m18, m19, m20, m21, m22, m23, m24, m25, m26, m27, m28, m29, m30, m31, m32, m33, m34, m35, m36, m37, m38, m39, m40, m41, m42, m43, m44, m45, m46, m47, m48, m49]))] H := hP
    have hD : va_D A [(hg, .inl (xI g, 12, .inl fh)), (h0, .inr (9, [.int 0, m1, m2, m3, m4, m5, m6, m7, m8, m9, m10, m11, m12, m13, m14, .int 0, .ref hg, m17, m18, m19, m20, m21, m22, m23, m24, m25, m26, m27, m28, m29, m30, m31, m32, m33, m34, m35, m36, m37, m38, m39, m40, m41, m42, m43, m44, m45, m46, m47, m48, m49]))] := hD
    try dsimp only at hw_8
    obtain rfl := hw_8
    refine lv_if_ne (tgt := 44) hx hb dX9_addStack_19 (by decide) (fun c0 => absurd (by decide) c0) (fun _ => ?_)
    refine lv_aload_n hx hb dX9_addStack_22 rfl (lv_at hl 0 rfl) ?_
    refine lv_aload_n hx hb dX9_addStack_23 rfl (lv_at hl 0 rfl) ?_
    refine va_get (D := xD g) (ci := 9) (v := .int 0) (C := RX9) (T := TX9) (N := 50) hx hb hts hFX9 hown hK hP 1 rfl rfl 15 (by decide) (hts (.fieldLink RX9 161 "StevedoreModel" "stacks" "I") (by decide +kernel)) (fun _ h9 => h9) rfl dX9_addStack_24 ?_
    refine lv_bipush (v := 12) hx hb dX9_addStack_27 (by decide) ?_
    refine lv_icmp_ne (tgt := 36) hx hb dX9_addStack_29 (by decide) (fun _ => ?_) (fun c0 => absurd c0 (by decide))
    refine lv_iconst (v := 0) hx hb dX9_addStack_36 (by decide) ?_
    refine lv_iconst (v := 2) hx hb dX9_addStack_37 (by decide) ?_
    have hPc := hP.sub (ws' := [(h0, .inr (9, [.int 0, m1, m2, m3, m4, m5, m6, m7, m8, m9, m10, m11, m12, m13, m14, .int 0, .ref hg, m17, m18, m19, m20, m21, m22, m23, m24, m25, m26, m27, m28, m29, m30, m31, m32, m33, m34, m35, m36, m37, m38, m39, m40, m41, m42, m43, m44, m45, m46, m47, m48, m49]))]) [1] rfl
    have hDc := hD.sub (ws' := [(h0, .inr (9, [.int 0, m1, m2, m3, m4, m5, m6, m7, m8, m9, m10, m11, m12, m13, m14, .int 0, .ref hg, m17, m18, m19, m20, m21, m22, m23, m24, m25, m26, m27, m28, m29, m30, m31, m32, m33, m34, m35, m36, m37, m38, m39, m40, m41, m42, m43, m44, m45, m46, m47, m48, m49]))]) [1] (by decide) rfl
    have hFc := xFree hS hA
    refine va_calli (va_runV (As := [.int 0, .int 2]) (rest := []) ⟨hx, hb, hml, hown, hts⟩ (m_refuse0 l g H.size h0 m1 m2 m3 m4 m5 m6 m7 m8 m9 m10 m11 m12 m13 m14 (.int 0) (.ref hg) m17 m18 m19 m20 m21 m22 m23 m24 m25 m26 m27 m28 m29 m30 m31 m32 m33 m34 m35 m36 m37 m38 m39 m40 m41 m42 m43 m44 m45 m46 m47 m48 m49 2) (cwV 2 hts gX9_addStack_X9_refuse rfl rfl rfl (by decide +kernel) ⟨Nat.le_of_ble_eq_true rfl, Nat.le_of_ble_eq_true rfl⟩) ⟨xB.blind, va_recv hK hPc (ci := 9) (q0 := 0) rfl rfl, fun U9 hU9 hW9 => ⟨rfl, xB.mk hPc hK hDc hU9 hW9⟩⟩ rfl rfl hl.1 rfl (lv_room (Nat.le_of_ble_eq_true rfl)) dX9_addStack_38 ⟨Nat.le_of_ble_eq_true rfl, Nat.le_of_ble_eq_true rfl⟩) hS (fun q _ h => hFc q h) hFc (fun r_9 u_10 t H1 locs ht hvm hw_11 hB hz1 hk1 hS => ?_)
    have hP := xSame hP hk1
    generalize H1 = H at hP hS ⊢
    have hP : va_P (xD g) vwCl [(hg, .inl (xI g, 12, .inl fh)), (h0, .inr (9, [.int 0, m1, m2, m3, m4, m5, m6, m7, m8, m9, m10, m11, m12, m13, m14, .int 0, .ref hg, m17, m18, m19, m20, m21, m22, m23, m24, m25, m26, m27, m28, m29, m30, m31, m32, m33, m34, m35, m36, m37, m38, m39, m40, m41, m42, m43, m44, m45, m46, m47, m48, m49]))] H := hP
    have hD : va_D A [(hg, .inl (xI g, 12, .inl fh)), (h0, .inr (9, [.int 0, m1, m2, m3, m4, m5, m6, m7, m8, m9, m10, m11, m12, m13, m14, .int 0, .ref hg, m17, m18, m19, m20, m21, m22, m23, m24, m25, m26, m27, m28, m29, m30, m31, m32, m33, m34, m35, m36, m37, m38, m39, m40, m41, m42, m43, m44, m45, m46, m47, m48, m49]))] := hD
    try dsimp only at hw_11
    obtain rfl := hw_11
    refine lv_if_eq (tgt := 46) hx hb dX9_addStack_41 (by decide) (fun _ => ?_) (fun c0 => absurd (by decide) c0)
    refine lv_aload_n hx hb dX9_addStack_46 rfl (lv_at hl 0 rfl) ?_
    refine va_get (D := xD g) (ci := 9) (v := .ref hg) (C := RX9) (T := TX9) (N := 50) hx hb hts hFX9 hown hK hP 1 rfl rfl 16 (by decide) (hts (.fieldLink RX9 48 "StevedoreModel" "height" "[I") (by decide +kernel)) (fun _ h9 => h9) rfl dX9_addStack_47 ?_
    refine lv_aload_n hx hb dX9_addStack_50 rfl (lv_at hl 0 rfl) ?_
    refine va_get (D := xD g) (ci := 9) (v := .int 0) (C := RX9) (T := TX9) (N := 50) hx hb hts hFX9 hown hK hP 1 rfl rfl 15 (by decide) (hts (.fieldLink RX9 161 "StevedoreModel" "stacks" "I") (by decide +kernel)) (fun _ h9 => h9) rfl dX9_addStack_51 ?_
    refine lv_iload_n hx hb dX9_addStack_54 rfl (lv_at hl 1 rfl) ?_
    refine va_iast (x := p0) hx hb hK hP hD hS 0 0 rfl rfl (by unfold vp_in; decide) dX9_addStack_55 (fun H locs hP hD hS => ?_)
    have hP : va_P (xD g) vwCl [(hg, .inl (xI g, 12, .inl (upd fh (0 : Int32).toNatClampNeg p0))), (h0, .inr (9, [.int 0, m1, m2, m3, m4, m5, m6, m7, m8, m9, m10, m11, m12, m13, m14, .int 0, .ref hg, m17, m18, m19, m20, m21, m22, m23, m24, m25, m26, m27, m28, m29, m30, m31, m32, m33, m34, m35, m36, m37, m38, m39, m40, m41, m42, m43, m44, m45, m46, m47, m48, m49]))] H := hP
    have hD : va_D A [(hg, .inl (xI g, 12, .inl (upd fh (0 : Int32).toNatClampNeg p0))), (h0, .inr (9, [.int 0, m1, m2, m3, m4, m5, m6, m7, m8, m9, m10, m11, m12, m13, m14, .int 0, .ref hg, m17, m18, m19, m20, m21, m22, m23, m24, m25, m26, m27, m28, m29, m30, m31, m32, m33, m34, m35, m36, m37, m38, m39, m40, m41, m42, m43, m44, m45, m46, m47, m48, m49]))] := hD
    obtain ⟨g_12, eg_12⟩ : ∃ y : Nat → Int32, y = upd fh (0 : Int32).toNatClampNeg p0 := ⟨_, rfl⟩
    rw [← eg_12] at hP hD
    refine lv_aload_n hx hb dX9_addStack_56 rfl (lv_at hl 0 rfl) ?_
    refine lv_dup hx hb dX9_addStack_57 rfl ?_
    refine va_get (D := xD g) (ci := 9) (v := .int 0) (C := RX9) (T := TX9) (N := 50) hx hb hts hFX9 hown hK hP 1 rfl rfl 15 (by decide) (hts (.fieldLink RX9 161 "StevedoreModel" "stacks" "I") (by decide +kernel)) (fun _ h9 => h9) rfl dX9_addStack_58 ?_
    refine lv_iconst (v := 1) hx hb dX9_addStack_61 (by decide) ?_
    refine lv_iadd hx hb dX9_addStack_62 ?_
    refine lv_topi (fun v_13 ev => ?_)
    obtain rfl : v_13 = (1 : Int32) := ev.trans (by decide)
    refine va_put (D := xD g) (ci := 9) (v := .int 1) (ty := .int) (C := RX9) (T := TX9) (N := 50) hx hb hts hFX9 tyX9 tyX9_ok nmX9 hown hK hP hD hS 1 rfl rfl 15 (by decide) (hts (.fieldLink RX9 161 "StevedoreModel" "stacks" "I") (by decide +kernel)) (fun _ h9 => h9) rfl (by decide +kernel) rfl rfl (Nat.le_of_ble_eq_true rfl) dX9_addStack_63 (fun H locs hP hD hS => ?_)
    have hP : va_P (xD g) vwCl [(hg, .inl (xI g, 12, .inl g_12)), (h0, .inr (9, [.int 0, m1, m2, m3, m4, m5, m6, m7, m8, m9, m10, m11, m12, m13, m14, .int 1, .ref hg, m17, m18, m19, m20, m21, m22, m23, m24, m25, m26, m27, m28, m29, m30, m31, m32, m33, m34, m35, m36, m37, m38, m39, m40, m41, m42, m43, m44, m45, m46, m47, m48, m49]))] H := hP
    have hD : va_D A [(hg, .inl (xI g, 12, .inl g_12)), (h0, .inr (9, [.int 0, m1, m2, m3, m4, m5, m6, m7, m8, m9, m10, m11, m12, m13, m14, .int 1, .ref hg, m17, m18, m19, m20, m21, m22, m23, m24, m25, m26, m27, m28, m29, m30, m31, m32, m33, m34, m35, m36, m37, m38, m39, m40, m41, m42, m43, m44, m45, m46, m47, m48, m49]))] := hD
    refine lv_aload_n hx hb dX9_addStack_66 rfl (lv_at hl 0 rfl) ?_
    have hPc := hP.sub (ws' := [(h0, .inr (9, [.int 0, m1, m2, m3, m4, m5, m6, m7, m8, m9, m10, m11, m12, m13, m14, .int 1, .ref hg, m17, m18, m19, m20, m21, m22, m23, m24, m25, m26, m27, m28, m29, m30, m31, m32, m33, m34, m35, m36, m37, m38, m39, m40, m41, m42, m43, m44, m45, m46, m47, m48, m49]))]) [1] rfl
    have hDc := hD.sub (ws' := [(h0, .inr (9, [.int 0, m1, m2, m3, m4, m5, m6, m7, m8, m9, m10, m11, m12, m13, m14, .int 1, .ref hg, m17, m18, m19, m20, m21, m22, m23, m24, m25, m26, m27, m28, m29, m30, m31, m32, m33, m34, m35, m36, m37, m38, m39, m40, m41, m42, m43, m44, m45, m46, m47, m48, m49]))]) [1] (by decide) rfl
    have hFc := va_free (wc := [(h0, .inr (9, [.int 0, m1, m2, m3, m4, m5, m6, m7, m8, m9, m10, m11, m12, m13, m14, .int 1, .ref hg, m17, m18, m19, m20, m21, m22, m23, m24, m25, m26, m27, m28, m29, m30, m31, m32, m33, m34, m35, m36, m37, m38, m39, m40, m41, m42, m43, m44, m45, m46, m47, m48, m49]))]) hD hS hA [1] rfl
    refine va_callv (va_runV (As := []) (rest := []) ⟨hx, hb, hml, hown, hts⟩ (m_emptyYard l g H.size h0 (.int 0) m1 m2 m3 m4 m5 m6 m7 m8 m9 m10 m11 m12 m13 m14 (.int 1) (.ref hg) m17 m18 m19 m20 m21 m22 m23 m24 m25 m26 m27 m28 m29 m30 m31 m32 m33 m34 m35 m36 m37 m38 m39 m40 m41 m42 m43 m44 m45 m46 m47 m48 m49) (cwV 0 hts gX9_addStack_X9_emptyYard rfl rfl rfl (by decide +kernel) ⟨Nat.le_of_ble_eq_true rfl, Nat.le_of_ble_eq_true rfl⟩) ⟨xB.blind, va_recv hK hPc (ci := 9) (q0 := 0) rfl rfl, fun U9 hU9 hW9 => ⟨rfl, xB.mk hPc hK hDc hU9 hW9⟩⟩ rfl rfl hl.1 rfl (lv_room (Nat.le_of_ble_eq_true rfl)) dX9_addStack_67 ⟨Nat.le_of_ble_eq_true rfl, Nat.le_of_ble_eq_true rfl⟩) hS (fun q _ h => hFc q h) hFc (fun u_15 t H1 locs ht hvm hw_16 hB hz1 hk1 hS => ?_)
    obtain ⟨w46_17, w47_18, w48_19, hP1, hK1, hD1⟩ := hB
    rw [ht] at hP1
    obtain ⟨hP, hD⟩ := va_join (wr := [(hg, .inl (xI g, 12, .inl g_12))]) (w1 := [(h0, .inr (9, [.int 0, m1, m2, m3, m4, m5, m6, m7, m8, m9, m10, m11, m12, m13, m14, .int 1, .ref hg, m17, m18, m19, m20, m21, m22, m23, m24, m25, m26, m27, m28, m29, m30, m31, m32, m33, m34, m35, m36, m37, m38, m39, m40, m41, m42, m43, m44, .int 0, .ref w46_17, .ref w47_18, .ref w48_19, .int 0]))]) hP hD [1] [0] rfl rfl (by decide) (by decide) hk1 hFc hP1 hD1
    generalize H1 = H at hP hS ⊢
    have hP : va_P (xD g) vwCl [(hg, .inl (xI g, 12, .inl g_12)), (h0, .inr (9, [.int 0, m1, m2, m3, m4, m5, m6, m7, m8, m9, m10, m11, m12, m13, m14, .int 1, .ref hg, m17, m18, m19, m20, m21, m22, m23, m24, m25, m26, m27, m28, m29, m30, m31, m32, m33, m34, m35, m36, m37, m38, m39, m40, m41, m42, m43, m44, .int 0, .ref w46_17, .ref w47_18, .ref w48_19, .int 0]))] H := hP
    have hD : va_D A [(hg, .inl (xI g, 12, .inl g_12)), (h0, .inr (9, [.int 0, m1, m2, m3, m4, m5, m6, m7, m8, m9, m10, m11, m12, m13, m14, .int 1, .ref hg, m17, m18, m19, m20, m21, m22, m23, m24, m25, m26, m27, m28, m29, m30, m31, m32, m33, m34, m35, m36, m37, m38, m39, m40, m41, m42, m43, m44, .int 0, .ref w46_17, .ref w47_18, .ref w48_19, .int 0]))] := hD
    refine W.widen (k := 3) (n := 96) (by omega) (by omega) ?_
    try dsimp only at hw_16
    refine lv_aload_n hx hb dX9_addStack_70 rfl (lv_at hl 0 rfl) ?_
    refine va_get (D := xD g) (ci := 9) (v := .int 1) (C := RX9) (T := TX9) (N := 50) hx hb hts hFX9 hown hK hP 1 rfl rfl 15 (by decide) (hts (.fieldLink RX9 161 "StevedoreModel" "stacks" "I") (by decide +kernel)) (fun _ h9 => h9) rfl dX9_addStack_71 ?_
    refine lv_iconst (v := 1) hx hb dX9_addStack_74 (by decide) ?_
    refine lv_isub hx hb dX9_addStack_75 ?_
    refine lv_topi (fun v_20 ev => ?_)
    obtain rfl : v_20 = (0 : Int32) := ev.trans (by decide)
    have hP9 := hP.sub (ws' := [(h0, .inr (9, [.int 0, m1, m2, m3, m4, m5, m6, m7, m8, m9, m10, m11, m12, m13, m14, .int 1, .ref hg, m17, m18, m19, m20, m21, m22, m23, m24, m25, m26, m27, m28, m29, m30, m31, m32, m33, m34, m35, m36, m37, m38, m39, m40, m41, m42, m43, m44, .int 0, .ref w46_17, .ref w47_18, .ref w48_19, .int 0]))]) [1] rfl
    have hD9 := hD.sub (ws' := [(h0, .inr (9, [.int 0, m1, m2, m3, m4, m5, m6, m7, m8, m9, m10, m11, m12, m13, m14, .int 1, .ref hg, m17, m18, m19, m20, m21, m22, m23, m24, m25, m26, m27, m28, m29, m30, m31, m32, m33, m34, m35, m36, m37, m38, m39, m40, m41, m42, m43, m44, .int 0, .ref w46_17, .ref w47_18, .ref w48_19, .int 0]))]) [1] (by decide) rfl
    exact W.iret (v := 0) hx hb hr (fun t ht hW => ⟨⟨0, 0, rfl, Or.inr (⟨rfl, rfl, (by first | trivial | assumption | (refine ⟨?_, ?_⟩ <;> assumption) | (simp only [Int32.lt_iff_toInt_lt, Int32.le_iff_toInt_le, Int32.reduceToInt] at *; omega))⟩), ⟨m1, m2, m3, m4, m5, m6, m7, m8, m9, m10, m11, m12, m13, m14, (.int 1), (.ref hg), m17, m18, m19, m20, m21, m22, m23, m24, m25, m26, m27, m28, m29, m30, m31, m32, m33, m34, m35, m36, m37, m38, m39, m40, m41, m42, m43, m44, (.int 0), (.ref w46_17), (.ref w47_18), (.ref w48_19), (.int 0), by rw [ht]; exact hP9, va_K.moved hW.alike hK, hD9⟩⟩, hS.F ht⟩) hS.2.2 dX9_addStack_76
  · refine lv_if_ne (tgt := 14) hx hb dX9_addStack_7 (by decide) (fun c0 => absurd (by decide) c0) (fun _ => ?_)
    refine lv_iconst (v := 1) hx hb dX9_addStack_10 (by decide) ?_
    refine lv_goto (tgt := 15) hx hb dX9_addStack_11 (by decide) ?_
    refine lv_iconst (v := 1) hx hb dX9_addStack_15 (by decide) ?_
    have hPc := hP.sub (ws' := [(h0, .inr (9, [m0, m1, m2, m3, m4, m5, m6, m7, m8, m9, m10, m11, m12, m13, m14, .int 0, .ref hg, m17, m18, m19, m20, m21, m22, m23, m24, m25, m26, m27, m28, m29, m30, m31, m32, m33, m34, m35, m36, m37, m38, m39, m40, m41, m42, m43, m44, m45, m46, m47, m48, m49]))]) [0] rfl
    have hDc := hD.sub (ws' := [(h0, .inr (9, [m0, m1, m2, m3, m4, m5, m6, m7, m8, m9, m10, m11, m12, m13, m14, .int 0, .ref hg, m17, m18, m19, m20, m21, m22, m23, m24, m25, m26, m27, m28, m29, m30, m31, m32, m33, m34, m35, m36, m37, m38, m39, m40, m41, m42, m43, m44, m45, m46, m47, m48, m49]))]) [0] (by decide) rfl
    have hFc := va_free (wc := [(h0, .inr (9, [m0, m1, m2, m3, m4, m5, m6, m7, m8, m9, m10, m11, m12, m13, m14, .int 0, .ref hg, m17, m18, m19, m20, m21, m22, m23, m24, m25, m26, m27, m28, m29, m30, m31, m32, m33, m34, m35, m36, m37, m38, m39, m40, m41, m42, m43, m44, m45, m46, m47, m48, m49]))]) hD hS hA [0] rfl
    refine va_calli (va_runV (As := [.int 1, .int 1]) (rest := []) ⟨hx, hb, hml, hown, hts⟩ (m_start1 l g H.size h0 m0 m1 m2 m3 m4 m5 m6 m7 m8 m9 m10 m11 m12 m13 m14 (.int 0) (.ref hg) m17 m18 m19 m20 m21 m22 m23 m24 m25 m26 m27 m28 m29 m30 m31 m32 m33 m34 m35 m36 m37 m38 m39 m40 m41 m42 m43 m44 m45 m46 m47 m48 m49 1 (by first | assumption | decide | omega | simp_all)) (cwV 2 hts gX9_addStack_X9_start rfl rfl rfl (by decide +kernel) ⟨Nat.le_of_ble_eq_true rfl, Nat.le_of_ble_eq_true rfl⟩) ⟨xB.blind, va_recv hK hPc (ci := 9) (q0 := 0) rfl rfl, fun U9 hU9 hW9 => ⟨rfl, xB.mk hPc hK hDc hU9 hW9⟩⟩ rfl rfl hl.1 rfl (lv_room (Nat.le_of_ble_eq_true rfl)) dX9_addStack_16 ⟨Nat.le_of_ble_eq_true rfl, Nat.le_of_ble_eq_true rfl⟩) hS (fun q _ h => hFc q h) hFc (fun r_21 u_22 t H1 locs ht hvm hw_23 hB hz1 hk1 hS => ?_)
    obtain ⟨hP1, hK1, hD1⟩ := hB
    rw [ht] at hP1
    obtain ⟨hP, hD⟩ := va_join (wr := [(hg, .inl (xI g, 12, .inl fh))]) (w1 := [(h0, .inr (9, [.int 1, m1, m2, m3, m4, m5, m6, m7, m8, m9, m10, m11, m12, m13, m14, .int 0, .ref hg, m17, m18, m19, m20, m21, m22, m23, m24, m25, m26, m27, m28, m29, m30, m31, m32, m33, m34, m35, m36, m37, m38, m39, m40, m41, m42, m43, m44, m45, m46, m47, m48, m49]))]) hP hD [0] [1] rfl rfl (by decide) (by decide) hk1 hFc hP1 hD1
    generalize H1 = H at hP hS ⊢
    have hP : va_P (xD g) vwCl [(hg, .inl (xI g, 12, .inl fh)), (h0, .inr (9, [.int 1, m1, m2, m3, m4, m5, m6, m7, m8, m9, m10, m11, m12, m13, m14, .int 0, .ref hg, m17, m18, m19, m20, m21, m22, m23, m24, m25, m26, m27, m28, m29, m30, m31, m32, m33, m34, m35, m36, m37, m38, m39, m40, m41, m42, m43, m44, m45, m46, m47, m48, m49]))] H := hP
    have hD : va_D A [(hg, .inl (xI g, 12, .inl fh)), (h0, .inr (9, [.int 1, m1, m2, m3, m4, m5, m6, m7, m8, m9, m10, m11, m12, m13, m14, .int 0, .ref hg, m17, m18, m19, m20, m21, m22, m23, m24, m25, m26, m27, m28, m29, m30, m31, m32, m33, m34, m35, m36, m37, m38, m39, m40, m41, m42, m43, m44, m45, m46, m47, m48, m49]))] := hD
    try dsimp only at hw_23
    obtain rfl := hw_23
    refine lv_if_ne (tgt := 44) hx hb dX9_addStack_19 (by decide) (fun _ => ?_) (fun c0 => absurd c0 (by decide))
    refine lv_iconst (v := 0) hx hb dX9_addStack_44 (by decide) ?_
    refine W.widen (k := 3) (n := 96) (by omega) (by omega) ?_
    have hP9 := hP.sub (ws' := [(h0, .inr (9, [.int 1, m1, m2, m3, m4, m5, m6, m7, m8, m9, m10, m11, m12, m13, m14, .int 0, .ref hg, m17, m18, m19, m20, m21, m22, m23, m24, m25, m26, m27, m28, m29, m30, m31, m32, m33, m34, m35, m36, m37, m38, m39, m40, m41, m42, m43, m44, m45, m46, m47, m48, m49]))]) [1] rfl
    have hD9 := hD.sub (ws' := [(h0, .inr (9, [.int 1, m1, m2, m3, m4, m5, m6, m7, m8, m9, m10, m11, m12, m13, m14, .int 0, .ref hg, m17, m18, m19, m20, m21, m22, m23, m24, m25, m26, m27, m28, m29, m30, m31, m32, m33, m34, m35, m36, m37, m38, m39, m40, m41, m42, m43, m44, m45, m46, m47, m48, m49]))]) [1] (by decide) rfl
    exact W.iret (v := 0) hx hb hr (fun t ht hW => ⟨⟨0, 1, rfl, Or.inl (⟨rfl, rfl, (by first | trivial | assumption | (refine ⟨?_, ?_⟩ <;> assumption) | (simp only [Int32.lt_iff_toInt_lt, Int32.le_iff_toInt_le, Int32.reduceToInt] at *; omega))⟩), ⟨m1, m2, m3, m4, m5, m6, m7, m8, m9, m10, m11, m12, m13, m14, (.int 0), (.ref hg), m17, m18, m19, m20, m21, m22, m23, m24, m25, m26, m27, m28, m29, m30, m31, m32, m33, m34, m35, m36, m37, m38, m39, m40, m41, m42, m43, m44, m45, m46, m47, m48, m49, by rw [ht]; exact hP9, va_K.moved hW.alike hK, hD9⟩⟩, hS.F ht⟩) hS.2.2 dX9_addStack_45
theorem dX9_addVessel_0 : decode cX9_addVessel 0 = .ok (.aload_n 0, 1) := by decide +kernel
theorem dX9_addVessel_1 : decode cX9_addVessel 1 = .ok (.iload_n 1, 1) := by decide +kernel
theorem dX9_addVessel_2 : decode cX9_addVessel 2 = .ok (.iconst 0, 1) := by decide +kernel
theorem dX9_addVessel_3 : decode cX9_addVessel 3 = .ok (.sipush 400, 3) := by decide +kernel
theorem dX9_addVessel_6 : decode cX9_addVessel 6 = .ok (.invokestatic 134, 3) := by decide +kernel
set_option maxRecDepth 20000 in
theorem ggX9_addVessel_X9_isIn : GoodIn wsX9_addVessel wsX9_isIn := goodIn_r _ [9] rfl (by decide +kernel)
set_option maxRecDepth 20000 in
theorem gX9_addVessel_X9_isIn : GoodIn wsX9_addVessel (va_wsS RX9 134 yX9_isIn wsX9_isIn) := goodIn_app (goodIn_of _ (by decide +kernel)) ggX9_addVessel_X9_isIn
theorem dX9_addVessel_9 : decode cX9_addVessel 9 = .ok (.ifCond .eq 33, 3) := by decide +kernel
theorem dX9_addVessel_12 : decode cX9_addVessel 12 = .ok (.iload_n 2, 1) := by decide +kernel
theorem dX9_addVessel_13 : decode cX9_addVessel 13 = .ok (.iconst 1, 1) := by decide +kernel
theorem dX9_addVessel_14 : decode cX9_addVessel 14 = .ok (.bipush 10, 2) := by decide +kernel
theorem dX9_addVessel_16 : decode cX9_addVessel 16 = .ok (.invokestatic 134, 3) := by decide +kernel
theorem dX9_addVessel_19 : decode cX9_addVessel 19 = .ok (.ifCond .eq 23, 3) := by decide +kernel
theorem dX9_addVessel_22 : decode cX9_addVessel 22 = .ok (.iload_n 3, 1) := by decide +kernel
theorem dX9_addVessel_23 : decode cX9_addVessel 23 = .ok (.iconst 1, 1) := by decide +kernel
theorem dX9_addVessel_24 : decode cX9_addVessel 24 = .ok (.bipush 9, 2) := by decide +kernel
theorem dX9_addVessel_26 : decode cX9_addVessel 26 = .ok (.invokestatic 134, 3) := by decide +kernel
theorem dX9_addVessel_29 : decode cX9_addVessel 29 = .ok (.ifCond .eq 13, 3) := by decide +kernel
theorem dX9_addVessel_32 : decode cX9_addVessel 32 = .ok (.iload 4, 2) := by decide +kernel
theorem dX9_addVessel_34 : decode cX9_addVessel 34 = .ok (.iconst 1, 1) := by decide +kernel
theorem dX9_addVessel_35 : decode cX9_addVessel 35 = .ok (.iconst 4, 1) := by decide +kernel
theorem dX9_addVessel_36 : decode cX9_addVessel 36 = .ok (.invokestatic 134, 3) := by decide +kernel
theorem dX9_addVessel_39 : decode cX9_addVessel 39 = .ok (.ifCond .ne 7, 3) := by decide +kernel
theorem dX9_addVessel_46 : decode cX9_addVessel 46 = .ok (.iconst 0, 1) := by decide +kernel
theorem dX9_addVessel_47 : decode cX9_addVessel 47 = .ok (.iconst 1, 1) := by decide +kernel
theorem dX9_addVessel_48 : decode cX9_addVessel 48 = .ok (.invokevirtual 138, 3) := by decide +kernel
set_option maxRecDepth 20000 in
theorem ggX9_addVessel_X9_start : GoodIn wsX9_addVessel wsX9_start := goodIn_r _ [13, 14, 15, 16, 17, 8, 18, 40, 41, 42, 43, 44, 45, 46, 47, 48, 49, 50, 51, 52, 53, 54, 55, 56, 57, 58, 59, 60, 61, 62, 63, 64, 65, 66, 67, 68, 69, 70, 71, 72, 73, 74, 75, 76, 77, 78, 79, 80, 81, 82, 83, 84, 85, 86, 87, 88, 89] rfl (by decide +kernel)
set_option maxRecDepth 20000 in
theorem gX9_addVessel_X9_start : GoodIn wsX9_addVessel (wsV RX9 138 RX9 yX9_start wsX9_start) := goodIn_app (goodIn_of _ (by decide +kernel)) ggX9_addVessel_X9_start
theorem dX9_addVessel_51 : decode cX9_addVessel 51 = .ok (.ifCond .ne 25, 3) := by decide +kernel
theorem dX9_addVessel_54 : decode cX9_addVessel 54 = .ok (.aload_n 0, 1) := by decide +kernel
theorem dX9_addVessel_55 : decode cX9_addVessel 55 = .ok (.aload_n 0, 1) := by decide +kernel
theorem dX9_addVessel_56 : decode cX9_addVessel 56 = .ok (.getfield 144, 3) := by decide +kernel
theorem dX9_addVessel_59 : decode cX9_addVessel 59 = .ok (.bipush 6, 2) := by decide +kernel
theorem dX9_addVessel_61 : decode cX9_addVessel 61 = .ok (.if_icmp .ne 7, 3) := by decide +kernel
theorem dX9_addVessel_68 : decode cX9_addVessel 68 = .ok (.iconst 0, 1) := by decide +kernel
theorem dX9_addVessel_69 : decode cX9_addVessel 69 = .ok (.iconst 2, 1) := by decide +kernel
theorem dX9_addVessel_70 : decode cX9_addVessel 70 = .ok (.invokevirtual 114, 3) := by decide +kernel
set_option maxRecDepth 20000 in
theorem ggX9_addVessel_X9_refuse : GoodIn wsX9_addVessel wsX9_refuse := goodIn_r _ [18, 14, 40, 41, 42, 43, 44, 45, 46, 47, 48, 49, 50, 51, 52, 53, 54, 55, 56, 57, 58, 59, 60, 61, 62, 63, 64, 65, 66, 67, 68, 69, 70, 71, 72, 73, 74, 75, 76, 77, 78, 79, 80, 81, 82, 83, 84, 85, 86, 87, 88, 89] rfl (by decide +kernel)
set_option maxRecDepth 20000 in
theorem gX9_addVessel_X9_refuse : GoodIn wsX9_addVessel (wsV RX9 114 RX9 yX9_refuse wsX9_refuse) := goodIn_app (goodIn_of _ (by decide +kernel)) ggX9_addVessel_X9_refuse
theorem dX9_addVessel_73 : decode cX9_addVessel 73 = .ok (.ifCond .eq 5, 3) := by decide +kernel
theorem dX9_addVessel_78 : decode cX9_addVessel 78 = .ok (.aload_n 0, 1) := by decide +kernel
theorem dX9_addVessel_79 : decode cX9_addVessel 79 = .ok (.getfield 16, 3) := by decide +kernel
theorem dX9_addVessel_82 : decode cX9_addVessel 82 = .ok (.aload_n 0, 1) := by decide +kernel
theorem dX9_addVessel_83 : decode cX9_addVessel 83 = .ok (.getfield 144, 3) := by decide +kernel
theorem dX9_addVessel_86 : decode cX9_addVessel 86 = .ok (.iload_n 1, 1) := by decide +kernel
theorem dX9_addVessel_87 : decode cX9_addVessel 87 = .ok (.iastore, 1) := by decide +kernel
theorem dX9_addVessel_88 : decode cX9_addVessel 88 = .ok (.aload_n 0, 1) := by decide +kernel
theorem dX9_addVessel_89 : decode cX9_addVessel 89 = .ok (.getfield 20, 3) := by decide +kernel
theorem dX9_addVessel_92 : decode cX9_addVessel 92 = .ok (.aload_n 0, 1) := by decide +kernel
theorem dX9_addVessel_93 : decode cX9_addVessel 93 = .ok (.getfield 144, 3) := by decide +kernel
theorem dX9_addVessel_96 : decode cX9_addVessel 96 = .ok (.iload_n 2, 1) := by decide +kernel
theorem dX9_addVessel_97 : decode cX9_addVessel 97 = .ok (.iastore, 1) := by decide +kernel
theorem dX9_addVessel_98 : decode cX9_addVessel 98 = .ok (.aload_n 0, 1) := by decide +kernel
theorem dX9_addVessel_99 : decode cX9_addVessel 99 = .ok (.getfield 23, 3) := by decide +kernel
theorem dX9_addVessel_102 : decode cX9_addVessel 102 = .ok (.aload_n 0, 1) := by decide +kernel
theorem dX9_addVessel_103 : decode cX9_addVessel 103 = .ok (.getfield 144, 3) := by decide +kernel
theorem dX9_addVessel_106 : decode cX9_addVessel 106 = .ok (.iload_n 3, 1) := by decide +kernel
theorem dX9_addVessel_107 : decode cX9_addVessel 107 = .ok (.iastore, 1) := by decide +kernel
theorem dX9_addVessel_108 : decode cX9_addVessel 108 = .ok (.aload_n 0, 1) := by decide +kernel
theorem dX9_addVessel_109 : decode cX9_addVessel 109 = .ok (.getfield 26, 3) := by decide +kernel
theorem dX9_addVessel_112 : decode cX9_addVessel 112 = .ok (.aload_n 0, 1) := by decide +kernel
theorem dX9_addVessel_113 : decode cX9_addVessel 113 = .ok (.getfield 144, 3) := by decide +kernel
theorem dX9_addVessel_116 : decode cX9_addVessel 116 = .ok (.iload 4, 2) := by decide +kernel
theorem dX9_addVessel_118 : decode cX9_addVessel 118 = .ok (.iastore, 1) := by decide +kernel
theorem dX9_addVessel_119 : decode cX9_addVessel 119 = .ok (.aload_n 0, 1) := by decide +kernel
theorem dX9_addVessel_120 : decode cX9_addVessel 120 = .ok (.dup, 1) := by decide +kernel
theorem dX9_addVessel_121 : decode cX9_addVessel 121 = .ok (.getfield 144, 3) := by decide +kernel
theorem dX9_addVessel_124 : decode cX9_addVessel 124 = .ok (.iconst 1, 1) := by decide +kernel
theorem dX9_addVessel_125 : decode cX9_addVessel 125 = .ok (.iadd, 1) := by decide +kernel
theorem dX9_addVessel_126 : decode cX9_addVessel 126 = .ok (.putfield 144, 3) := by decide +kernel
theorem dX9_addVessel_129 : decode cX9_addVessel 129 = .ok (.aload_n 0, 1) := by decide +kernel
theorem dX9_addVessel_130 : decode cX9_addVessel 130 = .ok (.invokevirtual 141, 3) := by decide +kernel
set_option maxRecDepth 20000 in
theorem ggX9_addVessel_X9_noPlan : GoodIn wsX9_addVessel wsX9_noPlan := goodIn_r _ [22, 23, 24, 25, 26, 8, 27, 28, 29, 30, 31, 32, 33, 34, 35, 36, 37, 38, 39, 40, 41, 42, 43, 44, 45, 46, 47, 48, 49, 50, 51, 52, 53, 54, 55, 56, 57, 58, 59, 60, 61, 62, 63, 64, 65, 66, 67, 68, 69, 70, 71, 72, 73, 74, 75, 76, 77, 78, 79, 80, 81, 82, 83, 84, 85, 86, 87, 88, 89] rfl (by decide +kernel)
set_option maxRecDepth 20000 in
theorem gX9_addVessel_X9_noPlan : GoodIn wsX9_addVessel (wsV RX9 141 RX9 yX9_noPlan wsX9_noPlan) := goodIn_app (goodIn_of _ (by decide +kernel)) ggX9_addVessel_X9_noPlan
theorem dX9_addVessel_133 : decode cX9_addVessel 133 = .ok (.aload_n 0, 1) := by decide +kernel
theorem dX9_addVessel_134 : decode cX9_addVessel 134 = .ok (.getfield 144, 3) := by decide +kernel
theorem dX9_addVessel_137 : decode cX9_addVessel 137 = .ok (.iconst 1, 1) := by decide +kernel
theorem dX9_addVessel_138 : decode cX9_addVessel 138 = .ok (.isub, 1) := by decide +kernel
theorem dX9_addVessel_139 : decode cX9_addVessel 139 = .ok (.ireturn, 1) := by decide +kernel
theorem dX9_addVessel_42 : decode cX9_addVessel 42 = .ok (.iconst 1, 1) := by decide +kernel
theorem dX9_addVessel_43 : decode cX9_addVessel 43 = .ok (.goto 4, 3) := by decide +kernel
theorem dX9_addVessel_76 : decode cX9_addVessel 76 = .ok (.iconst 0, 1) := by decide +kernel
theorem dX9_addVessel_77 : decode cX9_addVessel 77 = .ok (.ireturn, 1) := by decide +kernel
set_option maxHeartbeats 4000000 in
set_option maxRecDepth 100000 in
theorem m0_addVessel (l : Launch) (g : xG) (sz : Nat) (h0 : Nat) (ar : Nat) (bs : Nat) (rk : Nat) (wn : Nat) (fa : Nat → Int32) (fb : Nat → Int32) (fc : Nat → Int32) (fd : Nat → Int32) (m0 : Value) (m1 : Value) (m2 : Value) (m8 : Value) (m9 : Value) (m10 : Value) (m11 : Value) (m12 : Value) (m13 : Value) (m14 : Value) (m15 : Value) (m16 : Value) (m17 : Value) (m18 : Value) (m19 : Value) (m20 : Value) (m21 : Value) (m22 : Value) (m23 : Value) (m24 : Value) (m25 : Value) (m26 : Value) (m27 : Value) (m28 : Value) (m29 : Value) (m30 : Value) (m31 : Value) (m32 : Value) (m33 : Value) (m34 : Value) (m35 : Value) (m36 : Value) (m37 : Value) (m38 : Value) (m39 : Value) (m40 : Value) (m41 : Value) (m42 : Value) (m43 : Value) (m44 : Value) (m45 : Value) (m46 : Value) (m47 : Value) (m48 : Value) (m49 : Value) (p0 : Int32) (p1 : Int32) (p2 : Int32) (p3 : Int32)  : Met l yX9_addVessel wsX9_addVessel ({ frames := 3, cells := 3, slots := 96, locals := 60 }) (va_Pc [.ref h0, .int p0, .int p1, .int p2, .int p3] (fun U => xB g [(h0, .inr (9, [m0, m1, m2, .int 0, .ref ar, .ref bs, .ref rk, .ref wn, m8, m9, m10, m11, m12, m13, m14, m15, m16, m17, m18, m19, m20, m21, m22, m23, m24, m25, m26, m27, m28, m29, m30, m31, m32, m33, m34, m35, m36, m37, m38, m39, m40, m41, m42, m43, m44, m45, m46, m47, m48, m49])), (ar, .inl (xI g, 6, .inl fa)), (bs, .inl (xI g, 6, .inl fb)), (rk, .inl (xI g, 6, .inl fc)), (wn, .inl (xI g, 6, .inl fd))] sz U)) (va_Qi (fun (r : Int32) (u : Int32) => (u = 1 ∧ r = 0 ∧ (p0 < 0 ∨ 400 < p0 ∨ p1 < 1 ∨ 10 < p1 ∨ p2 < 1 ∨ 9 < p2 ∨ p3 < 1 ∨ 4 < p3)) ∨ (u = 0 ∧ r = 0 ∧ ((¬ p0 < 0 ∧ ¬ 400 < p0) ∧ (¬ p1 < 1 ∧ ¬ 10 < p1) ∧ (¬ p2 < 1 ∧ ¬ 9 < p2) ∧ (¬ p3 < 1 ∧ ¬ 4 < p3)))) (fun (u : Int32) (t : State) => ∃ (w1 : Value) (w2 : Value) (w3 : Value) (w4 : Value) (w5 : Value) (w6 : Value) (w7 : Value) (w8 : Value) (w9 : Value) (w10 : Value) (w11 : Value) (w12 : Value) (w13 : Value) (w14 : Value) (w15 : Value) (w16 : Value) (w17 : Value) (w18 : Value) (w19 : Value) (w20 : Value) (w21 : Value) (w22 : Value) (w23 : Value) (w24 : Value) (w25 : Value) (w26 : Value) (w27 : Value) (w28 : Value) (w29 : Value) (w30 : Value) (w31 : Value) (w32 : Value) (w33 : Value) (w34 : Value) (w35 : Value) (w36 : Value) (w37 : Value) (w38 : Value) (w39 : Value) (w40 : Value) (w41 : Value) (w42 : Value) (w43 : Value) (w44 : Value) (w45 : Value) (w46 : Value) (w47 : Value) (w48 : Value) (w49 : Value), xE g [(h0, .inr (9, [.int u, w1, w2, w3, w4, w5, w6, w7, w8, w9, w10, w11, w12, w13, w14, w15, w16, w17, w18, w19, w20, w21, w22, w23, w24, w25, w26, w27, w28, w29, w30, w31, w32, w33, w34, w35, w36, w37, w38, w39, w40, w41, w42, w43, w44, w45, w46, w47, w48, w49]))] (va_A [(h0, .inr (9, [m0, m1, m2, .int 0, .ref ar, .ref bs, .ref rk, .ref wn, m8, m9, m10, m11, m12, m13, m14, m15, m16, m17, m18, m19, m20, m21, m22, m23, m24, m25, m26, m27, m28, m29, m30, m31, m32, m33, m34, m35, m36, m37, m38, m39, m40, m41, m42, m43, m44, m45, m46, m47, m48, m49])), (ar, .inl (xI g, 6, .inl fa)), (bs, .inl (xI g, 6, .inl fb)), (rk, .inl (xI g, 6, .inl fc)), (wn, .inl (xI g, 6, .inl fd))] sz) t) (va_A [(h0, .inr (9, [m0, m1, m2, .int 0, .ref ar, .ref bs, .ref rk, .ref wn, m8, m9, m10, m11, m12, m13, m14, m15, m16, m17, m18, m19, m20, m21, m22, m23, m24, m25, m26, m27, m28, m29, m30, m31, m32, m33, m34, m35, m36, m37, m38, m39, m40, m41, m42, m43, m44, m45, m46, m47, m48, m49])), (ar, .inl (xI g, 6, .inl fa)), (bs, .inl (xI g, 6, .inl fb)), (rk, .inl (xI g, 6, .inl fc)), (wn, .inl (xI g, 6, .inl fd))] sz)) 3 96 (va_A [(h0, .inr (9, [m0, m1, m2, .int 0, .ref ar, .ref bs, .ref rk, .ref wn, m8, m9, m10, m11, m12, m13, m14, m15, m16, m17, m18, m19, m20, m21, m22, m23, m24, m25, m26, m27, m28, m29, m30, m31, m32, m33, m34, m35, m36, m37, m38, m39, m40, m41, m42, m43, m44, m45, m46, m47, m48, m49])), (ar, .inl (xI g, 6, .inl fa)), (bs, .inl (xI g, 6, .inl fb)), (rk, .inl (xI g, 6, .inl fc)), (wn, .inl (xI g, 6, .inl fd))] sz) := by
  refine Met.ofW (cc := cX9_addVessel) (maxL := 5) (ret := (some .int)) (by decide) rfl ?_
  intro p e s m args below meth c s₁ B hml hv
  obtain ⟨rfl, ⟨hsz, hP, hK, hD0⟩⟩ := hv
  have hx := B.exec
  have hb := B.bytes
  have hr := B.returns
  have hts := atoms_spec (ws := wsX9_addVessel) B.pre
  have hown : s.vm.findClass RX9 = some m.cls := findClass_of_methodNamed B.named
  have hlocks := B.notSynchronized
  subst hsz
  have hD := hD0.self (sz := s.heap.size)
  generalize hAe : va_A [(h0, .inr (9, [m0, m1, m2, .int 0, .ref ar, .ref bs, .ref rk, .ref wn, m8, m9, m10, m11, m12, m13, m14, m15, m16, m17, m18, m19, m20, m21, m22, m23, m24, m25, m26, m27, m28, m29, m30, m31, m32, m33, m34, m35, m36, m37, m38, m39, m40, m41, m42, m43, m44, m45, m46, m47, m48, m49])), (ar, .inl (xI g, 6, .inl fa)), (bs, .inl (xI g, 6, .inl fb)), (rk, .inl (xI g, 6, .inl fc)), (wn, .inl (xI g, 6, .inl fd))] s.heap.size = A at hD ⊢
  have hA : ∀ q : Nat, s.heap.size ≤ q → A q := fun q h => by rw [← hAe]; exact Or.inr h
  have hS : va_S A s.heap s.heap [] := va_S.rf
  have hl := lv_entry ([.ref h0, .int p0, .int p1, .int p2, .int p3]) (n := 5) (Nat.le_of_ble_eq_true rfl)
  rw [lg_entry_eq]
  generalize (lg_sl ([.ref h0, .int p0, .int p1, .int p2, .int p3]) ++ List.replicate (5 - (lg_sl ([.ref h0, .int p0, .int p1, .int p2, .int p3])).length) Slot.unset).toArray = ls at hl ⊢
  have hl : lv_has ls 5 [(0, .ref h0), (1, .int p0), (2, .int p1), (3, .int p2), (4, .int p3)] := hl
  have hFX9 : ∀ w ∈ u_ws RX9 TX9 50, w ∈ wsX9_addVessel := by decide +kernel
  refine lv_aload_n hx hb dX9_addVessel_0 rfl (lv_at hl 0 rfl) ?_
  refine lv_iload_n hx hb dX9_addVessel_1 rfl (lv_at hl 1 rfl) ?_
  refine lv_iconst (v := 0) hx hb dX9_addVessel_2 (by decide) ?_
  refine lv_sipush (v := 400) hx hb dX9_addVessel_3 (by decide) ?_
  have hPc := hP.sub (ws' := []) [] rfl
  have hDc := hD.sub (ws' := []) [] (by decide) rfl
  have hFc := xFree hS hA
  refine va_calli (va_runS (As := [.int p0, .int 0, .int 400]) (rest := [.ref h0]) ⟨hx, hb, hml, hown, hts⟩ (m_isIn l g s.heap.size p0 0 400) (va_cwS 3 hts gX9_addVessel_X9_isIn rfl rfl rfl (by decide +kernel) ⟨Nat.le_of_ble_eq_true rfl, Nat.le_of_ble_eq_true rfl⟩) ⟨xB.blind, fun U9 hU9 hW9 => ⟨rfl, xB.mk hPc hK hDc hU9 hW9⟩⟩ rfl rfl hl.1 rfl (lv_room (Nat.le_of_ble_eq_true rfl)) dX9_addVessel_6 ⟨Nat.le_of_ble_eq_true rfl, Nat.le_of_ble_eq_true rfl⟩) hS (fun q _ h => hFc q h) hFc (fun r_1 u_2 t H1 locs ht hvm hw_3 hB hz1 hk1 hS => ?_)
  have hP := xSame hP hk1
  generalize H1 = H at hP hS ⊢
  have hP : va_P (xD g) vwCl [(h0, .inr (9, [m0, m1, m2, .int 0, .ref ar, .ref bs, .ref rk, .ref wn, m8, m9, m10, m11, m12, m13, m14, m15, m16, m17, m18, m19, m20, m21, m22, m23, m24, m25, m26, m27, m28, m29, m30, m31, m32, m33, m34, m35, m36, m37, m38, m39, m40, m41, m42, m43, m44, m45, m46, m47, m48, m49])), (ar, .inl (xI g, 6, .inl fa)), (bs, .inl (xI g, 6, .inl fb)), (rk, .inl (xI g, 6, .inl fc)), (wn, .inl (xI g, 6, .inl fd))] H := hP
  have hD : va_D A [(h0, .inr (9, [m0, m1, m2, .int 0, .ref ar, .ref bs, .ref rk, .ref wn, m8, m9, m10, m11, m12, m13, m14, m15, m16, m17, m18, m19, m20, m21, m22, m23, m24, m25, m26, m27, m28, m29, m30, m31, m32, m33, m34, m35, m36, m37, m38, m39, m40, m41, m42, m43, m44, m45, m46, m47, m48, m49])), (ar, .inl (xI g, 6, .inl fa)), (bs, .inl (xI g, 6, .inl fb)), (rk, .inl (xI g, 6, .inl fc)), (wn, .inl (xI g, 6, .inl fd))] := hD
  try dsimp only at hw_3
  rcases hw_3 with ⟨rfl, c_4⟩ | ⟨rfl, c_5⟩
  · refine lv_if_eq (tgt := 42) hx hb dX9_addVessel_9 (by decide) (fun c0 => absurd c0 (by decide)) (fun _ => ?_)
    refine lv_iload_n hx hb dX9_addVessel_12 rfl (lv_at hl 2 rfl) ?_
    refine lv_iconst (v := 1) hx hb dX9_addVessel_13 (by decide) ?_
    refine lv_bipush (v := 10) hx hb dX9_addVessel_14 (by decide) ?_
    have hPc := hP.sub (ws' := []) [] rfl
    have hDc := hD.sub (ws' := []) [] (by decide) rfl
    have hFc := xFree hS hA
    refine va_calli (va_runS (As := [.int p1, .int 1, .int 10]) (rest := [.ref h0]) ⟨hx, hb, hml, hown, hts⟩ (m_isIn l g H.size p1 1 10) (va_cwS 3 hts gX9_addVessel_X9_isIn rfl rfl rfl (by decide +kernel) ⟨Nat.le_of_ble_eq_true rfl, Nat.le_of_ble_eq_true rfl⟩) ⟨xB.blind, fun U9 hU9 hW9 => ⟨rfl, xB.mk hPc hK hDc hU9 hW9⟩⟩ rfl rfl hl.1 rfl (lv_room (Nat.le_of_ble_eq_true rfl)) dX9_addVessel_16 ⟨Nat.le_of_ble_eq_true rfl, Nat.le_of_ble_eq_true rfl⟩) hS (fun q _ h => hFc q h) hFc (fun r_6 u_7 t H1 locs ht hvm hw_8 hB hz1 hk1 hS => ?_)
    have hP := xSame hP hk1
    generalize H1 = H at hP hS ⊢
    have hP : va_P (xD g) vwCl [(h0, .inr (9, [m0, m1, m2, .int 0, .ref ar, .ref bs, .ref rk, .ref wn, m8, m9, m10, m11, m12, m13, m14, m15, m16, m17, m18, m19, m20, m21, m22, m23, m24, m25, m26, m27, m28, m29, m30, m31, m32, m33, m34, m35, m36, m37, m38, m39, m40, m41, m42, m43, m44, m45, m46, m47, m48, m49])), (ar, .inl (xI g, 6, .inl fa)), (bs, .inl (xI g, 6, .inl fb)), (rk, .inl (xI g, 6, .inl fc)), (wn, .inl (xI g, 6, .inl fd))] H := hP
    have hD : va_D A [(h0, .inr (9, [m0, m1, m2, .int 0, .ref ar, .ref bs, .ref rk, .ref wn, m8, m9, m10, m11, m12, m13, m14, m15, m16, m17, m18, m19, m20, m21, m22, m23, m24, m25, m26, m27, m28, m29, m30, m31, m32, m33, m34, m35, m36, m37, m38, m39, m40, m41, m42, m43, m44, m45, m46, m47, m48, m49])), (ar, .inl (xI g, 6, .inl fa)), (bs, .inl (xI g, 6, .inl fb)), (rk, .inl (xI g, 6, .inl fc)), (wn, .inl (xI g, 6, .inl fd))] := hD
    try dsimp only at hw_8
    rcases hw_8 with ⟨rfl, c_9⟩ | ⟨rfl, c_10⟩
    · refine lv_if_eq (tgt := 42) hx hb dX9_addVessel_19 (by decide) (fun c0 => absurd c0 (by decide)) (fun _ => ?_)
      refine lv_iload_n hx hb dX9_addVessel_22 rfl (lv_at hl 3 rfl) ?_
      refine lv_iconst (v := 1) hx hb dX9_addVessel_23 (by decide) ?_
      refine lv_bipush (v := 9) hx hb dX9_addVessel_24 (by decide) ?_
      have hPc := hP.sub (ws' := []) [] rfl
      have hDc := hD.sub (ws' := []) [] (by decide) rfl
      have hFc := xFree hS hA
      refine va_calli (va_runS (As := [.int p2, .int 1, .int 9]) (rest := [.ref h0]) ⟨hx, hb, hml, hown, hts⟩ (m_isIn l g H.size p2 1 9) (va_cwS 3 hts gX9_addVessel_X9_isIn rfl rfl rfl (by decide +kernel) ⟨Nat.le_of_ble_eq_true rfl, Nat.le_of_ble_eq_true rfl⟩) ⟨xB.blind, fun U9 hU9 hW9 => ⟨rfl, xB.mk hPc hK hDc hU9 hW9⟩⟩ rfl rfl hl.1 rfl (lv_room (Nat.le_of_ble_eq_true rfl)) dX9_addVessel_26 ⟨Nat.le_of_ble_eq_true rfl, Nat.le_of_ble_eq_true rfl⟩) hS (fun q _ h => hFc q h) hFc (fun r_11 u_12 t H1 locs ht hvm hw_13 hB hz1 hk1 hS => ?_)
      have hP := xSame hP hk1
      generalize H1 = H at hP hS ⊢
      have hP : va_P (xD g) vwCl [(h0, .inr (9, [m0, m1, m2, .int 0, .ref ar, .ref bs, .ref rk, .ref wn, m8, m9, m10, m11, m12, m13, m14, m15, m16, m17, m18, m19, m20, m21, m22, m23, m24, m25, m26, m27, m28, m29, m30, m31, m32, m33, m34, m35, m36, m37, m38, m39, m40, m41, m42, m43, m44, m45, m46, m47, m48, m49])), (ar, .inl (xI g, 6, .inl fa)), (bs, .inl (xI g, 6, .inl fb)), (rk, .inl (xI g, 6, .inl fc)), (wn, .inl (xI g, 6, .inl fd))] H := hP
      have hD : va_D A [(h0, .inr (9, [m0, m1, m2, .int 0, .ref ar, .ref bs, .ref rk, .ref wn, m8, m9, m10, m11, m12, m13, m14, m15, m16, m17, m18, m19, m20, m21, m22, m23, m24, m25, m26, m27, m28, m29, m30, m31, m32, m33, m34, m35, m36, m37, m38, m39, m40, m41, m42, m43, m44, m45, m46, m47, m48, m49])), (ar, .inl (xI g, 6, .inl fa)), (bs, .inl (xI g, 6, .inl fb)), (rk, .inl (xI g, 6, .inl fc)), (wn, .inl (xI g, 6, .inl fd))] := hD
      try dsimp only at hw_13
      rcases hw_13 with ⟨rfl, c_14⟩ | ⟨rfl, c_15⟩
      · refine lv_if_eq (tgt := 42) hx hb dX9_addVessel_29 (by decide) (fun c0 => absurd c0 (by decide)) (fun _ => ?_)
        refine lv_iload hx hb dX9_addVessel_32 (lv_at hl 4 rfl) ?_
        refine lv_iconst (v := 1) hx hb dX9_addVessel_34 (by decide) ?_
        refine lv_iconst (v := 4) hx hb dX9_addVessel_35 (by decide) ?_
        have hPc := hP.sub (ws' := []) [] rfl
        have hDc := hD.sub (ws' := []) [] (by decide) rfl
        have hFc := xFree hS hA
        refine va_calli (va_runS (As := [.int p3, .int 1, .int 4]) (rest := [.ref h0]) ⟨hx, hb, hml, hown, hts⟩ (m_isIn l g H.size p3 1 4) (va_cwS 3 hts gX9_addVessel_X9_isIn rfl rfl rfl (by decide +kernel) ⟨Nat.le_of_ble_eq_true rfl, Nat.le_of_ble_eq_true rfl⟩) ⟨xB.blind, fun U9 hU9 hW9 => ⟨rfl, xB.mk hPc hK hDc hU9 hW9⟩⟩ rfl rfl hl.1 rfl (lv_room (Nat.le_of_ble_eq_true rfl)) dX9_addVessel_36 ⟨Nat.le_of_ble_eq_true rfl, Nat.le_of_ble_eq_true rfl⟩) hS (fun q _ h => hFc q h) hFc (fun r_16 u_17 t H1 locs ht hvm hw_18 hB hz1 hk1 hS => ?_)
        have hP := xSame hP hk1
        generalize H1 = H at hP hS ⊢
        have hP : va_P (xD g) vwCl [(h0, .inr (9, [m0, m1, m2, .int 0, .ref ar, .ref bs, .ref rk, .ref wn, m8, m9, m10, m11, m12, m13, m14, m15, m16, m17, m18, m19, m20, m21, m22, m23, m24, m25, m26, m27, m28, m29, m30, m31, m32, m33, m34, m35, m36, m37, m38, m39, m40, m41, m42, m43, m44, m45, m46, m47, m48, m49])), (ar, .inl (xI g, 6, .inl fa)), (bs, .inl (xI g, 6, .inl fb)), (rk, .inl (xI g, 6, .inl fc)), (wn, .inl (xI g, 6, .inl fd))] H := hP
        have hD : va_D A [(h0, .inr (9, [m0, m1, m2, .int 0, .ref ar, .ref bs, .ref rk, .ref wn, m8, m9, m10, m11, m12, m13, m14, m15, m16, m17, m18, m19, m20, m21, m22, m23, m24, m25, m26, m27, m28, m29, m30, m31, m32, m33, m34, m35, m36, m37, m38, m39, m40, m41, m42, m43, m44, m45, m46, m47, m48, m49])), (ar, .inl (xI g, 6, .inl fa)), (bs, .inl (xI g, 6, .inl fb)), (rk, .inl (xI g, 6, .inl fc)), (wn, .inl (xI g, 6, .inl fd))] := hD
        try dsimp only at hw_18
        rcases hw_18 with ⟨rfl, c_19⟩ | ⟨rfl, c_20⟩
        · refine lv_if_ne (tgt := 46) hx hb dX9_addVessel_39 (by decide) (fun _ => ?_) (fun c0 => absurd c0 (by decide))
          refine lv_iconst (v := 0) hx hb dX9_addVessel_46 (by decide) ?_
          refine lv_iconst (v := 1) hx hb dX9_addVessel_47 (by decide) ?_
          have hPc := hP.sub (ws' := [(h0, .inr (9, [m0, m1, m2, .int 0, .ref ar, .ref bs, .ref rk, .ref wn, m8, m9, m10, m11, m12, m13, m14, m15, m16, m17, m18, m19, m20, m21, m22, m23, m24, m25, m26, m27, m28, m29, m30, m31, m32, m33, m34, m35, m36, m37, m38, m39, m40, m41, m42, m43, m44, m45, m46, m47, m48, m49]))]) [0] rfl
          have hDc := hD.sub (ws' := [(h0, .inr (9, [m0, m1, m2, .int 0, .ref ar, .ref bs, .ref rk, .ref wn, m8, m9, m10, m11, m12, m13, m14, m15, m16, m17, m18, m19, m20, m21, m22, m23, m24, m25, m26, m27, m28, m29, m30, m31, m32, m33, m34, m35, m36, m37, m38, m39, m40, m41, m42, m43, m44, m45, m46, m47, m48, m49]))]) [0] (by decide) rfl
          have hFc := va_free (wc := [(h0, .inr (9, [m0, m1, m2, .int 0, .ref ar, .ref bs, .ref rk, .ref wn, m8, m9, m10, m11, m12, m13, m14, m15, m16, m17, m18, m19, m20, m21, m22, m23, m24, m25, m26, m27, m28, m29, m30, m31, m32, m33, m34, m35, m36, m37, m38, m39, m40, m41, m42, m43, m44, m45, m46, m47, m48, m49]))]) hD hS hA [0] rfl
          refine va_calli (va_runV (As := [.int 0, .int 1]) (rest := []) ⟨hx, hb, hml, hown, hts⟩ (m_start0 l g H.size h0 m0 m1 m2 (.int 0) (.ref ar) (.ref bs) (.ref rk) (.ref wn) m8 m9 m10 m11 m12 m13 m14 m15 m16 m17 m18 m19 m20 m21 m22 m23 m24 m25 m26 m27 m28 m29 m30 m31 m32 m33 m34 m35 m36 m37 m38 m39 m40 m41 m42 m43 m44 m45 m46 m47 m48 m49 1) (cwV 2 hts gX9_addVessel_X9_start rfl rfl rfl (by decide +kernel) ⟨Nat.le_of_ble_eq_true rfl, Nat.le_of_ble_eq_true rfl⟩) ⟨xB.blind, va_recv hK hPc (ci := 9) (q0 := 0) rfl rfl, fun U9 hU9 hW9 => ⟨rfl, xB.mk hPc hK hDc hU9 hW9⟩⟩ rfl rfl hl.1 rfl (lv_room (Nat.le_of_ble_eq_true rfl)) dX9_addVessel_48 ⟨Nat.le_of_ble_eq_true rfl, Nat.le_of_ble_eq_true rfl⟩) hS (fun q _ h => hFc q h) hFc (fun r_21 u_22 t H1 locs ht hvm hw_23 hB hz1 hk1 hS => ?_)
          obtain ⟨hP1, hK1, hD1⟩ := hB
          rw [ht] at hP1
          obtain ⟨hP, hD⟩ := va_join (wr := [(ar, .inl (xI g, 6, .inl fa)), (bs, .inl (xI g, 6, .inl fb)), (rk, .inl (xI g, 6, .inl fc)), (wn, .inl (xI g, 6, .inl fd))]) (w1 := [(h0, .inr (9, [.int 0, m1, m2, .int 0, .ref ar, .ref bs, .ref rk, .ref wn, m8, m9, m10, m11, m12, m13, m14, m15, m16, m17, m18, m19, m20, m21, m22, m23, m24, m25, m26, m27, m28, m29, m30, m31, m32, m33, m34, m35, m36, m37, m38, m39, m40, m41, m42, m43, m44, m45, m46, m47, m48, m49]))]) hP hD [0] [1, 2, 3, 4] rfl rfl (by decide) (by decide) hk1 hFc hP1 hD1
          generalize H1 = H at hP hS ⊢
          have hP : va_P (xD g) vwCl [(ar, .inl (xI g, 6, .inl fa)), (bs, .inl (xI g, 6, .inl fb)), (rk, .inl (xI g, 6, .inl fc)), (wn, .inl (xI g, 6, .inl fd)), (h0, .inr (9, [.int 0, m1, m2, .int 0, .ref ar, .ref bs, .ref rk, .ref wn, m8, m9, m10, m11, m12, m13, m14, m15, m16, m17, m18, m19, m20, m21, m22, m23, m24, m25, m26, m27, m28, m29, m30, m31, m32, m33, m34, m35, m36, m37, m38, m39, m40, m41, m42, m43, m44, m45, m46, m47, m48, m49]))] H := hP
          have hD : va_D A [(ar, .inl (xI g, 6, .inl fa)), (bs, .inl (xI g, 6, .inl fb)), (rk, .inl (xI g, 6, .inl fc)), (wn, .inl (xI g, 6, .inl fd)), (h0, .inr (9, [.int 0, m1, m2, .int 0, .ref ar, .ref bs, .ref rk, .ref wn, m8, m9, m10, m11, m12, m13, m14, m15, m16, m17, m18, m19, m20, m21, m22, m23, m24, m25, m26, m27, m28, m29, m30, m31, m32, m33, m34, m35, m36, m37, m38, m39, m40, m41, m42, m43, m44, m45, m46, m47, m48, m49]))] := hD
          try dsimp only at hw_23
          obtain rfl := hw_23
          refine lv_if_ne (tgt := 76) hx hb dX9_addVessel_51 (by decide) (fun c0 => absurd (by decide) c0) (fun _ => ?_)
          refine lv_aload_n hx hb dX9_addVessel_54 rfl (lv_at hl 0 rfl) ?_
          refine lv_aload_n hx hb dX9_addVessel_55 rfl (lv_at hl 0 rfl) ?_
          refine va_get (D := xD g) (ci := 9) (v := .int 0) (C := RX9) (T := TX9) (N := 50) hx hb hts hFX9 hown hK hP 4 rfl rfl 3 (by decide) (hts (.fieldLink RX9 144 "StevedoreModel" "vessels" "I") (by decide +kernel)) (fun _ h9 => h9) rfl dX9_addVessel_56 ?_
          refine lv_bipush (v := 6) hx hb dX9_addVessel_59 (by decide) ?_
          refine lv_icmp_ne (tgt := 68) hx hb dX9_addVessel_61 (by decide) (fun _ => ?_) (fun c0 => absurd c0 (by decide))
          refine lv_iconst (v := 0) hx hb dX9_addVessel_68 (by decide) ?_
          refine lv_iconst (v := 2) hx hb dX9_addVessel_69 (by decide) ?_
          have hPc := hP.sub (ws' := [(h0, .inr (9, [.int 0, m1, m2, .int 0, .ref ar, .ref bs, .ref rk, .ref wn, m8, m9, m10, m11, m12, m13, m14, m15, m16, m17, m18, m19, m20, m21, m22, m23, m24, m25, m26, m27, m28, m29, m30, m31, m32, m33, m34, m35, m36, m37, m38, m39, m40, m41, m42, m43, m44, m45, m46, m47, m48, m49]))]) [4] rfl
          have hDc := hD.sub (ws' := [(h0, .inr (9, [.int 0, m1, m2, .int 0, .ref ar, .ref bs, .ref rk, .ref wn, m8, m9, m10, m11, m12, m13, m14, m15, m16, m17, m18, m19, m20, m21, m22, m23, m24, m25, m26, m27, m28, m29, m30, m31, m32, m33, m34, m35, m36, m37, m38, m39, m40, m41, m42, m43, m44, m45, m46, m47, m48, m49]))]) [4] (by decide) rfl
          have hFc := xFree hS hA
          refine va_calli (va_runV (As := [.int 0, .int 2]) (rest := []) ⟨hx, hb, hml, hown, hts⟩ (m_refuse0 l g H.size h0 m1 m2 (.int 0) (.ref ar) (.ref bs) (.ref rk) (.ref wn) m8 m9 m10 m11 m12 m13 m14 m15 m16 m17 m18 m19 m20 m21 m22 m23 m24 m25 m26 m27 m28 m29 m30 m31 m32 m33 m34 m35 m36 m37 m38 m39 m40 m41 m42 m43 m44 m45 m46 m47 m48 m49 2) (cwV 2 hts gX9_addVessel_X9_refuse rfl rfl rfl (by decide +kernel) ⟨Nat.le_of_ble_eq_true rfl, Nat.le_of_ble_eq_true rfl⟩) ⟨xB.blind, va_recv hK hPc (ci := 9) (q0 := 0) rfl rfl, fun U9 hU9 hW9 => ⟨rfl, xB.mk hPc hK hDc hU9 hW9⟩⟩ rfl rfl hl.1 rfl (lv_room (Nat.le_of_ble_eq_true rfl)) dX9_addVessel_70 ⟨Nat.le_of_ble_eq_true rfl, Nat.le_of_ble_eq_true rfl⟩) hS (fun q _ h => hFc q h) hFc (fun r_24 u_25 t H1 locs ht hvm hw_26 hB hz1 hk1 hS => ?_)
          have hP := xSame hP hk1
          generalize H1 = H at hP hS ⊢
          have hP : va_P (xD g) vwCl [(ar, .inl (xI g, 6, .inl fa)), (bs, .inl (xI g, 6, .inl fb)), (rk, .inl (xI g, 6, .inl fc)), (wn, .inl (xI g, 6, .inl fd)), (h0, .inr (9, [.int 0, m1, m2, .int 0, .ref ar, .ref bs, .ref rk, .ref wn, m8, m9, m10, m11, m12, m13, m14, m15, m16, m17, m18, m19, m20, m21, m22, m23, m24, m25, m26, m27, m28, m29, m30, m31, m32, m33, m34, m35, m36, m37, m38, m39, m40, m41, m42, m43, m44, m45, m46, m47, m48, m49]))] H := hP
          have hD : va_D A [(ar, .inl (xI g, 6, .inl fa)), (bs, .inl (xI g, 6, .inl fb)), (rk, .inl (xI g, 6, .inl fc)), (wn, .inl (xI g, 6, .inl fd)), (h0, .inr (9, [.int 0, m1, m2, .int 0, .ref ar, .ref bs, .ref rk, .ref wn, m8, m9, m10, m11, m12, m13, m14, m15, m16, m17, m18, m19, m20, m21, m22, m23, m24, m25, m26, m27, m28, m29, m30, m31, m32, m33, m34, m35, m36, m37, m38, m39, m40, m41, m42, m43, m44, m45, m46, m47, m48, m49]))] := hD
          try dsimp only at hw_26
          obtain rfl := hw_26
          refine lv_if_eq (tgt := 78) hx hb dX9_addVessel_73 (by decide) (fun _ => ?_) (fun c0 => absurd (by decide) c0)
          refine lv_aload_n hx hb dX9_addVessel_78 rfl (lv_at hl 0 rfl) ?_
          refine va_get (D := xD g) (ci := 9) (v := .ref ar) (C := RX9) (T := TX9) (N := 50) hx hb hts hFX9 hown hK hP 4 rfl rfl 4 (by decide) (hts (.fieldLink RX9 16 "StevedoreModel" "arrival" "[I") (by decide +kernel)) (fun _ h9 => h9) rfl dX9_addVessel_79 ?_
          refine lv_aload_n hx hb dX9_addVessel_82 rfl (lv_at hl 0 rfl) ?_
          refine va_get (D := xD g) (ci := 9) (v := .int 0) (C := RX9) (T := TX9) (N := 50) hx hb hts hFX9 hown hK hP 4 rfl rfl 3 (by decide) (hts (.fieldLink RX9 144 "StevedoreModel" "vessels" "I") (by decide +kernel)) (fun _ h9 => h9) rfl dX9_addVessel_83 ?_
          refine lv_iload_n hx hb dX9_addVessel_86 rfl (lv_at hl 1 rfl) ?_
          refine va_iast (x := p0) hx hb hK hP hD hS 0 0 rfl rfl (by unfold vp_in; decide) dX9_addVessel_87 (fun H locs hP hD hS => ?_)
          have hP : va_P (xD g) vwCl [(ar, .inl (xI g, 6, .inl (upd fa (0 : Int32).toNatClampNeg p0))), (bs, .inl (xI g, 6, .inl fb)), (rk, .inl (xI g, 6, .inl fc)), (wn, .inl (xI g, 6, .inl fd)), (h0, .inr (9, [.int 0, m1, m2, .int 0, .ref ar, .ref bs, .ref rk, .ref wn, m8, m9, m10, m11, m12, m13, m14, m15, m16, m17, m18, m19, m20, m21, m22, m23, m24, m25, m26, m27, m28, m29, m30, m31, m32, m33, m34, m35, m36, m37, m38, m39, m40, m41, m42, m43, m44, m45, m46, m47, m48, m49]))] H := hP
          have hD : va_D A [(ar, .inl (xI g, 6, .inl (upd fa (0 : Int32).toNatClampNeg p0))), (bs, .inl (xI g, 6, .inl fb)), (rk, .inl (xI g, 6, .inl fc)), (wn, .inl (xI g, 6, .inl fd)), (h0, .inr (9, [.int 0, m1, m2, .int 0, .ref ar, .ref bs, .ref rk, .ref wn, m8, m9, m10, m11, m12, m13, m14, m15, m16, m17, m18, m19, m20, m21, m22, m23, m24, m25, m26, m27, m28, m29, m30, m31, m32, m33, m34, m35, m36, m37, m38, m39, m40, m41, m42, m43, m44, m45, m46, m47, m48, m49]))] := hD
          obtain ⟨g_27, eg_27⟩ : ∃ y : Nat → Int32, y = upd fa (0 : Int32).toNatClampNeg p0 := ⟨_, rfl⟩
          rw [← eg_27] at hP hD
          refine lv_aload_n hx hb dX9_addVessel_88 rfl (lv_at hl 0 rfl) ?_
          refine va_get (D := xD g) (ci := 9) (v := .ref bs) (C := RX9) (T := TX9) (N := 50) hx hb hts hFX9 hown hK hP 4 rfl rfl 5 (by decide) (hts (.fieldLink RX9 20 "StevedoreModel" "bays" "[I") (by decide +kernel)) (fun _ h9 => h9) rfl dX9_addVessel_89 ?_
          refine lv_aload_n hx hb dX9_addVessel_92 rfl (lv_at hl 0 rfl) ?_
          refine va_get (D := xD g) (ci := 9) (v := .int 0) (C := RX9) (T := TX9) (N := 50) hx hb hts hFX9 hown hK hP 4 rfl rfl 3 (by decide) (hts (.fieldLink RX9 144 "StevedoreModel" "vessels" "I") (by decide +kernel)) (fun _ h9 => h9) rfl dX9_addVessel_93 ?_
          refine lv_iload_n hx hb dX9_addVessel_96 rfl (lv_at hl 2 rfl) ?_
          refine va_iast (x := p1) hx hb hK hP hD hS 1 0 rfl rfl (by unfold vp_in; decide) dX9_addVessel_97 (fun H locs hP hD hS => ?_)
          have hP : va_P (xD g) vwCl [(ar, .inl (xI g, 6, .inl g_27)), (bs, .inl (xI g, 6, .inl (upd fb (0 : Int32).toNatClampNeg p1))), (rk, .inl (xI g, 6, .inl fc)), (wn, .inl (xI g, 6, .inl fd)), (h0, .inr (9, [.int 0, m1, m2, .int 0, .ref ar, .ref bs, .ref rk, .ref wn, m8, m9, m10, m11, m12, m13, m14, m15, m16, m17, m18, m19, m20, m21, m22, m23, m24, m25, m26, m27, m28, m29, m30, m31, m32, m33, m34, m35, m36, m37, m38, m39, m40, m41, m42, m43, m44, m45, m46, m47, m48, m49]))] H := hP
          have hD : va_D A [(ar, .inl (xI g, 6, .inl g_27)), (bs, .inl (xI g, 6, .inl (upd fb (0 : Int32).toNatClampNeg p1))), (rk, .inl (xI g, 6, .inl fc)), (wn, .inl (xI g, 6, .inl fd)), (h0, .inr (9, [.int 0, m1, m2, .int 0, .ref ar, .ref bs, .ref rk, .ref wn, m8, m9, m10, m11, m12, m13, m14, m15, m16, m17, m18, m19, m20, m21, m22, m23, m24, m25, m26, m27, m28, m29, m30, m31, m32, m33, m34, m35, m36, m37, m38, m39, m40, m41, m42, m43, m44, m45, m46, m47, m48, m49]))] := hD
          obtain ⟨g_28, eg_28⟩ : ∃ y : Nat → Int32, y = upd fb (0 : Int32).toNatClampNeg p1 := ⟨_, rfl⟩
          rw [← eg_28] at hP hD
          refine lv_aload_n hx hb dX9_addVessel_98 rfl (lv_at hl 0 rfl) ?_
          refine va_get (D := xD g) (ci := 9) (v := .ref rk) (C := RX9) (T := TX9) (N := 50) hx hb hts hFX9 hown hK hP 4 rfl rfl 6 (by decide) (hts (.fieldLink RX9 23 "StevedoreModel" "rank" "[I") (by decide +kernel)) (fun _ h9 => h9) rfl dX9_addVessel_99 ?_
          refine lv_aload_n hx hb dX9_addVessel_102 rfl (lv_at hl 0 rfl) ?_
          refine va_get (D := xD g) (ci := 9) (v := .int 0) (C := RX9) (T := TX9) (N := 50) hx hb hts hFX9 hown hK hP 4 rfl rfl 3 (by decide) (hts (.fieldLink RX9 144 "StevedoreModel" "vessels" "I") (by decide +kernel)) (fun _ h9 => h9) rfl dX9_addVessel_103 ?_
          refine lv_iload_n hx hb dX9_addVessel_106 rfl (lv_at hl 3 rfl) ?_
          refine va_iast (x := p2) hx hb hK hP hD hS 2 0 rfl rfl (by unfold vp_in; decide) dX9_addVessel_107 (fun H locs hP hD hS => ?_)
          have hP : va_P (xD g) vwCl [(ar, .inl (xI g, 6, .inl g_27)), (bs, .inl (xI g, 6, .inl g_28)), (rk, .inl (xI g, 6, .inl (upd fc (0 : Int32).toNatClampNeg p2))), (wn, .inl (xI g, 6, .inl fd)), (h0, .inr (9, [.int 0, m1, m2, .int 0, .ref ar, .ref bs, .ref rk, .ref wn, m8, m9, m10, m11, m12, m13, m14, m15, m16, m17, m18, m19, m20, m21, m22, m23, m24, m25, m26, m27, m28, m29, m30, m31, m32, m33, m34, m35, m36, m37, m38, m39, m40, m41, m42, m43, m44, m45, m46, m47, m48, m49]))] H := hP
          have hD : va_D A [(ar, .inl (xI g, 6, .inl g_27)), (bs, .inl (xI g, 6, .inl g_28)), (rk, .inl (xI g, 6, .inl (upd fc (0 : Int32).toNatClampNeg p2))), (wn, .inl (xI g, 6, .inl fd)), (h0, .inr (9, [.int 0, m1, m2, .int 0, .ref ar, .ref bs, .ref rk, .ref wn, m8, m9, m10, m11, m12, m13, m14, m15, m16, m17, m18, m19, m20, m21, m22, m23, m24, m25, m26, m27, m28, m29, m30, m31, m32, m33, m34, m35, m36, m37, m38, m39, m40, m41, m42, m43, m44, m45, m46, m47, m48, m49]))] := hD
          obtain ⟨g_29, eg_29⟩ : ∃ y : Nat → Int32, y = upd fc (0 : Int32).toNatClampNeg p2 := ⟨_, rfl⟩
          rw [← eg_29] at hP hD
          refine lv_aload_n hx hb dX9_addVessel_108 rfl (lv_at hl 0 rfl) ?_
          refine va_get (D := xD g) (ci := 9) (v := .ref wn) (C := RX9) (T := TX9) (N := 50) hx hb hts hFX9 hown hK hP 4 rfl rfl 7 (by decide) (hts (.fieldLink RX9 26 "StevedoreModel" "wants" "[I") (by decide +kernel)) (fun _ h9 => h9) rfl dX9_addVessel_109 ?_
          refine lv_aload_n hx hb dX9_addVessel_112 rfl (lv_at hl 0 rfl) ?_
          refine va_get (D := xD g) (ci := 9) (v := .int 0) (C := RX9) (T := TX9) (N := 50) hx hb hts hFX9 hown hK hP 4 rfl rfl 3 (by decide) (hts (.fieldLink RX9 144 "StevedoreModel" "vessels" "I") (by decide +kernel)) (fun _ h9 => h9) rfl dX9_addVessel_113 ?_
          refine lv_iload hx hb dX9_addVessel_116 (lv_at hl 4 rfl) ?_
          refine va_iast (x := p3) hx hb hK hP hD hS 3 0 rfl rfl (by unfold vp_in; decide) dX9_addVessel_118 (fun H locs hP hD hS => ?_)
          have hP : va_P (xD g) vwCl [(ar, .inl (xI g, 6, .inl g_27)), (bs, .inl (xI g, 6, .inl g_28)), (rk, .inl (xI g, 6, .inl g_29)), (wn, .inl (xI g, 6, .inl (upd fd (0 : Int32).toNatClampNeg p3))), (h0, .inr (9, [.int 0, m1, m2, .int 0, .ref ar, .ref bs, .ref rk, .ref wn, m8, m9, m10, m11, m12, m13, m14, m15, m16, m17, m18, m19, m20, m21, m22, m23, m24, m25, m26, m27, m28, m29, m30, m31, m32, m33, m34, m35, m36, m37, m38, m39, m40, m41, m42, m43, m44, m45, m46, m47, m48, m49]))] H := hP
          have hD : va_D A [(ar, .inl (xI g, 6, .inl g_27)), (bs, .inl (xI g, 6, .inl g_28)), (rk, .inl (xI g, 6, .inl g_29)), (wn, .inl (xI g, 6, .inl (upd fd (0 : Int32).toNatClampNeg p3))), (h0, .inr (9, [.int 0, m1, m2, .int 0, .ref ar, .ref bs, .ref rk, .ref wn, m8, m9, m10, m11, m12, m13, m14, m15, m16, m17, m18, m19, m20, m21, m22, m23, m24, m25, m26, m27, m28, m29, m30, m31, m32, m33, m34, m35, m36, m37, m38, m39, m40, m41, m42, m43, m44, m45, m46, m47, m48, m49]))] := hD
          obtain ⟨g_30, eg_30⟩ : ∃ y : Nat → Int32, y = upd fd (0 : Int32).toNatClampNeg p3 := ⟨_, rfl⟩
          rw [← eg_30] at hP hD
          refine lv_aload_n hx hb dX9_addVessel_119 rfl (lv_at hl 0 rfl) ?_
          refine lv_dup hx hb dX9_addVessel_120 rfl ?_
          refine va_get (D := xD g) (ci := 9) (v := .int 0) (C := RX9) (T := TX9) (N := 50) hx hb hts hFX9 hown hK hP 4 rfl rfl 3 (by decide) (hts (.fieldLink RX9 144 "StevedoreModel" "vessels" "I") (by decide +kernel)) (fun _ h9 => h9) rfl dX9_addVessel_121 ?_
          refine lv_iconst (v := 1) hx hb dX9_addVessel_124 (by decide) ?_
          refine lv_iadd hx hb dX9_addVessel_125 ?_
          refine lv_topi (fun v_31 ev => ?_)
          obtain rfl : v_31 = (1 : Int32) := ev.trans (by decide)
          refine va_put (D := xD g) (ci := 9) (v := .int 1) (ty := .int) (C := RX9) (T := TX9) (N := 50) hx hb hts hFX9 tyX9 tyX9_ok nmX9 hown hK hP hD hS 4 rfl rfl 3 (by decide) (hts (.fieldLink RX9 144 "StevedoreModel" "vessels" "I") (by decide +kernel)) (fun _ h9 => h9) rfl (by decide +kernel) rfl rfl (Nat.le_of_ble_eq_true rfl) dX9_addVessel_126 (fun H locs hP hD hS => ?_)
          have hP : va_P (xD g) vwCl [(ar, .inl (xI g, 6, .inl g_27)), (bs, .inl (xI g, 6, .inl g_28)), (rk, .inl (xI g, 6, .inl g_29)), (wn, .inl (xI g, 6, .inl g_30)), (h0, .inr (9, [.int 0, m1, m2, .int 1, .ref ar, .ref bs, .ref rk, .ref wn, m8, m9, m10, m11, m12, m13, m14, m15, m16, m17, m18, m19, m20, m21, m22, m23, m24, m25, m26, m27, m28, m29, m30, m31, m32, m33, m34, m35, m36, m37, m38, m39, m40, m41, m42, m43, m44, m45, m46, m47, m48, m49]))] H := hP
          have hD : va_D A [(ar, .inl (xI g, 6, .inl g_27)), (bs, .inl (xI g, 6, .inl g_28)), (rk, .inl (xI g, 6, .inl g_29)), (wn, .inl (xI g, 6, .inl g_30)), (h0, .inr (9, [.int 0, m1, m2, .int 1, .ref ar, .ref bs, .ref rk, .ref wn, m8, m9, m10, m11, m12, m13, m14, m15, m16, m17, m18, m19, m20, m21, m22, m23, m24, m25, m26, m27, m28, m29, m30, m31, m32, m33, m34, m35, m36, m37, m38, m39, m40, m41, m42, m43, m44, m45, m46, m47, m48, m49]))] := hD
          refine lv_aload_n hx hb dX9_addVessel_129 rfl (lv_at hl 0 rfl) ?_
          have hPc := hP.sub (ws' := [(h0, .inr (9, [.int 0, m1, m2, .int 1, .ref ar, .ref bs, .ref rk, .ref wn, m8, m9, m10, m11, m12, m13, m14, m15, m16, m17, m18, m19, m20, m21, m22, m23, m24, m25, m26, m27, m28, m29, m30, m31, m32, m33, m34, m35, m36, m37, m38, m39, m40, m41, m42, m43, m44, m45, m46, m47, m48, m49]))]) [4] rfl
          have hDc := hD.sub (ws' := [(h0, .inr (9, [.int 0, m1, m2, .int 1, .ref ar, .ref bs, .ref rk, .ref wn, m8, m9, m10, m11, m12, m13, m14, m15, m16, m17, m18, m19, m20, m21, m22, m23, m24, m25, m26, m27, m28, m29, m30, m31, m32, m33, m34, m35, m36, m37, m38, m39, m40, m41, m42, m43, m44, m45, m46, m47, m48, m49]))]) [4] (by decide) rfl
          have hFc := va_free (wc := [(h0, .inr (9, [.int 0, m1, m2, .int 1, .ref ar, .ref bs, .ref rk, .ref wn, m8, m9, m10, m11, m12, m13, m14, m15, m16, m17, m18, m19, m20, m21, m22, m23, m24, m25, m26, m27, m28, m29, m30, m31, m32, m33, m34, m35, m36, m37, m38, m39, m40, m41, m42, m43, m44, m45, m46, m47, m48, m49]))]) hD hS hA [4] rfl
          refine va_callv (va_runV (As := []) (rest := []) ⟨hx, hb, hml, hown, hts⟩ (m_noPlan l g H.size h0 (.int 0) m1 m2 (.int 1) (.ref ar) (.ref bs) (.ref rk) (.ref wn) m8 m9 m10 m11 m12 m13 m14 m15 m16 m17 m18 m19 m20 m21 m22 m23 m24 m25 m26 m27 m28 m29 m30 m31 m32 m33 m34 m35 m36 m37 m38 m39 m40 m41 m42 m43 m44 m45 m46 m47 m48 m49) (cwV 0 hts gX9_addVessel_X9_noPlan rfl rfl rfl (by decide +kernel) ⟨Nat.le_of_ble_eq_true rfl, Nat.le_of_ble_eq_true rfl⟩) ⟨xB.blind, va_recv hK hPc (ci := 9) (q0 := 0) rfl rfl, fun U9 hU9 hW9 => ⟨rfl, xB.mk hPc hK hDc hU9 hW9⟩⟩ rfl rfl hl.1 rfl (lv_room (Nat.le_of_ble_eq_true rfl)) dX9_addVessel_130 ⟨Nat.le_of_ble_eq_true rfl, Nat.le_of_ble_eq_true rfl⟩) hS (fun q _ h => hFc q h) hFc (fun u_33 t H1 locs ht hvm hw_34 hB hz1 hk1 hS => ?_)
          obtain ⟨w46_35, w47_36, w48_37, hP1, hK1, hD1⟩ := hB
          rw [ht] at hP1
          obtain ⟨hP, hD⟩ := va_join (wr := [(ar, .inl (xI g, 6, .inl g_27)), (bs, .inl (xI g, 6, .inl g_28)), (rk, .inl (xI g, 6, .inl g_29)), (wn, .inl (xI g, 6, .inl g_30))]) (w1 := [(h0, .inr (9, [.int 0, m1, m2, .int 1, .ref ar, .ref bs, .ref rk, .ref wn, m8, m9, m10, m11, m12, m13, m14, m15, m16, m17, m18, m19, m20, m21, m22, m23, .int 0, m25, m26, m27, m28, m29, m30, m31, m32, m33, m34, m35, m36, m37, .int 0, m39, .int 0, m41, m42, m43, m44, .int 0, .ref w46_35, .ref w47_36, .ref w48_37, .int 0]))]) hP hD [4] [0, 1, 2, 3] rfl rfl (by decide) (by decide) hk1 hFc hP1 hD1
          generalize H1 = H at hP hS ⊢
          have hP : va_P (xD g) vwCl [(ar, .inl (xI g, 6, .inl g_27)), (bs, .inl (xI g, 6, .inl g_28)), (rk, .inl (xI g, 6, .inl g_29)), (wn, .inl (xI g, 6, .inl g_30)), (h0, .inr (9, [.int 0, m1, m2, .int 1, .ref ar, .ref bs, .ref rk, .ref wn, m8, m9, m10, m11, m12, m13, m14, m15, m16, m17, m18, m19, m20, m21, m22, m23, .int 0, m25, m26, m27, m28, m29, m30, m31, m32, m33, m34, m35, m36, m37, .int 0, m39, .int 0, m41, m42, m43, m44, .int 0, .ref w46_35, .ref w47_36, .ref w48_37, .int 0]))] H := hP
          have hD : va_D A [(ar, .inl (xI g, 6, .inl g_27)), (bs, .inl (xI g, 6, .inl g_28)), (rk, .inl (xI g, 6, .inl g_29)), (wn, .inl (xI g, 6, .inl g_30)), (h0, .inr (9, [.int 0, m1, m2, .int 1, .ref ar, .ref bs, .ref rk, .ref wn, m8, m9, m10, m11, m12, m13, m14, m15, m16, m17, m18, m19, m20, m21, m22, m23, .int 0, m25, m26, m27, m28, m29, m30, m31, m32, m33, m34, m35, m36, m37, .int 0, m39, .int 0, m41, m42, m43, m44, .int 0, .ref w46_35, .ref w47_36, .ref w48_37, .int 0]))] := hD
          refine W.widen (k := 3) (n := 96) (by omega) (by omega) ?_
          try dsimp only at hw_34
          refine lv_aload_n hx hb dX9_addVessel_133 rfl (lv_at hl 0 rfl) ?_
          refine va_get (D := xD g) (ci := 9) (v := .int 1) (C := RX9) (T := TX9) (N := 50) hx hb hts hFX9 hown hK hP 4 rfl rfl 3 (by decide) (hts (.fieldLink RX9 144 "StevedoreModel" "vessels" "I") (by decide +kernel)) (fun _ h9 => h9) rfl dX9_addVessel_134 ?_
          refine lv_iconst (v := 1) hx hb dX9_addVessel_137 (by decide) ?_
          refine lv_isub hx hb dX9_addVessel_138 ?_
          refine lv_topi (fun v_38 ev => ?_)
          obtain rfl : v_38 = (0 : Int32) := ev.trans (by decide)
          have hP9 := hP.sub (ws' := [(h0, .inr (9, [.int 0, m1, m2, .int 1, .ref ar, .ref bs, .ref rk, .ref wn, m8, m9, m10, m11, m12, m13, m14, m15, m16, m17, m18, m19, m20, m21, m22, m23, .int 0, m25, m26, m27, m28, m29, m30, m31, m32, m33, m34, m35, m36, m37, .int 0, m39, .int 0, m41, m42, m43, m44, .int 0, .ref w46_35, .ref w47_36, .ref w48_37, .int 0]))]) [4] rfl
          have hD9 := hD.sub (ws' := [(h0, .inr (9, [.int 0, m1, m2, .int 1, .ref ar, .ref bs, .ref rk, .ref wn, m8, m9, m10, m11, m12, m13, m14, m15, m16, m17, m18, m19, m20, m21, m22, m23, .int 0, m25, m26, m27, m28, m29, m30, m31, m32, m33, m34, m35, m36, m37, .int 0, m39, .int 0, m41, m42, m43, m44, .int 0, .ref w46_35, .ref w47_36, .ref w48_37, .int 0]))]) [4] (by decide) rfl
          exact W.iret (v := 0) hx hb hr (fun t ht hW => ⟨⟨0, 0, rfl, Or.inr (⟨rfl, rfl, (by first | trivial | assumption | (refine ⟨?_, ?_⟩ <;> assumption) | (simp only [Int32.lt_iff_toInt_lt, Int32.le_iff_toInt_le, Int32.reduceToInt] at *; omega))⟩), ⟨m1, m2, (.int 1), (.ref ar), (.ref bs), (.ref rk), (.ref wn), m8, m9, m10, m11, m12, m13, m14, m15, m16, m17, m18, m19, m20, m21, m22, m23, (.int 0), m25, m26, m27, m28, m29, m30, m31, m32, m33, m34, m35, m36, m37, (.int 0), m39, (.int 0), m41, m42, m43, m44, (.int 0), (.ref w46_35), (.ref w47_36), (.ref w48_37), (.int 0), by rw [ht]; exact hP9, va_K.moved hW.alike hK, hD9⟩⟩, hS.F ht⟩) hS.2.2 dX9_addVessel_139
        · refine lv_if_ne (tgt := 46) hx hb dX9_addVessel_39 (by decide) (fun c0 => absurd (by decide) c0) (fun _ => ?_)
          refine lv_iconst (v := 1) hx hb dX9_addVessel_42 (by decide) ?_
          refine lv_goto (tgt := 47) hx hb dX9_addVessel_43 (by decide) ?_
          refine lv_iconst (v := 1) hx hb dX9_addVessel_47 (by decide) ?_
          have hPc := hP.sub (ws' := [(h0, .inr (9, [m0, m1, m2, .int 0, .ref ar, .ref bs, .ref rk, .ref wn, m8, m9, m10, m11, m12, m13, m14, m15, m16, m17, m18, m19, m20, m21, m22, m23, m24, m25, m26, m27, m28, m29, m30, m31, m32, m33, m34, m35, m36, m37, m38, m39, m40, m41, m42, m43, m44, m45, m46, m47, m48, m49]))]) [0] rfl
          have hDc := hD.sub (ws' := [(h0, .inr (9, [m0, m1, m2, .int 0, .ref ar, .ref bs, .ref rk, .ref wn, m8, m9, m10, m11, m12, m13, m14, m15, m16, m17, m18, m19, m20, m21, m22, m23, m24, m25, m26, m27, m28, m29, m30, m31, m32, m33, m34, m35, m36, m37, m38, m39, m40, m41, m42, m43, m44, m45, m46, m47, m48, m49]))]) [0] (by decide) rfl
          have hFc := va_free (wc := [(h0, .inr (9, [m0, m1, m2, .int 0, .ref ar, .ref bs, .ref rk, .ref wn, m8, m9, m10, m11, m12, m13, m14, m15, m16, m17, m18, m19, m20, m21, m22, m23, m24, m25, m26, m27, m28, m29, m30, m31, m32, m33, m34, m35, m36, m37, m38, m39, m40, m41, m42, m43, m44, m45, m46, m47, m48, m49]))]) hD hS hA [0] rfl
          refine va_calli (va_runV (As := [.int 1, .int 1]) (rest := []) ⟨hx, hb, hml, hown, hts⟩ (m_start1 l g H.size h0 m0 m1 m2 (.int 0) (.ref ar) (.ref bs) (.ref rk) (.ref wn) m8 m9 m10 m11 m12 m13 m14 m15 m16 m17 m18 m19 m20 m21 m22 m23 m24 m25 m26 m27 m28 m29 m30 m31 m32 m33 m34 m35 m36 m37 m38 m39 m40 m41 m42 m43 m44 m45 m46 m47 m48 m49 1 (by first | assumption | decide | omega | simp_all)) (cwV 2 hts gX9_addVessel_X9_start rfl rfl rfl (by decide +kernel) ⟨Nat.le_of_ble_eq_true rfl, Nat.le_of_ble_eq_true rfl⟩) ⟨xB.blind, va_recv hK hPc (ci := 9) (q0 := 0) rfl rfl, fun U9 hU9 hW9 => ⟨rfl, xB.mk hPc hK hDc hU9 hW9⟩⟩ rfl rfl hl.1 rfl (lv_room (Nat.le_of_ble_eq_true rfl)) dX9_addVessel_48 ⟨Nat.le_of_ble_eq_true rfl, Nat.le_of_ble_eq_true rfl⟩) hS (fun q _ h => hFc q h) hFc (fun r_39 u_40 t H1 locs ht hvm hw_41 hB hz1 hk1 hS => ?_)
          obtain ⟨hP1, hK1, hD1⟩ := hB
          rw [ht] at hP1
          obtain ⟨hP, hD⟩ := va_join (wr := [(ar, .inl (xI g, 6, .inl fa)), (bs, .inl (xI g, 6, .inl fb)), (rk, .inl (xI g, 6, .inl fc)), (wn, .inl (xI g, 6, .inl fd))]) (w1 := [(h0, .inr (9, [.int 1, m1, m2, .int 0, .ref ar, .ref bs, .ref rk, .ref wn, m8, m9, m10, m11, m12, m13, m14, m15, m16, m17, m18, m19, m20, m21, m22, m23, m24, m25, m26, m27, m28, m29, m30, m31, m32, m33, m34, m35, m36, m37, m38, m39, m40, m41, m42, m43, m44, m45, m46, m47, m48, m49]))]) hP hD [0] [1, 2, 3, 4] rfl rfl (by decide) (by decide) hk1 hFc hP1 hD1
          generalize H1 = H at hP hS ⊢
          have hP : va_P (xD g) vwCl [(ar, .inl (xI g, 6, .inl fa)), (bs, .inl (xI g, 6, .inl fb)), (rk, .inl (xI g, 6, .inl fc)), (wn, .inl (xI g, 6, .inl fd)), (h0, .inr (9, [.int 1, m1, m2, .int 0, .ref ar, .ref bs, .ref rk, .ref wn, m8, m9, m10, m11, m12, m13, m14, m15, m16, m17, m18, m19, m20, m21, m22, m23, m24, m25, m26, m27, m28, m29, m30, m31, m32, m33, m34, m35, m36, m37, m38, m39, m40, m41, m42, m43, m44, m45, m46, m47, m48, m49]))] H := hP
          have hD : va_D A [(ar, .inl (xI g, 6, .inl fa)), (bs, .inl (xI g, 6, .inl fb)), (rk, .inl (xI g, 6, .inl fc)), (wn, .inl (xI g, 6, .inl fd)), (h0, .inr (9, [.int 1, m1, m2, .int 0, .ref ar, .ref bs, .ref rk, .ref wn, m8, m9, m10, m11, m12, m13, m14, m15, m16, m17, m18, m19, m20, m21, m22, m23, m24, m25, m26, m27, m28, m29, m30, m31, m32, m33, m34, m35, m36, m37, m38, m39, m40, m41, m42, m43, m44, m45, m46, m47, m48, m49]))] := hD
          try dsimp only at hw_41
          obtain rfl := hw_41
          refine lv_if_ne (tgt := 76) hx hb dX9_addVessel_51 (by decide) (fun _ => ?_) (fun c0 => absurd c0 (by decide))
          refine lv_iconst (v := 0) hx hb dX9_addVessel_76 (by decide) ?_
          refine W.widen (k := 3) (n := 96) (by omega) (by omega) ?_
          have hP9 := hP.sub (ws' := [(h0, .inr (9, [.int 1, m1, m2, .int 0, .ref ar, .ref bs, .ref rk, .ref wn, m8, m9, m10, m11, m12, m13, m14, m15, m16, m17, m18, m19, m20, m21, m22, m23, m24, m25, m26, m27, m28, m29, m30, m31, m32, m33, m34, m35, m36, m37, m38, m39, m40, m41, m42, m43, m44, m45, m46, m47, m48, m49]))]) [4] rfl
          have hD9 := hD.sub (ws' := [(h0, .inr (9, [.int 1, m1, m2, .int 0, .ref ar, .ref bs, .ref rk, .ref wn, m8, m9, m10, m11, m12, m13, m14, m15, m16, m17, m18, m19, m20, m21, m22, m23, m24, m25, m26, m27, m28, m29, m30, m31, m32, m33, m34, m35, m36, m37, m38, m39, m40, m41, m42, m43, m44, m45, m46, m47, m48, m49]))]) [4] (by decide) rfl
          exact W.iret (v := 0) hx hb hr (fun t ht hW => ⟨⟨0, 1, rfl, Or.inl (⟨rfl, rfl, (by first | trivial | assumption | (refine ⟨?_, ?_⟩ <;> assumption) | (simp only [Int32.lt_iff_toInt_lt, Int32.le_iff_toInt_le, Int32.reduceToInt] at *; omega))⟩), ⟨m1, m2, (.int 0), (.ref ar), (.ref bs), (.ref rk), (.ref wn), m8, m9, m10, m11, m12, m13, m14, m15, m16, m17, m18, m19, m20, m21, m22, m23, m24, m25, m26, m27, m28, m29, m30, m31, m32, m33, m34, m35, m36, m37, m38, m39, m40, m41, m42, m43, m44, m45, m46, m47, m48, m49, by rw [ht]; exact hP9, va_K.moved hW.alike hK, hD9⟩⟩, hS.F ht⟩) hS.2.2 dX9_addVessel_77
      · refine lv_if_eq (tgt := 42) hx hb dX9_addVessel_29 (by decide) (fun _ => ?_) (fun c0 => absurd (by decide) c0)
        refine lv_iconst (v := 1) hx hb dX9_addVessel_42 (by decide) ?_
        refine lv_goto (tgt := 47) hx hb dX9_addVessel_43 (by decide) ?_
        refine lv_iconst (v := 1) hx hb dX9_addVessel_47 (by decide) ?_
        have hPc := hP.sub (ws' := [(h0, .inr (9, [m0, m1, m2, .int 0, .ref ar, .ref bs, .ref rk, .ref wn, m8, m9, m10, m11, m12, m13, m14, m15, m16, m17, m18, m19, m20, m21, m22, m23, m24, m25, m26, m27, m28, m29, m30, m31, m32, m33, m34, m35, m36, m37, m38, m39, m40, m41, m42, m43, m44, m45, m46, m47, m48, m49]))]) [0] rfl
        have hDc := hD.sub (ws' := [(h0, .inr (9, [m0, m1, m2, .int 0, .ref ar, .ref bs, .ref rk, .ref wn, m8, m9, m10, m11, m12, m13, m14, m15, m16, m17, m18, m19, m20, m21, m22, m23, m24, m25, m26, m27, m28, m29, m30, m31, m32, m33, m34, m35, m36, m37, m38, m39, m40, m41, m42, m43, m44, m45, m46, m47, m48, m49]))]) [0] (by decide) rfl
        have hFc := va_free (wc := [(h0, .inr (9, [m0, m1, m2, .int 0, .ref ar, .ref bs, .ref rk, .ref wn, m8, m9, m10, m11, m12, m13, m14, m15, m16, m17, m18, m19, m20, m21, m22, m23, m24, m25, m26, m27, m28, m29, m30, m31, m32, m33, m34, m35, m36, m37, m38, m39, m40, m41, m42, m43, m44, m45, m46, m47, m48, m49]))]) hD hS hA [0] rfl
        refine va_calli (va_runV (As := [.int 1, .int 1]) (rest := []) ⟨hx, hb, hml, hown, hts⟩ (m_start1 l g H.size h0 m0 m1 m2 (.int 0) (.ref ar) (.ref bs) (.ref rk) (.ref wn) m8 m9 m10 m11 m12 m13 m14 m15 m16 m17 m18 m19 m20 m21 m22 m23 m24 m25 m26 m27 m28 m29 m30 m31 m32 m33 m34 m35 m36 m37 m38 m39 m40 m41 m42 m43 m44 m45 m46 m47 m48 m49 1 (by first | assumption | decide | omega | simp_all)) (cwV 2 hts gX9_addVessel_X9_start rfl rfl rfl (by decide +kernel) ⟨Nat.le_of_ble_eq_true rfl, Nat.le_of_ble_eq_true rfl⟩) ⟨xB.blind, va_recv hK hPc (ci := 9) (q0 := 0) rfl rfl, fun U9 hU9 hW9 => ⟨rfl, xB.mk hPc hK hDc hU9 hW9⟩⟩ rfl rfl hl.1 rfl (lv_room (Nat.le_of_ble_eq_true rfl)) dX9_addVessel_48 ⟨Nat.le_of_ble_eq_true rfl, Nat.le_of_ble_eq_true rfl⟩) hS (fun q _ h => hFc q h) hFc (fun r_42 u_43 t H1 locs ht hvm hw_44 hB hz1 hk1 hS => ?_)
        obtain ⟨hP1, hK1, hD1⟩ := hB
        rw [ht] at hP1
        obtain ⟨hP, hD⟩ := va_join (wr := [(ar, .inl (xI g, 6, .inl fa)), (bs, .inl (xI g, 6, .inl fb)), (rk, .inl (xI g, 6, .inl fc)), (wn, .inl (xI g, 6, .inl fd))]) (w1 := [(h0, .inr (9, [.int 1, m1, m2, .int 0, .ref ar, .ref bs, .ref rk, .ref wn, m8, m9, m10, m11, m12, m13, m14, m15, m16, m17, m18, m19, m20, m21, m22, m23, m24, m25, m26, m27, m28, m29, m30, m31, m32, m33, m34, m35, m36, m37, m38, m39, m40, m41, m42, m43, m44, m45, m46, m47, m48, m49]))]) hP hD [0] [1, 2, 3, 4] rfl rfl (by decide) (by decide) hk1 hFc hP1 hD1
        generalize H1 = H at hP hS ⊢
        have hP : va_P (xD g) vwCl [(ar, .inl (xI g, 6, .inl fa)), (bs, .inl (xI g, 6, .inl fb)), (rk, .inl (xI g, 6, .inl fc)), (wn, .inl (xI g, 6, .inl fd)), (h0, .inr (9, [.int 1, m1, m2, .int 0, .ref ar, .ref bs, .ref rk, .ref wn, m8, m9, m10, m11, m12, m13, m14, m15, m16, m17, m18, m19, m20, m21, m22, m23, m24, m25, m26, m27, m28, m29, m30, m31, m32, m33, m34, m35, m36, m37, m38, m39, m40, m41, m42, m43, m44, m45, m46, m47, m48, m49]))] H := hP
        have hD : va_D A [(ar, .inl (xI g, 6, .inl fa)), (bs, .inl (xI g, 6, .inl fb)), (rk, .inl (xI g, 6, .inl fc)), (wn, .inl (xI g, 6, .inl fd)), (h0, .inr (9, [.int 1, m1, m2, .int 0, .ref ar, .ref bs, .ref rk, .ref wn, m8, m9, m10, m11, m12, m13, m14, m15, m16, m17, m18, m19, m20, m21, m22, m23, m24, m25, m26, m27, m28, m29, m30, m31, m32, m33, m34, m35, m36, m37, m38, m39, m40, m41, m42, m43, m44, m45, m46, m47, m48, m49]))] := hD
        try dsimp only at hw_44
        obtain rfl := hw_44
        refine lv_if_ne (tgt := 76) hx hb dX9_addVessel_51 (by decide) (fun _ => ?_) (fun c0 => absurd c0 (by decide))
        refine lv_iconst (v := 0) hx hb dX9_addVessel_76 (by decide) ?_
        refine W.widen (k := 3) (n := 96) (by omega) (by omega) ?_
        have hP9 := hP.sub (ws' := [(h0, .inr (9, [.int 1, m1, m2, .int 0, .ref ar, .ref bs, .ref rk, .ref wn, m8, m9, m10, m11, m12, m13, m14, m15, m16, m17, m18, m19, m20, m21, m22, m23, m24, m25, m26, m27, m28, m29, m30, m31, m32, m33, m34, m35, m36, m37, m38, m39, m40, m41, m42, m43, m44, m45, m46, m47, m48, m49]))]) [4] rfl
        have hD9 := hD.sub (ws' := [(h0, .inr (9, [.int 1, m1, m2, .int 0, .ref ar, .ref bs, .ref rk, .ref wn, m8, m9, m10, m11, m12, m13, m14, m15, m16, m17, m18, m19, m20, m21, m22, m23, m24, m25, m26, m27, m28, m29, m30, m31, m32, m33, m34, m35, m36, m37, m38, m39, m40, m41, m42, m43, m44, m45, m46, m47, m48, m49]))]) [4] (by decide) rfl
        exact W.iret (v := 0) hx hb hr (fun t ht hW => ⟨⟨0, 1, rfl, Or.inl (⟨rfl, rfl, (by first | trivial | assumption | (refine ⟨?_, ?_⟩ <;> assumption) | (simp only [Int32.lt_iff_toInt_lt, Int32.le_iff_toInt_le, Int32.reduceToInt] at *; omega))⟩), ⟨m1, m2, (.int 0), (.ref ar), (.ref bs), (.ref rk), (.ref wn), m8, m9, m10, m11, m12, m13, m14, m15, m16, m17, m18, m19, m20, m21, m22, m23, m24, m25, m26, m27, m28, m29, m30, m31, m32, m33, m34, m35, m36, m37, m38, m39, m40, m41, m42, m43, m44, m45, m46, m47, m48, m49, by rw [ht]; exact hP9, va_K.moved hW.alike hK, hD9⟩⟩, hS.F ht⟩) hS.2.2 dX9_addVessel_77
    · refine lv_if_eq (tgt := 42) hx hb dX9_addVessel_19 (by decide) (fun _ => ?_) (fun c0 => absurd (by decide) c0)
      refine lv_iconst (v := 1) hx hb dX9_addVessel_42 (by decide) ?_
      refine lv_goto (tgt := 47) hx hb dX9_addVessel_43 (by decide) ?_
      refine lv_iconst (v := 1) hx hb dX9_addVessel_47 (by decide) ?_
      have hPc := hP.sub (ws' := [(h0, .inr (9, [m0, m1, m2, .int 0, .ref ar, .ref bs, .ref rk, .ref wn, m8, m9, m10, m11, m12, m13, m14, m15, m16, m17, m18, m19, m20, m21, m22, m23, m24, m25, m26, m27, m28, m29, m30, m31, m32, m33, m34, m35, m36, m37, m38, m39, m40, m41, m42, m43, m44, m45, m46, m47, m48, m49]))]) [0] rfl
      have hDc := hD.sub (ws' := [(h0, .inr (9, [m0, m1, m2, .int 0, .ref ar, .ref bs, .ref rk, .ref wn, m8, m9, m10, m11, m12, m13, m14, m15, m16, m17, m18, m19, m20, m21, m22, m23, m24, m25, m26, m27, m28, m29, m30, m31, m32, m33, m34, m35, m36, m37, m38, m39, m40, m41, m42, m43, m44, m45, m46, m47, m48, m49]))]) [0] (by decide) rfl
      have hFc := va_free (wc := [(h0, .inr (9, [m0, m1, m2, .int 0, .ref ar, .ref bs, .ref rk, .ref wn, m8, m9, m10, m11, m12, m13, m14, m15, m16, m17, m18, m19, m20, m21, m22, m23, m24, m25, m26, m27, m28, m29, m30, m31, m32, m33, m34, m35, m36, m37, m38, m39, m40, m41, m42, m43, m44, m45, m46, m47, m48, m49]))]) hD hS hA [0] rfl
      refine va_calli (va_runV (As := [.int 1, .int 1]) (rest := []) ⟨hx, hb, hml, hown, hts⟩ (m_start1 l g H.size h0 m0 m1 m2 (.int 0) (.ref ar) (.ref bs) (.ref rk) (.ref wn) m8 m9 m10 m11 m12 m13 m14 m15 m16 m17 m18 m19 m20 m21 m22 m23 m24 m25 m26 m27 m28 m29 m30 m31 m32 m33 m34 m35 m36 m37 m38 m39 m40 m41 m42 m43 m44 m45 m46 m47 m48 m49 1 (by first | assumption | decide | omega | simp_all)) (cwV 2 hts gX9_addVessel_X9_start rfl rfl rfl (by decide +kernel) ⟨Nat.le_of_ble_eq_true rfl, Nat.le_of_ble_eq_true rfl⟩) ⟨xB.blind, va_recv hK hPc (ci := 9) (q0 := 0) rfl rfl, fun U9 hU9 hW9 => ⟨rfl, xB.mk hPc hK hDc hU9 hW9⟩⟩ rfl rfl hl.1 rfl (lv_room (Nat.le_of_ble_eq_true rfl)) dX9_addVessel_48 ⟨Nat.le_of_ble_eq_true rfl, Nat.le_of_ble_eq_true rfl⟩) hS (fun q _ h => hFc q h) hFc (fun r_45 u_46 t H1 locs ht hvm hw_47 hB hz1 hk1 hS => ?_)
      obtain ⟨hP1, hK1, hD1⟩ := hB
      rw [ht] at hP1
      obtain ⟨hP, hD⟩ := va_join (wr := [(ar, .inl (xI g, 6, .inl fa)), (bs, .inl (xI g, 6, .inl fb)), (rk, .inl (xI g, 6, .inl fc)), (wn, .inl (xI g, 6, .inl fd))]) (w1 := [(h0, .inr (9, [.int 1, m1, m2, .int 0, .ref ar, .ref bs, .ref rk, .ref wn, m8, m9, m10, m11, m12, m13, m14, m15, m16, m17, m18, m19, m20, m21, m22, m23, m24, m25, m26, m27, m28, m29, m30, m31, m32, m33, m34, m35, m36, m37, m38, m39, m40, m41, m42, m43, m44, m45, m46, m47, m48, m49]))]) hP hD [0] [1, 2, 3, 4] rfl rfl (by decide) (by decide) hk1 hFc hP1 hD1
      generalize H1 = H at hP hS ⊢
      have hP : va_P (xD g) vwCl [(ar, .inl (xI g, 6, .inl fa)), (bs, .inl (xI g, 6, .inl fb)), (rk, .inl (xI g, 6, .inl fc)), (wn, .inl (xI g, 6, .inl fd)), (h0, .inr (9, [.int 1, m1, m2, .int 0, .ref ar, .ref bs, .ref rk, .ref wn, m8, m9, m10, m11, m12, m13, m14, m15, m16, m17, m18, m19, m20, m21, m22, m23, m24, m25, m26, m27, m28, m29, m30, m31, m32, m33, m34, m35, m36, m37, m38, m39, m40, m41, m42, m43, m44, m45, m46, m47, m48, m49]))] H := hP
      have hD : va_D A [(ar, .inl (xI g, 6, .inl fa)), (bs, .inl (xI g, 6, .inl fb)), (rk, .inl (xI g, 6, .inl fc)), (wn, .inl (xI g, 6, .inl fd)), (h0, .inr (9, [.int 1, m1, m2, .int 0, .ref ar, .ref bs, .ref rk, .ref wn, m8, m9, m10, m11, m12, m13, m14, m15, m16, m17, m18, m19, m20, m21, m22, m23, m24, m25, m26, m27, m28, m29, m30, m31, m32, m33, m34, m35, m36, m37, m38, m39, m40, m41, m42, m43, m44, m45, m46, m47, m48, m49]))] := hD
      try dsimp only at hw_47
      obtain rfl := hw_47
      refine lv_if_ne (tgt := 76) hx hb dX9_addVessel_51 (by decide) (fun _ => ?_) (fun c0 => absurd c0 (by decide))
      refine lv_iconst (v := 0) hx hb dX9_addVessel_76 (by decide) ?_
      refine W.widen (k := 3) (n := 96) (by omega) (by omega) ?_
      have hP9 := hP.sub (ws' := [(h0, .inr (9, [.int 1, m1, m2, .int 0, .ref ar, .ref bs, .ref rk, .ref wn, m8, m9, m10, m11, m12, m13, m14, m15, m16, m17, m18, m19, m20, m21, m22, m23, m24, m25, m26, m27, m28, m29, m30, m31, m32, m33, m34, m35, m36, m37, m38, m39, m40, m41, m42, m43, m44, m45, m46, m47, m48, m49]))]) [4] rfl
      have hD9 := hD.sub (ws' := [(h0, .inr (9, [.int 1, m1, m2, .int 0, .ref ar, .ref bs, .ref rk, .ref wn, m8, m9, m10, m11, m12, m13, m14, m15, m16, m17, m18, m19, m20, m21, m22, m23, m24, m25, m26, m27, m28, m29, m30, m31, m32, m33, m34, m35, m36, m37, m38, m39, m40, m41, m42, m43, m44, m45, m46, m47, m48, m49]))]) [4] (by decide) rfl
      exact W.iret (v := 0) hx hb hr (fun t ht hW => ⟨⟨0, 1, rfl, Or.inl (⟨rfl, rfl, (by first | trivial | assumption | (refine ⟨?_, ?_⟩ <;> assumption) | (simp only [Int32.lt_iff_toInt_lt, Int32.le_iff_toInt_le, Int32.reduceToInt] at *; omega))⟩), ⟨m1, m2, (.int 0), (.ref ar), (.ref bs), (.ref rk), (.ref wn), m8, m9, m10, m11, m12, m13, m14, m15, m16, m17, m18, m19, m20, m21, m22, m23, m24, m25, m26, m27, m28, m29, m30, m31, m32, m33, m34, m35, m36, m37, m38, m39, m40, m41, m42, m43, m44, m45, m46, m47, m48, m49, by rw [ht]; exact hP9, va_K.moved hW.alike hK, hD9⟩⟩, hS.F ht⟩) hS.2.2 dX9_addVessel_77
  · refine lv_if_eq (tgt := 42) hx hb dX9_addVessel_9 (by decide) (fun _ => ?_) (fun c0 => absurd (by decide) c0)
    refine lv_iconst (v := 1) hx hb dX9_addVessel_42 (by decide) ?_
    refine lv_goto (tgt := 47) hx hb dX9_addVessel_43 (by decide) ?_
    refine lv_iconst (v := 1) hx hb dX9_addVessel_47 (by decide) ?_
    have hPc := hP.sub (ws' := [(h0, .inr (9, [m0, m1, m2, .int 0, .ref ar, .ref bs, .ref rk, .ref wn, m8, m9, m10, m11, m12, m13, m14, m15, m16, m17, m18, m19, m20, m21, m22, m23, m24, m25, m26, m27, m28, m29, m30, m31, m32, m33, m34, m35, m36, m37, m38, m39, m40, m41, m42, m43, m44, m45, m46, m47, m48, m49]))]) [0] rfl
    have hDc := hD.sub (ws' := [(h0, .inr (9, [m0, m1, m2, .int 0, .ref ar, .ref bs, .ref rk, .ref wn, m8, m9, m10, m11, m12, m13, m14, m15, m16, m17, m18, m19, m20, m21, m22, m23, m24, m25, m26, m27, m28, m29, m30, m31, m32, m33, m34, m35, m36, m37, m38, m39, m40, m41, m42, m43, m44, m45, m46, m47, m48, m49]))]) [0] (by decide) rfl
    have hFc := va_free (wc := [(h0, .inr (9, [m0, m1, m2, .int 0, .ref ar, .ref bs, .ref rk, .ref wn, m8, m9, m10, m11, m12, m13, m14, m15, m16, m17, m18, m19, m20, m21, m22, m23, m24, m25, m26, m27, m28, m29, m30, m31, m32, m33, m34, m35, m36, m37, m38, m39, m40, m41, m42, m43, m44, m45, m46, m47, m48, m49]))]) hD hS hA [0] rfl
    refine va_calli (va_runV (As := [.int 1, .int 1]) (rest := []) ⟨hx, hb, hml, hown, hts⟩ (m_start1 l g H.size h0 m0 m1 m2 (.int 0) (.ref ar) (.ref bs) (.ref rk) (.ref wn) m8 m9 m10 m11 m12 m13 m14 m15 m16 m17 m18 m19 m20 m21 m22 m23 m24 m25 m26 m27 m28 m29 m30 m31 m32 m33 m34 m35 m36 m37 m38 m39 m40 m41 m42 m43 m44 m45 m46 m47 m48 m49 1 (by first | assumption | decide | omega | simp_all)) (cwV 2 hts gX9_addVessel_X9_start rfl rfl rfl (by decide +kernel) ⟨Nat.le_of_ble_eq_true rfl, Nat.le_of_ble_eq_true rfl⟩) ⟨xB.blind, va_recv hK hPc (ci := 9) (q0 := 0) rfl rfl, fun U9 hU9 hW9 => ⟨rfl, xB.mk hPc hK hDc hU9 hW9⟩⟩ rfl rfl hl.1 rfl (lv_room (Nat.le_of_ble_eq_true rfl)) dX9_addVessel_48 ⟨Nat.le_of_ble_eq_true rfl, Nat.le_of_ble_eq_true rfl⟩) hS (fun q _ h => hFc q h) hFc (fun r_48 u_49 t H1 locs ht hvm hw_50 hB hz1 hk1 hS => ?_)
    obtain ⟨hP1, hK1, hD1⟩ := hB
    rw [ht] at hP1
    obtain ⟨hP, hD⟩ := va_join (wr := [(ar, .inl (xI g, 6, .inl fa)), (bs, .inl (xI g, 6, .inl fb)), (rk, .inl (xI g, 6, .inl fc)), (wn, .inl (xI g, 6, .inl fd))]) (w1 := [(h0, .inr (9, [.int 1, m1, m2, .int 0, .ref ar, .ref bs, .ref rk, .ref wn, m8, m9, m10, m11, m12, m13, m14, m15, m16, m17, m18, m19, m20, m21, m22, m23, m24, m25, m26, m27, m28, m29, m30, m31, m32, m33, m34, m35, m36, m37, m38, m39, m40, m41, m42, m43, m44, m45, m46, m47, m48, m49]))]) hP hD [0] [1, 2, 3, 4] rfl rfl (by decide) (by decide) hk1 hFc hP1 hD1
    generalize H1 = H at hP hS ⊢
    have hP : va_P (xD g) vwCl [(ar, .inl (xI g, 6, .inl fa)), (bs, .inl (xI g, 6, .inl fb)), (rk, .inl (xI g, 6, .inl fc)), (wn, .inl (xI g, 6, .inl fd)), (h0, .inr (9, [.int 1, m1, m2, .int 0, .ref ar, .ref bs, .ref rk, .ref wn, m8, m9, m10, m11, m12, m13, m14, m15, m16, m17, m18, m19, m20, m21, m22, m23, m24, m25, m26, m27, m28, m29, m30, m31, m32, m33, m34, m35, m36, m37, m38, m39, m40, m41, m42, m43, m44, m45, m46, m47, m48, m49]))] H := hP
    have hD : va_D A [(ar, .inl (xI g, 6, .inl fa)), (bs, .inl (xI g, 6, .inl fb)), (rk, .inl (xI g, 6, .inl fc)), (wn, .inl (xI g, 6, .inl fd)), (h0, .inr (9, [.int 1, m1, m2, .int 0, .ref ar, .ref bs, .ref rk, .ref wn, m8, m9, m10, m11, m12, m13, m14, m15, m16, m17, m18, m19, m20, m21, m22, m23, m24, m25, m26, m27, m28, m29, m30, m31, m32, m33, m34, m35, m36, m37, m38, m39, m40, m41, m42, m43, m44, m45, m46, m47, m48, m49]))] := hD
    try dsimp only at hw_50
    obtain rfl := hw_50
    refine lv_if_ne (tgt := 76) hx hb dX9_addVessel_51 (by decide) (fun _ => ?_) (fun c0 => absurd c0 (by decide))
    refine lv_iconst (v := 0) hx hb dX9_addVessel_76 (by decide) ?_
    refine W.widen (k := 3) (n := 96) (by omega) (by omega) ?_
    have hP9 := hP.sub (ws' := [(h0, .inr (9, [.int 1, m1, m2, .int 0, .ref ar, .ref bs, .ref rk, .ref wn, m8, m9, m10, m11, m12, m13, m14, m15, m16, m17, m18, m19, m20, m21, m22, m23, m24, m25, m26, m27, m28, m29, m30, m31, m32, m33, m34, m35, m36, m37, m38, m39, m40, m41, m42, m43, m44, m45, m46, m47, m48, m49]))]) [4] rfl
    have hD9 := hD.sub (ws' := [(h0, .inr (9, [.int 1, m1, m2, .int 0, .ref ar, .ref bs, .ref rk, .ref wn, m8, m9, m10, m11, m12, m13, m14, m15, m16, m17, m18, m19, m20, m21, m22, m23, m24, m25, m26, m27, m28, m29, m30, m31, m32, m33, m34, m35, m36, m37, m38, m39, m40, m41, m42, m43, m44, m45, m46, m47, m48, m49]))]) [4] (by decide) rfl
    exact W.iret (v := 0) hx hb hr (fun t ht hW => ⟨⟨0, 1, rfl, Or.inl (⟨rfl, rfl, (by first | trivial | assumption | (refine ⟨?_, ?_⟩ <;> assumption) | (simp only [Int32.lt_iff_toInt_lt, Int32.le_iff_toInt_le, Int32.reduceToInt] at *; omega))⟩), ⟨m1, m2, (.int 0), (.ref ar), (.ref bs), (.ref rk), (.ref wn), m8, m9, m10, m11, m12, m13, m14, m15, m16, m17, m18, m19, m20, m21, m22, m23, m24, m25, m26, m27, m28, m29, m30, m31, m32, m33, m34, m35, m36, m37, m38, m39, m40, m41, m42, m43, m44, m45, m46, m47, m48, m49, by rw [ht]; exact hP9, va_K.moved hW.alike hK, hD9⟩⟩, hS.F ht⟩) hS.2.2 dX9_addVessel_77
theorem dX9_tidy_0 : decode cX9_tidy 0 = .ok (.aload_n 0, 1) := by decide +kernel
theorem dX9_tidy_1 : decode cX9_tidy 1 = .ok (.iload_n 1, 1) := by decide +kernel
theorem dX9_tidy_2 : decode cX9_tidy 2 = .ok (.ifCond .ge 7, 3) := by decide +kernel
theorem dX9_tidy_9 : decode cX9_tidy 9 = .ok (.iconst 0, 1) := by decide +kernel
theorem dX9_tidy_10 : decode cX9_tidy 10 = .ok (.iconst 1, 1) := by decide +kernel
theorem dX9_tidy_11 : decode cX9_tidy 11 = .ok (.invokevirtual 138, 3) := by decide +kernel
set_option maxRecDepth 20000 in
theorem ggX9_tidy_X9_start : GoodIn wsX9_tidy wsX9_start := goodIn_r _ [5, 6, 7, 8, 9, 4, 10, 39, 40, 41, 42, 43, 44, 45, 46, 47, 48, 49, 50, 51, 52, 53, 54, 55, 56, 57, 58, 59, 60, 61, 62, 63, 64, 65, 66, 67, 68, 69, 70, 71, 72, 73, 74, 75, 76, 77, 78, 79, 80, 81, 82, 83, 84, 85, 86, 87, 88] rfl (by decide +kernel)
set_option maxRecDepth 20000 in
theorem gX9_tidy_X9_start : GoodIn wsX9_tidy (wsV RX9 138 RX9 yX9_start wsX9_start) := goodIn_app (goodIn_of _ (by decide +kernel)) ggX9_tidy_X9_start
theorem dX9_tidy_14 : decode cX9_tidy 14 = .ok (.ifCond .eq 5, 3) := by decide +kernel
theorem dX9_tidy_19 : decode cX9_tidy 19 = .ok (.iconst 0, 1) := by decide +kernel
theorem dX9_tidy_20 : decode cX9_tidy 20 = .ok (.istore_n 2, 1) := by decide +kernel
theorem dX9_tidy_21 : decode cX9_tidy 21 = .ok (.iload_n 2, 1) := by decide +kernel
theorem dX9_tidy_22 : decode cX9_tidy 22 = .ok (.iload_n 1, 1) := by decide +kernel
theorem dX9_tidy_23 : decode cX9_tidy 23 = .ok (.if_icmp .ge 16, 3) := by decide +kernel
theorem dX9_tidy_39 : decode cX9_tidy 39 = .ok (.iload_n 2, 1) := by decide +kernel
theorem dX9_tidy_40 : decode cX9_tidy 40 = .ok (.ireturn, 1) := by decide +kernel
theorem dX9_tidy_26 : decode cX9_tidy 26 = .ok (.aload_n 0, 1) := by decide +kernel
theorem dX9_tidy_27 : decode cX9_tidy 27 = .ok (.invokevirtual 359, 3) := by decide +kernel
set_option maxRecDepth 20000 in
theorem ggX9_tidy_X9_tidyOne : GoodIn wsX9_tidy wsX9_tidyOne := goodIn_r _ [14, 15, 16, 17, 18, 19, 20, 21, 4, 22, 23, 24, 25, 26, 27, 28, 29, 30, 31, 32, 33, 34, 35, 36, 37, 38, 39, 40, 41, 42, 43, 44, 45, 46, 47, 48, 49, 50, 51, 52, 53, 54, 55, 56, 57, 58, 59, 60, 61, 62, 63, 64, 65, 66, 67, 68, 69, 70, 71, 72, 73, 74, 75, 76, 77, 78, 79, 80, 81, 82, 83, 84, 85, 86, 87, 88] rfl (by decide +kernel)
set_option maxRecDepth 20000 in
theorem gX9_tidy_X9_tidyOne : GoodIn wsX9_tidy (wsV RX9 359 RX9 yX9_tidyOne wsX9_tidyOne) := goodIn_app (goodIn_of _ (by decide +kernel)) ggX9_tidy_X9_tidyOne
theorem dX9_tidy_30 : decode cX9_tidy 30 = .ok (.ifCond .eq 9, 3) := by decide +kernel
theorem dX9_tidy_5 : decode cX9_tidy 5 = .ok (.iconst 1, 1) := by decide +kernel
theorem dX9_tidy_6 : decode cX9_tidy 6 = .ok (.goto 4, 3) := by decide +kernel
theorem dX9_tidy_17 : decode cX9_tidy 17 = .ok (.iconst 0, 1) := by decide +kernel
theorem dX9_tidy_18 : decode cX9_tidy 18 = .ok (.ireturn, 1) := by decide +kernel
set_option maxHeartbeats 4000000 in
set_option maxRecDepth 100000 in
theorem m0_tidy (l : Launch) (g : xG) (sz : Nat) (h0 : Nat) (m0 : Value) (m1 : Value) (m2 : Value) (m3 : Value) (m4 : Value) (m5 : Value) (m6 : Value) (m7 : Value) (m8 : Value) (m9 : Value) (m10 : Value) (m11 : Value) (m12 : Value) (m13 : Value) (m14 : Value) (m16 : Value) (m17 : Value) (m18 : Value) (m19 : Value) (m20 : Value) (m21 : Value) (m22 : Value) (m23 : Value) (m24 : Value) (m25 : Value) (m26 : Value) (m27 : Value) (m28 : Value) (m29 : Value) (m30 : Value) (m31 : Value) (m32 : Value) (m33 : Value) (m34 : Value) (m35 : Value) (m36 : Value) (m37 : Value) (m38 : Value) (m39 : Value) (m40 : Value) (m41 : Value) (m42 : Value) (m43 : Value) (m44 : Value) (m45 : Value) (m46 : Value) (m47 : Value) (m48 : Value) (m49 : Value) (p0 : Int32)  : Met l yX9_tidy wsX9_tidy ({ frames := 2, cells := 0, slots := 0, locals := 51 }) (va_Pc [.ref h0, .int p0] (fun U => xB g [(h0, .inr (9, [m0, m1, m2, m3, m4, m5, m6, m7, m8, m9, m10, m11, m12, m13, m14, .int 0, m16, m17, m18, m19, m20, m21, m22, m23, m24, m25, m26, m27, m28, m29, m30, m31, m32, m33, m34, m35, m36, m37, m38, m39, m40, m41, m42, m43, m44, m45, m46, m47, m48, m49]))] sz U)) (va_Qi (fun (r : Int32) (u : Int32) => (u = 1 ∧ r = 0 ∧ p0 < 0) ∨ (u = 0 ∧ r = 0 ∧ ¬ p0 < 0)) (fun (u : Int32) (t : State) => ∃ (w1 : Value) (w2 : Value) (w3 : Value) (w4 : Value) (w5 : Value) (w6 : Value) (w7 : Value) (w8 : Value) (w9 : Value) (w10 : Value) (w11 : Value) (w12 : Value) (w13 : Value) (w14 : Value) (w15 : Value) (w16 : Value) (w17 : Value) (w18 : Value) (w19 : Value) (w20 : Value) (w21 : Value) (w22 : Value) (w23 : Value) (w24 : Value) (w25 : Value) (w26 : Value) (w27 : Value) (w28 : Value) (w29 : Value) (w30 : Value) (w31 : Value) (w32 : Value) (w33 : Value) (w34 : Value) (w35 : Value) (w36 : Value) (w37 : Value) (w38 : Value) (w39 : Value) (w40 : Value) (w41 : Value) (w42 : Value) (w43 : Value) (w44 : Value) (w45 : Value) (w46 : Value) (w47 : Value) (w48 : Value) (w49 : Value), xE g [(h0, .inr (9, [.int u, w1, w2, w3, w4, w5, w6, w7, w8, w9, w10, w11, w12, w13, w14, w15, w16, w17, w18, w19, w20, w21, w22, w23, w24, w25, w26, w27, w28, w29, w30, w31, w32, w33, w34, w35, w36, w37, w38, w39, w40, w41, w42, w43, w44, w45, w46, w47, w48, w49]))] (va_A [(h0, .inr (9, [m0, m1, m2, m3, m4, m5, m6, m7, m8, m9, m10, m11, m12, m13, m14, .int 0, m16, m17, m18, m19, m20, m21, m22, m23, m24, m25, m26, m27, m28, m29, m30, m31, m32, m33, m34, m35, m36, m37, m38, m39, m40, m41, m42, m43, m44, m45, m46, m47, m48, m49]))] sz) t) (va_A [(h0, .inr (9, [m0, m1, m2, m3, m4, m5, m6, m7, m8, m9, m10, m11, m12, m13, m14, .int 0, m16, m17, m18, m19, m20, m21, m22, m23, m24, m25, m26, m27, m28, m29, m30, m31, m32, m33, m34, m35, m36, m37, m38, m39, m40, m41, m42, m43, m44, m45, m46, m47, m48, m49]))] sz)) 0 0 (va_A [(h0, .inr (9, [m0, m1, m2, m3, m4, m5, m6, m7, m8, m9, m10, m11, m12, m13, m14, .int 0, m16, m17, m18, m19, m20, m21, m22, m23, m24, m25, m26, m27, m28, m29, m30, m31, m32, m33, m34, m35, m36, m37, m38, m39, m40, m41, m42, m43, m44, m45, m46, m47, m48, m49]))] sz) := by
  refine Met.ofW (cc := cX9_tidy) (maxL := 3) (ret := (some .int)) (by decide) rfl ?_
  intro p e s m args below meth c s₁ B hml hv
  obtain ⟨rfl, ⟨hsz, hP, hK, hD0⟩⟩ := hv
  have hx := B.exec
  have hb := B.bytes
  have hr := B.returns
  have hts := atoms_spec (ws := wsX9_tidy) B.pre
  have hown : s.vm.findClass RX9 = some m.cls := findClass_of_methodNamed B.named
  have hlocks := B.notSynchronized
  subst hsz
  have hD := hD0.self (sz := s.heap.size)
  generalize hAe : va_A [(h0, .inr (9, [m0, m1, m2, m3, m4, m5, m6, m7, m8, m9, m10, m11, m12, m13, m14, .int 0, m16, m17, m18, m19, m20, m21, m22, m23, m24, m25, m26, m27, m28, m29, m30, m31, m32, m33, m34, m35, m36, m37, m38, m39, m40, m41, m42, m43, m44, m45, m46, m47, m48, m49]))] s.heap.size = A at hD ⊢
  have hA : ∀ q : Nat, s.heap.size ≤ q → A q := fun q h => by rw [← hAe]; exact Or.inr h
  have hS : va_S A s.heap s.heap [] := va_S.rf
  have hl := lv_entry ([.ref h0, .int p0]) (n := 3) (Nat.le_of_ble_eq_true rfl)
  rw [lg_entry_eq]
  generalize (lg_sl ([.ref h0, .int p0]) ++ List.replicate (3 - (lg_sl ([.ref h0, .int p0])).length) Slot.unset).toArray = ls at hl ⊢
  have hl : lv_has ls 3 [(0, .ref h0), (1, .int p0)] := hl
  refine lv_aload_n hx hb dX9_tidy_0 rfl (lv_at hl 0 rfl) ?_
  refine lv_iload_n hx hb dX9_tidy_1 rfl (lv_at hl 1 rfl) ?_
  refine lv_if_ge (tgt := 9) hx hb dX9_tidy_2 (by decide) (fun c_1 => ?_) (fun c_1 => ?_)
  · refine lv_iconst (v := 0) hx hb dX9_tidy_9 (by decide) ?_
    refine lv_iconst (v := 1) hx hb dX9_tidy_10 (by decide) ?_
    have hPc := hP.sub (ws' := [(h0, .inr (9, [m0, m1, m2, m3, m4, m5, m6, m7, m8, m9, m10, m11, m12, m13, m14, .int 0, m16, m17, m18, m19, m20, m21, m22, m23, m24, m25, m26, m27, m28, m29, m30, m31, m32, m33, m34, m35, m36, m37, m38, m39, m40, m41, m42, m43, m44, m45, m46, m47, m48, m49]))]) [0] rfl
    have hDc := hD.sub (ws' := [(h0, .inr (9, [m0, m1, m2, m3, m4, m5, m6, m7, m8, m9, m10, m11, m12, m13, m14, .int 0, m16, m17, m18, m19, m20, m21, m22, m23, m24, m25, m26, m27, m28, m29, m30, m31, m32, m33, m34, m35, m36, m37, m38, m39, m40, m41, m42, m43, m44, m45, m46, m47, m48, m49]))]) [0] (by decide) rfl
    have hFc := va_free (wc := [(h0, .inr (9, [m0, m1, m2, m3, m4, m5, m6, m7, m8, m9, m10, m11, m12, m13, m14, .int 0, m16, m17, m18, m19, m20, m21, m22, m23, m24, m25, m26, m27, m28, m29, m30, m31, m32, m33, m34, m35, m36, m37, m38, m39, m40, m41, m42, m43, m44, m45, m46, m47, m48, m49]))]) hD hS hA [0] rfl
    refine va_calli (va_runV (As := [.int 0, .int 1]) (rest := []) ⟨hx, hb, hml, hown, hts⟩ (m_start0 l g s.heap.size h0 m0 m1 m2 m3 m4 m5 m6 m7 m8 m9 m10 m11 m12 m13 m14 (.int 0) m16 m17 m18 m19 m20 m21 m22 m23 m24 m25 m26 m27 m28 m29 m30 m31 m32 m33 m34 m35 m36 m37 m38 m39 m40 m41 m42 m43 m44 m45 m46 m47 m48 m49 1) (cwV 2 hts gX9_tidy_X9_start rfl rfl rfl (by decide +kernel) ⟨Nat.le_of_ble_eq_true rfl, Nat.le_of_ble_eq_true rfl⟩) ⟨xB.blind, va_recv hK hPc (ci := 9) (q0 := 0) rfl rfl, fun U9 hU9 hW9 => ⟨rfl, xB.mk hPc hK hDc hU9 hW9⟩⟩ rfl rfl hl.1 rfl (lv_room (Nat.le_of_ble_eq_true rfl)) dX9_tidy_11 ⟨Nat.le_of_ble_eq_true rfl, Nat.le_of_ble_eq_true rfl⟩) hS (fun q _ h => hFc q h) hFc (fun r_2 u_3 t H1 locs ht hvm hw_4 hB hz1 hk1 hS => ?_)
    obtain ⟨hP1, hK1, hD1⟩ := hB
    rw [ht] at hP1
    obtain ⟨hP, hD⟩ := va_join (wr := []) (w1 := [(h0, .inr (9, [.int 0, m1, m2, m3, m4, m5, m6, m7, m8, m9, m10, m11, m12, m13, m14, .int 0, m16, m17, m18, m19, m20, m21, m22, m23, m24, m25, m26, m27, m28, m29, m30, m31, m32, m33, m34, m35, m36, m37, m38, m39, m40, m41, m42, m43, m44, m45, m46, m47, m48, m49]))]) hP hD [0] [] rfl rfl (by decide) (by decide) hk1 hFc hP1 hD1
    generalize H1 = H at hP hS ⊢
    have hP : va_P (xD g) vwCl [(h0, .inr (9, [.int 0, m1, m2, m3, m4, m5, m6, m7, m8, m9, m10, m11, m12, m13, m14, .int 0, m16, m17, m18, m19, m20, m21, m22, m23, m24, m25, m26, m27, m28, m29, m30, m31, m32, m33, m34, m35, m36, m37, m38, m39, m40, m41, m42, m43, m44, m45, m46, m47, m48, m49]))] H := hP
    have hD : va_D A [(h0, .inr (9, [.int 0, m1, m2, m3, m4, m5, m6, m7, m8, m9, m10, m11, m12, m13, m14, .int 0, m16, m17, m18, m19, m20, m21, m22, m23, m24, m25, m26, m27, m28, m29, m30, m31, m32, m33, m34, m35, m36, m37, m38, m39, m40, m41, m42, m43, m44, m45, m46, m47, m48, m49]))] := hD
    try dsimp only at hw_4
    obtain rfl := hw_4
    refine lv_if_eq (tgt := 19) hx hb dX9_tidy_14 (by decide) (fun _ => ?_) (fun c0 => absurd (by decide) c0)
    refine lv_iconst (v := 0) hx hb dX9_tidy_19 (by decide) ?_
    refine lv_istore_n (lv' := [(2, .int 0), (0, .ref h0), (1, .int p0)]) hx hb dX9_tidy_20 rfl hl (by decide) rfl (fun ls hl => ?_)
    refine lv_iload_n hx hb dX9_tidy_21 rfl (lv_at hl 0 rfl) ?_
    refine lv_iload_n hx hb dX9_tidy_22 rfl (lv_at hl 2 rfl) ?_
    refine lv_icmp_ge (tgt := 39) hx hb dX9_tidy_23 (by decide) (fun c_5 => ?_) (fun c_5 => ?_)
    · refine lv_iload_n hx hb dX9_tidy_39 rfl (lv_at hl 0 rfl) ?_
      have hP9 := hP.sub (ws' := [(h0, .inr (9, [.int 0, m1, m2, m3, m4, m5, m6, m7, m8, m9, m10, m11, m12, m13, m14, .int 0, m16, m17, m18, m19, m20, m21, m22, m23, m24, m25, m26, m27, m28, m29, m30, m31, m32, m33, m34, m35, m36, m37, m38, m39, m40, m41, m42, m43, m44, m45, m46, m47, m48, m49]))]) [0] rfl
      have hD9 := hD.sub (ws' := [(h0, .inr (9, [.int 0, m1, m2, m3, m4, m5, m6, m7, m8, m9, m10, m11, m12, m13, m14, .int 0, m16, m17, m18, m19, m20, m21, m22, m23, m24, m25, m26, m27, m28, m29, m30, m31, m32, m33, m34, m35, m36, m37, m38, m39, m40, m41, m42, m43, m44, m45, m46, m47, m48, m49]))]) [0] (by decide) rfl
      exact W.iret (v := 0) hx hb hr (fun t ht hW => ⟨⟨0, 0, rfl, Or.inr (⟨rfl, rfl, (by first | trivial | assumption | (refine ⟨?_, ?_⟩ <;> assumption) | (simp only [Int32.lt_iff_toInt_lt, Int32.le_iff_toInt_le, Int32.reduceToInt] at *; omega))⟩), ⟨m1, m2, m3, m4, m5, m6, m7, m8, m9, m10, m11, m12, m13, m14, (.int 0), m16, m17, m18, m19, m20, m21, m22, m23, m24, m25, m26, m27, m28, m29, m30, m31, m32, m33, m34, m35, m36, m37, m38, m39, m40, m41, m42, m43, m44, m45, m46, m47, m48, m49, by rw [ht]; exact hP9, va_K.moved hW.alike hK, hD9⟩⟩, hS.F ht⟩) hS.2.2 dX9_tidy_40
    · refine lv_aload_n hx hb dX9_tidy_26 rfl (lv_at hl 1 rfl) ?_
      have hPc := hP.sub (ws' := [(h0, .inr (9, [.int 0, m1, m2, m3, m4, m5, m6, m7, m8, m9, m10, m11, m12, m13, m14, .int 0, m16, m17, m18, m19, m20, m21, m22, m23, m24, m25, m26, m27, m28, m29, m30, m31, m32, m33, m34, m35, m36, m37, m38, m39, m40, m41, m42, m43, m44, m45, m46, m47, m48, m49]))]) [0] rfl
      have hDc := hD.sub (ws' := [(h0, .inr (9, [.int 0, m1, m2, m3, m4, m5, m6, m7, m8, m9, m10, m11, m12, m13, m14, .int 0, m16, m17, m18, m19, m20, m21, m22, m23, m24, m25, m26, m27, m28, m29, m30, m31, m32, m33, m34, m35, m36, m37, m38, m39, m40, m41, m42, m43, m44, m45, m46, m47, m48, m49]))]) [0] (by decide) rfl
      have hFc := xFree hS hA
      refine va_calli (va_runV (As := []) (rest := []) ⟨hx, hb, hml, hown, hts⟩ (m0_tidyOne l g H.size h0 (.int 0) m1 m2 m3 m4 m5 m6 m7 m8 m9 m10 m11 m12 m13 m14 m16 m17 m18 m19 m20 m21 m22 m23 m24 m25 m26 m27 m28 m29 m30 m31 m32 m33 m34 m35 m36 m37 m38 m39 m40 m41 m42 m43 m44 m45 m46 m47 m48 m49) (cwV 0 hts gX9_tidy_X9_tidyOne rfl rfl rfl (by decide +kernel) ⟨Nat.le_of_ble_eq_true rfl, Nat.le_of_ble_eq_true rfl⟩) ⟨xB.blind, va_recv hK hPc (ci := 9) (q0 := 0) rfl rfl, fun U9 hU9 hW9 => ⟨rfl, xB.mk hPc hK hDc hU9 hW9⟩⟩ rfl rfl hl.1 rfl (lv_room (Nat.le_of_ble_eq_true rfl)) dX9_tidy_27 ⟨Nat.le_of_ble_eq_true rfl, Nat.le_of_ble_eq_true rfl⟩) hS (fun q _ h => hFc q h) hFc (fun r_6 u_7 t H1 locs ht hvm hw_8 hB hz1 hk1 hS => ?_)
      have hP := xSame hP hk1
      generalize H1 = H at hP hS ⊢
      have hP : va_P (xD g) vwCl [(h0, .inr (9, [.int 0, m1, m2, m3, m4, m5, m6, m7, m8, m9, m10, m11, m12, m13, m14, .int 0, m16, m17, m18, m19, m20, m21, m22, m23, m24, m25, m26, m27, m28, m29, m30, m31, m32, m33, m34, m35, m36, m37, m38, m39, m40, m41, m42, m43, m44, m45, m46, m47, m48, m49]))] H := hP
      have hD : va_D A [(h0, .inr (9, [.int 0, m1, m2, m3, m4, m5, m6, m7, m8, m9, m10, m11, m12, m13, m14, .int 0, m16, m17, m18, m19, m20, m21, m22, m23, m24, m25, m26, m27, m28, m29, m30, m31, m32, m33, m34, m35, m36, m37, m38, m39, m40, m41, m42, m43, m44, m45, m46, m47, m48, m49]))] := hD
      try dsimp only at hw_8
      obtain rfl := hw_8
      refine lv_if_eq (tgt := 39) hx hb dX9_tidy_30 (by decide) (fun _ => ?_) (fun c0 => absurd (by decide) c0)
      refine lv_iload_n hx hb dX9_tidy_39 rfl (lv_at hl 0 rfl) ?_
      have hP9 := hP.sub (ws' := [(h0, .inr (9, [.int 0, m1, m2, m3, m4, m5, m6, m7, m8, m9, m10, m11, m12, m13, m14, .int 0, m16, m17, m18, m19, m20, m21, m22, m23, m24, m25, m26, m27, m28, m29, m30, m31, m32, m33, m34, m35, m36, m37, m38, m39, m40, m41, m42, m43, m44, m45, m46, m47, m48, m49]))]) [0] rfl
      have hD9 := hD.sub (ws' := [(h0, .inr (9, [.int 0, m1, m2, m3, m4, m5, m6, m7, m8, m9, m10, m11, m12, m13, m14, .int 0, m16, m17, m18, m19, m20, m21, m22, m23, m24, m25, m26, m27, m28, m29, m30, m31, m32, m33, m34, m35, m36, m37, m38, m39, m40, m41, m42, m43, m44, m45, m46, m47, m48, m49]))]) [0] (by decide) rfl
      exact W.iret (v := 0) hx hb hr (fun t ht hW => ⟨⟨0, 0, rfl, Or.inr (⟨rfl, rfl, (by first | trivial | assumption | (refine ⟨?_, ?_⟩ <;> assumption) | (simp only [Int32.lt_iff_toInt_lt, Int32.le_iff_toInt_le, Int32.reduceToInt] at *; omega))⟩), ⟨m1, m2, m3, m4, m5, m6, m7, m8, m9, m10, m11, m12, m13, m14, (.int 0), m16, m17, m18, m19, m20, m21, m22, m23, m24, m25, m26, m27, m28, m29, m30, m31, m32, m33, m34, m35, m36, m37, m38, m39, m40, m41, m42, m43, m44, m45, m46, m47, m48, m49, by rw [ht]; exact hP9, va_K.moved hW.alike hK, hD9⟩⟩, hS.F ht⟩) hS.2.2 dX9_tidy_40
  · refine lv_iconst (v := 1) hx hb dX9_tidy_5 (by decide) ?_
    refine lv_goto (tgt := 10) hx hb dX9_tidy_6 (by decide) ?_
    refine lv_iconst (v := 1) hx hb dX9_tidy_10 (by decide) ?_
    have hPc := hP.sub (ws' := [(h0, .inr (9, [m0, m1, m2, m3, m4, m5, m6, m7, m8, m9, m10, m11, m12, m13, m14, .int 0, m16, m17, m18, m19, m20, m21, m22, m23, m24, m25, m26, m27, m28, m29, m30, m31, m32, m33, m34, m35, m36, m37, m38, m39, m40, m41, m42, m43, m44, m45, m46, m47, m48, m49]))]) [0] rfl
    have hDc := hD.sub (ws' := [(h0, .inr (9, [m0, m1, m2, m3, m4, m5, m6, m7, m8, m9, m10, m11, m12, m13, m14, .int 0, m16, m17, m18, m19, m20, m21, m22, m23, m24, m25, m26, m27, m28, m29, m30, m31, m32, m33, m34, m35, m36, m37, m38, m39, m40, m41, m42, m43, m44, m45, m46, m47, m48, m49]))]) [0] (by decide) rfl
    have hFc := va_free (wc := [(h0, .inr (9, [m0, m1, m2, m3, m4, m5, m6, m7, m8, m9, m10, m11, m12, m13, m14, .int 0, m16, m17, m18, m19, m20, m21, m22, m23, m24, m25, m26, m27, m28, m29, m30, m31, m32, m33, m34, m35, m36, m37, m38, m39, m40, m41, m42, m43, m44, m45, m46, m47, m48, m49]))]) hD hS hA [0] rfl
    refine va_calli (va_runV (As := [.int 1, .int 1]) (rest := []) ⟨hx, hb, hml, hown, hts⟩ (m_start1 l g s.heap.size h0 m0 m1 m2 m3 m4 m5 m6 m7 m8 m9 m10 m11 m12 m13 m14 (.int 0) m16 m17 m18 m19 m20 m21 m22 m23 m24 m25 m26 m27 m28 m29 m30 m31 m32 m33 m34 m35 m36 m37 m38 m39 m40 m41 m42 m43 m44 m45 m46 m47 m48 m49 1 (by first | assumption | decide | omega | simp_all)) (cwV 2 hts gX9_tidy_X9_start rfl rfl rfl (by decide +kernel) ⟨Nat.le_of_ble_eq_true rfl, Nat.le_of_ble_eq_true rfl⟩) ⟨xB.blind, va_recv hK hPc (ci := 9) (q0 := 0) rfl rfl, fun U9 hU9 hW9 => ⟨rfl, xB.mk hPc hK hDc hU9 hW9⟩⟩ rfl rfl hl.1 rfl (lv_room (Nat.le_of_ble_eq_true rfl)) dX9_tidy_11 ⟨Nat.le_of_ble_eq_true rfl, Nat.le_of_ble_eq_true rfl⟩) hS (fun q _ h => hFc q h) hFc (fun r_9 u_10 t H1 locs ht hvm hw_11 hB hz1 hk1 hS => ?_)
    obtain ⟨hP1, hK1, hD1⟩ := hB
    rw [ht] at hP1
    obtain ⟨hP, hD⟩ := va_join (wr := []) (w1 := [(h0, .inr (9, [.int 1, m1, m2, m3, m4, m5, m6, m7, m8, m9, m10, m11, m12, m13, m14, .int 0, m16, m17, m18, m19, m20, m21, m22, m23, m24, m25, m26, m27, m28, m29, m30, m31, m32, m33, m34, m35, m36, m37, m38, m39, m40, m41, m42, m43, m44, m45, m46, m47, m48, m49]))]) hP hD [0] [] rfl rfl (by decide) (by decide) hk1 hFc hP1 hD1
    generalize H1 = H at hP hS ⊢
    have hP : va_P (xD g) vwCl [(h0, .inr (9, [.int 1, m1, m2, m3, m4, m5, m6, m7, m8, m9, m10, m11, m12, m13, m14, .int 0, m16, m17, m18, m19, m20, m21, m22, m23, m24, m25, m26, m27, m28, m29, m30, m31, m32, m33, m34, m35, m36, m37, m38, m39, m40, m41, m42, m43, m44, m45, m46, m47, m48, m49]))] H := hP
    have hD : va_D A [(h0, .inr (9, [.int 1, m1, m2, m3, m4, m5, m6, m7, m8, m9, m10, m11, m12, m13, m14, .int 0, m16, m17, m18, m19, m20, m21, m22, m23, m24, m25, m26, m27, m28, m29, m30, m31, m32, m33, m34, m35, m36, m37, m38, m39, m40, m41, m42, m43, m44, m45, m46, m47, m48, m49]))] := hD
    try dsimp only at hw_11
    obtain rfl := hw_11
    refine lv_if_eq (tgt := 19) hx hb dX9_tidy_14 (by decide) (fun c0 => absurd c0 (by decide)) (fun _ => ?_)
    refine lv_iconst (v := 0) hx hb dX9_tidy_17 (by decide) ?_
    have hP9 := hP.sub (ws' := [(h0, .inr (9, [.int 1, m1, m2, m3, m4, m5, m6, m7, m8, m9, m10, m11, m12, m13, m14, .int 0, m16, m17, m18, m19, m20, m21, m22, m23, m24, m25, m26, m27, m28, m29, m30, m31, m32, m33, m34, m35, m36, m37, m38, m39, m40, m41, m42, m43, m44, m45, m46, m47, m48, m49]))]) [0] rfl
    have hD9 := hD.sub (ws' := [(h0, .inr (9, [.int 1, m1, m2, m3, m4, m5, m6, m7, m8, m9, m10, m11, m12, m13, m14, .int 0, m16, m17, m18, m19, m20, m21, m22, m23, m24, m25, m26, m27, m28, m29, m30, m31, m32, m33, m34, m35, m36, m37, m38, m39, m40, m41, m42, m43, m44, m45, m46, m47, m48, m49]))]) [0] (by decide) rfl
    exact W.iret (v := 0) hx hb hr (fun t ht hW => ⟨⟨0, 1, rfl, Or.inl (⟨rfl, rfl, (by first | trivial | assumption | (refine ⟨?_, ?_⟩ <;> assumption) | (simp only [Int32.lt_iff_toInt_lt, Int32.le_iff_toInt_le, Int32.reduceToInt] at *; omega))⟩), ⟨m1, m2, m3, m4, m5, m6, m7, m8, m9, m10, m11, m12, m13, m14, (.int 0), m16, m17, m18, m19, m20, m21, m22, m23, m24, m25, m26, m27, m28, m29, m30, m31, m32, m33, m34, m35, m36, m37, m38, m39, m40, m41, m42, m43, m44, m45, m46, m47, m48, m49, by rw [ht]; exact hP9, va_K.moved hW.alike hK, hD9⟩⟩, hS.F ht⟩) hS.2.2 dX9_tidy_18
theorem dX9_work__0 : decode cX9_work_ 0 = .ok (.aload_n 0, 1) := by decide +kernel
theorem dX9_work__1 : decode cX9_work_ 1 = .ok (.iload_n 1, 1) := by decide +kernel
theorem dX9_work__2 : decode cX9_work_ 2 = .ok (.ifCond .ge 7, 3) := by decide +kernel
theorem dX9_work__9 : decode cX9_work_ 9 = .ok (.iconst 0, 1) := by decide +kernel
theorem dX9_work__10 : decode cX9_work_ 10 = .ok (.iconst 1, 1) := by decide +kernel
theorem dX9_work__11 : decode cX9_work_ 11 = .ok (.invokevirtual 138, 3) := by decide +kernel
set_option maxRecDepth 20000 in
theorem ggX9_work__X9_start : GoodIn wsX9_work_ wsX9_start := goodIn_r _ [8, 9, 10, 11, 12, 7, 13, 67, 68, 69, 70, 71, 72, 73, 74, 75, 76, 77, 78, 79, 80, 81, 82, 83, 84, 85, 86, 87, 88, 89, 90, 91, 92, 93, 94, 95, 96, 97, 98, 99, 100, 101, 102, 103, 104, 105, 106, 107, 108, 109, 110, 111, 112, 113, 114, 115, 116] rfl (by decide +kernel)
set_option maxRecDepth 20000 in
theorem gX9_work__X9_start : GoodIn wsX9_work_ (wsV RX9 138 RX9 yX9_start wsX9_start) := goodIn_app (goodIn_of _ (by decide +kernel)) ggX9_work__X9_start
theorem dX9_work__14 : decode cX9_work_ 14 = .ok (.ifCond .ne 23, 3) := by decide +kernel
theorem dX9_work__17 : decode cX9_work_ 17 = .ok (.aload_n 0, 1) := by decide +kernel
theorem dX9_work__18 : decode cX9_work_ 18 = .ok (.aload_n 0, 1) := by decide +kernel
theorem dX9_work__19 : decode cX9_work_ 19 = .ok (.getfield 125, 3) := by decide +kernel
theorem dX9_work__22 : decode cX9_work_ 22 = .ok (.ifCond .ne 7, 3) := by decide +kernel
theorem dX9_work__25 : decode cX9_work_ 25 = .ok (.iconst 1, 1) := by decide +kernel
theorem dX9_work__26 : decode cX9_work_ 26 = .ok (.goto 4, 3) := by decide +kernel
theorem dX9_work__30 : decode cX9_work_ 30 = .ok (.iconst 2, 1) := by decide +kernel
theorem dX9_work__31 : decode cX9_work_ 31 = .ok (.invokevirtual 114, 3) := by decide +kernel
set_option maxRecDepth 20000 in
theorem ggX9_work__X9_refuse : GoodIn wsX9_work_ wsX9_refuse := goodIn_r _ [13, 9, 67, 68, 69, 70, 71, 72, 73, 74, 75, 76, 77, 78, 79, 80, 81, 82, 83, 84, 85, 86, 87, 88, 89, 90, 91, 92, 93, 94, 95, 96, 97, 98, 99, 100, 101, 102, 103, 104, 105, 106, 107, 108, 109, 110, 111, 112, 113, 114, 115, 116] rfl (by decide +kernel)
set_option maxRecDepth 20000 in
theorem gX9_work__X9_refuse : GoodIn wsX9_work_ (wsV RX9 114 RX9 yX9_refuse wsX9_refuse) := goodIn_app (goodIn_of _ (by decide +kernel)) ggX9_work__X9_refuse
theorem dX9_work__34 : decode cX9_work_ 34 = .ok (.ifCond .eq 5, 3) := by decide +kernel
theorem dX9_work__37 : decode cX9_work_ 37 = .ok (.iconst 0, 1) := by decide +kernel
theorem dX9_work__38 : decode cX9_work_ 38 = .ok (.ireturn, 1) := by decide +kernel
theorem dX9_work__5 : decode cX9_work_ 5 = .ok (.iconst 1, 1) := by decide +kernel
theorem dX9_work__6 : decode cX9_work_ 6 = .ok (.goto 4, 3) := by decide +kernel
set_option maxHeartbeats 4000000 in
set_option maxRecDepth 100000 in
theorem m0_work_ (l : Launch) (g : xG) (sz : Nat) (h0 : Nat) (m0 : Value) (m1 : Value) (m2 : Value) (m3 : Value) (m4 : Value) (m5 : Value) (m6 : Value) (m7 : Value) (m8 : Value) (m9 : Value) (m10 : Value) (m11 : Value) (m12 : Value) (m13 : Value) (m14 : Value) (m15 : Value) (m16 : Value) (m17 : Value) (m18 : Value) (m19 : Value) (m20 : Value) (m21 : Value) (m22 : Value) (m23 : Value) (m24 : Value) (m25 : Value) (m26 : Value) (m27 : Value) (m28 : Value) (m29 : Value) (m30 : Value) (m31 : Value) (m32 : Value) (m33 : Value) (m34 : Value) (m35 : Value) (m36 : Value) (m37 : Value) (m39 : Value) (m40 : Value) (m41 : Value) (m42 : Value) (m43 : Value) (m44 : Value) (m45 : Value) (m46 : Value) (m47 : Value) (m48 : Value) (m49 : Value) (p0 : Int32)  : Met l yX9_work_ wsX9_work_ ({ frames := 2, cells := 0, slots := 0, locals := 44 }) (va_Pc [.ref h0, .int p0] (fun U => xB g [(h0, .inr (9, [m0, m1, m2, m3, m4, m5, m6, m7, m8, m9, m10, m11, m12, m13, m14, m15, m16, m17, m18, m19, m20, m21, m22, m23, m24, m25, m26, m27, m28, m29, m30, m31, m32, m33, m34, m35, m36, m37, .int 0, m39, m40, m41, m42, m43, m44, m45, m46, m47, m48, m49]))] sz U)) (va_Qi (fun (r : Int32) (u : Int32) => (u = 1 ∧ r = 0 ∧ p0 < 0) ∨ (u = 2 ∧ r = 0 ∧ ¬ p0 < 0)) (fun (u : Int32) (t : State) => ∃ (w1 : Value) (w2 : Value) (w3 : Value) (w4 : Value) (w5 : Value) (w6 : Value) (w7 : Value) (w8 : Value) (w9 : Value) (w10 : Value) (w11 : Value) (w12 : Value) (w13 : Value) (w14 : Value) (w15 : Value) (w16 : Value) (w17 : Value) (w18 : Value) (w19 : Value) (w20 : Value) (w21 : Value) (w22 : Value) (w23 : Value) (w24 : Value) (w25 : Value) (w26 : Value) (w27 : Value) (w28 : Value) (w29 : Value) (w30 : Value) (w31 : Value) (w32 : Value) (w33 : Value) (w34 : Value) (w35 : Value) (w36 : Value) (w37 : Value) (w38 : Value) (w39 : Value) (w40 : Value) (w41 : Value) (w42 : Value) (w43 : Value) (w44 : Value) (w45 : Value) (w46 : Value) (w47 : Value) (w48 : Value) (w49 : Value), xE g [(h0, .inr (9, [.int u, w1, w2, w3, w4, w5, w6, w7, w8, w9, w10, w11, w12, w13, w14, w15, w16, w17, w18, w19, w20, w21, w22, w23, w24, w25, w26, w27, w28, w29, w30, w31, w32, w33, w34, w35, w36, w37, w38, w39, w40, w41, w42, w43, w44, w45, w46, w47, w48, w49]))] (va_A [(h0, .inr (9, [m0, m1, m2, m3, m4, m5, m6, m7, m8, m9, m10, m11, m12, m13, m14, m15, m16, m17, m18, m19, m20, m21, m22, m23, m24, m25, m26, m27, m28, m29, m30, m31, m32, m33, m34, m35, m36, m37, .int 0, m39, m40, m41, m42, m43, m44, m45, m46, m47, m48, m49]))] sz) t) (va_A [(h0, .inr (9, [m0, m1, m2, m3, m4, m5, m6, m7, m8, m9, m10, m11, m12, m13, m14, m15, m16, m17, m18, m19, m20, m21, m22, m23, m24, m25, m26, m27, m28, m29, m30, m31, m32, m33, m34, m35, m36, m37, .int 0, m39, m40, m41, m42, m43, m44, m45, m46, m47, m48, m49]))] sz)) 0 0 (va_A [(h0, .inr (9, [m0, m1, m2, m3, m4, m5, m6, m7, m8, m9, m10, m11, m12, m13, m14, m15, m16, m17, m18, m19, m20, m21, m22, m23, m24, m25, m26, m27, m28, m29, m30, m31, m32, m33, m34, m35, m36, m37, .int 0, m39, m40, m41, m42, m43, m44, m45, m46, m47, m48, m49]))] sz) := by
  refine Met.ofW (cc := cX9_work_) (maxL := 3) (ret := (some .int)) (by decide) rfl ?_
  intro p e s m args below meth c s₁ B hml hv
  obtain ⟨rfl, ⟨hsz, hP, hK, hD0⟩⟩ := hv
  have hx := B.exec
  have hb := B.bytes
  have hr := B.returns
  have hts := atoms_spec (ws := wsX9_work_) B.pre
  have hown : s.vm.findClass RX9 = some m.cls := findClass_of_methodNamed B.named
  have hlocks := B.notSynchronized
  subst hsz
  have hD := hD0.self (sz := s.heap.size)
  generalize hAe : va_A [(h0, .inr (9, [m0, m1, m2, m3, m4, m5, m6, m7, m8, m9, m10, m11, m12, m13, m14, m15, m16, m17, m18, m19, m20, m21, m22, m23, m24, m25, m26, m27, m28, m29, m30, m31, m32, m33, m34, m35, m36, m37, .int 0, m39, m40, m41, m42, m43, m44, m45, m46, m47, m48, m49]))] s.heap.size = A at hD ⊢
  have hA : ∀ q : Nat, s.heap.size ≤ q → A q := fun q h => by rw [← hAe]; exact Or.inr h
  have hS : va_S A s.heap s.heap [] := va_S.rf
  have hl := lv_entry ([.ref h0, .int p0]) (n := 3) (Nat.le_of_ble_eq_true rfl)
  rw [lg_entry_eq]
  generalize (lg_sl ([.ref h0, .int p0]) ++ List.replicate (3 - (lg_sl ([.ref h0, .int p0])).length) Slot.unset).toArray = ls at hl ⊢
  have hl : lv_has ls 3 [(0, .ref h0), (1, .int p0)] := hl
  have hFX9 : ∀ w ∈ u_ws RX9 TX9 50, w ∈ wsX9_work_ := by decide +kernel
  refine lv_aload_n hx hb dX9_work__0 rfl (lv_at hl 0 rfl) ?_
  refine lv_iload_n hx hb dX9_work__1 rfl (lv_at hl 1 rfl) ?_
  refine lv_if_ge (tgt := 9) hx hb dX9_work__2 (by decide) (fun c_1 => ?_) (fun c_1 => ?_)
  · refine lv_iconst (v := 0) hx hb dX9_work__9 (by decide) ?_
    refine lv_iconst (v := 1) hx hb dX9_work__10 (by decide) ?_
    have hPc := hP.sub (ws' := [(h0, .inr (9, [m0, m1, m2, m3, m4, m5, m6, m7, m8, m9, m10, m11, m12, m13, m14, m15, m16, m17, m18, m19, m20, m21, m22, m23, m24, m25, m26, m27, m28, m29, m30, m31, m32, m33, m34, m35, m36, m37, .int 0, m39, m40, m41, m42, m43, m44, m45, m46, m47, m48, m49]))]) [0] rfl
    have hDc := hD.sub (ws' := [(h0, .inr (9, [m0, m1, m2, m3, m4, m5, m6, m7, m8, m9, m10, m11, m12, m13, m14, m15, m16, m17, m18, m19, m20, m21, m22, m23, m24, m25, m26, m27, m28, m29, m30, m31, m32, m33, m34, m35, m36, m37, .int 0, m39, m40, m41, m42, m43, m44, m45, m46, m47, m48, m49]))]) [0] (by decide) rfl
    have hFc := va_free (wc := [(h0, .inr (9, [m0, m1, m2, m3, m4, m5, m6, m7, m8, m9, m10, m11, m12, m13, m14, m15, m16, m17, m18, m19, m20, m21, m22, m23, m24, m25, m26, m27, m28, m29, m30, m31, m32, m33, m34, m35, m36, m37, .int 0, m39, m40, m41, m42, m43, m44, m45, m46, m47, m48, m49]))]) hD hS hA [0] rfl
    refine va_calli (va_runV (As := [.int 0, .int 1]) (rest := []) ⟨hx, hb, hml, hown, hts⟩ (m_start0 l g s.heap.size h0 m0 m1 m2 m3 m4 m5 m6 m7 m8 m9 m10 m11 m12 m13 m14 m15 m16 m17 m18 m19 m20 m21 m22 m23 m24 m25 m26 m27 m28 m29 m30 m31 m32 m33 m34 m35 m36 m37 (.int 0) m39 m40 m41 m42 m43 m44 m45 m46 m47 m48 m49 1) (cwV 2 hts gX9_work__X9_start rfl rfl rfl (by decide +kernel) ⟨Nat.le_of_ble_eq_true rfl, Nat.le_of_ble_eq_true rfl⟩) ⟨xB.blind, va_recv hK hPc (ci := 9) (q0 := 0) rfl rfl, fun U9 hU9 hW9 => ⟨rfl, xB.mk hPc hK hDc hU9 hW9⟩⟩ rfl rfl hl.1 rfl (lv_room (Nat.le_of_ble_eq_true rfl)) dX9_work__11 ⟨Nat.le_of_ble_eq_true rfl, Nat.le_of_ble_eq_true rfl⟩) hS (fun q _ h => hFc q h) hFc (fun r_2 u_3 t H1 locs ht hvm hw_4 hB hz1 hk1 hS => ?_)
    obtain ⟨hP1, hK1, hD1⟩ := hB
    rw [ht] at hP1
    obtain ⟨hP, hD⟩ := va_join (wr := []) (w1 := [(h0, .inr (9, [.int 0, m1, m2, m3, m4, m5, m6, m7, m8, m9, m10, m11, m12, m13, m14, m15, m16, m17, m18, m19, m20, m21, m22, m23, m24, m25, m26, m27, m28, m29, m30, m31, m32, m33, m34, m35, m36, m37, .int 0, m39, m40, m41, m42, m43, m44, m45, m46, m47, m48, m49]))]) hP hD [0] [] rfl rfl (by decide) (by decide) hk1 hFc hP1 hD1
    generalize H1 = H at hP hS ⊢
    have hP : va_P (xD g) vwCl [(h0, .inr (9, [.int 0, m1, m2, m3, m4, m5, m6, m7, m8, m9, m10, m11, m12, m13, m14, m15, m16, m17, m18, m19, m20, m21, m22, m23, m24, m25, m26, m27, m28, m29, m30, m31, m32, m33, m34, m35, m36, m37, .int 0, m39, m40, m41, m42, m43, m44, m45, m46, m47, m48, m49]))] H := hP
    have hD : va_D A [(h0, .inr (9, [.int 0, m1, m2, m3, m4, m5, m6, m7, m8, m9, m10, m11, m12, m13, m14, m15, m16, m17, m18, m19, m20, m21, m22, m23, m24, m25, m26, m27, m28, m29, m30, m31, m32, m33, m34, m35, m36, m37, .int 0, m39, m40, m41, m42, m43, m44, m45, m46, m47, m48, m49]))] := hD
    try dsimp only at hw_4
    obtain rfl := hw_4
    refine lv_if_ne (tgt := 37) hx hb dX9_work__14 (by decide) (fun c0 => absurd (by decide) c0) (fun _ => ?_)
    refine lv_aload_n hx hb dX9_work__17 rfl (lv_at hl 0 rfl) ?_
    refine lv_aload_n hx hb dX9_work__18 rfl (lv_at hl 0 rfl) ?_
    refine va_get (D := xD g) (ci := 9) (v := .int 0) (C := RX9) (T := TX9) (N := 50) hx hb hts hFX9 hown hK hP 0 rfl rfl 38 (by decide) (hts (.fieldLink RX9 125 "StevedoreModel" "hasSlots" "Z") (by decide +kernel)) (fun _ h9 => h9) rfl dX9_work__19 ?_
    refine lv_if_ne (tgt := 29) hx hb dX9_work__22 (by decide) (fun c0 => absurd (by decide) c0) (fun _ => ?_)
    refine lv_iconst (v := 1) hx hb dX9_work__25 (by decide) ?_
    refine lv_goto (tgt := 30) hx hb dX9_work__26 (by decide) ?_
    refine lv_iconst (v := 2) hx hb dX9_work__30 (by decide) ?_
    have hPc := hP.sub (ws' := [(h0, .inr (9, [.int 0, m1, m2, m3, m4, m5, m6, m7, m8, m9, m10, m11, m12, m13, m14, m15, m16, m17, m18, m19, m20, m21, m22, m23, m24, m25, m26, m27, m28, m29, m30, m31, m32, m33, m34, m35, m36, m37, .int 0, m39, m40, m41, m42, m43, m44, m45, m46, m47, m48, m49]))]) [0] rfl
    have hDc := hD.sub (ws' := [(h0, .inr (9, [.int 0, m1, m2, m3, m4, m5, m6, m7, m8, m9, m10, m11, m12, m13, m14, m15, m16, m17, m18, m19, m20, m21, m22, m23, m24, m25, m26, m27, m28, m29, m30, m31, m32, m33, m34, m35, m36, m37, .int 0, m39, m40, m41, m42, m43, m44, m45, m46, m47, m48, m49]))]) [0] (by decide) rfl
    have hFc := va_free (wc := [(h0, .inr (9, [.int 0, m1, m2, m3, m4, m5, m6, m7, m8, m9, m10, m11, m12, m13, m14, m15, m16, m17, m18, m19, m20, m21, m22, m23, m24, m25, m26, m27, m28, m29, m30, m31, m32, m33, m34, m35, m36, m37, .int 0, m39, m40, m41, m42, m43, m44, m45, m46, m47, m48, m49]))]) hD hS hA [0] rfl
    refine va_calli (va_runV (As := [.int 1, .int 2]) (rest := []) ⟨hx, hb, hml, hown, hts⟩ (m_refuse1 l g H.size h0 m1 m2 m3 m4 m5 m6 m7 m8 m9 m10 m11 m12 m13 m14 m15 m16 m17 m18 m19 m20 m21 m22 m23 m24 m25 m26 m27 m28 m29 m30 m31 m32 m33 m34 m35 m36 m37 (.int 0) m39 m40 m41 m42 m43 m44 m45 m46 m47 m48 m49 2 (by first | assumption | decide | omega | simp_all)) (cwV 2 hts gX9_work__X9_refuse rfl rfl rfl (by decide +kernel) ⟨Nat.le_of_ble_eq_true rfl, Nat.le_of_ble_eq_true rfl⟩) ⟨xB.blind, va_recv hK hPc (ci := 9) (q0 := 0) rfl rfl, fun U9 hU9 hW9 => ⟨rfl, xB.mk hPc hK hDc hU9 hW9⟩⟩ rfl rfl hl.1 rfl (lv_room (Nat.le_of_ble_eq_true rfl)) dX9_work__31 ⟨Nat.le_of_ble_eq_true rfl, Nat.le_of_ble_eq_true rfl⟩) hS (fun q _ h => hFc q h) hFc (fun r_5 u_6 t H1 locs ht hvm hw_7 hB hz1 hk1 hS => ?_)
    obtain ⟨hP1, hK1, hD1⟩ := hB
    rw [ht] at hP1
    obtain ⟨hP, hD⟩ := va_join (wr := []) (w1 := [(h0, .inr (9, [.int 2, m1, m2, m3, m4, m5, m6, m7, m8, m9, m10, m11, m12, m13, m14, m15, m16, m17, m18, m19, m20, m21, m22, m23, m24, m25, m26, m27, m28, m29, m30, m31, m32, m33, m34, m35, m36, m37, .int 0, m39, m40, m41, m42, m43, m44, m45, m46, m47, m48, m49]))]) hP hD [0] [] rfl rfl (by decide) (by decide) hk1 hFc hP1 hD1
    generalize H1 = H at hP hS ⊢
    have hP : va_P (xD g) vwCl [(h0, .inr (9, [.int 2, m1, m2, m3, m4, m5, m6, m7, m8, m9, m10, m11, m12, m13, m14, m15, m16, m17, m18, m19, m20, m21, m22, m23, m24, m25, m26, m27, m28, m29, m30, m31, m32, m33, m34, m35, m36, m37, .int 0, m39, m40, m41, m42, m43, m44, m45, m46, m47, m48, m49]))] H := hP
    have hD : va_D A [(h0, .inr (9, [.int 2, m1, m2, m3, m4, m5, m6, m7, m8, m9, m10, m11, m12, m13, m14, m15, m16, m17, m18, m19, m20, m21, m22, m23, m24, m25, m26, m27, m28, m29, m30, m31, m32, m33, m34, m35, m36, m37, .int 0, m39, m40, m41, m42, m43, m44, m45, m46, m47, m48, m49]))] := hD
    try dsimp only at hw_7
    obtain rfl := hw_7
    refine lv_if_eq (tgt := 39) hx hb dX9_work__34 (by decide) (fun c0 => absurd c0 (by decide)) (fun _ => ?_)
    refine lv_iconst (v := 0) hx hb dX9_work__37 (by decide) ?_
    have hP9 := hP.sub (ws' := [(h0, .inr (9, [.int 2, m1, m2, m3, m4, m5, m6, m7, m8, m9, m10, m11, m12, m13, m14, m15, m16, m17, m18, m19, m20, m21, m22, m23, m24, m25, m26, m27, m28, m29, m30, m31, m32, m33, m34, m35, m36, m37, .int 0, m39, m40, m41, m42, m43, m44, m45, m46, m47, m48, m49]))]) [0] rfl
    have hD9 := hD.sub (ws' := [(h0, .inr (9, [.int 2, m1, m2, m3, m4, m5, m6, m7, m8, m9, m10, m11, m12, m13, m14, m15, m16, m17, m18, m19, m20, m21, m22, m23, m24, m25, m26, m27, m28, m29, m30, m31, m32, m33, m34, m35, m36, m37, .int 0, m39, m40, m41, m42, m43, m44, m45, m46, m47, m48, m49]))]) [0] (by decide) rfl
    exact W.iret (v := 0) hx hb hr (fun t ht hW => ⟨⟨0, 2, rfl, Or.inr (⟨rfl, rfl, (by first | trivial | assumption | (refine ⟨?_, ?_⟩ <;> assumption) | (simp only [Int32.lt_iff_toInt_lt, Int32.le_iff_toInt_le, Int32.reduceToInt] at *; omega))⟩), ⟨m1, m2, m3, m4, m5, m6, m7, m8, m9, m10, m11, m12, m13, m14, m15, m16, m17, m18, m19, m20, m21, m22, m23, m24, m25, m26, m27, m28, m29, m30, m31, m32, m33, m34, m35, m36, m37, (.int 0), m39, m40, m41, m42, m43, m44, m45, m46, m47, m48, m49, by rw [ht]; exact hP9, va_K.moved hW.alike hK, hD9⟩⟩, hS.F ht⟩) hS.2.2 dX9_work__38
  · refine lv_iconst (v := 1) hx hb dX9_work__5 (by decide) ?_
    refine lv_goto (tgt := 10) hx hb dX9_work__6 (by decide) ?_
    refine lv_iconst (v := 1) hx hb dX9_work__10 (by decide) ?_
    have hPc := hP.sub (ws' := [(h0, .inr (9, [m0, m1, m2, m3, m4, m5, m6, m7, m8, m9, m10, m11, m12, m13, m14, m15, m16, m17, m18, m19, m20, m21, m22, m23, m24, m25, m26, m27, m28, m29, m30, m31, m32, m33, m34, m35, m36, m37, .int 0, m39, m40, m41, m42, m43, m44, m45, m46, m47, m48, m49]))]) [0] rfl
    have hDc := hD.sub (ws' := [(h0, .inr (9, [m0, m1, m2, m3, m4, m5, m6, m7, m8, m9, m10, m11, m12, m13, m14, m15, m16, m17, m18, m19, m20, m21, m22, m23, m24, m25, m26, m27, m28, m29, m30, m31, m32, m33, m34, m35, m36, m37, .int 0, m39, m40, m41, m42, m43, m44, m45, m46, m47, m48, m49]))]) [0] (by decide) rfl
    have hFc := va_free (wc := [(h0, .inr (9, [m0, m1, m2, m3, m4, m5, m6, m7, m8, m9, m10, m11, m12, m13, m14, m15, m16, m17, m18, m19, m20, m21, m22, m23, m24, m25, m26, m27, m28, m29, m30, m31, m32, m33, m34, m35, m36, m37, .int 0, m39, m40, m41, m42, m43, m44, m45, m46, m47, m48, m49]))]) hD hS hA [0] rfl
    refine va_calli (va_runV (As := [.int 1, .int 1]) (rest := []) ⟨hx, hb, hml, hown, hts⟩ (m_start1 l g s.heap.size h0 m0 m1 m2 m3 m4 m5 m6 m7 m8 m9 m10 m11 m12 m13 m14 m15 m16 m17 m18 m19 m20 m21 m22 m23 m24 m25 m26 m27 m28 m29 m30 m31 m32 m33 m34 m35 m36 m37 (.int 0) m39 m40 m41 m42 m43 m44 m45 m46 m47 m48 m49 1 (by first | assumption | decide | omega | simp_all)) (cwV 2 hts gX9_work__X9_start rfl rfl rfl (by decide +kernel) ⟨Nat.le_of_ble_eq_true rfl, Nat.le_of_ble_eq_true rfl⟩) ⟨xB.blind, va_recv hK hPc (ci := 9) (q0 := 0) rfl rfl, fun U9 hU9 hW9 => ⟨rfl, xB.mk hPc hK hDc hU9 hW9⟩⟩ rfl rfl hl.1 rfl (lv_room (Nat.le_of_ble_eq_true rfl)) dX9_work__11 ⟨Nat.le_of_ble_eq_true rfl, Nat.le_of_ble_eq_true rfl⟩) hS (fun q _ h => hFc q h) hFc (fun r_8 u_9 t H1 locs ht hvm hw_10 hB hz1 hk1 hS => ?_)
    obtain ⟨hP1, hK1, hD1⟩ := hB
    rw [ht] at hP1
    obtain ⟨hP, hD⟩ := va_join (wr := []) (w1 := [(h0, .inr (9, [.int 1, m1, m2, m3, m4, m5, m6, m7, m8, m9, m10, m11, m12, m13, m14, m15, m16, m17, m18, m19, m20, m21, m22, m23, m24, m25, m26, m27, m28, m29, m30, m31, m32, m33, m34, m35, m36, m37, .int 0, m39, m40, m41, m42, m43, m44, m45, m46, m47, m48, m49]))]) hP hD [0] [] rfl rfl (by decide) (by decide) hk1 hFc hP1 hD1
    generalize H1 = H at hP hS ⊢
    have hP : va_P (xD g) vwCl [(h0, .inr (9, [.int 1, m1, m2, m3, m4, m5, m6, m7, m8, m9, m10, m11, m12, m13, m14, m15, m16, m17, m18, m19, m20, m21, m22, m23, m24, m25, m26, m27, m28, m29, m30, m31, m32, m33, m34, m35, m36, m37, .int 0, m39, m40, m41, m42, m43, m44, m45, m46, m47, m48, m49]))] H := hP
    have hD : va_D A [(h0, .inr (9, [.int 1, m1, m2, m3, m4, m5, m6, m7, m8, m9, m10, m11, m12, m13, m14, m15, m16, m17, m18, m19, m20, m21, m22, m23, m24, m25, m26, m27, m28, m29, m30, m31, m32, m33, m34, m35, m36, m37, .int 0, m39, m40, m41, m42, m43, m44, m45, m46, m47, m48, m49]))] := hD
    try dsimp only at hw_10
    obtain rfl := hw_10
    refine lv_if_ne (tgt := 37) hx hb dX9_work__14 (by decide) (fun _ => ?_) (fun c0 => absurd c0 (by decide))
    refine lv_iconst (v := 0) hx hb dX9_work__37 (by decide) ?_
    have hP9 := hP.sub (ws' := [(h0, .inr (9, [.int 1, m1, m2, m3, m4, m5, m6, m7, m8, m9, m10, m11, m12, m13, m14, m15, m16, m17, m18, m19, m20, m21, m22, m23, m24, m25, m26, m27, m28, m29, m30, m31, m32, m33, m34, m35, m36, m37, .int 0, m39, m40, m41, m42, m43, m44, m45, m46, m47, m48, m49]))]) [0] rfl
    have hD9 := hD.sub (ws' := [(h0, .inr (9, [.int 1, m1, m2, m3, m4, m5, m6, m7, m8, m9, m10, m11, m12, m13, m14, m15, m16, m17, m18, m19, m20, m21, m22, m23, m24, m25, m26, m27, m28, m29, m30, m31, m32, m33, m34, m35, m36, m37, .int 0, m39, m40, m41, m42, m43, m44, m45, m46, m47, m48, m49]))]) [0] (by decide) rfl
    exact W.iret (v := 0) hx hb hr (fun t ht hW => ⟨⟨0, 1, rfl, Or.inl (⟨rfl, rfl, (by first | trivial | assumption | (refine ⟨?_, ?_⟩ <;> assumption) | (simp only [Int32.lt_iff_toInt_lt, Int32.le_iff_toInt_le, Int32.reduceToInt] at *; omega))⟩), ⟨m1, m2, m3, m4, m5, m6, m7, m8, m9, m10, m11, m12, m13, m14, m15, m16, m17, m18, m19, m20, m21, m22, m23, m24, m25, m26, m27, m28, m29, m30, m31, m32, m33, m34, m35, m36, m37, (.int 0), m39, m40, m41, m42, m43, m44, m45, m46, m47, m48, m49, by rw [ht]; exact hP9, va_K.moved hW.alike hK, hD9⟩⟩, hS.F ht⟩) hS.2.2 dX9_work__38
theorem dX9_inTheEnd_0 : decode cX9_inTheEnd 0 = .ok (.aload_n 0, 1) := by decide +kernel
theorem dX9_inTheEnd_1 : decode cX9_inTheEnd 1 = .ok (.iload_n 1, 1) := by decide +kernel
theorem dX9_inTheEnd_2 : decode cX9_inTheEnd 2 = .ok (.iconst 0, 1) := by decide +kernel
theorem dX9_inTheEnd_3 : decode cX9_inTheEnd 3 = .ok (.iconst 3, 1) := by decide +kernel
theorem dX9_inTheEnd_4 : decode cX9_inTheEnd 4 = .ok (.invokestatic 134, 3) := by decide +kernel
set_option maxRecDepth 20000 in
theorem ggX9_inTheEnd_X9_isIn : GoodIn wsX9_inTheEnd wsX9_isIn := goodIn_r _ [13] rfl (by decide +kernel)
set_option maxRecDepth 20000 in
theorem gX9_inTheEnd_X9_isIn : GoodIn wsX9_inTheEnd (va_wsS RX9 134 yX9_isIn wsX9_isIn) := goodIn_app (goodIn_of _ (by decide +kernel)) ggX9_inTheEnd_X9_isIn
theorem dX9_inTheEnd_7 : decode cX9_inTheEnd 7 = .ok (.ifCond .ne 7, 3) := by decide +kernel
theorem dX9_inTheEnd_14 : decode cX9_inTheEnd 14 = .ok (.iconst 0, 1) := by decide +kernel
theorem dX9_inTheEnd_15 : decode cX9_inTheEnd 15 = .ok (.iconst 1, 1) := by decide +kernel
theorem dX9_inTheEnd_16 : decode cX9_inTheEnd 16 = .ok (.invokevirtual 138, 3) := by decide +kernel
set_option maxRecDepth 20000 in
theorem ggX9_inTheEnd_X9_start : GoodIn wsX9_inTheEnd wsX9_start := goodIn_r _ [17, 18, 19, 20, 21, 12, 22, 71, 72, 73, 74, 75, 76, 77, 78, 79, 80, 81, 82, 83, 84, 85, 86, 87, 88, 89, 90, 91, 92, 93, 94, 95, 96, 97, 98, 99, 100, 101, 102, 103, 104, 105, 106, 107, 108, 109, 110, 111, 112, 113, 114, 115, 116, 117, 118, 119, 120] rfl (by decide +kernel)
set_option maxRecDepth 20000 in
theorem gX9_inTheEnd_X9_start : GoodIn wsX9_inTheEnd (wsV RX9 138 RX9 yX9_start wsX9_start) := goodIn_app (goodIn_of _ (by decide +kernel)) ggX9_inTheEnd_X9_start
theorem dX9_inTheEnd_19 : decode cX9_inTheEnd 19 = .ok (.ifCond .ne 23, 3) := by decide +kernel
theorem dX9_inTheEnd_22 : decode cX9_inTheEnd 22 = .ok (.aload_n 0, 1) := by decide +kernel
theorem dX9_inTheEnd_23 : decode cX9_inTheEnd 23 = .ok (.aload_n 0, 1) := by decide +kernel
theorem dX9_inTheEnd_24 : decode cX9_inTheEnd 24 = .ok (.getfield 125, 3) := by decide +kernel
theorem dX9_inTheEnd_27 : decode cX9_inTheEnd 27 = .ok (.ifCond .ne 7, 3) := by decide +kernel
theorem dX9_inTheEnd_30 : decode cX9_inTheEnd 30 = .ok (.iconst 1, 1) := by decide +kernel
theorem dX9_inTheEnd_31 : decode cX9_inTheEnd 31 = .ok (.goto 4, 3) := by decide +kernel
theorem dX9_inTheEnd_35 : decode cX9_inTheEnd 35 = .ok (.iconst 2, 1) := by decide +kernel
theorem dX9_inTheEnd_36 : decode cX9_inTheEnd 36 = .ok (.invokevirtual 114, 3) := by decide +kernel
set_option maxRecDepth 20000 in
theorem ggX9_inTheEnd_X9_refuse : GoodIn wsX9_inTheEnd wsX9_refuse := goodIn_r _ [22, 18, 71, 72, 73, 74, 75, 76, 77, 78, 79, 80, 81, 82, 83, 84, 85, 86, 87, 88, 89, 90, 91, 92, 93, 94, 95, 96, 97, 98, 99, 100, 101, 102, 103, 104, 105, 106, 107, 108, 109, 110, 111, 112, 113, 114, 115, 116, 117, 118, 119, 120] rfl (by decide +kernel)
set_option maxRecDepth 20000 in
theorem gX9_inTheEnd_X9_refuse : GoodIn wsX9_inTheEnd (wsV RX9 114 RX9 yX9_refuse wsX9_refuse) := goodIn_app (goodIn_of _ (by decide +kernel)) ggX9_inTheEnd_X9_refuse
theorem dX9_inTheEnd_39 : decode cX9_inTheEnd 39 = .ok (.ifCond .eq 5, 3) := by decide +kernel
theorem dX9_inTheEnd_42 : decode cX9_inTheEnd 42 = .ok (.iconst 0, 1) := by decide +kernel
theorem dX9_inTheEnd_43 : decode cX9_inTheEnd 43 = .ok (.ireturn, 1) := by decide +kernel
theorem dX9_inTheEnd_10 : decode cX9_inTheEnd 10 = .ok (.iconst 1, 1) := by decide +kernel
theorem dX9_inTheEnd_11 : decode cX9_inTheEnd 11 = .ok (.goto 4, 3) := by decide +kernel
set_option maxHeartbeats 4000000 in
set_option maxRecDepth 100000 in
theorem m0_inTheEnd (l : Launch) (g : xG) (sz : Nat) (h0 : Nat) (m0 : Value) (m1 : Value) (m2 : Value) (m3 : Value) (m4 : Value) (m5 : Value) (m6 : Value) (m7 : Value) (m8 : Value) (m9 : Value) (m10 : Value) (m11 : Value) (m12 : Value) (m13 : Value) (m14 : Value) (m15 : Value) (m16 : Value) (m17 : Value) (m18 : Value) (m19 : Value) (m20 : Value) (m21 : Value) (m22 : Value) (m23 : Value) (m24 : Value) (m25 : Value) (m26 : Value) (m27 : Value) (m28 : Value) (m29 : Value) (m30 : Value) (m31 : Value) (m32 : Value) (m33 : Value) (m34 : Value) (m35 : Value) (m36 : Value) (m37 : Value) (m39 : Value) (m40 : Value) (m41 : Value) (m42 : Value) (m43 : Value) (m44 : Value) (m45 : Value) (m46 : Value) (m47 : Value) (m48 : Value) (m49 : Value) (p0 : Int32)  : Met l yX9_inTheEnd wsX9_inTheEnd ({ frames := 2, cells := 0, slots := 0, locals := 44 }) (va_Pc [.ref h0, .int p0] (fun U => xB g [(h0, .inr (9, [m0, m1, m2, m3, m4, m5, m6, m7, m8, m9, m10, m11, m12, m13, m14, m15, m16, m17, m18, m19, m20, m21, m22, m23, m24, m25, m26, m27, m28, m29, m30, m31, m32, m33, m34, m35, m36, m37, .int 0, m39, m40, m41, m42, m43, m44, m45, m46, m47, m48, m49]))] sz U)) (va_Qi (fun (r : Int32) (u : Int32) => (u = 1 ∧ r = 0 ∧ (p0 < 0 ∨ 3 < p0)) ∨ (u = 2 ∧ r = 0 ∧ (¬ p0 < 0 ∧ ¬ 3 < p0))) (fun (u : Int32) (t : State) => ∃ (w1 : Value) (w2 : Value) (w3 : Value) (w4 : Value) (w5 : Value) (w6 : Value) (w7 : Value) (w8 : Value) (w9 : Value) (w10 : Value) (w11 : Value) (w12 : Value) (w13 : Value) (w14 : Value) (w15 : Value) (w16 : Value) (w17 : Value) (w18 : Value) (w19 : Value) (w20 : Value) (w21 : Value) (w22 : Value) (w23 : Value) (w24 : Value) (w25 : Value) (w26 : Value) (w27 : Value) (w28 : Value) (w29 : Value) (w30 : Value) (w31 : Value) (w32 : Value) (w33 : Value) (w34 : Value) (w35 : Value) (w36 : Value) (w37 : Value) (w38 : Value) (w39 : Value) (w40 : Value) (w41 : Value) (w42 : Value) (w43 : Value) (w44 : Value) (w45 : Value) (w46 : Value) (w47 : Value) (w48 : Value) (w49 : Value), xE g [(h0, .inr (9, [.int u, w1, w2, w3, w4, w5, w6, w7, w8, w9, w10, w11, w12, w13, w14, w15, w16, w17, w18, w19, w20, w21, w22, w23, w24, w25, w26, w27, w28, w29, w30, w31, w32, w33, w34, w35, w36, w37, w38, w39, w40, w41, w42, w43, w44, w45, w46, w47, w48, w49]))] (va_A [(h0, .inr (9, [m0, m1, m2, m3, m4, m5, m6, m7, m8, m9, m10, m11, m12, m13, m14, m15, m16, m17, m18, m19, m20, m21, m22, m23, m24, m25, m26, m27, m28, m29, m30, m31, m32, m33, m34, m35, m36, m37, .int 0, m39, m40, m41, m42, m43, m44, m45, m46, m47, m48, m49]))] sz) t) (va_A [(h0, .inr (9, [m0, m1, m2, m3, m4, m5, m6, m7, m8, m9, m10, m11, m12, m13, m14, m15, m16, m17, m18, m19, m20, m21, m22, m23, m24, m25, m26, m27, m28, m29, m30, m31, m32, m33, m34, m35, m36, m37, .int 0, m39, m40, m41, m42, m43, m44, m45, m46, m47, m48, m49]))] sz)) 0 0 (va_A [(h0, .inr (9, [m0, m1, m2, m3, m4, m5, m6, m7, m8, m9, m10, m11, m12, m13, m14, m15, m16, m17, m18, m19, m20, m21, m22, m23, m24, m25, m26, m27, m28, m29, m30, m31, m32, m33, m34, m35, m36, m37, .int 0, m39, m40, m41, m42, m43, m44, m45, m46, m47, m48, m49]))] sz) := by
  refine Met.ofW (cc := cX9_inTheEnd) (maxL := 9) (ret := (some .int)) (by decide) rfl ?_
  intro p e s m args below meth c s₁ B hml hv
  obtain ⟨rfl, ⟨hsz, hP, hK, hD0⟩⟩ := hv
  have hx := B.exec
  have hb := B.bytes
  have hr := B.returns
  have hts := atoms_spec (ws := wsX9_inTheEnd) B.pre
  have hown : s.vm.findClass RX9 = some m.cls := findClass_of_methodNamed B.named
  have hlocks := B.notSynchronized
  subst hsz
  have hD := hD0.self (sz := s.heap.size)
  generalize hAe : va_A [(h0, .inr (9, [m0, m1, m2, m3, m4, m5, m6, m7, m8, m9, m10, m11, m12, m13, m14, m15, m16, m17, m18, m19, m20, m21, m22, m23, m24, m25, m26, m27, m28, m29, m30, m31, m32, m33, m34, m35, m36, m37, .int 0, m39, m40, m41, m42, m43, m44, m45, m46, m47, m48, m49]))] s.heap.size = A at hD ⊢
  have hA : ∀ q : Nat, s.heap.size ≤ q → A q := fun q h => by rw [← hAe]; exact Or.inr h
  have hS : va_S A s.heap s.heap [] := va_S.rf
  have hl := lv_entry ([.ref h0, .int p0]) (n := 9) (Nat.le_of_ble_eq_true rfl)
  rw [lg_entry_eq]
  generalize (lg_sl ([.ref h0, .int p0]) ++ List.replicate (9 - (lg_sl ([.ref h0, .int p0])).length) Slot.unset).toArray = ls at hl ⊢
  have hl : lv_has ls 9 [(0, .ref h0), (1, .int p0)] := hl
  have hFX9 : ∀ w ∈ u_ws RX9 TX9 50, w ∈ wsX9_inTheEnd := by decide +kernel
  refine lv_aload_n hx hb dX9_inTheEnd_0 rfl (lv_at hl 0 rfl) ?_
  refine lv_iload_n hx hb dX9_inTheEnd_1 rfl (lv_at hl 1 rfl) ?_
  refine lv_iconst (v := 0) hx hb dX9_inTheEnd_2 (by decide) ?_
  refine lv_iconst (v := 3) hx hb dX9_inTheEnd_3 (by decide) ?_
  have hPc := hP.sub (ws' := []) [] rfl
  have hDc := hD.sub (ws' := []) [] (by decide) rfl
  have hFc := xFree hS hA
  refine va_calli (va_runS (As := [.int p0, .int 0, .int 3]) (rest := [.ref h0]) ⟨hx, hb, hml, hown, hts⟩ (m_isIn l g s.heap.size p0 0 3) (va_cwS 3 hts gX9_inTheEnd_X9_isIn rfl rfl rfl (by decide +kernel) ⟨Nat.le_of_ble_eq_true rfl, Nat.le_of_ble_eq_true rfl⟩) ⟨xB.blind, fun U9 hU9 hW9 => ⟨rfl, xB.mk hPc hK hDc hU9 hW9⟩⟩ rfl rfl hl.1 rfl (lv_room (Nat.le_of_ble_eq_true rfl)) dX9_inTheEnd_4 ⟨Nat.le_of_ble_eq_true rfl, Nat.le_of_ble_eq_true rfl⟩) hS (fun q _ h => hFc q h) hFc (fun r_1 u_2 t H1 locs ht hvm hw_3 hB hz1 hk1 hS => ?_)
  have hP := xSame hP hk1
  generalize H1 = H at hP hS ⊢
  have hP : va_P (xD g) vwCl [(h0, .inr (9, [m0, m1, m2, m3, m4, m5, m6, m7, m8, m9, m10, m11, m12, m13, m14, m15, m16, m17, m18, m19, m20, m21, m22, m23, m24, m25, m26, m27, m28, m29, m30, m31, m32, m33, m34, m35, m36, m37, .int 0, m39, m40, m41, m42, m43, m44, m45, m46, m47, m48, m49]))] H := hP
  have hD : va_D A [(h0, .inr (9, [m0, m1, m2, m3, m4, m5, m6, m7, m8, m9, m10, m11, m12, m13, m14, m15, m16, m17, m18, m19, m20, m21, m22, m23, m24, m25, m26, m27, m28, m29, m30, m31, m32, m33, m34, m35, m36, m37, .int 0, m39, m40, m41, m42, m43, m44, m45, m46, m47, m48, m49]))] := hD
  try dsimp only at hw_3
  rcases hw_3 with ⟨rfl, c_4⟩ | ⟨rfl, c_5⟩
  · refine lv_if_ne (tgt := 14) hx hb dX9_inTheEnd_7 (by decide) (fun _ => ?_) (fun c0 => absurd c0 (by decide))
    refine lv_iconst (v := 0) hx hb dX9_inTheEnd_14 (by decide) ?_
    refine lv_iconst (v := 1) hx hb dX9_inTheEnd_15 (by decide) ?_
    have hPc := hP.sub (ws' := [(h0, .inr (9, [m0, m1, m2, m3, m4, m5, m6, m7, m8, m9, m10, m11, m12, m13, m14, m15, m16, m17, m18, m19, m20, m21, m22, m23, m24, m25, m26, m27, m28, m29, m30, m31, m32, m33, m34, m35, m36, m37, .int 0, m39, m40, m41, m42, m43, m44, m45, m46, m47, m48, m49]))]) [0] rfl
    have hDc := hD.sub (ws' := [(h0, .inr (9, [m0, m1, m2, m3, m4, m5, m6, m7, m8, m9, m10, m11, m12, m13, m14, m15, m16, m17, m18, m19, m20, m21, m22, m23, m24, m25, m26, m27, m28, m29, m30, m31, m32, m33, m34, m35, m36, m37, .int 0, m39, m40, m41, m42, m43, m44, m45, m46, m47, m48, m49]))]) [0] (by decide) rfl
    have hFc := va_free (wc := [(h0, .inr (9, [m0, m1, m2, m3, m4, m5, m6, m7, m8, m9, m10, m11, m12, m13, m14, m15, m16, m17, m18, m19, m20, m21, m22, m23, m24, m25, m26, m27, m28, m29, m30, m31, m32, m33, m34, m35, m36, m37, .int 0, m39, m40, m41, m42, m43, m44, m45, m46, m47, m48, m49]))]) hD hS hA [0] rfl
    refine va_calli (va_runV (As := [.int 0, .int 1]) (rest := []) ⟨hx, hb, hml, hown, hts⟩ (m_start0 l g H.size h0 m0 m1 m2 m3 m4 m5 m6 m7 m8 m9 m10 m11 m12 m13 m14 m15 m16 m17 m18 m19 m20 m21 m22 m23 m24 m25 m26 m27 m28 m29 m30 m31 m32 m33 m34 m35 m36 m37 (.int 0) m39 m40 m41 m42 m43 m44 m45 m46 m47 m48 m49 1) (cwV 2 hts gX9_inTheEnd_X9_start rfl rfl rfl (by decide +kernel) ⟨Nat.le_of_ble_eq_true rfl, Nat.le_of_ble_eq_true rfl⟩) ⟨xB.blind, va_recv hK hPc (ci := 9) (q0 := 0) rfl rfl, fun U9 hU9 hW9 => ⟨rfl, xB.mk hPc hK hDc hU9 hW9⟩⟩ rfl rfl hl.1 rfl (lv_room (Nat.le_of_ble_eq_true rfl)) dX9_inTheEnd_16 ⟨Nat.le_of_ble_eq_true rfl, Nat.le_of_ble_eq_true rfl⟩) hS (fun q _ h => hFc q h) hFc (fun r_6 u_7 t H1 locs ht hvm hw_8 hB hz1 hk1 hS => ?_)
    obtain ⟨hP1, hK1, hD1⟩ := hB
    rw [ht] at hP1
    obtain ⟨hP, hD⟩ := va_join (wr := []) (w1 := [(h0, .inr (9, [.int 0, m1, m2, m3, m4, m5, m6, m7, m8, m9, m10, m11, m12, m13, m14, m15, m16, m17, m18, m19, m20, m21, m22, m23, m24, m25, m26, m27, m28, m29, m30, m31, m32, m33, m34, m35, m36, m37, .int 0, m39, m40, m41, m42, m43, m44, m45, m46, m47, m48, m49]))]) hP hD [0] [] rfl rfl (by decide) (by decide) hk1 hFc hP1 hD1
    generalize H1 = H at hP hS ⊢
    have hP : va_P (xD g) vwCl [(h0, .inr (9, [.int 0, m1, m2, m3, m4, m5, m6, m7, m8, m9, m10, m11, m12, m13, m14, m15, m16, m17, m18, m19, m20, m21, m22, m23, m24, m25, m26, m27, m28, m29, m30, m31, m32, m33, m34, m35, m36, m37, .int 0, m39, m40, m41, m42, m43, m44, m45, m46, m47, m48, m49]))] H := hP
    have hD : va_D A [(h0, .inr (9, [.int 0, m1, m2, m3, m4, m5, m6, m7, m8, m9, m10, m11, m12, m13, m14, m15, m16, m17, m18, m19, m20, m21, m22, m23, m24, m25, m26, m27, m28, m29, m30, m31, m32, m33, m34, m35, m36, m37, .int 0, m39, m40, m41, m42, m43, m44, m45, m46, m47, m48, m49]))] := hD
    try dsimp only at hw_8
    obtain rfl := hw_8
    refine lv_if_ne (tgt := 42) hx hb dX9_inTheEnd_19 (by decide) (fun c0 => absurd (by decide) c0) (fun _ => ?_)
    refine lv_aload_n hx hb dX9_inTheEnd_22 rfl (lv_at hl 0 rfl) ?_
    refine lv_aload_n hx hb dX9_inTheEnd_23 rfl (lv_at hl 0 rfl) ?_
    refine va_get (D := xD g) (ci := 9) (v := .int 0) (C := RX9) (T := TX9) (N := 50) hx hb hts hFX9 hown hK hP 0 rfl rfl 38 (by decide) (hts (.fieldLink RX9 125 "StevedoreModel" "hasSlots" "Z") (by decide +kernel)) (fun _ h9 => h9) rfl dX9_inTheEnd_24 ?_
    refine lv_if_ne (tgt := 34) hx hb dX9_inTheEnd_27 (by decide) (fun c0 => absurd (by decide) c0) (fun _ => ?_)
    refine lv_iconst (v := 1) hx hb dX9_inTheEnd_30 (by decide) ?_
    refine lv_goto (tgt := 35) hx hb dX9_inTheEnd_31 (by decide) ?_
    refine lv_iconst (v := 2) hx hb dX9_inTheEnd_35 (by decide) ?_
    have hPc := hP.sub (ws' := [(h0, .inr (9, [.int 0, m1, m2, m3, m4, m5, m6, m7, m8, m9, m10, m11, m12, m13, m14, m15, m16, m17, m18, m19, m20, m21, m22, m23, m24, m25, m26, m27, m28, m29, m30, m31, m32, m33, m34, m35, m36, m37, .int 0, m39, m40, m41, m42, m43, m44, m45, m46, m47, m48, m49]))]) [0] rfl
    have hDc := hD.sub (ws' := [(h0, .inr (9, [.int 0, m1, m2, m3, m4, m5, m6, m7, m8, m9, m10, m11, m12, m13, m14, m15, m16, m17, m18, m19, m20, m21, m22, m23, m24, m25, m26, m27, m28, m29, m30, m31, m32, m33, m34, m35, m36, m37, .int 0, m39, m40, m41, m42, m43, m44, m45, m46, m47, m48, m49]))]) [0] (by decide) rfl
    have hFc := va_free (wc := [(h0, .inr (9, [.int 0, m1, m2, m3, m4, m5, m6, m7, m8, m9, m10, m11, m12, m13, m14, m15, m16, m17, m18, m19, m20, m21, m22, m23, m24, m25, m26, m27, m28, m29, m30, m31, m32, m33, m34, m35, m36, m37, .int 0, m39, m40, m41, m42, m43, m44, m45, m46, m47, m48, m49]))]) hD hS hA [0] rfl
    refine va_calli (va_runV (As := [.int 1, .int 2]) (rest := []) ⟨hx, hb, hml, hown, hts⟩ (m_refuse1 l g H.size h0 m1 m2 m3 m4 m5 m6 m7 m8 m9 m10 m11 m12 m13 m14 m15 m16 m17 m18 m19 m20 m21 m22 m23 m24 m25 m26 m27 m28 m29 m30 m31 m32 m33 m34 m35 m36 m37 (.int 0) m39 m40 m41 m42 m43 m44 m45 m46 m47 m48 m49 2 (by first | assumption | decide | omega | simp_all)) (cwV 2 hts gX9_inTheEnd_X9_refuse rfl rfl rfl (by decide +kernel) ⟨Nat.le_of_ble_eq_true rfl, Nat.le_of_ble_eq_true rfl⟩) ⟨xB.blind, va_recv hK hPc (ci := 9) (q0 := 0) rfl rfl, fun U9 hU9 hW9 => ⟨rfl, xB.mk hPc hK hDc hU9 hW9⟩⟩ rfl rfl hl.1 rfl (lv_room (Nat.le_of_ble_eq_true rfl)) dX9_inTheEnd_36 ⟨Nat.le_of_ble_eq_true rfl, Nat.le_of_ble_eq_true rfl⟩) hS (fun q _ h => hFc q h) hFc (fun r_9 u_10 t H1 locs ht hvm hw_11 hB hz1 hk1 hS => ?_)
    obtain ⟨hP1, hK1, hD1⟩ := hB
    rw [ht] at hP1
    obtain ⟨hP, hD⟩ := va_join (wr := []) (w1 := [(h0, .inr (9, [.int 2, m1, m2, m3, m4, m5, m6, m7, m8, m9, m10, m11, m12, m13, m14, m15, m16, m17, m18, m19, m20, m21, m22, m23, m24, m25, m26, m27, m28, m29, m30, m31, m32, m33, m34, m35, m36, m37, .int 0, m39, m40, m41, m42, m43, m44, m45, m46, m47, m48, m49]))]) hP hD [0] [] rfl rfl (by decide) (by decide) hk1 hFc hP1 hD1
    generalize H1 = H at hP hS ⊢
    have hP : va_P (xD g) vwCl [(h0, .inr (9, [.int 2, m1, m2, m3, m4, m5, m6, m7, m8, m9, m10, m11, m12, m13, m14, m15, m16, m17, m18, m19, m20, m21, m22, m23, m24, m25, m26, m27, m28, m29, m30, m31, m32, m33, m34, m35, m36, m37, .int 0, m39, m40, m41, m42, m43, m44, m45, m46, m47, m48, m49]))] H := hP
    have hD : va_D A [(h0, .inr (9, [.int 2, m1, m2, m3, m4, m5, m6, m7, m8, m9, m10, m11, m12, m13, m14, m15, m16, m17, m18, m19, m20, m21, m22, m23, m24, m25, m26, m27, m28, m29, m30, m31, m32, m33, m34, m35, m36, m37, .int 0, m39, m40, m41, m42, m43, m44, m45, m46, m47, m48, m49]))] := hD
    try dsimp only at hw_11
    obtain rfl := hw_11
    refine lv_if_eq (tgt := 44) hx hb dX9_inTheEnd_39 (by decide) (fun c0 => absurd c0 (by decide)) (fun _ => ?_)
    refine lv_iconst (v := 0) hx hb dX9_inTheEnd_42 (by decide) ?_
    have hP9 := hP.sub (ws' := [(h0, .inr (9, [.int 2, m1, m2, m3, m4, m5, m6, m7, m8, m9, m10, m11, m12, m13, m14, m15, m16, m17, m18, m19, m20, m21, m22, m23, m24, m25, m26, m27, m28, m29, m30, m31, m32, m33, m34, m35, m36, m37, .int 0, m39, m40, m41, m42, m43, m44, m45, m46, m47, m48, m49]))]) [0] rfl
    have hD9 := hD.sub (ws' := [(h0, .inr (9, [.int 2, m1, m2, m3, m4, m5, m6, m7, m8, m9, m10, m11, m12, m13, m14, m15, m16, m17, m18, m19, m20, m21, m22, m23, m24, m25, m26, m27, m28, m29, m30, m31, m32, m33, m34, m35, m36, m37, .int 0, m39, m40, m41, m42, m43, m44, m45, m46, m47, m48, m49]))]) [0] (by decide) rfl
    exact W.iret (v := 0) hx hb hr (fun t ht hW => ⟨⟨0, 2, rfl, Or.inr (⟨rfl, rfl, (by first | trivial | assumption | (refine ⟨?_, ?_⟩ <;> assumption) | (simp only [Int32.lt_iff_toInt_lt, Int32.le_iff_toInt_le, Int32.reduceToInt] at *; omega))⟩), ⟨m1, m2, m3, m4, m5, m6, m7, m8, m9, m10, m11, m12, m13, m14, m15, m16, m17, m18, m19, m20, m21, m22, m23, m24, m25, m26, m27, m28, m29, m30, m31, m32, m33, m34, m35, m36, m37, (.int 0), m39, m40, m41, m42, m43, m44, m45, m46, m47, m48, m49, by rw [ht]; exact hP9, va_K.moved hW.alike hK, hD9⟩⟩, hS.F ht⟩) hS.2.2 dX9_inTheEnd_43
  · refine lv_if_ne (tgt := 14) hx hb dX9_inTheEnd_7 (by decide) (fun c0 => absurd (by decide) c0) (fun _ => ?_)
    refine lv_iconst (v := 1) hx hb dX9_inTheEnd_10 (by decide) ?_
    refine lv_goto (tgt := 15) hx hb dX9_inTheEnd_11 (by decide) ?_
    refine lv_iconst (v := 1) hx hb dX9_inTheEnd_15 (by decide) ?_
    have hPc := hP.sub (ws' := [(h0, .inr (9, [m0, m1, m2, m3, m4, m5, m6, m7, m8, m9, m10, m11, m12, m13, m14, m15, m16, m17, m18, m19, m20, m21, m22, m23, m24, m25, m26, m27, m28, m29, m30, m31, m32, m33, m34, m35, m36, m37, .int 0, m39, m40, m41, m42, m43, m44, m45, m46, m47, m48, m49]))]) [0] rfl
    have hDc := hD.sub (ws' := [(h0, .inr (9, [m0, m1, m2, m3, m4, m5, m6, m7, m8, m9, m10, m11, m12, m13, m14, m15, m16, m17, m18, m19, m20, m21, m22, m23, m24, m25, m26, m27, m28, m29, m30, m31, m32, m33, m34, m35, m36, m37, .int 0, m39, m40, m41, m42, m43, m44, m45, m46, m47, m48, m49]))]) [0] (by decide) rfl
    have hFc := va_free (wc := [(h0, .inr (9, [m0, m1, m2, m3, m4, m5, m6, m7, m8, m9, m10, m11, m12, m13, m14, m15, m16, m17, m18, m19, m20, m21, m22, m23, m24, m25, m26, m27, m28, m29, m30, m31, m32, m33, m34, m35, m36, m37, .int 0, m39, m40, m41, m42, m43, m44, m45, m46, m47, m48, m49]))]) hD hS hA [0] rfl
    refine va_calli (va_runV (As := [.int 1, .int 1]) (rest := []) ⟨hx, hb, hml, hown, hts⟩ (m_start1 l g H.size h0 m0 m1 m2 m3 m4 m5 m6 m7 m8 m9 m10 m11 m12 m13 m14 m15 m16 m17 m18 m19 m20 m21 m22 m23 m24 m25 m26 m27 m28 m29 m30 m31 m32 m33 m34 m35 m36 m37 (.int 0) m39 m40 m41 m42 m43 m44 m45 m46 m47 m48 m49 1 (by first | assumption | decide | omega | simp_all)) (cwV 2 hts gX9_inTheEnd_X9_start rfl rfl rfl (by decide +kernel) ⟨Nat.le_of_ble_eq_true rfl, Nat.le_of_ble_eq_true rfl⟩) ⟨xB.blind, va_recv hK hPc (ci := 9) (q0 := 0) rfl rfl, fun U9 hU9 hW9 => ⟨rfl, xB.mk hPc hK hDc hU9 hW9⟩⟩ rfl rfl hl.1 rfl (lv_room (Nat.le_of_ble_eq_true rfl)) dX9_inTheEnd_16 ⟨Nat.le_of_ble_eq_true rfl, Nat.le_of_ble_eq_true rfl⟩) hS (fun q _ h => hFc q h) hFc (fun r_12 u_13 t H1 locs ht hvm hw_14 hB hz1 hk1 hS => ?_)
    obtain ⟨hP1, hK1, hD1⟩ := hB
    rw [ht] at hP1
    obtain ⟨hP, hD⟩ := va_join (wr := []) (w1 := [(h0, .inr (9, [.int 1, m1, m2, m3, m4, m5, m6, m7, m8, m9, m10, m11, m12, m13, m14, m15, m16, m17, m18, m19, m20, m21, m22, m23, m24, m25, m26, m27, m28, m29, m30, m31, m32, m33, m34, m35, m36, m37, .int 0, m39, m40, m41, m42, m43, m44, m45, m46, m47, m48, m49]))]) hP hD [0] [] rfl rfl (by decide) (by decide) hk1 hFc hP1 hD1
    generalize H1 = H at hP hS ⊢
    have hP : va_P (xD g) vwCl [(h0, .inr (9, [.int 1, m1, m2, m3, m4, m5, m6, m7, m8, m9, m10, m11, m12, m13, m14, m15, m16, m17, m18, m19, m20, m21, m22, m23, m24, m25, m26, m27, m28, m29, m30, m31, m32, m33, m34, m35, m36, m37, .int 0, m39, m40, m41, m42, m43, m44, m45, m46, m47, m48, m49]))] H := hP
    have hD : va_D A [(h0, .inr (9, [.int 1, m1, m2, m3, m4, m5, m6, m7, m8, m9, m10, m11, m12, m13, m14, m15, m16, m17, m18, m19, m20, m21, m22, m23, m24, m25, m26, m27, m28, m29, m30, m31, m32, m33, m34, m35, m36, m37, .int 0, m39, m40, m41, m42, m43, m44, m45, m46, m47, m48, m49]))] := hD
    try dsimp only at hw_14
    obtain rfl := hw_14
    refine lv_if_ne (tgt := 42) hx hb dX9_inTheEnd_19 (by decide) (fun _ => ?_) (fun c0 => absurd c0 (by decide))
    refine lv_iconst (v := 0) hx hb dX9_inTheEnd_42 (by decide) ?_
    have hP9 := hP.sub (ws' := [(h0, .inr (9, [.int 1, m1, m2, m3, m4, m5, m6, m7, m8, m9, m10, m11, m12, m13, m14, m15, m16, m17, m18, m19, m20, m21, m22, m23, m24, m25, m26, m27, m28, m29, m30, m31, m32, m33, m34, m35, m36, m37, .int 0, m39, m40, m41, m42, m43, m44, m45, m46, m47, m48, m49]))]) [0] rfl
    have hD9 := hD.sub (ws' := [(h0, .inr (9, [.int 1, m1, m2, m3, m4, m5, m6, m7, m8, m9, m10, m11, m12, m13, m14, m15, m16, m17, m18, m19, m20, m21, m22, m23, m24, m25, m26, m27, m28, m29, m30, m31, m32, m33, m34, m35, m36, m37, .int 0, m39, m40, m41, m42, m43, m44, m45, m46, m47, m48, m49]))]) [0] (by decide) rfl
    exact W.iret (v := 0) hx hb hr (fun t ht hW => ⟨⟨0, 1, rfl, Or.inl (⟨rfl, rfl, (by first | trivial | assumption | (refine ⟨?_, ?_⟩ <;> assumption) | (simp only [Int32.lt_iff_toInt_lt, Int32.le_iff_toInt_le, Int32.reduceToInt] at *; omega))⟩), ⟨m1, m2, m3, m4, m5, m6, m7, m8, m9, m10, m11, m12, m13, m14, m15, m16, m17, m18, m19, m20, m21, m22, m23, m24, m25, m26, m27, m28, m29, m30, m31, m32, m33, m34, m35, m36, m37, (.int 0), m39, m40, m41, m42, m43, m44, m45, m46, m47, m48, m49, by rw [ht]; exact hP9, va_K.moved hW.alike hK, hD9⟩⟩, hS.F ht⟩) hS.2.2 dX9_inTheEnd_43
theorem dX9_meanWait_0 : decode cX9_meanWait 0 = .ok (.aload_n 0, 1) := by decide +kernel
theorem dX9_meanWait_1 : decode cX9_meanWait 1 = .ok (.iconst 0, 1) := by decide +kernel
theorem dX9_meanWait_2 : decode cX9_meanWait 2 = .ok (.putfield 111, 3) := by decide +kernel
theorem dX9_meanWait_5 : decode cX9_meanWait 5 = .ok (.aload_n 0, 1) := by decide +kernel
theorem dX9_meanWait_6 : decode cX9_meanWait 6 = .ok (.getfield 118, 3) := by decide +kernel
theorem dX9_meanWait_9 : decode cX9_meanWait 9 = .ok (.ifCond .ne 5, 3) := by decide +kernel
theorem dX9_meanWait_12 : decode cX9_meanWait 12 = .ok (.dconst 0, 1) := by decide +kernel
theorem dX9_meanWait_13 : decode cX9_meanWait 13 = .ok (.dreturn, 1) := by decide +kernel
set_option maxHeartbeats 4000000 in
set_option maxRecDepth 100000 in
theorem m0_meanWait (l : Launch) (g : xG) (sz : Nat) (h0 : Nat) (m0 : Value) (m1 : Value) (m2 : Value) (m3 : Value) (m4 : Value) (m5 : Value) (m6 : Value) (m7 : Value) (m8 : Value) (m9 : Value) (m10 : Value) (m11 : Value) (m12 : Value) (m13 : Value) (m14 : Value) (m15 : Value) (m16 : Value) (m17 : Value) (m18 : Value) (m19 : Value) (m20 : Value) (m21 : Value) (m22 : Value) (m23 : Value) (m25 : Value) (m26 : Value) (m27 : Value) (m28 : Value) (m29 : Value) (m30 : Value) (m31 : Value) (m32 : Value) (m33 : Value) (m34 : Value) (m35 : Value) (m36 : Value) (m37 : Value) (m38 : Value) (m39 : Value) (m40 : Value) (m41 : Value) (m42 : Value) (m43 : Value) (m44 : Value) (m45 : Value) (m46 : Value) (m47 : Value) (m48 : Value) (m49 : Value)  : Met l yX9_meanWait wsX9_meanWait ({ frames := 0, cells := 0, slots := 0, locals := 0 }) (va_Pc [.ref h0] (fun U => xB g [(h0, .inr (9, [m0, m1, m2, m3, m4, m5, m6, m7, m8, m9, m10, m11, m12, m13, m14, m15, m16, m17, m18, m19, m20, m21, m22, m23, .int 0, m25, m26, m27, m28, m29, m30, m31, m32, m33, m34, m35, m36, m37, m38, m39, m40, m41, m42, m43, m44, m45, m46, m47, m48, m49]))] sz U)) (va_Qd (fun (r : UInt64) (u : Int32) => u = 0 ∧ r = 0) (fun (u : Int32) (t : State) => ∃ (w1 : Value) (w2 : Value) (w3 : Value) (w4 : Value) (w5 : Value) (w6 : Value) (w7 : Value) (w8 : Value) (w9 : Value) (w10 : Value) (w11 : Value) (w12 : Value) (w13 : Value) (w14 : Value) (w15 : Value) (w16 : Value) (w17 : Value) (w18 : Value) (w19 : Value) (w20 : Value) (w21 : Value) (w22 : Value) (w23 : Value) (w24 : Value) (w25 : Value) (w26 : Value) (w27 : Value) (w28 : Value) (w29 : Value) (w30 : Value) (w31 : Value) (w32 : Value) (w33 : Value) (w34 : Value) (w35 : Value) (w36 : Value) (w37 : Value) (w38 : Value) (w39 : Value) (w40 : Value) (w41 : Value) (w42 : Value) (w43 : Value) (w44 : Value) (w45 : Value) (w46 : Value) (w47 : Value) (w48 : Value) (w49 : Value), xE g [(h0, .inr (9, [.int u, w1, w2, w3, w4, w5, w6, w7, w8, w9, w10, w11, w12, w13, w14, w15, w16, w17, w18, w19, w20, w21, w22, w23, w24, w25, w26, w27, w28, w29, w30, w31, w32, w33, w34, w35, w36, w37, w38, w39, w40, w41, w42, w43, w44, w45, w46, w47, w48, w49]))] (va_A [(h0, .inr (9, [m0, m1, m2, m3, m4, m5, m6, m7, m8, m9, m10, m11, m12, m13, m14, m15, m16, m17, m18, m19, m20, m21, m22, m23, .int 0, m25, m26, m27, m28, m29, m30, m31, m32, m33, m34, m35, m36, m37, m38, m39, m40, m41, m42, m43, m44, m45, m46, m47, m48, m49]))] sz) t) (va_A [(h0, .inr (9, [m0, m1, m2, m3, m4, m5, m6, m7, m8, m9, m10, m11, m12, m13, m14, m15, m16, m17, m18, m19, m20, m21, m22, m23, .int 0, m25, m26, m27, m28, m29, m30, m31, m32, m33, m34, m35, m36, m37, m38, m39, m40, m41, m42, m43, m44, m45, m46, m47, m48, m49]))] sz)) 0 0 (va_A [(h0, .inr (9, [m0, m1, m2, m3, m4, m5, m6, m7, m8, m9, m10, m11, m12, m13, m14, m15, m16, m17, m18, m19, m20, m21, m22, m23, .int 0, m25, m26, m27, m28, m29, m30, m31, m32, m33, m34, m35, m36, m37, m38, m39, m40, m41, m42, m43, m44, m45, m46, m47, m48, m49]))] sz) := by
  refine Met.ofW (cc := cX9_meanWait) (maxL := 3) (ret := (some .double)) (by decide) rfl ?_
  intro p e s m args below meth c s₁ B hml hv
  obtain ⟨rfl, ⟨hsz, hP, hK, hD0⟩⟩ := hv
  have hx := B.exec
  have hb := B.bytes
  have hr := B.returns
  have hts := atoms_spec (ws := wsX9_meanWait) B.pre
  have hown : s.vm.findClass RX9 = some m.cls := findClass_of_methodNamed B.named
  have hlocks := B.notSynchronized
  subst hsz
  have hD := hD0.self (sz := s.heap.size)
  generalize hAe : va_A [(h0, .inr (9, [m0, m1, m2, m3, m4, m5, m6, m7, m8, m9, m10, m11, m12, m13, m14, m15, m16, m17, m18, m19, m20, m21, m22, m23, .int 0, m25, m26, m27, m28, m29, m30, m31, m32, m33, m34, m35, m36, m37, m38, m39, m40, m41, m42, m43, m44, m45, m46, m47, m48, m49]))] s.heap.size = A at hD ⊢
  have hA : ∀ q : Nat, s.heap.size ≤ q → A q := fun q h => by rw [← hAe]; exact Or.inr h
  have hS : va_S A s.heap s.heap [] := va_S.rf
  have hl := lv_entry ([.ref h0]) (n := 3) (Nat.le_of_ble_eq_true rfl)
  rw [lg_entry_eq]
  generalize (lg_sl ([.ref h0]) ++ List.replicate (3 - (lg_sl ([.ref h0])).length) Slot.unset).toArray = ls at hl ⊢
  have hl : lv_has ls 3 [(0, .ref h0)] := hl
  have hFX9 : ∀ w ∈ u_ws RX9 TX9 50, w ∈ wsX9_meanWait := by decide +kernel
  refine lv_aload_n hx hb dX9_meanWait_0 rfl (lv_at hl 0 rfl) ?_
  refine lv_iconst (v := 0) hx hb dX9_meanWait_1 (by decide) ?_
  refine va_put (D := xD g) (ci := 9) (v := .int 0) (ty := .int) (C := RX9) (T := TX9) (N := 50) hx hb hts hFX9 tyX9 tyX9_ok nmX9 hown hK hP hD hS 0 rfl rfl 0 (by decide) (hts (.fieldLink RX9 111 "StevedoreModel" "thrown" "I") (by decide +kernel)) (fun _ h9 => h9) rfl (by decide +kernel) rfl rfl (Nat.le_of_ble_eq_true rfl) dX9_meanWait_2 (fun H locs hP hD hS => ?_)
  have hP : va_P (xD g) vwCl [(h0, .inr (9, [.int 0, m1, m2, m3, m4, m5, m6, m7, m8, m9, m10, m11, m12, m13, m14, m15, m16, m17, m18, m19, m20, m21, m22, m23, .int 0, m25, m26, m27, m28, m29, m30, m31, m32, m33, m34, m35, m36, m37, m38, m39, m40, m41, m42, m43, m44, m45, m46, m47, m48, m49]))] H := hP
  have hD : va_D A [(h0, .inr (9, [.int 0, m1, m2, m3, m4, m5, m6, m7, m8, m9, m10, m11, m12, m13, m14, m15, m16, m17, m18, m19, m20, m21, m22, m23, .int 0, m25, m26, m27, m28, m29, m30, m31, m32, m33, m34, m35, m36, m37, m38, m39, m40, m41, m42, m43, m44, m45, m46, m47, m48, m49]))] := hD
  refine lv_aload_n hx hb dX9_meanWait_5 rfl (lv_at hl 0 rfl) ?_
  refine va_get (D := xD g) (ci := 9) (v := .int 0) (C := RX9) (T := TX9) (N := 50) hx hb hts hFX9 hown hK hP 0 rfl rfl 24 (by decide) (hts (.fieldLink RX9 118 "StevedoreModel" "isPlanned" "Z") (by decide +kernel)) (fun _ h9 => h9) rfl dX9_meanWait_6 ?_
  refine lv_if_ne (tgt := 14) hx hb dX9_meanWait_9 (by decide) (fun c0 => absurd (by decide) c0) (fun _ => ?_)
  refine lv_dconst0 hx hb dX9_meanWait_12 ?_
  have hP9 := hP.sub (ws' := [(h0, .inr (9, [.int 0, m1, m2, m3, m4, m5, m6, m7, m8, m9, m10, m11, m12, m13, m14, m15, m16, m17, m18, m19, m20, m21, m22, m23, .int 0, m25, m26, m27, m28, m29, m30, m31, m32, m33, m34, m35, m36, m37, m38, m39, m40, m41, m42, m43, m44, m45, m46, m47, m48, m49]))]) [0] rfl
  have hD9 := hD.sub (ws' := [(h0, .inr (9, [.int 0, m1, m2, m3, m4, m5, m6, m7, m8, m9, m10, m11, m12, m13, m14, m15, m16, m17, m18, m19, m20, m21, m22, m23, .int 0, m25, m26, m27, m28, m29, m30, m31, m32, m33, m34, m35, m36, m37, m38, m39, m40, m41, m42, m43, m44, m45, m46, m47, m48, m49]))]) [0] (by decide) rfl
  exact W.dret (v := 0) hx hb hr (fun t ht hW => ⟨⟨0, 0, rfl, ⟨rfl, rfl⟩, ⟨m1, m2, m3, m4, m5, m6, m7, m8, m9, m10, m11, m12, m13, m14, m15, m16, m17, m18, m19, m20, m21, m22, m23, (.int 0), m25, m26, m27, m28, m29, m30, m31, m32, m33, m34, m35, m36, m37, m38, m39, m40, m41, m42, m43, m44, m45, m46, m47, m48, m49, by rw [ht]; exact hP9, va_K.moved hW.alike hK, hD9⟩⟩, hS.F ht⟩) hS.2.2 dX9_meanWait_13
theorem dX9_add__0 : decode cX9_add_ 0 = .ok (.lload_n 0, 1) := by decide +kernel
theorem dX9_add__1 : decode cX9_add_ 1 = .ok (.ldc2_w 362, 3) := by decide +kernel
theorem dX9_add__4 : decode cX9_add_ 4 = .ok (.lmul, 1) := by decide +kernel
theorem dX9_add__5 : decode cX9_add_ 5 = .ok (.lload_n 2, 1) := by decide +kernel
theorem dX9_add__6 : decode cX9_add_ 6 = .ok (.ladd, 1) := by decide +kernel
theorem dX9_add__7 : decode cX9_add_ 7 = .ok (.lreturn, 1) := by decide +kernel
set_option maxHeartbeats 4000000 in
set_option maxRecDepth 100000 in
theorem m_add (l : Launch) (g : xG) (sz : Nat) (p0 : Int64) (p1 : Int64)  : Met l yX9_add_ wsX9_add_ ({ frames := 0, cells := 0, slots := 0, locals := 0 }) (va_Pc [.long p0, .long p1] (fun U => xB g [] sz U)) (va_Ql (fun (r : Int64) (u : Unit) => r = p0 * 31 + p1) (fun _ _ => True) (va_A [] sz)) 0 0 (va_A [] sz) := by
  refine Met.ofW (cc := cX9_add_) (maxL := 4) (ret := (some .long)) (by decide) rfl ?_
  intro p e s m args below meth c s₁ B hml hv
  obtain ⟨rfl, ⟨hsz, hP, hK, hD0⟩⟩ := hv
  have hx := B.exec
  have hb := B.bytes
  have hr := B.returns
  have hts := atoms_spec (ws := wsX9_add_) B.pre
  have hown : s.vm.findClass RX9 = some m.cls := findClass_of_methodNamed B.named
  have hlocks := B.notSynchronized
  subst hsz
  have hD := hD0
  generalize hAe : va_A [] s.heap.size = A
  have hA : ∀ q : Nat, s.heap.size ≤ q → A q := fun q h => by rw [← hAe]; exact Or.inr h
  have hS : va_S A s.heap s.heap [] := va_S.rf
  have hl := lv_entry ([.long p0, .long p1]) (n := 4) (Nat.le_of_ble_eq_true rfl)
  rw [lg_entry_eq]
  generalize (lg_sl ([.long p0, .long p1]) ++ List.replicate (4 - (lg_sl ([.long p0, .long p1])).length) Slot.unset).toArray = ls at hl ⊢
  have hl : lv_has ls 4 [(0, .long p0), (2, .long p1)] := hl
  refine lv_lload_n hx hb dX9_add__0 rfl (lv_at hl 0 rfl) ?_
  refine lv_ldc2 (v := 31) hx hb hown (hts (.constantLong RX9 362 (31)) (by decide +kernel)) dX9_add__1 ?_
  refine lv_lmul hx hb dX9_add__4 ?_
  refine lv_topl (fun v_1 ev_1 => ?_)
  refine lv_lload_n hx hb dX9_add__5 rfl (lv_at hl 1 rfl) ?_
  refine lv_ladd hx hb dX9_add__6 ?_
  refine lv_topl (fun v_2 ev_2 => ?_)
  exact W.lret (v := v_2) hx hb hr (fun t ht hW => ⟨⟨v_2, (), rfl, (by rw [ev_2, ev_1]), trivial⟩, hS.F ht⟩) hS.2.2 dX9_add__7
theorem dX9_digest_0 : decode cX9_digest 0 = .ok (.aload_n 0, 1) := by decide +kernel
theorem dX9_digest_1 : decode cX9_digest 1 = .ok (.iconst 0, 1) := by decide +kernel
theorem dX9_digest_2 : decode cX9_digest 2 = .ok (.putfield 111, 3) := by decide +kernel
theorem dX9_digest_5 : decode cX9_digest 5 = .ok (.ldc2_w 364, 3) := by decide +kernel
theorem dX9_digest_8 : decode cX9_digest 8 = .ok (.aload_n 0, 1) := by decide +kernel
theorem dX9_digest_9 : decode cX9_digest 9 = .ok (.getfield 144, 3) := by decide +kernel
theorem dX9_digest_12 : decode cX9_digest 12 = .ok (.i2l, 1) := by decide +kernel
theorem dX9_digest_13 : decode cX9_digest 13 = .ok (.invokestatic 366, 3) := by decide +kernel
set_option maxRecDepth 20000 in
theorem ggX9_digest_X9_add_ : GoodIn wsX9_digest wsX9_add_ := goodIn_r _ [31, 32] rfl (by decide +kernel)
set_option maxRecDepth 20000 in
theorem gX9_digest_X9_add_ : GoodIn wsX9_digest (va_wsS RX9 366 yX9_add_ wsX9_add_) := goodIn_app (goodIn_of _ (by decide +kernel)) ggX9_digest_X9_add_
theorem dX9_digest_16 : decode cX9_digest 16 = .ok (.aload_n 0, 1) := by decide +kernel
theorem dX9_digest_17 : decode cX9_digest 17 = .ok (.getfield 155, 3) := by decide +kernel
theorem dX9_digest_20 : decode cX9_digest 20 = .ok (.i2l, 1) := by decide +kernel
theorem dX9_digest_21 : decode cX9_digest 21 = .ok (.invokestatic 366, 3) := by decide +kernel
theorem dX9_digest_24 : decode cX9_digest 24 = .ok (.aload_n 0, 1) := by decide +kernel
theorem dX9_digest_25 : decode cX9_digest 25 = .ok (.getfield 161, 3) := by decide +kernel
theorem dX9_digest_28 : decode cX9_digest 28 = .ok (.i2l, 1) := by decide +kernel
theorem dX9_digest_29 : decode cX9_digest 29 = .ok (.invokestatic 366, 3) := by decide +kernel
theorem dX9_digest_32 : decode cX9_digest 32 = .ok (.lstore_n 1, 1) := by decide +kernel
theorem dX9_digest_33 : decode cX9_digest 33 = .ok (.iconst 0, 1) := by decide +kernel
theorem dX9_digest_34 : decode cX9_digest 34 = .ok (.istore_n 3, 1) := by decide +kernel
theorem dX9_digest_35 : decode cX9_digest 35 = .ok (.iload_n 3, 1) := by decide +kernel
theorem dX9_digest_36 : decode cX9_digest 36 = .ok (.aload_n 0, 1) := by decide +kernel
theorem dX9_digest_37 : decode cX9_digest 37 = .ok (.getfield 144, 3) := by decide +kernel
theorem dX9_digest_40 : decode cX9_digest 40 = .ok (.if_icmp .ge 136, 3) := by decide +kernel
theorem dX9_digest_176 : decode cX9_digest 176 = .ok (.lload_n 1, 1) := by decide +kernel
theorem dX9_digest_177 : decode cX9_digest 177 = .ok (.aload_n 0, 1) := by decide +kernel
theorem dX9_digest_178 : decode cX9_digest 178 = .ok (.getfield 118, 3) := by decide +kernel
theorem dX9_digest_181 : decode cX9_digest 181 = .ok (.ifCond .eq 7, 3) := by decide +kernel
theorem dX9_digest_188 : decode cX9_digest 188 = .ok (.lconst 0, 1) := by decide +kernel
theorem dX9_digest_189 : decode cX9_digest 189 = .ok (.invokestatic 366, 3) := by decide +kernel
theorem dX9_digest_192 : decode cX9_digest 192 = .ok (.lstore_n 1, 1) := by decide +kernel
theorem dX9_digest_193 : decode cX9_digest 193 = .ok (.aload_n 0, 1) := by decide +kernel
theorem dX9_digest_194 : decode cX9_digest 194 = .ok (.getfield 118, 3) := by decide +kernel
theorem dX9_digest_197 : decode cX9_digest 197 = .ok (.ifCond .eq 96, 3) := by decide +kernel
theorem dX9_digest_293 : decode cX9_digest 293 = .ok (.iconst 0, 1) := by decide +kernel
theorem dX9_digest_294 : decode cX9_digest 294 = .ok (.istore_n 3, 1) := by decide +kernel
theorem dX9_digest_295 : decode cX9_digest 295 = .ok (.aload_n 0, 1) := by decide +kernel
theorem dX9_digest_296 : decode cX9_digest 296 = .ok (.getfield 125, 3) := by decide +kernel
theorem dX9_digest_299 : decode cX9_digest 299 = .ok (.ifCond .eq 29, 3) := by decide +kernel
theorem dX9_digest_328 : decode cX9_digest 328 = .ok (.lload_n 1, 1) := by decide +kernel
theorem dX9_digest_329 : decode cX9_digest 329 = .ok (.aload_n 0, 1) := by decide +kernel
theorem dX9_digest_330 : decode cX9_digest 330 = .ok (.getfield 128, 3) := by decide +kernel
theorem dX9_digest_333 : decode cX9_digest 333 = .ok (.i2l, 1) := by decide +kernel
theorem dX9_digest_334 : decode cX9_digest 334 = .ok (.invokestatic 366, 3) := by decide +kernel
theorem dX9_digest_337 : decode cX9_digest 337 = .ok (.lstore_n 1, 1) := by decide +kernel
theorem dX9_digest_338 : decode cX9_digest 338 = .ok (.iconst 0, 1) := by decide +kernel
theorem dX9_digest_339 : decode cX9_digest 339 = .ok (.istore_n 3, 1) := by decide +kernel
theorem dX9_digest_340 : decode cX9_digest 340 = .ok (.iload_n 3, 1) := by decide +kernel
theorem dX9_digest_341 : decode cX9_digest 341 = .ok (.aload_n 0, 1) := by decide +kernel
theorem dX9_digest_342 : decode cX9_digest 342 = .ok (.getfield 128, 3) := by decide +kernel
theorem dX9_digest_345 : decode cX9_digest 345 = .ok (.if_icmp .ge 41, 3) := by decide +kernel
theorem dX9_digest_386 : decode cX9_digest 386 = .ok (.iconst 0, 1) := by decide +kernel
theorem dX9_digest_387 : decode cX9_digest 387 = .ok (.istore_n 3, 1) := by decide +kernel
theorem dX9_digest_388 : decode cX9_digest 388 = .ok (.iload_n 3, 1) := by decide +kernel
theorem dX9_digest_389 : decode cX9_digest 389 = .ok (.aload_n 0, 1) := by decide +kernel
theorem dX9_digest_390 : decode cX9_digest 390 = .ok (.getfield 155, 3) := by decide +kernel
theorem dX9_digest_393 : decode cX9_digest 393 = .ok (.if_icmp .ge 30, 3) := by decide +kernel
theorem dX9_digest_423 : decode cX9_digest 423 = .ok (.iconst 0, 1) := by decide +kernel
theorem dX9_digest_424 : decode cX9_digest 424 = .ok (.istore_n 3, 1) := by decide +kernel
theorem dX9_digest_425 : decode cX9_digest 425 = .ok (.iload_n 3, 1) := by decide +kernel
theorem dX9_digest_426 : decode cX9_digest 426 = .ok (.aload_n 0, 1) := by decide +kernel
theorem dX9_digest_427 : decode cX9_digest 427 = .ok (.getfield 161, 3) := by decide +kernel
theorem dX9_digest_430 : decode cX9_digest 430 = .ok (.if_icmp .ge 58, 3) := by decide +kernel
theorem dX9_digest_488 : decode cX9_digest 488 = .ok (.lload_n 1, 1) := by decide +kernel
theorem dX9_digest_489 : decode cX9_digest 489 = .ok (.aload_n 0, 1) := by decide +kernel
theorem dX9_digest_490 : decode cX9_digest 490 = .ok (.getfield 321, 3) := by decide +kernel
theorem dX9_digest_493 : decode cX9_digest 493 = .ok (.i2l, 1) := by decide +kernel
theorem dX9_digest_494 : decode cX9_digest 494 = .ok (.invokestatic 366, 3) := by decide +kernel
theorem dX9_digest_497 : decode cX9_digest 497 = .ok (.aload_n 0, 1) := by decide +kernel
theorem dX9_digest_498 : decode cX9_digest 498 = .ok (.invokevirtual 356, 3) := by decide +kernel
set_option maxRecDepth 20000 in
theorem ggX9_digest_X9_blockingNow : GoodIn wsX9_digest wsX9_blockingNow := goodIn_r _ [83, 5, 37, 25, 84, 26, 85, 86, 42, 87, 88, 89, 90, 91, 92, 93, 94, 95, 96, 97, 98, 99, 100, 101, 102, 103, 104, 105, 106, 107, 108, 109, 110, 111, 112, 113, 114, 115, 116, 117, 118, 119, 120, 121, 122, 123, 124, 125, 126, 127, 128, 129, 130, 131, 132, 133, 134, 135, 136, 137] rfl (by decide +kernel)
set_option maxRecDepth 20000 in
theorem gX9_digest_X9_blockingNow : GoodIn wsX9_digest (wsV RX9 356 RX9 yX9_blockingNow wsX9_blockingNow) := goodIn_app (goodIn_of _ (by decide +kernel)) ggX9_digest_X9_blockingNow
theorem dX9_digest_501 : decode cX9_digest 501 = .ok (.i2l, 1) := by decide +kernel
theorem dX9_digest_502 : decode cX9_digest 502 = .ok (.invokestatic 366, 3) := by decide +kernel
theorem dX9_digest_505 : decode cX9_digest 505 = .ok (.lreturn, 1) := by decide +kernel
set_option maxHeartbeats 4000000 in
set_option maxRecDepth 100000 in
theorem m0_digest (l : Launch) (g : xG) (sz : Nat) (h0 : Nat) (m0 : Value) (m1 : Value) (m2 : Value) (m4 : Value) (m5 : Value) (m6 : Value) (m7 : Value) (m9 : Value) (m10 : Value) (m11 : Value) (m12 : Value) (m13 : Value) (m14 : Value) (m16 : Value) (m17 : Value) (m18 : Value) (m19 : Value) (m20 : Value) (m21 : Value) (m22 : Value) (m23 : Value) (m25 : Value) (m26 : Value) (m27 : Value) (m28 : Value) (m29 : Value) (m30 : Value) (m31 : Value) (m32 : Value) (m33 : Value) (m34 : Value) (m35 : Value) (m36 : Value) (m37 : Value) (m39 : Value) (m41 : Value) (m42 : Value) (m43 : Value) (m44 : Value) (m45 : Value) (m46 : Value) (m47 : Value) (m48 : Value)  : Met l yX9_digest wsX9_digest ({ frames := 1, cells := 0, slots := 0, locals := 24 }) (va_Pc [.ref h0] (fun U => xB g [(h0, .inr (9, [m0, m1, m2, .int 0, m4, m5, m6, m7, .int 0, m9, m10, m11, m12, m13, m14, .int 0, m16, m17, m18, m19, m20, m21, m22, m23, .int 0, m25, m26, m27, m28, m29, m30, m31, m32, m33, m34, m35, m36, m37, .int 0, m39, .int 0, m41, m42, m43, m44, m45, m46, m47, m48, .int 0]))] sz U)) (va_Ql (fun (r : Int64) (u : Int32) => u = 0 ∧ r = 1596391921176664) (fun (u : Int32) (t : State) => ∃ (w1 : Value) (w2 : Value) (w3 : Value) (w4 : Value) (w5 : Value) (w6 : Value) (w7 : Value) (w8 : Value) (w9 : Value) (w10 : Value) (w11 : Value) (w12 : Value) (w13 : Value) (w14 : Value) (w15 : Value) (w16 : Value) (w17 : Value) (w18 : Value) (w19 : Value) (w20 : Value) (w21 : Value) (w22 : Value) (w23 : Value) (w24 : Value) (w25 : Value) (w26 : Value) (w27 : Value) (w28 : Value) (w29 : Value) (w30 : Value) (w31 : Value) (w32 : Value) (w33 : Value) (w34 : Value) (w35 : Value) (w36 : Value) (w37 : Value) (w38 : Value) (w39 : Value) (w40 : Value) (w41 : Value) (w42 : Value) (w43 : Value) (w44 : Value) (w45 : Value) (w46 : Value) (w47 : Value) (w48 : Value) (w49 : Value), xE g [(h0, .inr (9, [.int u, w1, w2, w3, w4, w5, w6, w7, w8, w9, w10, w11, w12, w13, w14, w15, w16, w17, w18, w19, w20, w21, w22, w23, w24, w25, w26, w27, w28, w29, w30, w31, w32, w33, w34, w35, w36, w37, w38, w39, w40, w41, w42, w43, w44, w45, w46, w47, w48, w49]))] (va_A [(h0, .inr (9, [m0, m1, m2, .int 0, m4, m5, m6, m7, .int 0, m9, m10, m11, m12, m13, m14, .int 0, m16, m17, m18, m19, m20, m21, m22, m23, .int 0, m25, m26, m27, m28, m29, m30, m31, m32, m33, m34, m35, m36, m37, .int 0, m39, .int 0, m41, m42, m43, m44, m45, m46, m47, m48, .int 0]))] sz) t) (va_A [(h0, .inr (9, [m0, m1, m2, .int 0, m4, m5, m6, m7, .int 0, m9, m10, m11, m12, m13, m14, .int 0, m16, m17, m18, m19, m20, m21, m22, m23, .int 0, m25, m26, m27, m28, m29, m30, m31, m32, m33, m34, m35, m36, m37, .int 0, m39, .int 0, m41, m42, m43, m44, m45, m46, m47, m48, .int 0]))] sz)) 0 0 (va_A [(h0, .inr (9, [m0, m1, m2, .int 0, m4, m5, m6, m7, .int 0, m9, m10, m11, m12, m13, m14, .int 0, m16, m17, m18, m19, m20, m21, m22, m23, .int 0, m25, m26, m27, m28, m29, m30, m31, m32, m33, m34, m35, m36, m37, .int 0, m39, .int 0, m41, m42, m43, m44, m45, m46, m47, m48, .int 0]))] sz) := by
  refine Met.ofW (cc := cX9_digest) (maxL := 5) (ret := (some .long)) (by decide) rfl ?_
  intro p e s m args below meth c s₁ B hml hv
  obtain ⟨rfl, ⟨hsz, hP, hK, hD0⟩⟩ := hv
  have hx := B.exec
  have hb := B.bytes
  have hr := B.returns
  have hts := atoms_spec (ws := wsX9_digest) B.pre
  have hown : s.vm.findClass RX9 = some m.cls := findClass_of_methodNamed B.named
  have hlocks := B.notSynchronized
  subst hsz
  have hD := hD0.self (sz := s.heap.size)
  generalize hAe : va_A [(h0, .inr (9, [m0, m1, m2, .int 0, m4, m5, m6, m7, .int 0, m9, m10, m11, m12, m13, m14, .int 0, m16, m17, m18, m19, m20, m21, m22, m23, .int 0, m25, m26, m27, m28, m29, m30, m31, m32, m33, m34, m35, m36, m37, .int 0, m39, .int 0, m41, m42, m43, m44, m45, m46, m47, m48, .int 0]))] s.heap.size = A at hD ⊢
  have hA : ∀ q : Nat, s.heap.size ≤ q → A q := fun q h => by rw [← hAe]; exact Or.inr h
  have hS : va_S A s.heap s.heap [] := va_S.rf
  have hl := lv_entry ([.ref h0]) (n := 5) (Nat.le_of_ble_eq_true rfl)
  rw [lg_entry_eq]
  generalize (lg_sl ([.ref h0]) ++ List.replicate (5 - (lg_sl ([.ref h0])).length) Slot.unset).toArray = ls at hl ⊢
  have hl : lv_has ls 5 [(0, .ref h0)] := hl
  have hFX9 : ∀ w ∈ u_ws RX9 TX9 50, w ∈ wsX9_digest := by decide +kernel
  refine lv_aload_n hx hb dX9_digest_0 rfl (lv_at hl 0 rfl) ?_
  refine lv_iconst (v := 0) hx hb dX9_digest_1 (by decide) ?_
  refine va_put (D := xD g) (ci := 9) (v := .int 0) (ty := .int) (C := RX9) (T := TX9) (N := 50) hx hb hts hFX9 tyX9 tyX9_ok nmX9 hown hK hP hD hS 0 rfl rfl 0 (by decide) (hts (.fieldLink RX9 111 "StevedoreModel" "thrown" "I") (by decide +kernel)) (fun _ h9 => h9) rfl (by decide +kernel) rfl rfl (Nat.le_of_ble_eq_true rfl) dX9_digest_2 (fun H locs hP hD hS => ?_)
  have hP : va_P (xD g) vwCl [(h0, .inr (9, [.int 0, m1, m2, .int 0, m4, m5, m6, m7, .int 0, m9, m10, m11, m12, m13, m14, .int 0, m16, m17, m18, m19, m20, m21, m22, m23, .int 0, m25, m26, m27, m28, m29, m30, m31, m32, m33, m34, m35, m36, m37, .int 0, m39, .int 0, m41, m42, m43, m44, m45, m46, m47, m48, .int 0]))] H := hP
  have hD : va_D A [(h0, .inr (9, [.int 0, m1, m2, .int 0, m4, m5, m6, m7, .int 0, m9, m10, m11, m12, m13, m14, .int 0, m16, m17, m18, m19, m20, m21, m22, m23, .int 0, m25, m26, m27, m28, m29, m30, m31, m32, m33, m34, m35, m36, m37, .int 0, m39, .int 0, m41, m42, m43, m44, m45, m46, m47, m48, .int 0]))] := hD
  refine lv_ldc2 (v := 58024) hx hb hown (hts (.constantLong RX9 364 (58024)) (by decide +kernel)) dX9_digest_5 ?_
  refine lv_aload_n hx hb dX9_digest_8 rfl (lv_at hl 0 rfl) ?_
  refine va_get (D := xD g) (ci := 9) (v := .int 0) (C := RX9) (T := TX9) (N := 50) hx hb hts hFX9 hown hK hP 0 rfl rfl 3 (by decide) (hts (.fieldLink RX9 144 "StevedoreModel" "vessels" "I") (by decide +kernel)) (fun _ h9 => h9) rfl dX9_digest_9 ?_
  refine lv_i2l (v := 0) hx hb dX9_digest_12 (by decide) ?_
  have hPc := hP.sub (ws' := []) [] rfl
  have hDc := hD.sub (ws' := []) [] (by decide) rfl
  have hFc := xFree hS hA
  refine va_calll (va_runS (As := [.long 58024, .long 0]) (rest := []) ⟨hx, hb, hml, hown, hts⟩ (m_add l g H.size 58024 0) (va_cwS 2 hts gX9_digest_X9_add_ rfl rfl rfl (by decide +kernel) ⟨Nat.le_of_ble_eq_true rfl, Nat.le_of_ble_eq_true rfl⟩) ⟨xB.blind, fun U9 hU9 hW9 => ⟨rfl, xB.mk hPc hK hDc hU9 hW9⟩⟩ rfl rfl hl.1 rfl (lv_room (Nat.le_of_ble_eq_true rfl)) dX9_digest_13 ⟨Nat.le_of_ble_eq_true rfl, Nat.le_of_ble_eq_true rfl⟩) hS (fun q _ h => hFc q h) hFc (fun r_1 u_2 t H1 locs ht hvm hw_3 hB hz1 hk1 hS => ?_)
  have hP := xSame hP hk1
  generalize H1 = H at hP hS ⊢
  have hP : va_P (xD g) vwCl [(h0, .inr (9, [.int 0, m1, m2, .int 0, m4, m5, m6, m7, .int 0, m9, m10, m11, m12, m13, m14, .int 0, m16, m17, m18, m19, m20, m21, m22, m23, .int 0, m25, m26, m27, m28, m29, m30, m31, m32, m33, m34, m35, m36, m37, .int 0, m39, .int 0, m41, m42, m43, m44, m45, m46, m47, m48, .int 0]))] H := hP
  have hD : va_D A [(h0, .inr (9, [.int 0, m1, m2, .int 0, m4, m5, m6, m7, .int 0, m9, m10, m11, m12, m13, m14, .int 0, m16, m17, m18, m19, m20, m21, m22, m23, .int 0, m25, m26, m27, m28, m29, m30, m31, m32, m33, m34, m35, m36, m37, .int 0, m39, .int 0, m41, m42, m43, m44, m45, m46, m47, m48, .int 0]))] := hD
  try dsimp only at hw_3
  obtain rfl : r_1 = (1798744 : Int64) := hw_3.trans (by decide)
  refine lv_aload_n hx hb dX9_digest_16 rfl (lv_at hl 0 rfl) ?_
  refine va_get (D := xD g) (ci := 9) (v := .int 0) (C := RX9) (T := TX9) (N := 50) hx hb hts hFX9 hown hK hP 0 rfl rfl 8 (by decide) (hts (.fieldLink RX9 155 "StevedoreModel" "containers" "I") (by decide +kernel)) (fun _ h9 => h9) rfl dX9_digest_17 ?_
  refine lv_i2l (v := 0) hx hb dX9_digest_20 (by decide) ?_
  have hPc := hP.sub (ws' := []) [] rfl
  have hDc := hD.sub (ws' := []) [] (by decide) rfl
  have hFc := xFree hS hA
  refine va_calll (va_runS (As := [.long 1798744, .long 0]) (rest := []) ⟨hx, hb, hml, hown, hts⟩ (m_add l g H.size 1798744 0) (va_cwS 2 hts gX9_digest_X9_add_ rfl rfl rfl (by decide +kernel) ⟨Nat.le_of_ble_eq_true rfl, Nat.le_of_ble_eq_true rfl⟩) ⟨xB.blind, fun U9 hU9 hW9 => ⟨rfl, xB.mk hPc hK hDc hU9 hW9⟩⟩ rfl rfl hl.1 rfl (lv_room (Nat.le_of_ble_eq_true rfl)) dX9_digest_21 ⟨Nat.le_of_ble_eq_true rfl, Nat.le_of_ble_eq_true rfl⟩) hS (fun q _ h => hFc q h) hFc (fun r_4 u_5 t H1 locs ht hvm hw_6 hB hz1 hk1 hS => ?_)
  have hP := xSame hP hk1
  generalize H1 = H at hP hS ⊢
  have hP : va_P (xD g) vwCl [(h0, .inr (9, [.int 0, m1, m2, .int 0, m4, m5, m6, m7, .int 0, m9, m10, m11, m12, m13, m14, .int 0, m16, m17, m18, m19, m20, m21, m22, m23, .int 0, m25, m26, m27, m28, m29, m30, m31, m32, m33, m34, m35, m36, m37, .int 0, m39, .int 0, m41, m42, m43, m44, m45, m46, m47, m48, .int 0]))] H := hP
  have hD : va_D A [(h0, .inr (9, [.int 0, m1, m2, .int 0, m4, m5, m6, m7, .int 0, m9, m10, m11, m12, m13, m14, .int 0, m16, m17, m18, m19, m20, m21, m22, m23, .int 0, m25, m26, m27, m28, m29, m30, m31, m32, m33, m34, m35, m36, m37, .int 0, m39, .int 0, m41, m42, m43, m44, m45, m46, m47, m48, .int 0]))] := hD
  try dsimp only at hw_6
  obtain rfl : r_4 = (55761064 : Int64) := hw_6.trans (by decide)
  refine lv_aload_n hx hb dX9_digest_24 rfl (lv_at hl 0 rfl) ?_
  refine va_get (D := xD g) (ci := 9) (v := .int 0) (C := RX9) (T := TX9) (N := 50) hx hb hts hFX9 hown hK hP 0 rfl rfl 15 (by decide) (hts (.fieldLink RX9 161 "StevedoreModel" "stacks" "I") (by decide +kernel)) (fun _ h9 => h9) rfl dX9_digest_25 ?_
  refine lv_i2l (v := 0) hx hb dX9_digest_28 (by decide) ?_
  have hPc := hP.sub (ws' := []) [] rfl
  have hDc := hD.sub (ws' := []) [] (by decide) rfl
  have hFc := xFree hS hA
  refine va_calll (va_runS (As := [.long 55761064, .long 0]) (rest := []) ⟨hx, hb, hml, hown, hts⟩ (m_add l g H.size 55761064 0) (va_cwS 2 hts gX9_digest_X9_add_ rfl rfl rfl (by decide +kernel) ⟨Nat.le_of_ble_eq_true rfl, Nat.le_of_ble_eq_true rfl⟩) ⟨xB.blind, fun U9 hU9 hW9 => ⟨rfl, xB.mk hPc hK hDc hU9 hW9⟩⟩ rfl rfl hl.1 rfl (lv_room (Nat.le_of_ble_eq_true rfl)) dX9_digest_29 ⟨Nat.le_of_ble_eq_true rfl, Nat.le_of_ble_eq_true rfl⟩) hS (fun q _ h => hFc q h) hFc (fun r_7 u_8 t H1 locs ht hvm hw_9 hB hz1 hk1 hS => ?_)
  have hP := xSame hP hk1
  generalize H1 = H at hP hS ⊢
  have hP : va_P (xD g) vwCl [(h0, .inr (9, [.int 0, m1, m2, .int 0, m4, m5, m6, m7, .int 0, m9, m10, m11, m12, m13, m14, .int 0, m16, m17, m18, m19, m20, m21, m22, m23, .int 0, m25, m26, m27, m28, m29, m30, m31, m32, m33, m34, m35, m36, m37, .int 0, m39, .int 0, m41, m42, m43, m44, m45, m46, m47, m48, .int 0]))] H := hP
  have hD : va_D A [(h0, .inr (9, [.int 0, m1, m2, .int 0, m4, m5, m6, m7, .int 0, m9, m10, m11, m12, m13, m14, .int 0, m16, m17, m18, m19, m20, m21, m22, m23, .int 0, m25, m26, m27, m28, m29, m30, m31, m32, m33, m34, m35, m36, m37, .int 0, m39, .int 0, m41, m42, m43, m44, m45, m46, m47, m48, .int 0]))] := hD
  try dsimp only at hw_9
  obtain rfl : r_7 = (1728592984 : Int64) := hw_9.trans (by decide)
  refine lv_lstore_n (lv' := [(1, .long 1728592984), (0, .ref h0)]) hx hb dX9_digest_32 rfl hl (by decide) rfl (fun ls hl => ?_)
  refine lv_iconst (v := 0) hx hb dX9_digest_33 (by decide) ?_
  refine lv_istore_n (lv' := [(3, .int 0), (1, .long 1728592984), (0, .ref h0)]) hx hb dX9_digest_34 rfl hl (by decide) rfl (fun ls hl => ?_)
  refine lv_iload_n hx hb dX9_digest_35 rfl (lv_at hl 0 rfl) ?_
  refine lv_aload_n hx hb dX9_digest_36 rfl (lv_at hl 2 rfl) ?_
  refine va_get (D := xD g) (ci := 9) (v := .int 0) (C := RX9) (T := TX9) (N := 50) hx hb hts hFX9 hown hK hP 0 rfl rfl 3 (by decide) (hts (.fieldLink RX9 144 "StevedoreModel" "vessels" "I") (by decide +kernel)) (fun _ h9 => h9) rfl dX9_digest_37 ?_
  refine lv_icmp_ge (tgt := 176) hx hb dX9_digest_40 (by decide) (fun _ => ?_) (fun c0 => absurd (by decide) c0)
  refine lv_lload_n hx hb dX9_digest_176 rfl (lv_at hl 1 rfl) ?_
  refine lv_aload_n hx hb dX9_digest_177 rfl (lv_at hl 2 rfl) ?_
  refine va_get (D := xD g) (ci := 9) (v := .int 0) (C := RX9) (T := TX9) (N := 50) hx hb hts hFX9 hown hK hP 0 rfl rfl 24 (by decide) (hts (.fieldLink RX9 118 "StevedoreModel" "isPlanned" "Z") (by decide +kernel)) (fun _ h9 => h9) rfl dX9_digest_178 ?_
  refine lv_if_eq (tgt := 188) hx hb dX9_digest_181 (by decide) (fun _ => ?_) (fun c0 => absurd (by decide) c0)
  refine lv_lconst (v := 0) hx hb dX9_digest_188 (by decide) ?_
  have hPc := hP.sub (ws' := []) [] rfl
  have hDc := hD.sub (ws' := []) [] (by decide) rfl
  have hFc := xFree hS hA
  refine va_calll (va_runS (As := [.long 1728592984, .long 0]) (rest := []) ⟨hx, hb, hml, hown, hts⟩ (m_add l g H.size 1728592984 0) (va_cwS 2 hts gX9_digest_X9_add_ rfl rfl rfl (by decide +kernel) ⟨Nat.le_of_ble_eq_true rfl, Nat.le_of_ble_eq_true rfl⟩) ⟨xB.blind, fun U9 hU9 hW9 => ⟨rfl, xB.mk hPc hK hDc hU9 hW9⟩⟩ rfl rfl hl.1 rfl (lv_room (Nat.le_of_ble_eq_true rfl)) dX9_digest_189 ⟨Nat.le_of_ble_eq_true rfl, Nat.le_of_ble_eq_true rfl⟩) hS (fun q _ h => hFc q h) hFc (fun r_10 u_11 t H1 locs ht hvm hw_12 hB hz1 hk1 hS => ?_)
  have hP := xSame hP hk1
  generalize H1 = H at hP hS ⊢
  have hP : va_P (xD g) vwCl [(h0, .inr (9, [.int 0, m1, m2, .int 0, m4, m5, m6, m7, .int 0, m9, m10, m11, m12, m13, m14, .int 0, m16, m17, m18, m19, m20, m21, m22, m23, .int 0, m25, m26, m27, m28, m29, m30, m31, m32, m33, m34, m35, m36, m37, .int 0, m39, .int 0, m41, m42, m43, m44, m45, m46, m47, m48, .int 0]))] H := hP
  have hD : va_D A [(h0, .inr (9, [.int 0, m1, m2, .int 0, m4, m5, m6, m7, .int 0, m9, m10, m11, m12, m13, m14, .int 0, m16, m17, m18, m19, m20, m21, m22, m23, .int 0, m25, m26, m27, m28, m29, m30, m31, m32, m33, m34, m35, m36, m37, .int 0, m39, .int 0, m41, m42, m43, m44, m45, m46, m47, m48, .int 0]))] := hD
  try dsimp only at hw_12
  obtain rfl : r_10 = (53586382504 : Int64) := hw_12.trans (by decide)
  refine lv_lstore_n (lv' := [(1, .long 53586382504), (3, .int 0), (0, .ref h0)]) hx hb dX9_digest_192 rfl hl (by decide) rfl (fun ls hl => ?_)
  refine lv_aload_n hx hb dX9_digest_193 rfl (lv_at hl 2 rfl) ?_
  refine va_get (D := xD g) (ci := 9) (v := .int 0) (C := RX9) (T := TX9) (N := 50) hx hb hts hFX9 hown hK hP 0 rfl rfl 24 (by decide) (hts (.fieldLink RX9 118 "StevedoreModel" "isPlanned" "Z") (by decide +kernel)) (fun _ h9 => h9) rfl dX9_digest_194 ?_
  refine lv_if_eq (tgt := 293) hx hb dX9_digest_197 (by decide) (fun _ => ?_) (fun c0 => absurd (by decide) c0)
  refine lv_iconst (v := 0) hx hb dX9_digest_293 (by decide) ?_
  refine lv_istore_n (lv' := [(3, .int 0), (1, .long 53586382504), (0, .ref h0)]) hx hb dX9_digest_294 rfl hl (by decide) rfl (fun ls hl => ?_)
  refine lv_aload_n hx hb dX9_digest_295 rfl (lv_at hl 2 rfl) ?_
  refine va_get (D := xD g) (ci := 9) (v := .int 0) (C := RX9) (T := TX9) (N := 50) hx hb hts hFX9 hown hK hP 0 rfl rfl 38 (by decide) (hts (.fieldLink RX9 125 "StevedoreModel" "hasSlots" "Z") (by decide +kernel)) (fun _ h9 => h9) rfl dX9_digest_296 ?_
  refine lv_if_eq (tgt := 328) hx hb dX9_digest_299 (by decide) (fun _ => ?_) (fun c0 => absurd (by decide) c0)
  refine lv_lload_n hx hb dX9_digest_328 rfl (lv_at hl 1 rfl) ?_
  refine lv_aload_n hx hb dX9_digest_329 rfl (lv_at hl 2 rfl) ?_
  refine va_get (D := xD g) (ci := 9) (v := .int 0) (C := RX9) (T := TX9) (N := 50) hx hb hts hFX9 hown hK hP 0 rfl rfl 40 (by decide) (hts (.fieldLink RX9 128 "StevedoreModel" "events" "I") (by decide +kernel)) (fun _ h9 => h9) rfl dX9_digest_330 ?_
  refine lv_i2l (v := 0) hx hb dX9_digest_333 (by decide) ?_
  have hPc := hP.sub (ws' := []) [] rfl
  have hDc := hD.sub (ws' := []) [] (by decide) rfl
  have hFc := xFree hS hA
  refine va_calll (va_runS (As := [.long 53586382504, .long 0]) (rest := []) ⟨hx, hb, hml, hown, hts⟩ (m_add l g H.size 53586382504 0) (va_cwS 2 hts gX9_digest_X9_add_ rfl rfl rfl (by decide +kernel) ⟨Nat.le_of_ble_eq_true rfl, Nat.le_of_ble_eq_true rfl⟩) ⟨xB.blind, fun U9 hU9 hW9 => ⟨rfl, xB.mk hPc hK hDc hU9 hW9⟩⟩ rfl rfl hl.1 rfl (lv_room (Nat.le_of_ble_eq_true rfl)) dX9_digest_334 ⟨Nat.le_of_ble_eq_true rfl, Nat.le_of_ble_eq_true rfl⟩) hS (fun q _ h => hFc q h) hFc (fun r_13 u_14 t H1 locs ht hvm hw_15 hB hz1 hk1 hS => ?_)
  have hP := xSame hP hk1
  generalize H1 = H at hP hS ⊢
  have hP : va_P (xD g) vwCl [(h0, .inr (9, [.int 0, m1, m2, .int 0, m4, m5, m6, m7, .int 0, m9, m10, m11, m12, m13, m14, .int 0, m16, m17, m18, m19, m20, m21, m22, m23, .int 0, m25, m26, m27, m28, m29, m30, m31, m32, m33, m34, m35, m36, m37, .int 0, m39, .int 0, m41, m42, m43, m44, m45, m46, m47, m48, .int 0]))] H := hP
  have hD : va_D A [(h0, .inr (9, [.int 0, m1, m2, .int 0, m4, m5, m6, m7, .int 0, m9, m10, m11, m12, m13, m14, .int 0, m16, m17, m18, m19, m20, m21, m22, m23, .int 0, m25, m26, m27, m28, m29, m30, m31, m32, m33, m34, m35, m36, m37, .int 0, m39, .int 0, m41, m42, m43, m44, m45, m46, m47, m48, .int 0]))] := hD
  try dsimp only at hw_15
  obtain rfl : r_13 = (1661177857624 : Int64) := hw_15.trans (by decide)
  refine lv_lstore_n (lv' := [(1, .long 1661177857624), (3, .int 0), (0, .ref h0)]) hx hb dX9_digest_337 rfl hl (by decide) rfl (fun ls hl => ?_)
  refine lv_iconst (v := 0) hx hb dX9_digest_338 (by decide) ?_
  refine lv_istore_n (lv' := [(3, .int 0), (1, .long 1661177857624), (0, .ref h0)]) hx hb dX9_digest_339 rfl hl (by decide) rfl (fun ls hl => ?_)
  refine lv_iload_n hx hb dX9_digest_340 rfl (lv_at hl 0 rfl) ?_
  refine lv_aload_n hx hb dX9_digest_341 rfl (lv_at hl 2 rfl) ?_
  refine va_get (D := xD g) (ci := 9) (v := .int 0) (C := RX9) (T := TX9) (N := 50) hx hb hts hFX9 hown hK hP 0 rfl rfl 40 (by decide) (hts (.fieldLink RX9 128 "StevedoreModel" "events" "I") (by decide +kernel)) (fun _ h9 => h9) rfl dX9_digest_342 ?_
  refine lv_icmp_ge (tgt := 386) hx hb dX9_digest_345 (by decide) (fun _ => ?_) (fun c0 => absurd (by decide) c0)
  refine lv_iconst (v := 0) hx hb dX9_digest_386 (by decide) ?_
  refine lv_istore_n (lv' := [(3, .int 0), (1, .long 1661177857624), (0, .ref h0)]) hx hb dX9_digest_387 rfl hl (by decide) rfl (fun ls hl => ?_)
  refine lv_iload_n hx hb dX9_digest_388 rfl (lv_at hl 0 rfl) ?_
  refine lv_aload_n hx hb dX9_digest_389 rfl (lv_at hl 2 rfl) ?_
  refine va_get (D := xD g) (ci := 9) (v := .int 0) (C := RX9) (T := TX9) (N := 50) hx hb hts hFX9 hown hK hP 0 rfl rfl 8 (by decide) (hts (.fieldLink RX9 155 "StevedoreModel" "containers" "I") (by decide +kernel)) (fun _ h9 => h9) rfl dX9_digest_390 ?_
  refine lv_icmp_ge (tgt := 423) hx hb dX9_digest_393 (by decide) (fun _ => ?_) (fun c0 => absurd (by decide) c0)
  refine lv_iconst (v := 0) hx hb dX9_digest_423 (by decide) ?_
  refine lv_istore_n (lv' := [(3, .int 0), (1, .long 1661177857624), (0, .ref h0)]) hx hb dX9_digest_424 rfl hl (by decide) rfl (fun ls hl => ?_)
  refine lv_iload_n hx hb dX9_digest_425 rfl (lv_at hl 0 rfl) ?_
  refine lv_aload_n hx hb dX9_digest_426 rfl (lv_at hl 2 rfl) ?_
  refine va_get (D := xD g) (ci := 9) (v := .int 0) (C := RX9) (T := TX9) (N := 50) hx hb hts hFX9 hown hK hP 0 rfl rfl 15 (by decide) (hts (.fieldLink RX9 161 "StevedoreModel" "stacks" "I") (by decide +kernel)) (fun _ h9 => h9) rfl dX9_digest_427 ?_
  refine lv_icmp_ge (tgt := 488) hx hb dX9_digest_430 (by decide) (fun _ => ?_) (fun c0 => absurd (by decide) c0)
  refine lv_lload_n hx hb dX9_digest_488 rfl (lv_at hl 1 rfl) ?_
  refine lv_aload_n hx hb dX9_digest_489 rfl (lv_at hl 2 rfl) ?_
  refine va_get (D := xD g) (ci := 9) (v := .int 0) (C := RX9) (T := TX9) (N := 50) hx hb hts hFX9 hown hK hP 0 rfl rfl 49 (by decide) (hts (.fieldLink RX9 321 "StevedoreModel" "reshuffles" "I") (by decide +kernel)) (fun _ h9 => h9) rfl dX9_digest_490 ?_
  refine lv_i2l (v := 0) hx hb dX9_digest_493 (by decide) ?_
  have hPc := hP.sub (ws' := []) [] rfl
  have hDc := hD.sub (ws' := []) [] (by decide) rfl
  have hFc := xFree hS hA
  refine va_calll (va_runS (As := [.long 1661177857624, .long 0]) (rest := []) ⟨hx, hb, hml, hown, hts⟩ (m_add l g H.size 1661177857624 0) (va_cwS 2 hts gX9_digest_X9_add_ rfl rfl rfl (by decide +kernel) ⟨Nat.le_of_ble_eq_true rfl, Nat.le_of_ble_eq_true rfl⟩) ⟨xB.blind, fun U9 hU9 hW9 => ⟨rfl, xB.mk hPc hK hDc hU9 hW9⟩⟩ rfl rfl hl.1 rfl (lv_room (Nat.le_of_ble_eq_true rfl)) dX9_digest_494 ⟨Nat.le_of_ble_eq_true rfl, Nat.le_of_ble_eq_true rfl⟩) hS (fun q _ h => hFc q h) hFc (fun r_16 u_17 t H1 locs ht hvm hw_18 hB hz1 hk1 hS => ?_)
  have hP := xSame hP hk1
  generalize H1 = H at hP hS ⊢
  have hP : va_P (xD g) vwCl [(h0, .inr (9, [.int 0, m1, m2, .int 0, m4, m5, m6, m7, .int 0, m9, m10, m11, m12, m13, m14, .int 0, m16, m17, m18, m19, m20, m21, m22, m23, .int 0, m25, m26, m27, m28, m29, m30, m31, m32, m33, m34, m35, m36, m37, .int 0, m39, .int 0, m41, m42, m43, m44, m45, m46, m47, m48, .int 0]))] H := hP
  have hD : va_D A [(h0, .inr (9, [.int 0, m1, m2, .int 0, m4, m5, m6, m7, .int 0, m9, m10, m11, m12, m13, m14, .int 0, m16, m17, m18, m19, m20, m21, m22, m23, .int 0, m25, m26, m27, m28, m29, m30, m31, m32, m33, m34, m35, m36, m37, .int 0, m39, .int 0, m41, m42, m43, m44, m45, m46, m47, m48, .int 0]))] := hD
  try dsimp only at hw_18
  obtain rfl : r_16 = (51496513586344 : Int64) := hw_18.trans (by decide)
  refine lv_aload_n hx hb dX9_digest_497 rfl (lv_at hl 2 rfl) ?_
  have hPc := hP.sub (ws' := [(h0, .inr (9, [.int 0, m1, m2, .int 0, m4, m5, m6, m7, .int 0, m9, m10, m11, m12, m13, m14, .int 0, m16, m17, m18, m19, m20, m21, m22, m23, .int 0, m25, m26, m27, m28, m29, m30, m31, m32, m33, m34, m35, m36, m37, .int 0, m39, .int 0, m41, m42, m43, m44, m45, m46, m47, m48, .int 0]))]) [0] rfl
  have hDc := hD.sub (ws' := [(h0, .inr (9, [.int 0, m1, m2, .int 0, m4, m5, m6, m7, .int 0, m9, m10, m11, m12, m13, m14, .int 0, m16, m17, m18, m19, m20, m21, m22, m23, .int 0, m25, m26, m27, m28, m29, m30, m31, m32, m33, m34, m35, m36, m37, .int 0, m39, .int 0, m41, m42, m43, m44, m45, m46, m47, m48, .int 0]))]) [0] (by decide) rfl
  have hFc := xFree hS hA
  refine va_calli (va_runV (As := []) (rest := [.long 51496513586344]) ⟨hx, hb, hml, hown, hts⟩ (m0_blockingNow l g H.size h0 (.int 0) m1 m2 (.int 0) m4 m5 m6 m7 (.int 0) m9 m10 m11 m12 m13 m14 m16 m17 m18 m19 m20 m21 m22 m23 (.int 0) m25 m26 m27 m28 m29 m30 m31 m32 m33 m34 m35 m36 m37 (.int 0) m39 (.int 0) m41 m42 m43 m44 m45 m46 m47 m48 (.int 0)) (cwV 0 hts gX9_digest_X9_blockingNow rfl rfl rfl (by decide +kernel) ⟨Nat.le_of_ble_eq_true rfl, Nat.le_of_ble_eq_true rfl⟩) ⟨xB.blind, va_recv hK hPc (ci := 9) (q0 := 0) rfl rfl, fun U9 hU9 hW9 => ⟨rfl, xB.mk hPc hK hDc hU9 hW9⟩⟩ rfl rfl hl.1 rfl (lv_room (Nat.le_of_ble_eq_true rfl)) dX9_digest_498 ⟨Nat.le_of_ble_eq_true rfl, Nat.le_of_ble_eq_true rfl⟩) hS (fun q _ h => hFc q h) hFc (fun r_19 u_20 t H1 locs ht hvm hw_21 hB hz1 hk1 hS => ?_)
  have hP := xSame hP hk1
  generalize H1 = H at hP hS ⊢
  have hP : va_P (xD g) vwCl [(h0, .inr (9, [.int 0, m1, m2, .int 0, m4, m5, m6, m7, .int 0, m9, m10, m11, m12, m13, m14, .int 0, m16, m17, m18, m19, m20, m21, m22, m23, .int 0, m25, m26, m27, m28, m29, m30, m31, m32, m33, m34, m35, m36, m37, .int 0, m39, .int 0, m41, m42, m43, m44, m45, m46, m47, m48, .int 0]))] H := hP
  have hD : va_D A [(h0, .inr (9, [.int 0, m1, m2, .int 0, m4, m5, m6, m7, .int 0, m9, m10, m11, m12, m13, m14, .int 0, m16, m17, m18, m19, m20, m21, m22, m23, .int 0, m25, m26, m27, m28, m29, m30, m31, m32, m33, m34, m35, m36, m37, .int 0, m39, .int 0, m41, m42, m43, m44, m45, m46, m47, m48, .int 0]))] := hD
  try dsimp only at hw_21
  obtain rfl := hw_21
  refine lv_i2l (v := 0) hx hb dX9_digest_501 (by decide) ?_
  have hPc := hP.sub (ws' := []) [] rfl
  have hDc := hD.sub (ws' := []) [] (by decide) rfl
  have hFc := xFree hS hA
  refine va_calll (va_runS (As := [.long 51496513586344, .long 0]) (rest := []) ⟨hx, hb, hml, hown, hts⟩ (m_add l g H.size 51496513586344 0) (va_cwS 2 hts gX9_digest_X9_add_ rfl rfl rfl (by decide +kernel) ⟨Nat.le_of_ble_eq_true rfl, Nat.le_of_ble_eq_true rfl⟩) ⟨xB.blind, fun U9 hU9 hW9 => ⟨rfl, xB.mk hPc hK hDc hU9 hW9⟩⟩ rfl rfl hl.1 rfl (lv_room (Nat.le_of_ble_eq_true rfl)) dX9_digest_502 ⟨Nat.le_of_ble_eq_true rfl, Nat.le_of_ble_eq_true rfl⟩) hS (fun q _ h => hFc q h) hFc (fun r_22 u_23 t H1 locs ht hvm hw_24 hB hz1 hk1 hS => ?_)
  have hP := xSame hP hk1
  generalize H1 = H at hP hS ⊢
  have hP : va_P (xD g) vwCl [(h0, .inr (9, [.int 0, m1, m2, .int 0, m4, m5, m6, m7, .int 0, m9, m10, m11, m12, m13, m14, .int 0, m16, m17, m18, m19, m20, m21, m22, m23, .int 0, m25, m26, m27, m28, m29, m30, m31, m32, m33, m34, m35, m36, m37, .int 0, m39, .int 0, m41, m42, m43, m44, m45, m46, m47, m48, .int 0]))] H := hP
  have hD : va_D A [(h0, .inr (9, [.int 0, m1, m2, .int 0, m4, m5, m6, m7, .int 0, m9, m10, m11, m12, m13, m14, .int 0, m16, m17, m18, m19, m20, m21, m22, m23, .int 0, m25, m26, m27, m28, m29, m30, m31, m32, m33, m34, m35, m36, m37, .int 0, m39, .int 0, m41, m42, m43, m44, m45, m46, m47, m48, .int 0]))] := hD
  try dsimp only at hw_24
  obtain rfl : r_22 = (1596391921176664 : Int64) := hw_24.trans (by decide)
  have hP9 := hP.sub (ws' := [(h0, .inr (9, [.int 0, m1, m2, .int 0, m4, m5, m6, m7, .int 0, m9, m10, m11, m12, m13, m14, .int 0, m16, m17, m18, m19, m20, m21, m22, m23, .int 0, m25, m26, m27, m28, m29, m30, m31, m32, m33, m34, m35, m36, m37, .int 0, m39, .int 0, m41, m42, m43, m44, m45, m46, m47, m48, .int 0]))]) [0] rfl
  have hD9 := hD.sub (ws' := [(h0, .inr (9, [.int 0, m1, m2, .int 0, m4, m5, m6, m7, .int 0, m9, m10, m11, m12, m13, m14, .int 0, m16, m17, m18, m19, m20, m21, m22, m23, .int 0, m25, m26, m27, m28, m29, m30, m31, m32, m33, m34, m35, m36, m37, .int 0, m39, .int 0, m41, m42, m43, m44, m45, m46, m47, m48, .int 0]))]) [0] (by decide) rfl
  exact W.lret (v := 1596391921176664) hx hb hr (fun t ht hW => ⟨⟨1596391921176664, 0, rfl, ⟨rfl, rfl⟩, ⟨m1, m2, (.int 0), m4, m5, m6, m7, (.int 0), m9, m10, m11, m12, m13, m14, (.int 0), m16, m17, m18, m19, m20, m21, m22, m23, (.int 0), m25, m26, m27, m28, m29, m30, m31, m32, m33, m34, m35, m36, m37, (.int 0), m39, (.int 0), m41, m42, m43, m44, m45, m46, m47, m48, (.int 0), by rw [ht]; exact hP9, va_K.moved hW.alike hK, hD9⟩⟩, hS.F ht⟩) hS.2.2 dX9_digest_505
