theorem dX9_setVessel_0 : decode cX9_setVessel 0 = .ok (.aload_n 0, 1) := by decide +kernel
theorem dX9_setVessel_1 : decode cX9_setVessel 1 = .ok (.iload_n 1, 1) := by decide +kernel
theorem dX9_setVessel_2 : decode cX9_setVessel 2 = .ok (.invokevirtual 147, 3) := by decide +kernel
set_option maxRecDepth 20000 in
theorem ggX9_setVessel_X9_isNoVessel : GoodIn wsX9_setVessel wsX9_isNoVessel := goodIn_r _ [7, 8, 9, 10, 6, 11, 12, 13, 14, 15, 16, 17, 18, 19, 20, 42, 43, 44, 45, 46, 47, 48, 49, 50, 51, 52, 53, 54, 55, 56, 57, 58, 59, 60, 61, 62, 63, 64, 65, 66, 67, 68, 69, 70, 71, 72, 73, 74, 75, 76, 77, 78, 79, 80, 81, 82, 83, 84, 85, 86, 87, 88, 89, 90, 91] rfl (by decide +kernel)
set_option maxRecDepth 20000 in
theorem gX9_setVessel_X9_isNoVessel : GoodIn wsX9_setVessel (wsV RX9 147 RX9 yX9_isNoVessel wsX9_isNoVessel) := goodIn_app (goodIn_of _ (by decide +kernel)) ggX9_setVessel_X9_isNoVessel
theorem dX9_setVessel_5 : decode cX9_setVessel 5 = .ok (.ifCond .ne 36, 3) := by decide +kernel
theorem dX9_setVessel_41 : decode cX9_setVessel 41 = .ok (.iconst 0, 1) := by decide +kernel
theorem dX9_setVessel_42 : decode cX9_setVessel 42 = .ok (.ireturn, 1) := by decide +kernel
set_option maxHeartbeats 4000000 in
set_option maxRecDepth 100000 in
theorem m0_setVessel (l : Launch) (g : xG) (sz : Nat) (h0 : Nat) (m0 : Value) (m1 : Value) (m2 : Value) (m4 : Value) (m5 : Value) (m6 : Value) (m7 : Value) (m8 : Value) (m9 : Value) (m10 : Value) (m11 : Value) (m12 : Value) (m13 : Value) (m14 : Value) (m15 : Value) (m16 : Value) (m17 : Value) (m18 : Value) (m19 : Value) (m20 : Value) (m21 : Value) (m22 : Value) (m23 : Value) (m24 : Value) (m25 : Value) (m26 : Value) (m27 : Value) (m28 : Value) (m29 : Value) (m30 : Value) (m31 : Value) (m32 : Value) (m33 : Value) (m34 : Value) (m35 : Value) (m36 : Value) (m37 : Value) (m38 : Value) (m39 : Value) (m40 : Value) (m41 : Value) (m42 : Value) (m43 : Value) (m44 : Value) (m45 : Value) (m46 : Value) (m47 : Value) (m48 : Value) (m49 : Value) (p0 : Int32) (p1 : Int32) (p2 : Int32)  : Met l yX9_setVessel wsX9_setVessel ({ frames := 3, cells := 0, slots := 0, locals := 65 }) (va_Pc [.ref h0, .int p0, .int p1, .int p2] (fun U => xB g [(h0, .inr (9, [m0, m1, m2, .int 0, m4, m5, m6, m7, m8, m9, m10, m11, m12, m13, m14, m15, m16, m17, m18, m19, m20, m21, m22, m23, m24, m25, m26, m27, m28, m29, m30, m31, m32, m33, m34, m35, m36, m37, m38, m39, m40, m41, m42, m43, m44, m45, m46, m47, m48, m49]))] sz U)) (va_Qi (fun (r : Int32) (u : Int32) => u = 1 ∧ r = 0) (fun (u : Int32) (t : State) => ∃ (w1 : Value) (w2 : Value) (w3 : Value) (w4 : Value) (w5 : Value) (w6 : Value) (w7 : Value) (w8 : Value) (w9 : Value) (w10 : Value) (w11 : Value) (w12 : Value) (w13 : Value) (w14 : Value) (w15 : Value) (w16 : Value) (w17 : Value) (w18 : Value) (w19 : Value) (w20 : Value) (w21 : Value) (w22 : Value) (w23 : Value) (w24 : Value) (w25 : Value) (w26 : Value) (w27 : Value) (w28 : Value) (w29 : Value) (w30 : Value) (w31 : Value) (w32 : Value) (w33 : Value) (w34 : Value) (w35 : Value) (w36 : Value) (w37 : Value) (w38 : Value) (w39 : Value) (w40 : Value) (w41 : Value) (w42 : Value) (w43 : Value) (w44 : Value) (w45 : Value) (w46 : Value) (w47 : Value) (w48 : Value) (w49 : Value), xE g [(h0, .inr (9, [.int u, w1, w2, w3, w4, w5, w6, w7, w8, w9, w10, w11, w12, w13, w14, w15, w16, w17, w18, w19, w20, w21, w22, w23, w24, w25, w26, w27, w28, w29, w30, w31, w32, w33, w34, w35, w36, w37, w38, w39, w40, w41, w42, w43, w44, w45, w46, w47, w48, w49]))] (va_A [(h0, .inr (9, [m0, m1, m2, .int 0, m4, m5, m6, m7, m8, m9, m10, m11, m12, m13, m14, m15, m16, m17, m18, m19, m20, m21, m22, m23, m24, m25, m26, m27, m28, m29, m30, m31, m32, m33, m34, m35, m36, m37, m38, m39, m40, m41, m42, m43, m44, m45, m46, m47, m48, m49]))] sz) t) (va_A [(h0, .inr (9, [m0, m1, m2, .int 0, m4, m5, m6, m7, m8, m9, m10, m11, m12, m13, m14, m15, m16, m17, m18, m19, m20, m21, m22, m23, m24, m25, m26, m27, m28, m29, m30, m31, m32, m33, m34, m35, m36, m37, m38, m39, m40, m41, m42, m43, m44, m45, m46, m47, m48, m49]))] sz)) 0 0 (va_A [(h0, .inr (9, [m0, m1, m2, .int 0, m4, m5, m6, m7, m8, m9, m10, m11, m12, m13, m14, m15, m16, m17, m18, m19, m20, m21, m22, m23, m24, m25, m26, m27, m28, m29, m30, m31, m32, m33, m34, m35, m36, m37, m38, m39, m40, m41, m42, m43, m44, m45, m46, m47, m48, m49]))] sz) := by
  refine Met.ofW (cc := cX9_setVessel) (maxL := 5) (ret := (some .int)) (by decide) rfl ?_
  intro p e s m args below meth c s₁ B hml hv
  obtain ⟨rfl, ⟨hsz, hP, hK, hD0⟩⟩ := hv
  have hx := B.exec
  have hb := B.bytes
  have hr := B.returns
  have hts := atoms_spec (ws := wsX9_setVessel) B.pre
  have hown : s.vm.findClass RX9 = some m.cls := findClass_of_methodNamed B.named
  have hlocks := B.notSynchronized
  subst hsz
  have hD := hD0.self (sz := s.heap.size)
  generalize hAe : va_A [(h0, .inr (9, [m0, m1, m2, .int 0, m4, m5, m6, m7, m8, m9, m10, m11, m12, m13, m14, m15, m16, m17, m18, m19, m20, m21, m22, m23, m24, m25, m26, m27, m28, m29, m30, m31, m32, m33, m34, m35, m36, m37, m38, m39, m40, m41, m42, m43, m44, m45, m46, m47, m48, m49]))] s.heap.size = A at hD ⊢
  have hA : ∀ q : Nat, s.heap.size ≤ q → A q := fun q h => by rw [← hAe]; exact Or.inr h
  have hS : va_S A s.heap s.heap [] := va_S.rf
  have hl := lv_entry ([.ref h0, .int p0, .int p1, .int p2]) (n := 5) (Nat.le_of_ble_eq_true rfl)
  rw [lg_entry_eq]
  generalize (lg_sl ([.ref h0, .int p0, .int p1, .int p2]) ++ List.replicate (5 - (lg_sl ([.ref h0, .int p0, .int p1, .int p2])).length) Slot.unset).toArray = ls at hl ⊢
  have hl : lv_has ls 5 [(0, .ref h0), (1, .int p0), (2, .int p1), (3, .int p2)] := hl
  refine lv_aload_n hx hb dX9_setVessel_0 rfl (lv_at hl 0 rfl) ?_
  refine lv_iload_n hx hb dX9_setVessel_1 rfl (lv_at hl 1 rfl) ?_
  have hPc := hP.sub (ws' := [(h0, .inr (9, [m0, m1, m2, .int 0, m4, m5, m6, m7, m8, m9, m10, m11, m12, m13, m14, m15, m16, m17, m18, m19, m20, m21, m22, m23, m24, m25, m26, m27, m28, m29, m30, m31, m32, m33, m34, m35, m36, m37, m38, m39, m40, m41, m42, m43, m44, m45, m46, m47, m48, m49]))]) [0] rfl
  have hDc := hD.sub (ws' := [(h0, .inr (9, [m0, m1, m2, .int 0, m4, m5, m6, m7, m8, m9, m10, m11, m12, m13, m14, m15, m16, m17, m18, m19, m20, m21, m22, m23, m24, m25, m26, m27, m28, m29, m30, m31, m32, m33, m34, m35, m36, m37, m38, m39, m40, m41, m42, m43, m44, m45, m46, m47, m48, m49]))]) [0] (by decide) rfl
  have hFc := va_free (wc := [(h0, .inr (9, [m0, m1, m2, .int 0, m4, m5, m6, m7, m8, m9, m10, m11, m12, m13, m14, m15, m16, m17, m18, m19, m20, m21, m22, m23, m24, m25, m26, m27, m28, m29, m30, m31, m32, m33, m34, m35, m36, m37, m38, m39, m40, m41, m42, m43, m44, m45, m46, m47, m48, m49]))]) hD hS hA [0] rfl
  refine va_calli (va_runV (As := [.int p0]) (rest := []) ⟨hx, hb, hml, hown, hts⟩ (m0_isNoVessel l g s.heap.size h0 m0 m1 m2 m4 m5 m6 m7 m8 m9 m10 m11 m12 m13 m14 m15 m16 m17 m18 m19 m20 m21 m22 m23 m24 m25 m26 m27 m28 m29 m30 m31 m32 m33 m34 m35 m36 m37 m38 m39 m40 m41 m42 m43 m44 m45 m46 m47 m48 m49 p0) (cwV 1 hts gX9_setVessel_X9_isNoVessel rfl rfl rfl (by decide +kernel) ⟨Nat.le_of_ble_eq_true rfl, Nat.le_of_ble_eq_true rfl⟩) ⟨xB.blind, va_recv hK hPc (ci := 9) (q0 := 0) rfl rfl, fun U9 hU9 hW9 => ⟨rfl, xB.mk hPc hK hDc hU9 hW9⟩⟩ rfl rfl hl.1 rfl (lv_room (Nat.le_of_ble_eq_true rfl)) dX9_setVessel_2 ⟨Nat.le_of_ble_eq_true rfl, Nat.le_of_ble_eq_true rfl⟩) hS (fun q _ h => hFc q h) hFc (fun r_1 u_2 t H1 locs ht hvm hw_3 hB hz1 hk1 hS => ?_)
  obtain ⟨hP1, hK1, hD1⟩ := hB
  rw [ht] at hP1
  obtain ⟨hP, hD⟩ := va_join (wr := []) (w1 := [(h0, .inr (9, [.int 1, m1, m2, .int 0, m4, m5, m6, m7, m8, m9, m10, m11, m12, m13, m14, m15, m16, m17, m18, m19, m20, m21, m22, m23, m24, m25, m26, m27, m28, m29, m30, m31, m32, m33, m34, m35, m36, m37, m38, m39, m40, m41, m42, m43, m44, m45, m46, m47, m48, m49]))]) hP hD [0] [] rfl rfl (by decide) (by decide) hk1 hFc hP1 hD1
  generalize H1 = H at hP hS ⊢
  have hP : va_P (xD g) vwCl [(h0, .inr (9, [.int 1, m1, m2, .int 0, m4, m5, m6, m7, m8, m9, m10, m11, m12, m13, m14, m15, m16, m17, m18, m19, m20, m21, m22, m23, m24, m25, m26, m27, m28, m29, m30, m31, m32, m33, m34, m35, m36, m37, m38, m39, m40, m41, m42, m43, m44, m45, m46, m47, m48, m49]))] H := hP
  have hD : va_D A [(h0, .inr (9, [.int 1, m1, m2, .int 0, m4, m5, m6, m7, m8, m9, m10, m11, m12, m13, m14, m15, m16, m17, m18, m19, m20, m21, m22, m23, m24, m25, m26, m27, m28, m29, m30, m31, m32, m33, m34, m35, m36, m37, m38, m39, m40, m41, m42, m43, m44, m45, m46, m47, m48, m49]))] := hD
  try dsimp only at hw_3
  obtain rfl := hw_3
  refine lv_if_ne (tgt := 41) hx hb dX9_setVessel_5 (by decide) (fun _ => ?_) (fun c0 => absurd c0 (by decide))
  refine lv_iconst (v := 0) hx hb dX9_setVessel_41 (by decide) ?_
  have hP9 := hP.sub (ws' := [(h0, .inr (9, [.int 1, m1, m2, .int 0, m4, m5, m6, m7, m8, m9, m10, m11, m12, m13, m14, m15, m16, m17, m18, m19, m20, m21, m22, m23, m24, m25, m26, m27, m28, m29, m30, m31, m32, m33, m34, m35, m36, m37, m38, m39, m40, m41, m42, m43, m44, m45, m46, m47, m48, m49]))]) [0] rfl
  have hD9 := hD.sub (ws' := [(h0, .inr (9, [.int 1, m1, m2, .int 0, m4, m5, m6, m7, m8, m9, m10, m11, m12, m13, m14, m15, m16, m17, m18, m19, m20, m21, m22, m23, m24, m25, m26, m27, m28, m29, m30, m31, m32, m33, m34, m35, m36, m37, m38, m39, m40, m41, m42, m43, m44, m45, m46, m47, m48, m49]))]) [0] (by decide) rfl
  exact W.iret (v := 0) hx hb hr (fun t ht hW => ⟨⟨0, 1, rfl, ⟨rfl, rfl⟩, ⟨m1, m2, (.int 0), m4, m5, m6, m7, m8, m9, m10, m11, m12, m13, m14, m15, m16, m17, m18, m19, m20, m21, m22, m23, m24, m25, m26, m27, m28, m29, m30, m31, m32, m33, m34, m35, m36, m37, m38, m39, m40, m41, m42, m43, m44, m45, m46, m47, m48, m49, by rw [ht]; exact hP9, va_K.moved hW.alike hK, hD9⟩⟩, hS.F ht⟩) hS.2.2 dX9_setVessel_42
theorem dX9_ranges_0 : decode cX9_ranges 0 = .ok (.aload_n 0, 1) := by decide +kernel
theorem dX9_ranges_1 : decode cX9_ranges 1 = .ok (.iload_n 1, 1) := by decide +kernel
theorem dX9_ranges_2 : decode cX9_ranges 2 = .ok (.invokevirtual 210, 3) := by decide +kernel
set_option maxRecDepth 20000 in
theorem ggX9_ranges_X9_isLooked : GoodIn wsX9_ranges wsX9_isLooked := goodIn_r _ [6, 7, 8, 9, 5, 10, 11, 12, 13, 14, 15, 16, 17, 18, 19, 20, 21, 22, 23, 24, 25, 26, 27, 28, 29, 1, 30, 31, 32, 33, 34, 35, 36, 37, 38, 39, 40, 41, 42, 43, 44, 45, 46, 47, 48, 49, 50, 51, 52, 53, 54, 55, 56, 57, 58, 59, 60, 61, 62, 63, 64, 65, 66, 67, 68, 69, 70, 71, 72, 73, 74, 75, 76, 77, 78, 79, 80, 81, 82, 83, 84, 85, 86, 87, 88, 89, 90, 91, 92, 93, 94, 95, 96, 97, 98, 99, 100, 101, 102, 103, 104, 105, 106, 107, 108, 109, 110, 111] rfl (by decide +kernel)
set_option maxRecDepth 20000 in
theorem gX9_ranges_X9_isLooked : GoodIn wsX9_ranges (wsV RX9 210 RX9 yX9_isLooked wsX9_isLooked) := goodIn_app (goodIn_of _ (by decide +kernel)) ggX9_ranges_X9_isLooked
theorem dX9_ranges_5 : decode cX9_ranges 5 = .ok (.ifCond .eq 10, 3) := by decide +kernel
theorem dX9_ranges_15 : decode cX9_ranges 15 = .ok (.iconst 0, 1) := by decide +kernel
theorem dX9_ranges_16 : decode cX9_ranges 16 = .ok (.ireturn, 1) := by decide +kernel
set_option maxHeartbeats 4000000 in
set_option maxRecDepth 100000 in
theorem m0_ranges (l : Launch) (g : xG) (sz : Nat) (h0 : Nat) (m0 : Value) (m1 : Value) (m2 : Value) (m4 : Value) (m5 : Value) (m6 : Value) (m7 : Value) (m8 : Value) (m9 : Value) (m10 : Value) (m11 : Value) (m12 : Value) (m13 : Value) (m14 : Value) (m15 : Value) (m16 : Value) (m17 : Value) (m18 : Value) (m19 : Value) (m20 : Value) (m21 : Value) (m22 : Value) (m23 : Value) (m24 : Value) (m25 : Value) (m26 : Value) (m27 : Value) (m28 : Value) (m29 : Value) (m30 : Value) (m31 : Value) (m32 : Value) (m33 : Value) (m34 : Value) (m35 : Value) (m36 : Value) (m37 : Value) (m38 : Value) (m39 : Value) (m40 : Value) (m41 : Value) (m42 : Value) (m43 : Value) (m44 : Value) (m45 : Value) (m46 : Value) (m47 : Value) (m48 : Value) (m49 : Value) (p0 : Int32)  : Met l yX9_ranges wsX9_ranges ({ frames := 4, cells := 0, slots := 0, locals := 86 }) (va_Pc [.ref h0, .int p0] (fun U => xB g [(h0, .inr (9, [m0, m1, m2, .int 0, m4, m5, m6, m7, m8, m9, m10, m11, m12, m13, m14, m15, m16, m17, m18, m19, m20, m21, m22, m23, m24, m25, m26, m27, m28, m29, m30, m31, m32, m33, m34, m35, m36, m37, m38, m39, m40, m41, m42, m43, m44, m45, m46, m47, m48, m49]))] sz U)) (va_Qi (fun (r : Int32) (u : Int32) => u = 1 ∧ r = 0) (fun (u : Int32) (t : State) => ∃ (w1 : Value) (w2 : Value) (w3 : Value) (w4 : Value) (w5 : Value) (w6 : Value) (w7 : Value) (w8 : Value) (w9 : Value) (w10 : Value) (w11 : Value) (w12 : Value) (w13 : Value) (w14 : Value) (w15 : Value) (w16 : Value) (w17 : Value) (w18 : Value) (w19 : Value) (w20 : Value) (w21 : Value) (w22 : Value) (w23 : Value) (w24 : Value) (w25 : Value) (w26 : Value) (w27 : Value) (w28 : Value) (w29 : Value) (w30 : Value) (w31 : Value) (w32 : Value) (w33 : Value) (w34 : Value) (w35 : Value) (w36 : Value) (w37 : Value) (w38 : Value) (w39 : Value) (w40 : Value) (w41 : Value) (w42 : Value) (w43 : Value) (w44 : Value) (w45 : Value) (w46 : Value) (w47 : Value) (w48 : Value) (w49 : Value), xE g [(h0, .inr (9, [.int u, w1, w2, w3, w4, w5, w6, w7, w8, w9, w10, w11, w12, w13, w14, w15, w16, w17, w18, w19, w20, w21, w22, w23, w24, w25, w26, w27, w28, w29, w30, w31, w32, w33, w34, w35, w36, w37, w38, w39, w40, w41, w42, w43, w44, w45, w46, w47, w48, w49]))] (va_A [(h0, .inr (9, [m0, m1, m2, .int 0, m4, m5, m6, m7, m8, m9, m10, m11, m12, m13, m14, m15, m16, m17, m18, m19, m20, m21, m22, m23, m24, m25, m26, m27, m28, m29, m30, m31, m32, m33, m34, m35, m36, m37, m38, m39, m40, m41, m42, m43, m44, m45, m46, m47, m48, m49]))] sz) t) (va_A [(h0, .inr (9, [m0, m1, m2, .int 0, m4, m5, m6, m7, m8, m9, m10, m11, m12, m13, m14, m15, m16, m17, m18, m19, m20, m21, m22, m23, m24, m25, m26, m27, m28, m29, m30, m31, m32, m33, m34, m35, m36, m37, m38, m39, m40, m41, m42, m43, m44, m45, m46, m47, m48, m49]))] sz)) 0 0 (va_A [(h0, .inr (9, [m0, m1, m2, .int 0, m4, m5, m6, m7, m8, m9, m10, m11, m12, m13, m14, m15, m16, m17, m18, m19, m20, m21, m22, m23, m24, m25, m26, m27, m28, m29, m30, m31, m32, m33, m34, m35, m36, m37, m38, m39, m40, m41, m42, m43, m44, m45, m46, m47, m48, m49]))] sz) := by
  refine Met.ofW (cc := cX9_ranges) (maxL := 2) (ret := (some .int)) (by decide) rfl ?_
  intro p e s m args below meth c s₁ B hml hv
  obtain ⟨rfl, ⟨hsz, hP, hK, hD0⟩⟩ := hv
  have hx := B.exec
  have hb := B.bytes
  have hr := B.returns
  have hts := atoms_spec (ws := wsX9_ranges) B.pre
  have hown : s.vm.findClass RX9 = some m.cls := findClass_of_methodNamed B.named
  have hlocks := B.notSynchronized
  subst hsz
  have hD := hD0.self (sz := s.heap.size)
  generalize hAe : va_A [(h0, .inr (9, [m0, m1, m2, .int 0, m4, m5, m6, m7, m8, m9, m10, m11, m12, m13, m14, m15, m16, m17, m18, m19, m20, m21, m22, m23, m24, m25, m26, m27, m28, m29, m30, m31, m32, m33, m34, m35, m36, m37, m38, m39, m40, m41, m42, m43, m44, m45, m46, m47, m48, m49]))] s.heap.size = A at hD ⊢
  have hA : ∀ q : Nat, s.heap.size ≤ q → A q := fun q h => by rw [← hAe]; exact Or.inr h
  have hS : va_S A s.heap s.heap [] := va_S.rf
  have hl := lv_entry ([.ref h0, .int p0]) (n := 2) (Nat.le_of_ble_eq_true rfl)
  rw [lg_entry_eq]
  generalize (lg_sl ([.ref h0, .int p0]) ++ List.replicate (2 - (lg_sl ([.ref h0, .int p0])).length) Slot.unset).toArray = ls at hl ⊢
  have hl : lv_has ls 2 [(0, .ref h0), (1, .int p0)] := hl
  refine lv_aload_n hx hb dX9_ranges_0 rfl (lv_at hl 0 rfl) ?_
  refine lv_iload_n hx hb dX9_ranges_1 rfl (lv_at hl 1 rfl) ?_
  have hPc := hP.sub (ws' := [(h0, .inr (9, [m0, m1, m2, .int 0, m4, m5, m6, m7, m8, m9, m10, m11, m12, m13, m14, m15, m16, m17, m18, m19, m20, m21, m22, m23, m24, m25, m26, m27, m28, m29, m30, m31, m32, m33, m34, m35, m36, m37, m38, m39, m40, m41, m42, m43, m44, m45, m46, m47, m48, m49]))]) [0] rfl
  have hDc := hD.sub (ws' := [(h0, .inr (9, [m0, m1, m2, .int 0, m4, m5, m6, m7, m8, m9, m10, m11, m12, m13, m14, m15, m16, m17, m18, m19, m20, m21, m22, m23, m24, m25, m26, m27, m28, m29, m30, m31, m32, m33, m34, m35, m36, m37, m38, m39, m40, m41, m42, m43, m44, m45, m46, m47, m48, m49]))]) [0] (by decide) rfl
  have hFc := va_free (wc := [(h0, .inr (9, [m0, m1, m2, .int 0, m4, m5, m6, m7, m8, m9, m10, m11, m12, m13, m14, m15, m16, m17, m18, m19, m20, m21, m22, m23, m24, m25, m26, m27, m28, m29, m30, m31, m32, m33, m34, m35, m36, m37, m38, m39, m40, m41, m42, m43, m44, m45, m46, m47, m48, m49]))]) hD hS hA [0] rfl
  refine va_calli (va_runV (As := [.int p0]) (rest := []) ⟨hx, hb, hml, hown, hts⟩ (m0_isLooked l g s.heap.size h0 m0 m1 m2 m4 m5 m6 m7 m8 m9 m10 m11 m12 m13 m14 m15 m16 m17 m18 m19 m20 m21 m22 m23 m24 m25 m26 m27 m28 m29 m30 m31 m32 m33 m34 m35 m36 m37 m38 m39 m40 m41 m42 m43 m44 m45 m46 m47 m48 m49 p0) (cwV 1 hts gX9_ranges_X9_isLooked rfl rfl rfl (by decide +kernel) ⟨Nat.le_of_ble_eq_true rfl, Nat.le_of_ble_eq_true rfl⟩) ⟨xB.blind, va_recv hK hPc (ci := 9) (q0 := 0) rfl rfl, fun U9 hU9 hW9 => ⟨rfl, xB.mk hPc hK hDc hU9 hW9⟩⟩ rfl rfl hl.1 rfl (lv_room (Nat.le_of_ble_eq_true rfl)) dX9_ranges_2 ⟨Nat.le_of_ble_eq_true rfl, Nat.le_of_ble_eq_true rfl⟩) hS (fun q _ h => hFc q h) hFc (fun r_1 u_2 t H1 locs ht hvm hw_3 hB hz1 hk1 hS => ?_)
  obtain ⟨hP1, hK1, hD1⟩ := hB
  rw [ht] at hP1
  obtain ⟨hP, hD⟩ := va_join (wr := []) (w1 := [(h0, .inr (9, [.int 1, m1, m2, .int 0, m4, m5, m6, m7, m8, m9, m10, m11, m12, m13, m14, m15, m16, m17, m18, m19, m20, m21, m22, m23, m24, m25, m26, m27, m28, m29, m30, m31, m32, m33, m34, m35, m36, m37, m38, m39, m40, m41, m42, m43, m44, m45, m46, m47, m48, m49]))]) hP hD [0] [] rfl rfl (by decide) (by decide) hk1 hFc hP1 hD1
  generalize H1 = H at hP hS ⊢
  have hP : va_P (xD g) vwCl [(h0, .inr (9, [.int 1, m1, m2, .int 0, m4, m5, m6, m7, m8, m9, m10, m11, m12, m13, m14, m15, m16, m17, m18, m19, m20, m21, m22, m23, m24, m25, m26, m27, m28, m29, m30, m31, m32, m33, m34, m35, m36, m37, m38, m39, m40, m41, m42, m43, m44, m45, m46, m47, m48, m49]))] H := hP
  have hD : va_D A [(h0, .inr (9, [.int 1, m1, m2, .int 0, m4, m5, m6, m7, m8, m9, m10, m11, m12, m13, m14, m15, m16, m17, m18, m19, m20, m21, m22, m23, m24, m25, m26, m27, m28, m29, m30, m31, m32, m33, m34, m35, m36, m37, m38, m39, m40, m41, m42, m43, m44, m45, m46, m47, m48, m49]))] := hD
  try dsimp only at hw_3
  obtain rfl := hw_3
  refine lv_if_eq (tgt := 15) hx hb dX9_ranges_5 (by decide) (fun _ => ?_) (fun c0 => absurd (by decide) c0)
  refine lv_iconst (v := 0) hx hb dX9_ranges_15 (by decide) ?_
  have hP9 := hP.sub (ws' := [(h0, .inr (9, [.int 1, m1, m2, .int 0, m4, m5, m6, m7, m8, m9, m10, m11, m12, m13, m14, m15, m16, m17, m18, m19, m20, m21, m22, m23, m24, m25, m26, m27, m28, m29, m30, m31, m32, m33, m34, m35, m36, m37, m38, m39, m40, m41, m42, m43, m44, m45, m46, m47, m48, m49]))]) [0] rfl
  have hD9 := hD.sub (ws' := [(h0, .inr (9, [.int 1, m1, m2, .int 0, m4, m5, m6, m7, m8, m9, m10, m11, m12, m13, m14, m15, m16, m17, m18, m19, m20, m21, m22, m23, m24, m25, m26, m27, m28, m29, m30, m31, m32, m33, m34, m35, m36, m37, m38, m39, m40, m41, m42, m43, m44, m45, m46, m47, m48, m49]))]) [0] (by decide) rfl
  exact W.iret (v := 0) hx hb hr (fun t ht hW => ⟨⟨0, 1, rfl, ⟨rfl, rfl⟩, ⟨m1, m2, (.int 0), m4, m5, m6, m7, m8, m9, m10, m11, m12, m13, m14, m15, m16, m17, m18, m19, m20, m21, m22, m23, m24, m25, m26, m27, m28, m29, m30, m31, m32, m33, m34, m35, m36, m37, m38, m39, m40, m41, m42, m43, m44, m45, m46, m47, m48, m49, by rw [ht]; exact hP9, va_K.moved hW.alike hK, hD9⟩⟩, hS.F ht⟩) hS.2.2 dX9_ranges_16
theorem dX9_firstBay_0 : decode cX9_firstBay 0 = .ok (.aload_n 0, 1) := by decide +kernel
theorem dX9_firstBay_1 : decode cX9_firstBay 1 = .ok (.iload_n 1, 1) := by decide +kernel
theorem dX9_firstBay_2 : decode cX9_firstBay 2 = .ok (.invokevirtual 210, 3) := by decide +kernel
set_option maxRecDepth 20000 in
theorem ggX9_firstBay_X9_isLooked : GoodIn wsX9_firstBay wsX9_isLooked := goodIn_r _ [7, 8, 9, 10, 6, 11, 12, 13, 14, 15, 16, 17, 18, 19, 20, 21, 22, 23, 24, 25, 26, 27, 28, 29, 30, 1, 31, 32, 2, 33, 34, 35, 36, 37, 38, 39, 40, 41, 42, 43, 44, 45, 46, 47, 48, 49, 50, 51, 52, 53, 54, 55, 56, 57, 58, 59, 60, 61, 62, 63, 64, 65, 66, 67, 68, 69, 70, 71, 72, 73, 74, 75, 76, 77, 78, 79, 80, 81, 82, 83, 84, 85, 86, 87, 88, 89, 90, 91, 92, 93, 94, 95, 96, 97, 98, 99, 100, 101, 102, 103, 104, 105, 106, 107, 108, 109, 110, 111] rfl (by decide +kernel)
set_option maxRecDepth 20000 in
theorem gX9_firstBay_X9_isLooked : GoodIn wsX9_firstBay (wsV RX9 210 RX9 yX9_isLooked wsX9_isLooked) := goodIn_app (goodIn_of _ (by decide +kernel)) ggX9_firstBay_X9_isLooked
theorem dX9_firstBay_5 : decode cX9_firstBay 5 = .ok (.ifCond .eq 30, 3) := by decide +kernel
theorem dX9_firstBay_35 : decode cX9_firstBay 35 = .ok (.iconst 0, 1) := by decide +kernel
theorem dX9_firstBay_36 : decode cX9_firstBay 36 = .ok (.goto 9, 3) := by decide +kernel
theorem dX9_firstBay_45 : decode cX9_firstBay 45 = .ok (.ireturn, 1) := by decide +kernel
set_option maxHeartbeats 4000000 in
set_option maxRecDepth 100000 in
theorem m0_firstBay (l : Launch) (g : xG) (sz : Nat) (h0 : Nat) (m0 : Value) (m1 : Value) (m2 : Value) (m4 : Value) (m5 : Value) (m6 : Value) (m7 : Value) (m8 : Value) (m9 : Value) (m10 : Value) (m11 : Value) (m12 : Value) (m13 : Value) (m14 : Value) (m15 : Value) (m16 : Value) (m17 : Value) (m18 : Value) (m19 : Value) (m20 : Value) (m21 : Value) (m22 : Value) (m23 : Value) (m24 : Value) (m25 : Value) (m26 : Value) (m27 : Value) (m28 : Value) (m29 : Value) (m30 : Value) (m31 : Value) (m32 : Value) (m33 : Value) (m34 : Value) (m35 : Value) (m36 : Value) (m37 : Value) (m38 : Value) (m39 : Value) (m40 : Value) (m41 : Value) (m42 : Value) (m43 : Value) (m44 : Value) (m45 : Value) (m46 : Value) (m47 : Value) (m48 : Value) (m49 : Value) (p0 : Int32) (p1 : Int32)  : Met l yX9_firstBay wsX9_firstBay ({ frames := 4, cells := 0, slots := 0, locals := 86 }) (va_Pc [.ref h0, .int p0, .int p1] (fun U => xB g [(h0, .inr (9, [m0, m1, m2, .int 0, m4, m5, m6, m7, m8, m9, m10, m11, m12, m13, m14, m15, m16, m17, m18, m19, m20, m21, m22, m23, m24, m25, m26, m27, m28, m29, m30, m31, m32, m33, m34, m35, m36, m37, m38, m39, m40, m41, m42, m43, m44, m45, m46, m47, m48, m49]))] sz U)) (va_Qi (fun (r : Int32) (u : Int32) => u = 1 ∧ r = 0) (fun (u : Int32) (t : State) => ∃ (w1 : Value) (w2 : Value) (w3 : Value) (w4 : Value) (w5 : Value) (w6 : Value) (w7 : Value) (w8 : Value) (w9 : Value) (w10 : Value) (w11 : Value) (w12 : Value) (w13 : Value) (w14 : Value) (w15 : Value) (w16 : Value) (w17 : Value) (w18 : Value) (w19 : Value) (w20 : Value) (w21 : Value) (w22 : Value) (w23 : Value) (w24 : Value) (w25 : Value) (w26 : Value) (w27 : Value) (w28 : Value) (w29 : Value) (w30 : Value) (w31 : Value) (w32 : Value) (w33 : Value) (w34 : Value) (w35 : Value) (w36 : Value) (w37 : Value) (w38 : Value) (w39 : Value) (w40 : Value) (w41 : Value) (w42 : Value) (w43 : Value) (w44 : Value) (w45 : Value) (w46 : Value) (w47 : Value) (w48 : Value) (w49 : Value), xE g [(h0, .inr (9, [.int u, w1, w2, w3, w4, w5, w6, w7, w8, w9, w10, w11, w12, w13, w14, w15, w16, w17, w18, w19, w20, w21, w22, w23, w24, w25, w26, w27, w28, w29, w30, w31, w32, w33, w34, w35, w36, w37, w38, w39, w40, w41, w42, w43, w44, w45, w46, w47, w48, w49]))] (va_A [(h0, .inr (9, [m0, m1, m2, .int 0, m4, m5, m6, m7, m8, m9, m10, m11, m12, m13, m14, m15, m16, m17, m18, m19, m20, m21, m22, m23, m24, m25, m26, m27, m28, m29, m30, m31, m32, m33, m34, m35, m36, m37, m38, m39, m40, m41, m42, m43, m44, m45, m46, m47, m48, m49]))] sz) t) (va_A [(h0, .inr (9, [m0, m1, m2, .int 0, m4, m5, m6, m7, m8, m9, m10, m11, m12, m13, m14, m15, m16, m17, m18, m19, m20, m21, m22, m23, m24, m25, m26, m27, m28, m29, m30, m31, m32, m33, m34, m35, m36, m37, m38, m39, m40, m41, m42, m43, m44, m45, m46, m47, m48, m49]))] sz)) 0 0 (va_A [(h0, .inr (9, [m0, m1, m2, .int 0, m4, m5, m6, m7, m8, m9, m10, m11, m12, m13, m14, m15, m16, m17, m18, m19, m20, m21, m22, m23, m24, m25, m26, m27, m28, m29, m30, m31, m32, m33, m34, m35, m36, m37, m38, m39, m40, m41, m42, m43, m44, m45, m46, m47, m48, m49]))] sz) := by
  refine Met.ofW (cc := cX9_firstBay) (maxL := 3) (ret := (some .int)) (by decide) rfl ?_
  intro p e s m args below meth c s₁ B hml hv
  obtain ⟨rfl, ⟨hsz, hP, hK, hD0⟩⟩ := hv
  have hx := B.exec
  have hb := B.bytes
  have hr := B.returns
  have hts := atoms_spec (ws := wsX9_firstBay) B.pre
  have hown : s.vm.findClass RX9 = some m.cls := findClass_of_methodNamed B.named
  have hlocks := B.notSynchronized
  subst hsz
  have hD := hD0.self (sz := s.heap.size)
  generalize hAe : va_A [(h0, .inr (9, [m0, m1, m2, .int 0, m4, m5, m6, m7, m8, m9, m10, m11, m12, m13, m14, m15, m16, m17, m18, m19, m20, m21, m22, m23, m24, m25, m26, m27, m28, m29, m30, m31, m32, m33, m34, m35, m36, m37, m38, m39, m40, m41, m42, m43, m44, m45, m46, m47, m48, m49]))] s.heap.size = A at hD ⊢
  have hA : ∀ q : Nat, s.heap.size ≤ q → A q := fun q h => by rw [← hAe]; exact Or.inr h
  have hS : va_S A s.heap s.heap [] := va_S.rf
  have hl := lv_entry ([.ref h0, .int p0, .int p1]) (n := 3) (Nat.le_of_ble_eq_true rfl)
  rw [lg_entry_eq]
  generalize (lg_sl ([.ref h0, .int p0, .int p1]) ++ List.replicate (3 - (lg_sl ([.ref h0, .int p0, .int p1])).length) Slot.unset).toArray = ls at hl ⊢
  have hl : lv_has ls 3 [(0, .ref h0), (1, .int p0), (2, .int p1)] := hl
  refine lv_aload_n hx hb dX9_firstBay_0 rfl (lv_at hl 0 rfl) ?_
  refine lv_iload_n hx hb dX9_firstBay_1 rfl (lv_at hl 1 rfl) ?_
  have hPc := hP.sub (ws' := [(h0, .inr (9, [m0, m1, m2, .int 0, m4, m5, m6, m7, m8, m9, m10, m11, m12, m13, m14, m15, m16, m17, m18, m19, m20, m21, m22, m23, m24, m25, m26, m27, m28, m29, m30, m31, m32, m33, m34, m35, m36, m37, m38, m39, m40, m41, m42, m43, m44, m45, m46, m47, m48, m49]))]) [0] rfl
  have hDc := hD.sub (ws' := [(h0, .inr (9, [m0, m1, m2, .int 0, m4, m5, m6, m7, m8, m9, m10, m11, m12, m13, m14, m15, m16, m17, m18, m19, m20, m21, m22, m23, m24, m25, m26, m27, m28, m29, m30, m31, m32, m33, m34, m35, m36, m37, m38, m39, m40, m41, m42, m43, m44, m45, m46, m47, m48, m49]))]) [0] (by decide) rfl
  have hFc := va_free (wc := [(h0, .inr (9, [m0, m1, m2, .int 0, m4, m5, m6, m7, m8, m9, m10, m11, m12, m13, m14, m15, m16, m17, m18, m19, m20, m21, m22, m23, m24, m25, m26, m27, m28, m29, m30, m31, m32, m33, m34, m35, m36, m37, m38, m39, m40, m41, m42, m43, m44, m45, m46, m47, m48, m49]))]) hD hS hA [0] rfl
  refine va_calli (va_runV (As := [.int p0]) (rest := []) ⟨hx, hb, hml, hown, hts⟩ (m0_isLooked l g s.heap.size h0 m0 m1 m2 m4 m5 m6 m7 m8 m9 m10 m11 m12 m13 m14 m15 m16 m17 m18 m19 m20 m21 m22 m23 m24 m25 m26 m27 m28 m29 m30 m31 m32 m33 m34 m35 m36 m37 m38 m39 m40 m41 m42 m43 m44 m45 m46 m47 m48 m49 p0) (cwV 1 hts gX9_firstBay_X9_isLooked rfl rfl rfl (by decide +kernel) ⟨Nat.le_of_ble_eq_true rfl, Nat.le_of_ble_eq_true rfl⟩) ⟨xB.blind, va_recv hK hPc (ci := 9) (q0 := 0) rfl rfl, fun U9 hU9 hW9 => ⟨rfl, xB.mk hPc hK hDc hU9 hW9⟩⟩ rfl rfl hl.1 rfl (lv_room (Nat.le_of_ble_eq_true rfl)) dX9_firstBay_2 ⟨Nat.le_of_ble_eq_true rfl, Nat.le_of_ble_eq_true rfl⟩) hS (fun q _ h => hFc q h) hFc (fun r_1 u_2 t H1 locs ht hvm hw_3 hB hz1 hk1 hS => ?_)
  obtain ⟨hP1, hK1, hD1⟩ := hB
  rw [ht] at hP1
  obtain ⟨hP, hD⟩ := va_join (wr := []) (w1 := [(h0, .inr (9, [.int 1, m1, m2, .int 0, m4, m5, m6, m7, m8, m9, m10, m11, m12, m13, m14, m15, m16, m17, m18, m19, m20, m21, m22, m23, m24, m25, m26, m27, m28, m29, m30, m31, m32, m33, m34, m35, m36, m37, m38, m39, m40, m41, m42, m43, m44, m45, m46, m47, m48, m49]))]) hP hD [0] [] rfl rfl (by decide) (by decide) hk1 hFc hP1 hD1
  generalize H1 = H at hP hS ⊢
  have hP : va_P (xD g) vwCl [(h0, .inr (9, [.int 1, m1, m2, .int 0, m4, m5, m6, m7, m8, m9, m10, m11, m12, m13, m14, m15, m16, m17, m18, m19, m20, m21, m22, m23, m24, m25, m26, m27, m28, m29, m30, m31, m32, m33, m34, m35, m36, m37, m38, m39, m40, m41, m42, m43, m44, m45, m46, m47, m48, m49]))] H := hP
  have hD : va_D A [(h0, .inr (9, [.int 1, m1, m2, .int 0, m4, m5, m6, m7, m8, m9, m10, m11, m12, m13, m14, m15, m16, m17, m18, m19, m20, m21, m22, m23, m24, m25, m26, m27, m28, m29, m30, m31, m32, m33, m34, m35, m36, m37, m38, m39, m40, m41, m42, m43, m44, m45, m46, m47, m48, m49]))] := hD
  try dsimp only at hw_3
  obtain rfl := hw_3
  refine lv_if_eq (tgt := 35) hx hb dX9_firstBay_5 (by decide) (fun _ => ?_) (fun c0 => absurd (by decide) c0)
  refine lv_iconst (v := 0) hx hb dX9_firstBay_35 (by decide) ?_
  refine lv_goto (tgt := 45) hx hb dX9_firstBay_36 (by decide) ?_
  have hP9 := hP.sub (ws' := [(h0, .inr (9, [.int 1, m1, m2, .int 0, m4, m5, m6, m7, m8, m9, m10, m11, m12, m13, m14, m15, m16, m17, m18, m19, m20, m21, m22, m23, m24, m25, m26, m27, m28, m29, m30, m31, m32, m33, m34, m35, m36, m37, m38, m39, m40, m41, m42, m43, m44, m45, m46, m47, m48, m49]))]) [0] rfl
  have hD9 := hD.sub (ws' := [(h0, .inr (9, [.int 1, m1, m2, .int 0, m4, m5, m6, m7, m8, m9, m10, m11, m12, m13, m14, m15, m16, m17, m18, m19, m20, m21, m22, m23, m24, m25, m26, m27, m28, m29, m30, m31, m32, m33, m34, m35, m36, m37, m38, m39, m40, m41, m42, m43, m44, m45, m46, m47, m48, m49]))]) [0] (by decide) rfl
  exact W.iret (v := 0) hx hb hr (fun t ht hW => ⟨⟨0, 1, rfl, ⟨rfl, rfl⟩, ⟨m1, m2, (.int 0), m4, m5, m6, m7, m8, m9, m10, m11, m12, m13, m14, m15, m16, m17, m18, m19, m20, m21, m22, m23, m24, m25, m26, m27, m28, m29, m30, m31, m32, m33, m34, m35, m36, m37, m38, m39, m40, m41, m42, m43, m44, m45, m46, m47, m48, m49, by rw [ht]; exact hP9, va_K.moved hW.alike hK, hD9⟩⟩, hS.F ht⟩) hS.2.2 dX9_firstBay_45
theorem dX9_load_0 : decode cX9_load 0 = .ok (.aload_n 0, 1) := by decide +kernel
theorem dX9_load_1 : decode cX9_load 1 = .ok (.iload_n 1, 1) := by decide +kernel
theorem dX9_load_2 : decode cX9_load 2 = .ok (.invokevirtual 210, 3) := by decide +kernel
set_option maxRecDepth 20000 in
theorem ggX9_load_X9_isLooked : GoodIn wsX9_load wsX9_isLooked := goodIn_r _ [6, 7, 8, 9, 5, 10, 11, 12, 13, 14, 15, 16, 17, 18, 19, 20, 21, 22, 23, 24, 25, 26, 27, 28, 1, 29, 30, 31, 32, 33, 34, 35, 36, 37, 38, 39, 40, 41, 42, 43, 44, 45, 46, 47, 48, 49, 50, 51, 52, 53, 54, 55, 56, 57, 58, 59, 60, 61, 62, 63, 64, 65, 66, 67, 68, 69, 70, 71, 72, 73, 74, 75, 76, 77, 78, 79, 80, 81, 82, 83, 84, 85, 86, 87, 88, 89, 90, 91, 92, 93, 94, 95, 96, 97, 98, 99, 100, 101, 102, 103, 104, 105, 106, 107, 108, 109, 110, 111] rfl (by decide +kernel)
set_option maxRecDepth 20000 in
theorem gX9_load_X9_isLooked : GoodIn wsX9_load (wsV RX9 210 RX9 yX9_isLooked wsX9_isLooked) := goodIn_app (goodIn_of _ (by decide +kernel)) ggX9_load_X9_isLooked
theorem dX9_load_5 : decode cX9_load 5 = .ok (.ifCond .eq 10, 3) := by decide +kernel
theorem dX9_load_15 : decode cX9_load 15 = .ok (.iconst 0, 1) := by decide +kernel
theorem dX9_load_16 : decode cX9_load 16 = .ok (.ireturn, 1) := by decide +kernel
set_option maxHeartbeats 4000000 in
set_option maxRecDepth 100000 in
theorem m0_load (l : Launch) (g : xG) (sz : Nat) (h0 : Nat) (m0 : Value) (m1 : Value) (m2 : Value) (m4 : Value) (m5 : Value) (m6 : Value) (m7 : Value) (m8 : Value) (m9 : Value) (m10 : Value) (m11 : Value) (m12 : Value) (m13 : Value) (m14 : Value) (m15 : Value) (m16 : Value) (m17 : Value) (m18 : Value) (m19 : Value) (m20 : Value) (m21 : Value) (m22 : Value) (m23 : Value) (m24 : Value) (m25 : Value) (m26 : Value) (m27 : Value) (m28 : Value) (m29 : Value) (m30 : Value) (m31 : Value) (m32 : Value) (m33 : Value) (m34 : Value) (m35 : Value) (m36 : Value) (m37 : Value) (m38 : Value) (m39 : Value) (m40 : Value) (m41 : Value) (m42 : Value) (m43 : Value) (m44 : Value) (m45 : Value) (m46 : Value) (m47 : Value) (m48 : Value) (m49 : Value) (p0 : Int32)  : Met l yX9_load wsX9_load ({ frames := 4, cells := 0, slots := 0, locals := 86 }) (va_Pc [.ref h0, .int p0] (fun U => xB g [(h0, .inr (9, [m0, m1, m2, .int 0, m4, m5, m6, m7, m8, m9, m10, m11, m12, m13, m14, m15, m16, m17, m18, m19, m20, m21, m22, m23, m24, m25, m26, m27, m28, m29, m30, m31, m32, m33, m34, m35, m36, m37, m38, m39, m40, m41, m42, m43, m44, m45, m46, m47, m48, m49]))] sz U)) (va_Qi (fun (r : Int32) (u : Int32) => u = 1 ∧ r = 0) (fun (u : Int32) (t : State) => ∃ (w1 : Value) (w2 : Value) (w3 : Value) (w4 : Value) (w5 : Value) (w6 : Value) (w7 : Value) (w8 : Value) (w9 : Value) (w10 : Value) (w11 : Value) (w12 : Value) (w13 : Value) (w14 : Value) (w15 : Value) (w16 : Value) (w17 : Value) (w18 : Value) (w19 : Value) (w20 : Value) (w21 : Value) (w22 : Value) (w23 : Value) (w24 : Value) (w25 : Value) (w26 : Value) (w27 : Value) (w28 : Value) (w29 : Value) (w30 : Value) (w31 : Value) (w32 : Value) (w33 : Value) (w34 : Value) (w35 : Value) (w36 : Value) (w37 : Value) (w38 : Value) (w39 : Value) (w40 : Value) (w41 : Value) (w42 : Value) (w43 : Value) (w44 : Value) (w45 : Value) (w46 : Value) (w47 : Value) (w48 : Value) (w49 : Value), xE g [(h0, .inr (9, [.int u, w1, w2, w3, w4, w5, w6, w7, w8, w9, w10, w11, w12, w13, w14, w15, w16, w17, w18, w19, w20, w21, w22, w23, w24, w25, w26, w27, w28, w29, w30, w31, w32, w33, w34, w35, w36, w37, w38, w39, w40, w41, w42, w43, w44, w45, w46, w47, w48, w49]))] (va_A [(h0, .inr (9, [m0, m1, m2, .int 0, m4, m5, m6, m7, m8, m9, m10, m11, m12, m13, m14, m15, m16, m17, m18, m19, m20, m21, m22, m23, m24, m25, m26, m27, m28, m29, m30, m31, m32, m33, m34, m35, m36, m37, m38, m39, m40, m41, m42, m43, m44, m45, m46, m47, m48, m49]))] sz) t) (va_A [(h0, .inr (9, [m0, m1, m2, .int 0, m4, m5, m6, m7, m8, m9, m10, m11, m12, m13, m14, m15, m16, m17, m18, m19, m20, m21, m22, m23, m24, m25, m26, m27, m28, m29, m30, m31, m32, m33, m34, m35, m36, m37, m38, m39, m40, m41, m42, m43, m44, m45, m46, m47, m48, m49]))] sz)) 0 0 (va_A [(h0, .inr (9, [m0, m1, m2, .int 0, m4, m5, m6, m7, m8, m9, m10, m11, m12, m13, m14, m15, m16, m17, m18, m19, m20, m21, m22, m23, m24, m25, m26, m27, m28, m29, m30, m31, m32, m33, m34, m35, m36, m37, m38, m39, m40, m41, m42, m43, m44, m45, m46, m47, m48, m49]))] sz) := by
  refine Met.ofW (cc := cX9_load) (maxL := 2) (ret := (some .int)) (by decide) rfl ?_
  intro p e s m args below meth c s₁ B hml hv
  obtain ⟨rfl, ⟨hsz, hP, hK, hD0⟩⟩ := hv
  have hx := B.exec
  have hb := B.bytes
  have hr := B.returns
  have hts := atoms_spec (ws := wsX9_load) B.pre
  have hown : s.vm.findClass RX9 = some m.cls := findClass_of_methodNamed B.named
  have hlocks := B.notSynchronized
  subst hsz
  have hD := hD0.self (sz := s.heap.size)
  generalize hAe : va_A [(h0, .inr (9, [m0, m1, m2, .int 0, m4, m5, m6, m7, m8, m9, m10, m11, m12, m13, m14, m15, m16, m17, m18, m19, m20, m21, m22, m23, m24, m25, m26, m27, m28, m29, m30, m31, m32, m33, m34, m35, m36, m37, m38, m39, m40, m41, m42, m43, m44, m45, m46, m47, m48, m49]))] s.heap.size = A at hD ⊢
  have hA : ∀ q : Nat, s.heap.size ≤ q → A q := fun q h => by rw [← hAe]; exact Or.inr h
  have hS : va_S A s.heap s.heap [] := va_S.rf
  have hl := lv_entry ([.ref h0, .int p0]) (n := 2) (Nat.le_of_ble_eq_true rfl)
  rw [lg_entry_eq]
  generalize (lg_sl ([.ref h0, .int p0]) ++ List.replicate (2 - (lg_sl ([.ref h0, .int p0])).length) Slot.unset).toArray = ls at hl ⊢
  have hl : lv_has ls 2 [(0, .ref h0), (1, .int p0)] := hl
  refine lv_aload_n hx hb dX9_load_0 rfl (lv_at hl 0 rfl) ?_
  refine lv_iload_n hx hb dX9_load_1 rfl (lv_at hl 1 rfl) ?_
  have hPc := hP.sub (ws' := [(h0, .inr (9, [m0, m1, m2, .int 0, m4, m5, m6, m7, m8, m9, m10, m11, m12, m13, m14, m15, m16, m17, m18, m19, m20, m21, m22, m23, m24, m25, m26, m27, m28, m29, m30, m31, m32, m33, m34, m35, m36, m37, m38, m39, m40, m41, m42, m43, m44, m45, m46, m47, m48, m49]))]) [0] rfl
  have hDc := hD.sub (ws' := [(h0, .inr (9, [m0, m1, m2, .int 0, m4, m5, m6, m7, m8, m9, m10, m11, m12, m13, m14, m15, m16, m17, m18, m19, m20, m21, m22, m23, m24, m25, m26, m27, m28, m29, m30, m31, m32, m33, m34, m35, m36, m37, m38, m39, m40, m41, m42, m43, m44, m45, m46, m47, m48, m49]))]) [0] (by decide) rfl
  have hFc := va_free (wc := [(h0, .inr (9, [m0, m1, m2, .int 0, m4, m5, m6, m7, m8, m9, m10, m11, m12, m13, m14, m15, m16, m17, m18, m19, m20, m21, m22, m23, m24, m25, m26, m27, m28, m29, m30, m31, m32, m33, m34, m35, m36, m37, m38, m39, m40, m41, m42, m43, m44, m45, m46, m47, m48, m49]))]) hD hS hA [0] rfl
  refine va_calli (va_runV (As := [.int p0]) (rest := []) ⟨hx, hb, hml, hown, hts⟩ (m0_isLooked l g s.heap.size h0 m0 m1 m2 m4 m5 m6 m7 m8 m9 m10 m11 m12 m13 m14 m15 m16 m17 m18 m19 m20 m21 m22 m23 m24 m25 m26 m27 m28 m29 m30 m31 m32 m33 m34 m35 m36 m37 m38 m39 m40 m41 m42 m43 m44 m45 m46 m47 m48 m49 p0) (cwV 1 hts gX9_load_X9_isLooked rfl rfl rfl (by decide +kernel) ⟨Nat.le_of_ble_eq_true rfl, Nat.le_of_ble_eq_true rfl⟩) ⟨xB.blind, va_recv hK hPc (ci := 9) (q0 := 0) rfl rfl, fun U9 hU9 hW9 => ⟨rfl, xB.mk hPc hK hDc hU9 hW9⟩⟩ rfl rfl hl.1 rfl (lv_room (Nat.le_of_ble_eq_true rfl)) dX9_load_2 ⟨Nat.le_of_ble_eq_true rfl, Nat.le_of_ble_eq_true rfl⟩) hS (fun q _ h => hFc q h) hFc (fun r_1 u_2 t H1 locs ht hvm hw_3 hB hz1 hk1 hS => ?_)
  obtain ⟨hP1, hK1, hD1⟩ := hB
  rw [ht] at hP1
  obtain ⟨hP, hD⟩ := va_join (wr := []) (w1 := [(h0, .inr (9, [.int 1, m1, m2, .int 0, m4, m5, m6, m7, m8, m9, m10, m11, m12, m13, m14, m15, m16, m17, m18, m19, m20, m21, m22, m23, m24, m25, m26, m27, m28, m29, m30, m31, m32, m33, m34, m35, m36, m37, m38, m39, m40, m41, m42, m43, m44, m45, m46, m47, m48, m49]))]) hP hD [0] [] rfl rfl (by decide) (by decide) hk1 hFc hP1 hD1
  generalize H1 = H at hP hS ⊢
  have hP : va_P (xD g) vwCl [(h0, .inr (9, [.int 1, m1, m2, .int 0, m4, m5, m6, m7, m8, m9, m10, m11, m12, m13, m14, m15, m16, m17, m18, m19, m20, m21, m22, m23, m24, m25, m26, m27, m28, m29, m30, m31, m32, m33, m34, m35, m36, m37, m38, m39, m40, m41, m42, m43, m44, m45, m46, m47, m48, m49]))] H := hP
  have hD : va_D A [(h0, .inr (9, [.int 1, m1, m2, .int 0, m4, m5, m6, m7, m8, m9, m10, m11, m12, m13, m14, m15, m16, m17, m18, m19, m20, m21, m22, m23, m24, m25, m26, m27, m28, m29, m30, m31, m32, m33, m34, m35, m36, m37, m38, m39, m40, m41, m42, m43, m44, m45, m46, m47, m48, m49]))] := hD
  try dsimp only at hw_3
  obtain rfl := hw_3
  refine lv_if_eq (tgt := 15) hx hb dX9_load_5 (by decide) (fun _ => ?_) (fun c0 => absurd (by decide) c0)
  refine lv_iconst (v := 0) hx hb dX9_load_15 (by decide) ?_
  have hP9 := hP.sub (ws' := [(h0, .inr (9, [.int 1, m1, m2, .int 0, m4, m5, m6, m7, m8, m9, m10, m11, m12, m13, m14, m15, m16, m17, m18, m19, m20, m21, m22, m23, m24, m25, m26, m27, m28, m29, m30, m31, m32, m33, m34, m35, m36, m37, m38, m39, m40, m41, m42, m43, m44, m45, m46, m47, m48, m49]))]) [0] rfl
  have hD9 := hD.sub (ws' := [(h0, .inr (9, [.int 1, m1, m2, .int 0, m4, m5, m6, m7, m8, m9, m10, m11, m12, m13, m14, m15, m16, m17, m18, m19, m20, m21, m22, m23, m24, m25, m26, m27, m28, m29, m30, m31, m32, m33, m34, m35, m36, m37, m38, m39, m40, m41, m42, m43, m44, m45, m46, m47, m48, m49]))]) [0] (by decide) rfl
  exact W.iret (v := 0) hx hb hr (fun t ht hW => ⟨⟨0, 1, rfl, ⟨rfl, rfl⟩, ⟨m1, m2, (.int 0), m4, m5, m6, m7, m8, m9, m10, m11, m12, m13, m14, m15, m16, m17, m18, m19, m20, m21, m22, m23, m24, m25, m26, m27, m28, m29, m30, m31, m32, m33, m34, m35, m36, m37, m38, m39, m40, m41, m42, m43, m44, m45, m46, m47, m48, m49, by rw [ht]; exact hP9, va_K.moved hW.alike hK, hD9⟩⟩, hS.F ht⟩) hS.2.2 dX9_load_16
theorem dX9_handling_0 : decode cX9_handling 0 = .ok (.aload_n 0, 1) := by decide +kernel
theorem dX9_handling_1 : decode cX9_handling 1 = .ok (.iload_n 1, 1) := by decide +kernel
theorem dX9_handling_2 : decode cX9_handling 2 = .ok (.invokevirtual 210, 3) := by decide +kernel
set_option maxRecDepth 20000 in
theorem ggX9_handling_X9_isLooked : GoodIn wsX9_handling wsX9_isLooked := goodIn_r _ [6, 7, 8, 9, 5, 10, 11, 12, 13, 14, 15, 16, 17, 18, 19, 20, 21, 22, 23, 24, 25, 26, 27, 28, 29, 30, 31, 32, 33, 34, 1, 35, 36, 37, 38, 39, 40, 41, 42, 43, 44, 45, 46, 47, 48, 49, 50, 51, 52, 53, 54, 55, 56, 57, 58, 59, 60, 61, 62, 63, 64, 65, 66, 67, 68, 69, 70, 71, 72, 73, 74, 75, 76, 77, 78, 79, 80, 81, 82, 83, 84, 85, 86, 87, 88, 89, 90, 91, 92, 93, 94, 95, 96, 97, 98, 99, 100, 101, 102, 103, 104, 105, 106, 107, 108, 109, 110, 111] rfl (by decide +kernel)
set_option maxRecDepth 20000 in
theorem gX9_handling_X9_isLooked : GoodIn wsX9_handling (wsV RX9 210 RX9 yX9_isLooked wsX9_isLooked) := goodIn_app (goodIn_of _ (by decide +kernel)) ggX9_handling_X9_isLooked
theorem dX9_handling_5 : decode cX9_handling 5 = .ok (.ifCond .eq 10, 3) := by decide +kernel
theorem dX9_handling_15 : decode cX9_handling 15 = .ok (.iconst 0, 1) := by decide +kernel
theorem dX9_handling_16 : decode cX9_handling 16 = .ok (.ireturn, 1) := by decide +kernel
set_option maxHeartbeats 4000000 in
set_option maxRecDepth 100000 in
theorem m0_handling (l : Launch) (g : xG) (sz : Nat) (h0 : Nat) (m0 : Value) (m1 : Value) (m2 : Value) (m4 : Value) (m5 : Value) (m6 : Value) (m7 : Value) (m8 : Value) (m9 : Value) (m10 : Value) (m11 : Value) (m12 : Value) (m13 : Value) (m14 : Value) (m15 : Value) (m16 : Value) (m17 : Value) (m18 : Value) (m19 : Value) (m20 : Value) (m21 : Value) (m22 : Value) (m23 : Value) (m24 : Value) (m25 : Value) (m26 : Value) (m27 : Value) (m28 : Value) (m29 : Value) (m30 : Value) (m31 : Value) (m32 : Value) (m33 : Value) (m34 : Value) (m35 : Value) (m36 : Value) (m37 : Value) (m38 : Value) (m39 : Value) (m40 : Value) (m41 : Value) (m42 : Value) (m43 : Value) (m44 : Value) (m45 : Value) (m46 : Value) (m47 : Value) (m48 : Value) (m49 : Value) (p0 : Int32)  : Met l yX9_handling wsX9_handling ({ frames := 4, cells := 0, slots := 0, locals := 86 }) (va_Pc [.ref h0, .int p0] (fun U => xB g [(h0, .inr (9, [m0, m1, m2, .int 0, m4, m5, m6, m7, m8, m9, m10, m11, m12, m13, m14, m15, m16, m17, m18, m19, m20, m21, m22, m23, m24, m25, m26, m27, m28, m29, m30, m31, m32, m33, m34, m35, m36, m37, m38, m39, m40, m41, m42, m43, m44, m45, m46, m47, m48, m49]))] sz U)) (va_Qi (fun (r : Int32) (u : Int32) => u = 1 ∧ r = 0) (fun (u : Int32) (t : State) => ∃ (w1 : Value) (w2 : Value) (w3 : Value) (w4 : Value) (w5 : Value) (w6 : Value) (w7 : Value) (w8 : Value) (w9 : Value) (w10 : Value) (w11 : Value) (w12 : Value) (w13 : Value) (w14 : Value) (w15 : Value) (w16 : Value) (w17 : Value) (w18 : Value) (w19 : Value) (w20 : Value) (w21 : Value) (w22 : Value) (w23 : Value) (w24 : Value) (w25 : Value) (w26 : Value) (w27 : Value) (w28 : Value) (w29 : Value) (w30 : Value) (w31 : Value) (w32 : Value) (w33 : Value) (w34 : Value) (w35 : Value) (w36 : Value) (w37 : Value) (w38 : Value) (w39 : Value) (w40 : Value) (w41 : Value) (w42 : Value) (w43 : Value) (w44 : Value) (w45 : Value) (w46 : Value) (w47 : Value) (w48 : Value) (w49 : Value), xE g [(h0, .inr (9, [.int u, w1, w2, w3, w4, w5, w6, w7, w8, w9, w10, w11, w12, w13, w14, w15, w16, w17, w18, w19, w20, w21, w22, w23, w24, w25, w26, w27, w28, w29, w30, w31, w32, w33, w34, w35, w36, w37, w38, w39, w40, w41, w42, w43, w44, w45, w46, w47, w48, w49]))] (va_A [(h0, .inr (9, [m0, m1, m2, .int 0, m4, m5, m6, m7, m8, m9, m10, m11, m12, m13, m14, m15, m16, m17, m18, m19, m20, m21, m22, m23, m24, m25, m26, m27, m28, m29, m30, m31, m32, m33, m34, m35, m36, m37, m38, m39, m40, m41, m42, m43, m44, m45, m46, m47, m48, m49]))] sz) t) (va_A [(h0, .inr (9, [m0, m1, m2, .int 0, m4, m5, m6, m7, m8, m9, m10, m11, m12, m13, m14, m15, m16, m17, m18, m19, m20, m21, m22, m23, m24, m25, m26, m27, m28, m29, m30, m31, m32, m33, m34, m35, m36, m37, m38, m39, m40, m41, m42, m43, m44, m45, m46, m47, m48, m49]))] sz)) 0 0 (va_A [(h0, .inr (9, [m0, m1, m2, .int 0, m4, m5, m6, m7, m8, m9, m10, m11, m12, m13, m14, m15, m16, m17, m18, m19, m20, m21, m22, m23, m24, m25, m26, m27, m28, m29, m30, m31, m32, m33, m34, m35, m36, m37, m38, m39, m40, m41, m42, m43, m44, m45, m46, m47, m48, m49]))] sz) := by
  refine Met.ofW (cc := cX9_handling) (maxL := 2) (ret := (some .int)) (by decide) rfl ?_
  intro p e s m args below meth c s₁ B hml hv
  obtain ⟨rfl, ⟨hsz, hP, hK, hD0⟩⟩ := hv
  have hx := B.exec
  have hb := B.bytes
  have hr := B.returns
  have hts := atoms_spec (ws := wsX9_handling) B.pre
  have hown : s.vm.findClass RX9 = some m.cls := findClass_of_methodNamed B.named
  have hlocks := B.notSynchronized
  subst hsz
  have hD := hD0.self (sz := s.heap.size)
  generalize hAe : va_A [(h0, .inr (9, [m0, m1, m2, .int 0, m4, m5, m6, m7, m8, m9, m10, m11, m12, m13, m14, m15, m16, m17, m18, m19, m20, m21, m22, m23, m24, m25, m26, m27, m28, m29, m30, m31, m32, m33, m34, m35, m36, m37, m38, m39, m40, m41, m42, m43, m44, m45, m46, m47, m48, m49]))] s.heap.size = A at hD ⊢
  have hA : ∀ q : Nat, s.heap.size ≤ q → A q := fun q h => by rw [← hAe]; exact Or.inr h
  have hS : va_S A s.heap s.heap [] := va_S.rf
  have hl := lv_entry ([.ref h0, .int p0]) (n := 2) (Nat.le_of_ble_eq_true rfl)
  rw [lg_entry_eq]
  generalize (lg_sl ([.ref h0, .int p0]) ++ List.replicate (2 - (lg_sl ([.ref h0, .int p0])).length) Slot.unset).toArray = ls at hl ⊢
  have hl : lv_has ls 2 [(0, .ref h0), (1, .int p0)] := hl
  refine lv_aload_n hx hb dX9_handling_0 rfl (lv_at hl 0 rfl) ?_
  refine lv_iload_n hx hb dX9_handling_1 rfl (lv_at hl 1 rfl) ?_
  have hPc := hP.sub (ws' := [(h0, .inr (9, [m0, m1, m2, .int 0, m4, m5, m6, m7, m8, m9, m10, m11, m12, m13, m14, m15, m16, m17, m18, m19, m20, m21, m22, m23, m24, m25, m26, m27, m28, m29, m30, m31, m32, m33, m34, m35, m36, m37, m38, m39, m40, m41, m42, m43, m44, m45, m46, m47, m48, m49]))]) [0] rfl
  have hDc := hD.sub (ws' := [(h0, .inr (9, [m0, m1, m2, .int 0, m4, m5, m6, m7, m8, m9, m10, m11, m12, m13, m14, m15, m16, m17, m18, m19, m20, m21, m22, m23, m24, m25, m26, m27, m28, m29, m30, m31, m32, m33, m34, m35, m36, m37, m38, m39, m40, m41, m42, m43, m44, m45, m46, m47, m48, m49]))]) [0] (by decide) rfl
  have hFc := va_free (wc := [(h0, .inr (9, [m0, m1, m2, .int 0, m4, m5, m6, m7, m8, m9, m10, m11, m12, m13, m14, m15, m16, m17, m18, m19, m20, m21, m22, m23, m24, m25, m26, m27, m28, m29, m30, m31, m32, m33, m34, m35, m36, m37, m38, m39, m40, m41, m42, m43, m44, m45, m46, m47, m48, m49]))]) hD hS hA [0] rfl
  refine va_calli (va_runV (As := [.int p0]) (rest := []) ⟨hx, hb, hml, hown, hts⟩ (m0_isLooked l g s.heap.size h0 m0 m1 m2 m4 m5 m6 m7 m8 m9 m10 m11 m12 m13 m14 m15 m16 m17 m18 m19 m20 m21 m22 m23 m24 m25 m26 m27 m28 m29 m30 m31 m32 m33 m34 m35 m36 m37 m38 m39 m40 m41 m42 m43 m44 m45 m46 m47 m48 m49 p0) (cwV 1 hts gX9_handling_X9_isLooked rfl rfl rfl (by decide +kernel) ⟨Nat.le_of_ble_eq_true rfl, Nat.le_of_ble_eq_true rfl⟩) ⟨xB.blind, va_recv hK hPc (ci := 9) (q0 := 0) rfl rfl, fun U9 hU9 hW9 => ⟨rfl, xB.mk hPc hK hDc hU9 hW9⟩⟩ rfl rfl hl.1 rfl (lv_room (Nat.le_of_ble_eq_true rfl)) dX9_handling_2 ⟨Nat.le_of_ble_eq_true rfl, Nat.le_of_ble_eq_true rfl⟩) hS (fun q _ h => hFc q h) hFc (fun r_1 u_2 t H1 locs ht hvm hw_3 hB hz1 hk1 hS => ?_)
  obtain ⟨hP1, hK1, hD1⟩ := hB
  rw [ht] at hP1
  obtain ⟨hP, hD⟩ := va_join (wr := []) (w1 := [(h0, .inr (9, [.int 1, m1, m2, .int 0, m4, m5, m6, m7, m8, m9, m10, m11, m12, m13, m14, m15, m16, m17, m18, m19, m20, m21, m22, m23, m24, m25, m26, m27, m28, m29, m30, m31, m32, m33, m34, m35, m36, m37, m38, m39, m40, m41, m42, m43, m44, m45, m46, m47, m48, m49]))]) hP hD [0] [] rfl rfl (by decide) (by decide) hk1 hFc hP1 hD1
  generalize H1 = H at hP hS ⊢
  have hP : va_P (xD g) vwCl [(h0, .inr (9, [.int 1, m1, m2, .int 0, m4, m5, m6, m7, m8, m9, m10, m11, m12, m13, m14, m15, m16, m17, m18, m19, m20, m21, m22, m23, m24, m25, m26, m27, m28, m29, m30, m31, m32, m33, m34, m35, m36, m37, m38, m39, m40, m41, m42, m43, m44, m45, m46, m47, m48, m49]))] H := hP
  have hD : va_D A [(h0, .inr (9, [.int 1, m1, m2, .int 0, m4, m5, m6, m7, m8, m9, m10, m11, m12, m13, m14, m15, m16, m17, m18, m19, m20, m21, m22, m23, m24, m25, m26, m27, m28, m29, m30, m31, m32, m33, m34, m35, m36, m37, m38, m39, m40, m41, m42, m43, m44, m45, m46, m47, m48, m49]))] := hD
  try dsimp only at hw_3
  obtain rfl := hw_3
  refine lv_if_eq (tgt := 15) hx hb dX9_handling_5 (by decide) (fun _ => ?_) (fun c0 => absurd (by decide) c0)
  refine lv_iconst (v := 0) hx hb dX9_handling_15 (by decide) ?_
  have hP9 := hP.sub (ws' := [(h0, .inr (9, [.int 1, m1, m2, .int 0, m4, m5, m6, m7, m8, m9, m10, m11, m12, m13, m14, m15, m16, m17, m18, m19, m20, m21, m22, m23, m24, m25, m26, m27, m28, m29, m30, m31, m32, m33, m34, m35, m36, m37, m38, m39, m40, m41, m42, m43, m44, m45, m46, m47, m48, m49]))]) [0] rfl
  have hD9 := hD.sub (ws' := [(h0, .inr (9, [.int 1, m1, m2, .int 0, m4, m5, m6, m7, m8, m9, m10, m11, m12, m13, m14, m15, m16, m17, m18, m19, m20, m21, m22, m23, m24, m25, m26, m27, m28, m29, m30, m31, m32, m33, m34, m35, m36, m37, m38, m39, m40, m41, m42, m43, m44, m45, m46, m47, m48, m49]))]) [0] (by decide) rfl
  exact W.iret (v := 0) hx hb hr (fun t ht hW => ⟨⟨0, 1, rfl, ⟨rfl, rfl⟩, ⟨m1, m2, (.int 0), m4, m5, m6, m7, m8, m9, m10, m11, m12, m13, m14, m15, m16, m17, m18, m19, m20, m21, m22, m23, m24, m25, m26, m27, m28, m29, m30, m31, m32, m33, m34, m35, m36, m37, m38, m39, m40, m41, m42, m43, m44, m45, m46, m47, m48, m49, by rw [ht]; exact hP9, va_K.moved hW.alike hK, hD9⟩⟩, hS.F ht⟩) hS.2.2 dX9_handling_16
theorem dX9_waits_0 : decode cX9_waits 0 = .ok (.aload_n 0, 1) := by decide +kernel
theorem dX9_waits_1 : decode cX9_waits 1 = .ok (.iload_n 1, 1) := by decide +kernel
theorem dX9_waits_2 : decode cX9_waits 2 = .ok (.invokevirtual 210, 3) := by decide +kernel
set_option maxRecDepth 20000 in
theorem ggX9_waits_X9_isLooked : GoodIn wsX9_waits wsX9_isLooked := goodIn_r _ [6, 7, 8, 9, 5, 10, 11, 12, 13, 14, 15, 16, 17, 18, 19, 20, 21, 22, 23, 24, 25, 26, 27, 28, 29, 30, 31, 32, 33, 1, 34, 35, 36, 37, 38, 39, 40, 41, 42, 43, 44, 45, 46, 47, 48, 49, 50, 51, 52, 53, 54, 55, 56, 57, 58, 59, 60, 61, 62, 63, 64, 65, 66, 67, 68, 69, 70, 71, 72, 73, 74, 75, 76, 77, 78, 79, 80, 81, 82, 83, 84, 85, 86, 87, 88, 89, 90, 91, 92, 93, 94, 95, 96, 97, 98, 99, 100, 101, 102, 103, 104, 105, 106, 107, 108, 109, 110, 111] rfl (by decide +kernel)
set_option maxRecDepth 20000 in
theorem gX9_waits_X9_isLooked : GoodIn wsX9_waits (wsV RX9 210 RX9 yX9_isLooked wsX9_isLooked) := goodIn_app (goodIn_of _ (by decide +kernel)) ggX9_waits_X9_isLooked
theorem dX9_waits_5 : decode cX9_waits 5 = .ok (.ifCond .eq 10, 3) := by decide +kernel
theorem dX9_waits_15 : decode cX9_waits 15 = .ok (.iconst 0, 1) := by decide +kernel
theorem dX9_waits_16 : decode cX9_waits 16 = .ok (.ireturn, 1) := by decide +kernel
set_option maxHeartbeats 4000000 in
set_option maxRecDepth 100000 in
theorem m0_waits (l : Launch) (g : xG) (sz : Nat) (h0 : Nat) (m0 : Value) (m1 : Value) (m2 : Value) (m4 : Value) (m5 : Value) (m6 : Value) (m7 : Value) (m8 : Value) (m9 : Value) (m10 : Value) (m11 : Value) (m12 : Value) (m13 : Value) (m14 : Value) (m15 : Value) (m16 : Value) (m17 : Value) (m18 : Value) (m19 : Value) (m20 : Value) (m21 : Value) (m22 : Value) (m23 : Value) (m24 : Value) (m25 : Value) (m26 : Value) (m27 : Value) (m28 : Value) (m29 : Value) (m30 : Value) (m31 : Value) (m32 : Value) (m33 : Value) (m34 : Value) (m35 : Value) (m36 : Value) (m37 : Value) (m38 : Value) (m39 : Value) (m40 : Value) (m41 : Value) (m42 : Value) (m43 : Value) (m44 : Value) (m45 : Value) (m46 : Value) (m47 : Value) (m48 : Value) (m49 : Value) (p0 : Int32)  : Met l yX9_waits wsX9_waits ({ frames := 4, cells := 0, slots := 0, locals := 86 }) (va_Pc [.ref h0, .int p0] (fun U => xB g [(h0, .inr (9, [m0, m1, m2, .int 0, m4, m5, m6, m7, m8, m9, m10, m11, m12, m13, m14, m15, m16, m17, m18, m19, m20, m21, m22, m23, m24, m25, m26, m27, m28, m29, m30, m31, m32, m33, m34, m35, m36, m37, m38, m39, m40, m41, m42, m43, m44, m45, m46, m47, m48, m49]))] sz U)) (va_Qi (fun (r : Int32) (u : Int32) => u = 1 ∧ r = 0) (fun (u : Int32) (t : State) => ∃ (w1 : Value) (w2 : Value) (w3 : Value) (w4 : Value) (w5 : Value) (w6 : Value) (w7 : Value) (w8 : Value) (w9 : Value) (w10 : Value) (w11 : Value) (w12 : Value) (w13 : Value) (w14 : Value) (w15 : Value) (w16 : Value) (w17 : Value) (w18 : Value) (w19 : Value) (w20 : Value) (w21 : Value) (w22 : Value) (w23 : Value) (w24 : Value) (w25 : Value) (w26 : Value) (w27 : Value) (w28 : Value) (w29 : Value) (w30 : Value) (w31 : Value) (w32 : Value) (w33 : Value) (w34 : Value) (w35 : Value) (w36 : Value) (w37 : Value) (w38 : Value) (w39 : Value) (w40 : Value) (w41 : Value) (w42 : Value) (w43 : Value) (w44 : Value) (w45 : Value) (w46 : Value) (w47 : Value) (w48 : Value) (w49 : Value), xE g [(h0, .inr (9, [.int u, w1, w2, w3, w4, w5, w6, w7, w8, w9, w10, w11, w12, w13, w14, w15, w16, w17, w18, w19, w20, w21, w22, w23, w24, w25, w26, w27, w28, w29, w30, w31, w32, w33, w34, w35, w36, w37, w38, w39, w40, w41, w42, w43, w44, w45, w46, w47, w48, w49]))] (va_A [(h0, .inr (9, [m0, m1, m2, .int 0, m4, m5, m6, m7, m8, m9, m10, m11, m12, m13, m14, m15, m16, m17, m18, m19, m20, m21, m22, m23, m24, m25, m26, m27, m28, m29, m30, m31, m32, m33, m34, m35, m36, m37, m38, m39, m40, m41, m42, m43, m44, m45, m46, m47, m48, m49]))] sz) t) (va_A [(h0, .inr (9, [m0, m1, m2, .int 0, m4, m5, m6, m7, m8, m9, m10, m11, m12, m13, m14, m15, m16, m17, m18, m19, m20, m21, m22, m23, m24, m25, m26, m27, m28, m29, m30, m31, m32, m33, m34, m35, m36, m37, m38, m39, m40, m41, m42, m43, m44, m45, m46, m47, m48, m49]))] sz)) 0 0 (va_A [(h0, .inr (9, [m0, m1, m2, .int 0, m4, m5, m6, m7, m8, m9, m10, m11, m12, m13, m14, m15, m16, m17, m18, m19, m20, m21, m22, m23, m24, m25, m26, m27, m28, m29, m30, m31, m32, m33, m34, m35, m36, m37, m38, m39, m40, m41, m42, m43, m44, m45, m46, m47, m48, m49]))] sz) := by
  refine Met.ofW (cc := cX9_waits) (maxL := 2) (ret := (some .int)) (by decide) rfl ?_
  intro p e s m args below meth c s₁ B hml hv
  obtain ⟨rfl, ⟨hsz, hP, hK, hD0⟩⟩ := hv
  have hx := B.exec
  have hb := B.bytes
  have hr := B.returns
  have hts := atoms_spec (ws := wsX9_waits) B.pre
  have hown : s.vm.findClass RX9 = some m.cls := findClass_of_methodNamed B.named
  have hlocks := B.notSynchronized
  subst hsz
  have hD := hD0.self (sz := s.heap.size)
  generalize hAe : va_A [(h0, .inr (9, [m0, m1, m2, .int 0, m4, m5, m6, m7, m8, m9, m10, m11, m12, m13, m14, m15, m16, m17, m18, m19, m20, m21, m22, m23, m24, m25, m26, m27, m28, m29, m30, m31, m32, m33, m34, m35, m36, m37, m38, m39, m40, m41, m42, m43, m44, m45, m46, m47, m48, m49]))] s.heap.size = A at hD ⊢
  have hA : ∀ q : Nat, s.heap.size ≤ q → A q := fun q h => by rw [← hAe]; exact Or.inr h
  have hS : va_S A s.heap s.heap [] := va_S.rf
  have hl := lv_entry ([.ref h0, .int p0]) (n := 2) (Nat.le_of_ble_eq_true rfl)
  rw [lg_entry_eq]
  generalize (lg_sl ([.ref h0, .int p0]) ++ List.replicate (2 - (lg_sl ([.ref h0, .int p0])).length) Slot.unset).toArray = ls at hl ⊢
  have hl : lv_has ls 2 [(0, .ref h0), (1, .int p0)] := hl
  refine lv_aload_n hx hb dX9_waits_0 rfl (lv_at hl 0 rfl) ?_
  refine lv_iload_n hx hb dX9_waits_1 rfl (lv_at hl 1 rfl) ?_
  have hPc := hP.sub (ws' := [(h0, .inr (9, [m0, m1, m2, .int 0, m4, m5, m6, m7, m8, m9, m10, m11, m12, m13, m14, m15, m16, m17, m18, m19, m20, m21, m22, m23, m24, m25, m26, m27, m28, m29, m30, m31, m32, m33, m34, m35, m36, m37, m38, m39, m40, m41, m42, m43, m44, m45, m46, m47, m48, m49]))]) [0] rfl
  have hDc := hD.sub (ws' := [(h0, .inr (9, [m0, m1, m2, .int 0, m4, m5, m6, m7, m8, m9, m10, m11, m12, m13, m14, m15, m16, m17, m18, m19, m20, m21, m22, m23, m24, m25, m26, m27, m28, m29, m30, m31, m32, m33, m34, m35, m36, m37, m38, m39, m40, m41, m42, m43, m44, m45, m46, m47, m48, m49]))]) [0] (by decide) rfl
  have hFc := va_free (wc := [(h0, .inr (9, [m0, m1, m2, .int 0, m4, m5, m6, m7, m8, m9, m10, m11, m12, m13, m14, m15, m16, m17, m18, m19, m20, m21, m22, m23, m24, m25, m26, m27, m28, m29, m30, m31, m32, m33, m34, m35, m36, m37, m38, m39, m40, m41, m42, m43, m44, m45, m46, m47, m48, m49]))]) hD hS hA [0] rfl
  refine va_calli (va_runV (As := [.int p0]) (rest := []) ⟨hx, hb, hml, hown, hts⟩ (m0_isLooked l g s.heap.size h0 m0 m1 m2 m4 m5 m6 m7 m8 m9 m10 m11 m12 m13 m14 m15 m16 m17 m18 m19 m20 m21 m22 m23 m24 m25 m26 m27 m28 m29 m30 m31 m32 m33 m34 m35 m36 m37 m38 m39 m40 m41 m42 m43 m44 m45 m46 m47 m48 m49 p0) (cwV 1 hts gX9_waits_X9_isLooked rfl rfl rfl (by decide +kernel) ⟨Nat.le_of_ble_eq_true rfl, Nat.le_of_ble_eq_true rfl⟩) ⟨xB.blind, va_recv hK hPc (ci := 9) (q0 := 0) rfl rfl, fun U9 hU9 hW9 => ⟨rfl, xB.mk hPc hK hDc hU9 hW9⟩⟩ rfl rfl hl.1 rfl (lv_room (Nat.le_of_ble_eq_true rfl)) dX9_waits_2 ⟨Nat.le_of_ble_eq_true rfl, Nat.le_of_ble_eq_true rfl⟩) hS (fun q _ h => hFc q h) hFc (fun r_1 u_2 t H1 locs ht hvm hw_3 hB hz1 hk1 hS => ?_)
  obtain ⟨hP1, hK1, hD1⟩ := hB
  rw [ht] at hP1
  obtain ⟨hP, hD⟩ := va_join (wr := []) (w1 := [(h0, .inr (9, [.int 1, m1, m2, .int 0, m4, m5, m6, m7, m8, m9, m10, m11, m12, m13, m14, m15, m16, m17, m18, m19, m20, m21, m22, m23, m24, m25, m26, m27, m28, m29, m30, m31, m32, m33, m34, m35, m36, m37, m38, m39, m40, m41, m42, m43, m44, m45, m46, m47, m48, m49]))]) hP hD [0] [] rfl rfl (by decide) (by decide) hk1 hFc hP1 hD1
  generalize H1 = H at hP hS ⊢
  have hP : va_P (xD g) vwCl [(h0, .inr (9, [.int 1, m1, m2, .int 0, m4, m5, m6, m7, m8, m9, m10, m11, m12, m13, m14, m15, m16, m17, m18, m19, m20, m21, m22, m23, m24, m25, m26, m27, m28, m29, m30, m31, m32, m33, m34, m35, m36, m37, m38, m39, m40, m41, m42, m43, m44, m45, m46, m47, m48, m49]))] H := hP
  have hD : va_D A [(h0, .inr (9, [.int 1, m1, m2, .int 0, m4, m5, m6, m7, m8, m9, m10, m11, m12, m13, m14, m15, m16, m17, m18, m19, m20, m21, m22, m23, m24, m25, m26, m27, m28, m29, m30, m31, m32, m33, m34, m35, m36, m37, m38, m39, m40, m41, m42, m43, m44, m45, m46, m47, m48, m49]))] := hD
  try dsimp only at hw_3
  obtain rfl := hw_3
  refine lv_if_eq (tgt := 15) hx hb dX9_waits_5 (by decide) (fun _ => ?_) (fun c0 => absurd (by decide) c0)
  refine lv_iconst (v := 0) hx hb dX9_waits_15 (by decide) ?_
  have hP9 := hP.sub (ws' := [(h0, .inr (9, [.int 1, m1, m2, .int 0, m4, m5, m6, m7, m8, m9, m10, m11, m12, m13, m14, m15, m16, m17, m18, m19, m20, m21, m22, m23, m24, m25, m26, m27, m28, m29, m30, m31, m32, m33, m34, m35, m36, m37, m38, m39, m40, m41, m42, m43, m44, m45, m46, m47, m48, m49]))]) [0] rfl
  have hD9 := hD.sub (ws' := [(h0, .inr (9, [.int 1, m1, m2, .int 0, m4, m5, m6, m7, m8, m9, m10, m11, m12, m13, m14, m15, m16, m17, m18, m19, m20, m21, m22, m23, m24, m25, m26, m27, m28, m29, m30, m31, m32, m33, m34, m35, m36, m37, m38, m39, m40, m41, m42, m43, m44, m45, m46, m47, m48, m49]))]) [0] (by decide) rfl
  exact W.iret (v := 0) hx hb hr (fun t ht hW => ⟨⟨0, 1, rfl, ⟨rfl, rfl⟩, ⟨m1, m2, (.int 0), m4, m5, m6, m7, m8, m9, m10, m11, m12, m13, m14, m15, m16, m17, m18, m19, m20, m21, m22, m23, m24, m25, m26, m27, m28, m29, m30, m31, m32, m33, m34, m35, m36, m37, m38, m39, m40, m41, m42, m43, m44, m45, m46, m47, m48, m49, by rw [ht]; exact hP9, va_K.moved hW.alike hK, hD9⟩⟩, hS.F ht⟩) hS.2.2 dX9_waits_16
theorem dX9_delayIf_0 : decode cX9_delayIf 0 = .ok (.aload_n 0, 1) := by decide +kernel
theorem dX9_delayIf_1 : decode cX9_delayIf 1 = .ok (.iload_n 1, 1) := by decide +kernel
theorem dX9_delayIf_2 : decode cX9_delayIf 2 = .ok (.invokevirtual 147, 3) := by decide +kernel
set_option maxRecDepth 20000 in
theorem ggX9_delayIf_X9_isNoVessel : GoodIn wsX9_delayIf wsX9_isNoVessel := goodIn_r _ [6, 7, 8, 9, 5, 10, 11, 12, 13, 14, 15, 16, 17, 18, 19, 109, 110, 111, 112, 113, 114, 115, 116, 117, 118, 119, 120, 121, 122, 123, 124, 125, 126, 127, 128, 129, 130, 131, 132, 133, 134, 135, 136, 137, 138, 139, 140, 141, 142, 143, 144, 145, 146, 147, 148, 149, 150, 151, 152, 153, 154, 155, 156, 157, 158] rfl (by decide +kernel)
set_option maxRecDepth 20000 in
theorem gX9_delayIf_X9_isNoVessel : GoodIn wsX9_delayIf (wsV RX9 147 RX9 yX9_isNoVessel wsX9_isNoVessel) := goodIn_app (goodIn_of _ (by decide +kernel)) ggX9_delayIf_X9_isNoVessel
theorem dX9_delayIf_5 : decode cX9_delayIf 5 = .ok (.ifCond .ne 27, 3) := by decide +kernel
theorem dX9_delayIf_32 : decode cX9_delayIf 32 = .ok (.iconst 0, 1) := by decide +kernel
theorem dX9_delayIf_33 : decode cX9_delayIf 33 = .ok (.ireturn, 1) := by decide +kernel
set_option maxHeartbeats 4000000 in
set_option maxRecDepth 100000 in
theorem m0_delayIf (l : Launch) (g : xG) (sz : Nat) (h0 : Nat) (m0 : Value) (m1 : Value) (m2 : Value) (m4 : Value) (m5 : Value) (m6 : Value) (m7 : Value) (m8 : Value) (m9 : Value) (m10 : Value) (m11 : Value) (m12 : Value) (m13 : Value) (m14 : Value) (m15 : Value) (m16 : Value) (m17 : Value) (m18 : Value) (m19 : Value) (m20 : Value) (m21 : Value) (m22 : Value) (m23 : Value) (m24 : Value) (m25 : Value) (m26 : Value) (m27 : Value) (m28 : Value) (m29 : Value) (m30 : Value) (m31 : Value) (m32 : Value) (m33 : Value) (m34 : Value) (m35 : Value) (m36 : Value) (m37 : Value) (m38 : Value) (m39 : Value) (m40 : Value) (m41 : Value) (m42 : Value) (m43 : Value) (m44 : Value) (m45 : Value) (m46 : Value) (m47 : Value) (m48 : Value) (m49 : Value) (p0 : Int32) (p1 : Int32)  : Met l yX9_delayIf wsX9_delayIf ({ frames := 3, cells := 0, slots := 0, locals := 65 }) (va_Pc [.ref h0, .int p0, .int p1] (fun U => xB g [(h0, .inr (9, [m0, m1, m2, .int 0, m4, m5, m6, m7, m8, m9, m10, m11, m12, m13, m14, m15, m16, m17, m18, m19, m20, m21, m22, m23, m24, m25, m26, m27, m28, m29, m30, m31, m32, m33, m34, m35, m36, m37, m38, m39, m40, m41, m42, m43, m44, m45, m46, m47, m48, m49]))] sz U)) (va_Qi (fun (r : Int32) (u : Int32) => u = 1 ∧ r = 0) (fun (u : Int32) (t : State) => ∃ (w1 : Value) (w2 : Value) (w3 : Value) (w4 : Value) (w5 : Value) (w6 : Value) (w7 : Value) (w8 : Value) (w9 : Value) (w10 : Value) (w11 : Value) (w12 : Value) (w13 : Value) (w14 : Value) (w15 : Value) (w16 : Value) (w17 : Value) (w18 : Value) (w19 : Value) (w20 : Value) (w21 : Value) (w22 : Value) (w23 : Value) (w24 : Value) (w25 : Value) (w26 : Value) (w27 : Value) (w28 : Value) (w29 : Value) (w30 : Value) (w31 : Value) (w32 : Value) (w33 : Value) (w34 : Value) (w35 : Value) (w36 : Value) (w37 : Value) (w38 : Value) (w39 : Value) (w40 : Value) (w41 : Value) (w42 : Value) (w43 : Value) (w44 : Value) (w45 : Value) (w46 : Value) (w47 : Value) (w48 : Value) (w49 : Value), xE g [(h0, .inr (9, [.int u, w1, w2, w3, w4, w5, w6, w7, w8, w9, w10, w11, w12, w13, w14, w15, w16, w17, w18, w19, w20, w21, w22, w23, w24, w25, w26, w27, w28, w29, w30, w31, w32, w33, w34, w35, w36, w37, w38, w39, w40, w41, w42, w43, w44, w45, w46, w47, w48, w49]))] (va_A [(h0, .inr (9, [m0, m1, m2, .int 0, m4, m5, m6, m7, m8, m9, m10, m11, m12, m13, m14, m15, m16, m17, m18, m19, m20, m21, m22, m23, m24, m25, m26, m27, m28, m29, m30, m31, m32, m33, m34, m35, m36, m37, m38, m39, m40, m41, m42, m43, m44, m45, m46, m47, m48, m49]))] sz) t) (va_A [(h0, .inr (9, [m0, m1, m2, .int 0, m4, m5, m6, m7, m8, m9, m10, m11, m12, m13, m14, m15, m16, m17, m18, m19, m20, m21, m22, m23, m24, m25, m26, m27, m28, m29, m30, m31, m32, m33, m34, m35, m36, m37, m38, m39, m40, m41, m42, m43, m44, m45, m46, m47, m48, m49]))] sz)) 0 0 (va_A [(h0, .inr (9, [m0, m1, m2, .int 0, m4, m5, m6, m7, m8, m9, m10, m11, m12, m13, m14, m15, m16, m17, m18, m19, m20, m21, m22, m23, m24, m25, m26, m27, m28, m29, m30, m31, m32, m33, m34, m35, m36, m37, m38, m39, m40, m41, m42, m43, m44, m45, m46, m47, m48, m49]))] sz) := by
  refine Met.ofW (cc := cX9_delayIf) (maxL := 5) (ret := (some .int)) (by decide) rfl ?_
  intro p e s m args below meth c s₁ B hml hv
  obtain ⟨rfl, ⟨hsz, hP, hK, hD0⟩⟩ := hv
  have hx := B.exec
  have hb := B.bytes
  have hr := B.returns
  have hts := atoms_spec (ws := wsX9_delayIf) B.pre
  have hown : s.vm.findClass RX9 = some m.cls := findClass_of_methodNamed B.named
  have hlocks := B.notSynchronized
  subst hsz
  have hD := hD0.self (sz := s.heap.size)
  generalize hAe : va_A [(h0, .inr (9, [m0, m1, m2, .int 0, m4, m5, m6, m7, m8, m9, m10, m11, m12, m13, m14, m15, m16, m17, m18, m19, m20, m21, m22, m23, m24, m25, m26, m27, m28, m29, m30, m31, m32, m33, m34, m35, m36, m37, m38, m39, m40, m41, m42, m43, m44, m45, m46, m47, m48, m49]))] s.heap.size = A at hD ⊢
  have hA : ∀ q : Nat, s.heap.size ≤ q → A q := fun q h => by rw [← hAe]; exact Or.inr h
  have hS : va_S A s.heap s.heap [] := va_S.rf
  have hl := lv_entry ([.ref h0, .int p0, .int p1]) (n := 5) (Nat.le_of_ble_eq_true rfl)
  rw [lg_entry_eq]
  generalize (lg_sl ([.ref h0, .int p0, .int p1]) ++ List.replicate (5 - (lg_sl ([.ref h0, .int p0, .int p1])).length) Slot.unset).toArray = ls at hl ⊢
  have hl : lv_has ls 5 [(0, .ref h0), (1, .int p0), (2, .int p1)] := hl
  refine lv_aload_n hx hb dX9_delayIf_0 rfl (lv_at hl 0 rfl) ?_
  refine lv_iload_n hx hb dX9_delayIf_1 rfl (lv_at hl 1 rfl) ?_
  have hPc := hP.sub (ws' := [(h0, .inr (9, [m0, m1, m2, .int 0, m4, m5, m6, m7, m8, m9, m10, m11, m12, m13, m14, m15, m16, m17, m18, m19, m20, m21, m22, m23, m24, m25, m26, m27, m28, m29, m30, m31, m32, m33, m34, m35, m36, m37, m38, m39, m40, m41, m42, m43, m44, m45, m46, m47, m48, m49]))]) [0] rfl
  have hDc := hD.sub (ws' := [(h0, .inr (9, [m0, m1, m2, .int 0, m4, m5, m6, m7, m8, m9, m10, m11, m12, m13, m14, m15, m16, m17, m18, m19, m20, m21, m22, m23, m24, m25, m26, m27, m28, m29, m30, m31, m32, m33, m34, m35, m36, m37, m38, m39, m40, m41, m42, m43, m44, m45, m46, m47, m48, m49]))]) [0] (by decide) rfl
  have hFc := va_free (wc := [(h0, .inr (9, [m0, m1, m2, .int 0, m4, m5, m6, m7, m8, m9, m10, m11, m12, m13, m14, m15, m16, m17, m18, m19, m20, m21, m22, m23, m24, m25, m26, m27, m28, m29, m30, m31, m32, m33, m34, m35, m36, m37, m38, m39, m40, m41, m42, m43, m44, m45, m46, m47, m48, m49]))]) hD hS hA [0] rfl
  refine va_calli (va_runV (As := [.int p0]) (rest := []) ⟨hx, hb, hml, hown, hts⟩ (m0_isNoVessel l g s.heap.size h0 m0 m1 m2 m4 m5 m6 m7 m8 m9 m10 m11 m12 m13 m14 m15 m16 m17 m18 m19 m20 m21 m22 m23 m24 m25 m26 m27 m28 m29 m30 m31 m32 m33 m34 m35 m36 m37 m38 m39 m40 m41 m42 m43 m44 m45 m46 m47 m48 m49 p0) (cwV 1 hts gX9_delayIf_X9_isNoVessel rfl rfl rfl (by decide +kernel) ⟨Nat.le_of_ble_eq_true rfl, Nat.le_of_ble_eq_true rfl⟩) ⟨xB.blind, va_recv hK hPc (ci := 9) (q0 := 0) rfl rfl, fun U9 hU9 hW9 => ⟨rfl, xB.mk hPc hK hDc hU9 hW9⟩⟩ rfl rfl hl.1 rfl (lv_room (Nat.le_of_ble_eq_true rfl)) dX9_delayIf_2 ⟨Nat.le_of_ble_eq_true rfl, Nat.le_of_ble_eq_true rfl⟩) hS (fun q _ h => hFc q h) hFc (fun r_1 u_2 t H1 locs ht hvm hw_3 hB hz1 hk1 hS => ?_)
  obtain ⟨hP1, hK1, hD1⟩ := hB
  rw [ht] at hP1
  obtain ⟨hP, hD⟩ := va_join (wr := []) (w1 := [(h0, .inr (9, [.int 1, m1, m2, .int 0, m4, m5, m6, m7, m8, m9, m10, m11, m12, m13, m14, m15, m16, m17, m18, m19, m20, m21, m22, m23, m24, m25, m26, m27, m28, m29, m30, m31, m32, m33, m34, m35, m36, m37, m38, m39, m40, m41, m42, m43, m44, m45, m46, m47, m48, m49]))]) hP hD [0] [] rfl rfl (by decide) (by decide) hk1 hFc hP1 hD1
  generalize H1 = H at hP hS ⊢
  have hP : va_P (xD g) vwCl [(h0, .inr (9, [.int 1, m1, m2, .int 0, m4, m5, m6, m7, m8, m9, m10, m11, m12, m13, m14, m15, m16, m17, m18, m19, m20, m21, m22, m23, m24, m25, m26, m27, m28, m29, m30, m31, m32, m33, m34, m35, m36, m37, m38, m39, m40, m41, m42, m43, m44, m45, m46, m47, m48, m49]))] H := hP
  have hD : va_D A [(h0, .inr (9, [.int 1, m1, m2, .int 0, m4, m5, m6, m7, m8, m9, m10, m11, m12, m13, m14, m15, m16, m17, m18, m19, m20, m21, m22, m23, m24, m25, m26, m27, m28, m29, m30, m31, m32, m33, m34, m35, m36, m37, m38, m39, m40, m41, m42, m43, m44, m45, m46, m47, m48, m49]))] := hD
  try dsimp only at hw_3
  obtain rfl := hw_3
  refine lv_if_ne (tgt := 32) hx hb dX9_delayIf_5 (by decide) (fun _ => ?_) (fun c0 => absurd c0 (by decide))
  refine lv_iconst (v := 0) hx hb dX9_delayIf_32 (by decide) ?_
  have hP9 := hP.sub (ws' := [(h0, .inr (9, [.int 1, m1, m2, .int 0, m4, m5, m6, m7, m8, m9, m10, m11, m12, m13, m14, m15, m16, m17, m18, m19, m20, m21, m22, m23, m24, m25, m26, m27, m28, m29, m30, m31, m32, m33, m34, m35, m36, m37, m38, m39, m40, m41, m42, m43, m44, m45, m46, m47, m48, m49]))]) [0] rfl
  have hD9 := hD.sub (ws' := [(h0, .inr (9, [.int 1, m1, m2, .int 0, m4, m5, m6, m7, m8, m9, m10, m11, m12, m13, m14, m15, m16, m17, m18, m19, m20, m21, m22, m23, m24, m25, m26, m27, m28, m29, m30, m31, m32, m33, m34, m35, m36, m37, m38, m39, m40, m41, m42, m43, m44, m45, m46, m47, m48, m49]))]) [0] (by decide) rfl
  exact W.iret (v := 0) hx hb hr (fun t ht hW => ⟨⟨0, 1, rfl, ⟨rfl, rfl⟩, ⟨m1, m2, (.int 0), m4, m5, m6, m7, m8, m9, m10, m11, m12, m13, m14, m15, m16, m17, m18, m19, m20, m21, m22, m23, m24, m25, m26, m27, m28, m29, m30, m31, m32, m33, m34, m35, m36, m37, m38, m39, m40, m41, m42, m43, m44, m45, m46, m47, m48, m49, by rw [ht]; exact hP9, va_K.moved hW.alike hK, hD9⟩⟩, hS.F ht⟩) hS.2.2 dX9_delayIf_33
theorem dX9_work_0 : decode cX9_work 0 = .ok (.aload_n 0, 1) := by decide +kernel
theorem dX9_work_1 : decode cX9_work 1 = .ok (.iload_n 1, 1) := by decide +kernel
theorem dX9_work_2 : decode cX9_work 2 = .ok (.iload_n 2, 1) := by decide +kernel
theorem dX9_work_3 : decode cX9_work 3 = .ok (.invokevirtual 151, 3) := by decide +kernel
set_option maxRecDepth 20000 in
theorem ggX9_work_X9_isNoBay : GoodIn wsX9_work wsX9_isNoBay := goodIn_r _ [5, 6, 7, 8, 9, 4, 10, 11, 12, 13, 14, 15, 16, 17, 18, 19, 20, 21, 22, 23, 31, 32, 33, 34, 35, 36, 37, 38, 39, 40, 41, 42, 43, 44, 45, 46, 47, 48, 49, 50, 51, 52, 53, 54, 55, 56, 57, 58, 59, 60, 61, 62, 63, 64, 65, 66, 67, 68, 69, 70, 71, 72, 73, 74, 75, 76, 77, 78, 79, 80] rfl (by decide +kernel)
set_option maxRecDepth 20000 in
theorem gX9_work_X9_isNoBay : GoodIn wsX9_work (wsV RX9 151 RX9 yX9_isNoBay wsX9_isNoBay) := goodIn_app (goodIn_of _ (by decide +kernel)) ggX9_work_X9_isNoBay
theorem dX9_work_6 : decode cX9_work 6 = .ok (.ifCond .eq 7, 3) := by decide +kernel
theorem dX9_work_9 : decode cX9_work 9 = .ok (.iconst 0, 1) := by decide +kernel
theorem dX9_work_10 : decode cX9_work 10 = .ok (.goto 9, 3) := by decide +kernel
theorem dX9_work_19 : decode cX9_work 19 = .ok (.ireturn, 1) := by decide +kernel
set_option maxHeartbeats 4000000 in
set_option maxRecDepth 100000 in
theorem m0_work (l : Launch) (g : xG) (sz : Nat) (h0 : Nat) (m0 : Value) (m1 : Value) (m2 : Value) (m4 : Value) (m5 : Value) (m6 : Value) (m7 : Value) (m8 : Value) (m9 : Value) (m10 : Value) (m11 : Value) (m12 : Value) (m13 : Value) (m14 : Value) (m15 : Value) (m16 : Value) (m17 : Value) (m18 : Value) (m19 : Value) (m20 : Value) (m21 : Value) (m22 : Value) (m23 : Value) (m24 : Value) (m25 : Value) (m26 : Value) (m27 : Value) (m28 : Value) (m29 : Value) (m30 : Value) (m31 : Value) (m32 : Value) (m33 : Value) (m34 : Value) (m35 : Value) (m36 : Value) (m37 : Value) (m38 : Value) (m39 : Value) (m40 : Value) (m41 : Value) (m42 : Value) (m43 : Value) (m44 : Value) (m45 : Value) (m46 : Value) (m47 : Value) (m48 : Value) (m49 : Value) (p0 : Int32) (p1 : Int32)  : Met l yX9_work wsX9_work ({ frames := 4, cells := 0, slots := 0, locals := 87 }) (va_Pc [.ref h0, .int p0, .int p1] (fun U => xB g [(h0, .inr (9, [m0, m1, m2, .int 0, m4, m5, m6, m7, m8, m9, m10, m11, m12, m13, m14, m15, m16, m17, m18, m19, m20, m21, m22, m23, m24, m25, m26, m27, m28, m29, m30, m31, m32, m33, m34, m35, m36, m37, m38, m39, m40, m41, m42, m43, m44, m45, m46, m47, m48, m49]))] sz U)) (va_Qi (fun (r : Int32) (u : Int32) => u = 1 ∧ r = 0) (fun (u : Int32) (t : State) => ∃ (w1 : Value) (w2 : Value) (w3 : Value) (w4 : Value) (w5 : Value) (w6 : Value) (w7 : Value) (w8 : Value) (w9 : Value) (w10 : Value) (w11 : Value) (w12 : Value) (w13 : Value) (w14 : Value) (w15 : Value) (w16 : Value) (w17 : Value) (w18 : Value) (w19 : Value) (w20 : Value) (w21 : Value) (w22 : Value) (w23 : Value) (w24 : Value) (w25 : Value) (w26 : Value) (w27 : Value) (w28 : Value) (w29 : Value) (w30 : Value) (w31 : Value) (w32 : Value) (w33 : Value) (w34 : Value) (w35 : Value) (w36 : Value) (w37 : Value) (w38 : Value) (w39 : Value) (w40 : Value) (w41 : Value) (w42 : Value) (w43 : Value) (w44 : Value) (w45 : Value) (w46 : Value) (w47 : Value) (w48 : Value) (w49 : Value), xE g [(h0, .inr (9, [.int u, w1, w2, w3, w4, w5, w6, w7, w8, w9, w10, w11, w12, w13, w14, w15, w16, w17, w18, w19, w20, w21, w22, w23, w24, w25, w26, w27, w28, w29, w30, w31, w32, w33, w34, w35, w36, w37, w38, w39, w40, w41, w42, w43, w44, w45, w46, w47, w48, w49]))] (va_A [(h0, .inr (9, [m0, m1, m2, .int 0, m4, m5, m6, m7, m8, m9, m10, m11, m12, m13, m14, m15, m16, m17, m18, m19, m20, m21, m22, m23, m24, m25, m26, m27, m28, m29, m30, m31, m32, m33, m34, m35, m36, m37, m38, m39, m40, m41, m42, m43, m44, m45, m46, m47, m48, m49]))] sz) t) (va_A [(h0, .inr (9, [m0, m1, m2, .int 0, m4, m5, m6, m7, m8, m9, m10, m11, m12, m13, m14, m15, m16, m17, m18, m19, m20, m21, m22, m23, m24, m25, m26, m27, m28, m29, m30, m31, m32, m33, m34, m35, m36, m37, m38, m39, m40, m41, m42, m43, m44, m45, m46, m47, m48, m49]))] sz)) 0 0 (va_A [(h0, .inr (9, [m0, m1, m2, .int 0, m4, m5, m6, m7, m8, m9, m10, m11, m12, m13, m14, m15, m16, m17, m18, m19, m20, m21, m22, m23, m24, m25, m26, m27, m28, m29, m30, m31, m32, m33, m34, m35, m36, m37, m38, m39, m40, m41, m42, m43, m44, m45, m46, m47, m48, m49]))] sz) := by
  refine Met.ofW (cc := cX9_work) (maxL := 3) (ret := (some .int)) (by decide) rfl ?_
  intro p e s m args below meth c s₁ B hml hv
  obtain ⟨rfl, ⟨hsz, hP, hK, hD0⟩⟩ := hv
  have hx := B.exec
  have hb := B.bytes
  have hr := B.returns
  have hts := atoms_spec (ws := wsX9_work) B.pre
  have hown : s.vm.findClass RX9 = some m.cls := findClass_of_methodNamed B.named
  have hlocks := B.notSynchronized
  subst hsz
  have hD := hD0.self (sz := s.heap.size)
  generalize hAe : va_A [(h0, .inr (9, [m0, m1, m2, .int 0, m4, m5, m6, m7, m8, m9, m10, m11, m12, m13, m14, m15, m16, m17, m18, m19, m20, m21, m22, m23, m24, m25, m26, m27, m28, m29, m30, m31, m32, m33, m34, m35, m36, m37, m38, m39, m40, m41, m42, m43, m44, m45, m46, m47, m48, m49]))] s.heap.size = A at hD ⊢
  have hA : ∀ q : Nat, s.heap.size ≤ q → A q := fun q h => by rw [← hAe]; exact Or.inr h
  have hS : va_S A s.heap s.heap [] := va_S.rf
  have hl := lv_entry ([.ref h0, .int p0, .int p1]) (n := 3) (Nat.le_of_ble_eq_true rfl)
  rw [lg_entry_eq]
  generalize (lg_sl ([.ref h0, .int p0, .int p1]) ++ List.replicate (3 - (lg_sl ([.ref h0, .int p0, .int p1])).length) Slot.unset).toArray = ls at hl ⊢
  have hl : lv_has ls 3 [(0, .ref h0), (1, .int p0), (2, .int p1)] := hl
  refine lv_aload_n hx hb dX9_work_0 rfl (lv_at hl 0 rfl) ?_
  refine lv_iload_n hx hb dX9_work_1 rfl (lv_at hl 1 rfl) ?_
  refine lv_iload_n hx hb dX9_work_2 rfl (lv_at hl 2 rfl) ?_
  have hPc := hP.sub (ws' := [(h0, .inr (9, [m0, m1, m2, .int 0, m4, m5, m6, m7, m8, m9, m10, m11, m12, m13, m14, m15, m16, m17, m18, m19, m20, m21, m22, m23, m24, m25, m26, m27, m28, m29, m30, m31, m32, m33, m34, m35, m36, m37, m38, m39, m40, m41, m42, m43, m44, m45, m46, m47, m48, m49]))]) [0] rfl
  have hDc := hD.sub (ws' := [(h0, .inr (9, [m0, m1, m2, .int 0, m4, m5, m6, m7, m8, m9, m10, m11, m12, m13, m14, m15, m16, m17, m18, m19, m20, m21, m22, m23, m24, m25, m26, m27, m28, m29, m30, m31, m32, m33, m34, m35, m36, m37, m38, m39, m40, m41, m42, m43, m44, m45, m46, m47, m48, m49]))]) [0] (by decide) rfl
  have hFc := va_free (wc := [(h0, .inr (9, [m0, m1, m2, .int 0, m4, m5, m6, m7, m8, m9, m10, m11, m12, m13, m14, m15, m16, m17, m18, m19, m20, m21, m22, m23, m24, m25, m26, m27, m28, m29, m30, m31, m32, m33, m34, m35, m36, m37, m38, m39, m40, m41, m42, m43, m44, m45, m46, m47, m48, m49]))]) hD hS hA [0] rfl
  refine va_calli (va_runV (As := [.int p0, .int p1]) (rest := []) ⟨hx, hb, hml, hown, hts⟩ (m0_isNoBay l g s.heap.size h0 m0 m1 m2 m4 m5 m6 m7 m8 m9 m10 m11 m12 m13 m14 m15 m16 m17 m18 m19 m20 m21 m22 m23 m24 m25 m26 m27 m28 m29 m30 m31 m32 m33 m34 m35 m36 m37 m38 m39 m40 m41 m42 m43 m44 m45 m46 m47 m48 m49 p0 p1) (cwV 2 hts gX9_work_X9_isNoBay rfl rfl rfl (by decide +kernel) ⟨Nat.le_of_ble_eq_true rfl, Nat.le_of_ble_eq_true rfl⟩) ⟨xB.blind, va_recv hK hPc (ci := 9) (q0 := 0) rfl rfl, fun U9 hU9 hW9 => ⟨rfl, xB.mk hPc hK hDc hU9 hW9⟩⟩ rfl rfl hl.1 rfl (lv_room (Nat.le_of_ble_eq_true rfl)) dX9_work_3 ⟨Nat.le_of_ble_eq_true rfl, Nat.le_of_ble_eq_true rfl⟩) hS (fun q _ h => hFc q h) hFc (fun r_1 u_2 t H1 locs ht hvm hw_3 hB hz1 hk1 hS => ?_)
  obtain ⟨hP1, hK1, hD1⟩ := hB
  rw [ht] at hP1
  obtain ⟨hP, hD⟩ := va_join (wr := []) (w1 := [(h0, .inr (9, [.int 1, m1, m2, .int 0, m4, m5, m6, m7, m8, m9, m10, m11, m12, m13, m14, m15, m16, m17, m18, m19, m20, m21, m22, m23, m24, m25, m26, m27, m28, m29, m30, m31, m32, m33, m34, m35, m36, m37, m38, m39, m40, m41, m42, m43, m44, m45, m46, m47, m48, m49]))]) hP hD [0] [] rfl rfl (by decide) (by decide) hk1 hFc hP1 hD1
  generalize H1 = H at hP hS ⊢
  have hP : va_P (xD g) vwCl [(h0, .inr (9, [.int 1, m1, m2, .int 0, m4, m5, m6, m7, m8, m9, m10, m11, m12, m13, m14, m15, m16, m17, m18, m19, m20, m21, m22, m23, m24, m25, m26, m27, m28, m29, m30, m31, m32, m33, m34, m35, m36, m37, m38, m39, m40, m41, m42, m43, m44, m45, m46, m47, m48, m49]))] H := hP
  have hD : va_D A [(h0, .inr (9, [.int 1, m1, m2, .int 0, m4, m5, m6, m7, m8, m9, m10, m11, m12, m13, m14, m15, m16, m17, m18, m19, m20, m21, m22, m23, m24, m25, m26, m27, m28, m29, m30, m31, m32, m33, m34, m35, m36, m37, m38, m39, m40, m41, m42, m43, m44, m45, m46, m47, m48, m49]))] := hD
  try dsimp only at hw_3
  obtain rfl := hw_3
  refine lv_if_eq (tgt := 13) hx hb dX9_work_6 (by decide) (fun c0 => absurd c0 (by decide)) (fun _ => ?_)
  refine lv_iconst (v := 0) hx hb dX9_work_9 (by decide) ?_
  refine lv_goto (tgt := 19) hx hb dX9_work_10 (by decide) ?_
  have hP9 := hP.sub (ws' := [(h0, .inr (9, [.int 1, m1, m2, .int 0, m4, m5, m6, m7, m8, m9, m10, m11, m12, m13, m14, m15, m16, m17, m18, m19, m20, m21, m22, m23, m24, m25, m26, m27, m28, m29, m30, m31, m32, m33, m34, m35, m36, m37, m38, m39, m40, m41, m42, m43, m44, m45, m46, m47, m48, m49]))]) [0] rfl
  have hD9 := hD.sub (ws' := [(h0, .inr (9, [.int 1, m1, m2, .int 0, m4, m5, m6, m7, m8, m9, m10, m11, m12, m13, m14, m15, m16, m17, m18, m19, m20, m21, m22, m23, m24, m25, m26, m27, m28, m29, m30, m31, m32, m33, m34, m35, m36, m37, m38, m39, m40, m41, m42, m43, m44, m45, m46, m47, m48, m49]))]) [0] (by decide) rfl
  exact W.iret (v := 0) hx hb hr (fun t ht hW => ⟨⟨0, 1, rfl, ⟨rfl, rfl⟩, ⟨m1, m2, (.int 0), m4, m5, m6, m7, m8, m9, m10, m11, m12, m13, m14, m15, m16, m17, m18, m19, m20, m21, m22, m23, m24, m25, m26, m27, m28, m29, m30, m31, m32, m33, m34, m35, m36, m37, m38, m39, m40, m41, m42, m43, m44, m45, m46, m47, m48, m49, by rw [ht]; exact hP9, va_K.moved hW.alike hK, hD9⟩⟩, hS.F ht⟩) hS.2.2 dX9_work_19
theorem dX9_beginOf_0 : decode cX9_beginOf 0 = .ok (.aload_n 0, 1) := by decide +kernel
theorem dX9_beginOf_1 : decode cX9_beginOf 1 = .ok (.iload_n 1, 1) := by decide +kernel
theorem dX9_beginOf_2 : decode cX9_beginOf 2 = .ok (.iload_n 2, 1) := by decide +kernel
theorem dX9_beginOf_3 : decode cX9_beginOf 3 = .ok (.invokevirtual 151, 3) := by decide +kernel
set_option maxRecDepth 20000 in
theorem ggX9_beginOf_X9_isNoBay : GoodIn wsX9_beginOf wsX9_isNoBay := goodIn_r _ [6, 7, 8, 9, 10, 5, 11, 12, 13, 14, 15, 16, 17, 18, 19, 20, 21, 22, 23, 24, 62, 63, 64, 65, 66, 67, 68, 69, 70, 71, 72, 73, 74, 75, 76, 77, 78, 79, 80, 81, 82, 83, 84, 85, 86, 87, 88, 89, 90, 91, 92, 93, 94, 95, 96, 97, 98, 99, 100, 101, 102, 103, 104, 105, 106, 107, 108, 109, 110, 111] rfl (by decide +kernel)
set_option maxRecDepth 20000 in
theorem gX9_beginOf_X9_isNoBay : GoodIn wsX9_beginOf (wsV RX9 151 RX9 yX9_isNoBay wsX9_isNoBay) := goodIn_app (goodIn_of _ (by decide +kernel)) ggX9_beginOf_X9_isNoBay
theorem dX9_beginOf_6 : decode cX9_beginOf 6 = .ok (.ifCond .eq 5, 3) := by decide +kernel
theorem dX9_beginOf_9 : decode cX9_beginOf 9 = .ok (.iconst 0, 1) := by decide +kernel
theorem dX9_beginOf_10 : decode cX9_beginOf 10 = .ok (.ireturn, 1) := by decide +kernel
set_option maxHeartbeats 4000000 in
set_option maxRecDepth 100000 in
theorem m0_beginOf (l : Launch) (g : xG) (sz : Nat) (h0 : Nat) (m0 : Value) (m1 : Value) (m2 : Value) (m4 : Value) (m5 : Value) (m6 : Value) (m7 : Value) (m8 : Value) (m9 : Value) (m10 : Value) (m11 : Value) (m12 : Value) (m13 : Value) (m14 : Value) (m15 : Value) (m16 : Value) (m17 : Value) (m18 : Value) (m19 : Value) (m20 : Value) (m21 : Value) (m22 : Value) (m23 : Value) (m24 : Value) (m25 : Value) (m26 : Value) (m27 : Value) (m28 : Value) (m29 : Value) (m30 : Value) (m31 : Value) (m32 : Value) (m33 : Value) (m34 : Value) (m35 : Value) (m36 : Value) (m37 : Value) (m38 : Value) (m39 : Value) (m40 : Value) (m41 : Value) (m42 : Value) (m43 : Value) (m44 : Value) (m45 : Value) (m46 : Value) (m47 : Value) (m48 : Value) (m49 : Value) (p0 : Int32) (p1 : Int32)  : Met l yX9_beginOf wsX9_beginOf ({ frames := 4, cells := 0, slots := 0, locals := 87 }) (va_Pc [.ref h0, .int p0, .int p1] (fun U => xB g [(h0, .inr (9, [m0, m1, m2, .int 0, m4, m5, m6, m7, m8, m9, m10, m11, m12, m13, m14, m15, m16, m17, m18, m19, m20, m21, m22, m23, m24, m25, m26, m27, m28, m29, m30, m31, m32, m33, m34, m35, m36, m37, m38, m39, m40, m41, m42, m43, m44, m45, m46, m47, m48, m49]))] sz U)) (va_Qi (fun (r : Int32) (u : Int32) => u = 1 ∧ r = 0) (fun (u : Int32) (t : State) => ∃ (w1 : Value) (w2 : Value) (w3 : Value) (w4 : Value) (w5 : Value) (w6 : Value) (w7 : Value) (w8 : Value) (w9 : Value) (w10 : Value) (w11 : Value) (w12 : Value) (w13 : Value) (w14 : Value) (w15 : Value) (w16 : Value) (w17 : Value) (w18 : Value) (w19 : Value) (w20 : Value) (w21 : Value) (w22 : Value) (w23 : Value) (w24 : Value) (w25 : Value) (w26 : Value) (w27 : Value) (w28 : Value) (w29 : Value) (w30 : Value) (w31 : Value) (w32 : Value) (w33 : Value) (w34 : Value) (w35 : Value) (w36 : Value) (w37 : Value) (w38 : Value) (w39 : Value) (w40 : Value) (w41 : Value) (w42 : Value) (w43 : Value) (w44 : Value) (w45 : Value) (w46 : Value) (w47 : Value) (w48 : Value) (w49 : Value), xE g [(h0, .inr (9, [.int u, w1, w2, w3, w4, w5, w6, w7, w8, w9, w10, w11, w12, w13, w14, w15, w16, w17, w18, w19, w20, w21, w22, w23, w24, w25, w26, w27, w28, w29, w30, w31, w32, w33, w34, w35, w36, w37, w38, w39, w40, w41, w42, w43, w44, w45, w46, w47, w48, w49]))] (va_A [(h0, .inr (9, [m0, m1, m2, .int 0, m4, m5, m6, m7, m8, m9, m10, m11, m12, m13, m14, m15, m16, m17, m18, m19, m20, m21, m22, m23, m24, m25, m26, m27, m28, m29, m30, m31, m32, m33, m34, m35, m36, m37, m38, m39, m40, m41, m42, m43, m44, m45, m46, m47, m48, m49]))] sz) t) (va_A [(h0, .inr (9, [m0, m1, m2, .int 0, m4, m5, m6, m7, m8, m9, m10, m11, m12, m13, m14, m15, m16, m17, m18, m19, m20, m21, m22, m23, m24, m25, m26, m27, m28, m29, m30, m31, m32, m33, m34, m35, m36, m37, m38, m39, m40, m41, m42, m43, m44, m45, m46, m47, m48, m49]))] sz)) 0 0 (va_A [(h0, .inr (9, [m0, m1, m2, .int 0, m4, m5, m6, m7, m8, m9, m10, m11, m12, m13, m14, m15, m16, m17, m18, m19, m20, m21, m22, m23, m24, m25, m26, m27, m28, m29, m30, m31, m32, m33, m34, m35, m36, m37, m38, m39, m40, m41, m42, m43, m44, m45, m46, m47, m48, m49]))] sz) := by
  refine Met.ofW (cc := cX9_beginOf) (maxL := 3) (ret := (some .int)) (by decide) rfl ?_
  intro p e s m args below meth c s₁ B hml hv
  obtain ⟨rfl, ⟨hsz, hP, hK, hD0⟩⟩ := hv
  have hx := B.exec
  have hb := B.bytes
  have hr := B.returns
  have hts := atoms_spec (ws := wsX9_beginOf) B.pre
  have hown : s.vm.findClass RX9 = some m.cls := findClass_of_methodNamed B.named
  have hlocks := B.notSynchronized
  subst hsz
  have hD := hD0.self (sz := s.heap.size)
  generalize hAe : va_A [(h0, .inr (9, [m0, m1, m2, .int 0, m4, m5, m6, m7, m8, m9, m10, m11, m12, m13, m14, m15, m16, m17, m18, m19, m20, m21, m22, m23, m24, m25, m26, m27, m28, m29, m30, m31, m32, m33, m34, m35, m36, m37, m38, m39, m40, m41, m42, m43, m44, m45, m46, m47, m48, m49]))] s.heap.size = A at hD ⊢
  have hA : ∀ q : Nat, s.heap.size ≤ q → A q := fun q h => by rw [← hAe]; exact Or.inr h
  have hS : va_S A s.heap s.heap [] := va_S.rf
  have hl := lv_entry ([.ref h0, .int p0, .int p1]) (n := 3) (Nat.le_of_ble_eq_true rfl)
  rw [lg_entry_eq]
  generalize (lg_sl ([.ref h0, .int p0, .int p1]) ++ List.replicate (3 - (lg_sl ([.ref h0, .int p0, .int p1])).length) Slot.unset).toArray = ls at hl ⊢
  have hl : lv_has ls 3 [(0, .ref h0), (1, .int p0), (2, .int p1)] := hl
  refine lv_aload_n hx hb dX9_beginOf_0 rfl (lv_at hl 0 rfl) ?_
  refine lv_iload_n hx hb dX9_beginOf_1 rfl (lv_at hl 1 rfl) ?_
  refine lv_iload_n hx hb dX9_beginOf_2 rfl (lv_at hl 2 rfl) ?_
  have hPc := hP.sub (ws' := [(h0, .inr (9, [m0, m1, m2, .int 0, m4, m5, m6, m7, m8, m9, m10, m11, m12, m13, m14, m15, m16, m17, m18, m19, m20, m21, m22, m23, m24, m25, m26, m27, m28, m29, m30, m31, m32, m33, m34, m35, m36, m37, m38, m39, m40, m41, m42, m43, m44, m45, m46, m47, m48, m49]))]) [0] rfl
  have hDc := hD.sub (ws' := [(h0, .inr (9, [m0, m1, m2, .int 0, m4, m5, m6, m7, m8, m9, m10, m11, m12, m13, m14, m15, m16, m17, m18, m19, m20, m21, m22, m23, m24, m25, m26, m27, m28, m29, m30, m31, m32, m33, m34, m35, m36, m37, m38, m39, m40, m41, m42, m43, m44, m45, m46, m47, m48, m49]))]) [0] (by decide) rfl
  have hFc := va_free (wc := [(h0, .inr (9, [m0, m1, m2, .int 0, m4, m5, m6, m7, m8, m9, m10, m11, m12, m13, m14, m15, m16, m17, m18, m19, m20, m21, m22, m23, m24, m25, m26, m27, m28, m29, m30, m31, m32, m33, m34, m35, m36, m37, m38, m39, m40, m41, m42, m43, m44, m45, m46, m47, m48, m49]))]) hD hS hA [0] rfl
  refine va_calli (va_runV (As := [.int p0, .int p1]) (rest := []) ⟨hx, hb, hml, hown, hts⟩ (m0_isNoBay l g s.heap.size h0 m0 m1 m2 m4 m5 m6 m7 m8 m9 m10 m11 m12 m13 m14 m15 m16 m17 m18 m19 m20 m21 m22 m23 m24 m25 m26 m27 m28 m29 m30 m31 m32 m33 m34 m35 m36 m37 m38 m39 m40 m41 m42 m43 m44 m45 m46 m47 m48 m49 p0 p1) (cwV 2 hts gX9_beginOf_X9_isNoBay rfl rfl rfl (by decide +kernel) ⟨Nat.le_of_ble_eq_true rfl, Nat.le_of_ble_eq_true rfl⟩) ⟨xB.blind, va_recv hK hPc (ci := 9) (q0 := 0) rfl rfl, fun U9 hU9 hW9 => ⟨rfl, xB.mk hPc hK hDc hU9 hW9⟩⟩ rfl rfl hl.1 rfl (lv_room (Nat.le_of_ble_eq_true rfl)) dX9_beginOf_3 ⟨Nat.le_of_ble_eq_true rfl, Nat.le_of_ble_eq_true rfl⟩) hS (fun q _ h => hFc q h) hFc (fun r_1 u_2 t H1 locs ht hvm hw_3 hB hz1 hk1 hS => ?_)
  obtain ⟨hP1, hK1, hD1⟩ := hB
  rw [ht] at hP1
  obtain ⟨hP, hD⟩ := va_join (wr := []) (w1 := [(h0, .inr (9, [.int 1, m1, m2, .int 0, m4, m5, m6, m7, m8, m9, m10, m11, m12, m13, m14, m15, m16, m17, m18, m19, m20, m21, m22, m23, m24, m25, m26, m27, m28, m29, m30, m31, m32, m33, m34, m35, m36, m37, m38, m39, m40, m41, m42, m43, m44, m45, m46, m47, m48, m49]))]) hP hD [0] [] rfl rfl (by decide) (by decide) hk1 hFc hP1 hD1
  generalize H1 = H at hP hS ⊢
  have hP : va_P (xD g) vwCl [(h0, .inr (9, [.int 1, m1, m2, .int 0, m4, m5, m6, m7, m8, m9, m10, m11, m12, m13, m14, m15, m16, m17, m18, m19, m20, m21, m22, m23, m24, m25, m26, m27, m28, m29, m30, m31, m32, m33, m34, m35, m36, m37, m38, m39, m40, m41, m42, m43, m44, m45, m46, m47, m48, m49]))] H := hP
  have hD : va_D A [(h0, .inr (9, [.int 1, m1, m2, .int 0, m4, m5, m6, m7, m8, m9, m10, m11, m12, m13, m14, m15, m16, m17, m18, m19, m20, m21, m22, m23, m24, m25, m26, m27, m28, m29, m30, m31, m32, m33, m34, m35, m36, m37, m38, m39, m40, m41, m42, m43, m44, m45, m46, m47, m48, m49]))] := hD
  try dsimp only at hw_3
  obtain rfl := hw_3
  refine lv_if_eq (tgt := 11) hx hb dX9_beginOf_6 (by decide) (fun c0 => absurd c0 (by decide)) (fun _ => ?_)
  refine lv_iconst (v := 0) hx hb dX9_beginOf_9 (by decide) ?_
  have hP9 := hP.sub (ws' := [(h0, .inr (9, [.int 1, m1, m2, .int 0, m4, m5, m6, m7, m8, m9, m10, m11, m12, m13, m14, m15, m16, m17, m18, m19, m20, m21, m22, m23, m24, m25, m26, m27, m28, m29, m30, m31, m32, m33, m34, m35, m36, m37, m38, m39, m40, m41, m42, m43, m44, m45, m46, m47, m48, m49]))]) [0] rfl
  have hD9 := hD.sub (ws' := [(h0, .inr (9, [.int 1, m1, m2, .int 0, m4, m5, m6, m7, m8, m9, m10, m11, m12, m13, m14, m15, m16, m17, m18, m19, m20, m21, m22, m23, m24, m25, m26, m27, m28, m29, m30, m31, m32, m33, m34, m35, m36, m37, m38, m39, m40, m41, m42, m43, m44, m45, m46, m47, m48, m49]))]) [0] (by decide) rfl
  exact W.iret (v := 0) hx hb hr (fun t ht hW => ⟨⟨0, 1, rfl, ⟨rfl, rfl⟩, ⟨m1, m2, (.int 0), m4, m5, m6, m7, m8, m9, m10, m11, m12, m13, m14, m15, m16, m17, m18, m19, m20, m21, m22, m23, m24, m25, m26, m27, m28, m29, m30, m31, m32, m33, m34, m35, m36, m37, m38, m39, m40, m41, m42, m43, m44, m45, m46, m47, m48, m49, by rw [ht]; exact hP9, va_K.moved hW.alike hK, hD9⟩⟩, hS.F ht⟩) hS.2.2 dX9_beginOf_10
theorem dX9_endOf_0 : decode cX9_endOf 0 = .ok (.aload_n 0, 1) := by decide +kernel
theorem dX9_endOf_1 : decode cX9_endOf 1 = .ok (.iload_n 1, 1) := by decide +kernel
theorem dX9_endOf_2 : decode cX9_endOf 2 = .ok (.iload_n 2, 1) := by decide +kernel
theorem dX9_endOf_3 : decode cX9_endOf 3 = .ok (.invokevirtual 151, 3) := by decide +kernel
set_option maxRecDepth 20000 in
theorem ggX9_endOf_X9_isNoBay : GoodIn wsX9_endOf wsX9_isNoBay := goodIn_r _ [6, 7, 8, 9, 10, 5, 11, 12, 13, 14, 15, 16, 17, 18, 19, 20, 21, 22, 23, 24, 62, 63, 64, 65, 66, 67, 68, 69, 70, 71, 72, 73, 74, 75, 76, 77, 78, 79, 80, 81, 82, 83, 84, 85, 86, 87, 88, 89, 90, 91, 92, 93, 94, 95, 96, 97, 98, 99, 100, 101, 102, 103, 104, 105, 106, 107, 108, 109, 110, 111] rfl (by decide +kernel)
set_option maxRecDepth 20000 in
theorem gX9_endOf_X9_isNoBay : GoodIn wsX9_endOf (wsV RX9 151 RX9 yX9_isNoBay wsX9_isNoBay) := goodIn_app (goodIn_of _ (by decide +kernel)) ggX9_endOf_X9_isNoBay
theorem dX9_endOf_6 : decode cX9_endOf 6 = .ok (.ifCond .eq 5, 3) := by decide +kernel
theorem dX9_endOf_9 : decode cX9_endOf 9 = .ok (.iconst 0, 1) := by decide +kernel
theorem dX9_endOf_10 : decode cX9_endOf 10 = .ok (.ireturn, 1) := by decide +kernel
set_option maxHeartbeats 4000000 in
set_option maxRecDepth 100000 in
theorem m0_endOf (l : Launch) (g : xG) (sz : Nat) (h0 : Nat) (m0 : Value) (m1 : Value) (m2 : Value) (m4 : Value) (m5 : Value) (m6 : Value) (m7 : Value) (m8 : Value) (m9 : Value) (m10 : Value) (m11 : Value) (m12 : Value) (m13 : Value) (m14 : Value) (m15 : Value) (m16 : Value) (m17 : Value) (m18 : Value) (m19 : Value) (m20 : Value) (m21 : Value) (m22 : Value) (m23 : Value) (m24 : Value) (m25 : Value) (m26 : Value) (m27 : Value) (m28 : Value) (m29 : Value) (m30 : Value) (m31 : Value) (m32 : Value) (m33 : Value) (m34 : Value) (m35 : Value) (m36 : Value) (m37 : Value) (m38 : Value) (m39 : Value) (m40 : Value) (m41 : Value) (m42 : Value) (m43 : Value) (m44 : Value) (m45 : Value) (m46 : Value) (m47 : Value) (m48 : Value) (m49 : Value) (p0 : Int32) (p1 : Int32)  : Met l yX9_endOf wsX9_endOf ({ frames := 4, cells := 0, slots := 0, locals := 87 }) (va_Pc [.ref h0, .int p0, .int p1] (fun U => xB g [(h0, .inr (9, [m0, m1, m2, .int 0, m4, m5, m6, m7, m8, m9, m10, m11, m12, m13, m14, m15, m16, m17, m18, m19, m20, m21, m22, m23, m24, m25, m26, m27, m28, m29, m30, m31, m32, m33, m34, m35, m36, m37, m38, m39, m40, m41, m42, m43, m44, m45, m46, m47, m48, m49]))] sz U)) (va_Qi (fun (r : Int32) (u : Int32) => u = 1 ∧ r = 0) (fun (u : Int32) (t : State) => ∃ (w1 : Value) (w2 : Value) (w3 : Value) (w4 : Value) (w5 : Value) (w6 : Value) (w7 : Value) (w8 : Value) (w9 : Value) (w10 : Value) (w11 : Value) (w12 : Value) (w13 : Value) (w14 : Value) (w15 : Value) (w16 : Value) (w17 : Value) (w18 : Value) (w19 : Value) (w20 : Value) (w21 : Value) (w22 : Value) (w23 : Value) (w24 : Value) (w25 : Value) (w26 : Value) (w27 : Value) (w28 : Value) (w29 : Value) (w30 : Value) (w31 : Value) (w32 : Value) (w33 : Value) (w34 : Value) (w35 : Value) (w36 : Value) (w37 : Value) (w38 : Value) (w39 : Value) (w40 : Value) (w41 : Value) (w42 : Value) (w43 : Value) (w44 : Value) (w45 : Value) (w46 : Value) (w47 : Value) (w48 : Value) (w49 : Value), xE g [(h0, .inr (9, [.int u, w1, w2, w3, w4, w5, w6, w7, w8, w9, w10, w11, w12, w13, w14, w15, w16, w17, w18, w19, w20, w21, w22, w23, w24, w25, w26, w27, w28, w29, w30, w31, w32, w33, w34, w35, w36, w37, w38, w39, w40, w41, w42, w43, w44, w45, w46, w47, w48, w49]))] (va_A [(h0, .inr (9, [m0, m1, m2, .int 0, m4, m5, m6, m7, m8, m9, m10, m11, m12, m13, m14, m15, m16, m17, m18, m19, m20, m21, m22, m23, m24, m25, m26, m27, m28, m29, m30, m31, m32, m33, m34, m35, m36, m37, m38, m39, m40, m41, m42, m43, m44, m45, m46, m47, m48, m49]))] sz) t) (va_A [(h0, .inr (9, [m0, m1, m2, .int 0, m4, m5, m6, m7, m8, m9, m10, m11, m12, m13, m14, m15, m16, m17, m18, m19, m20, m21, m22, m23, m24, m25, m26, m27, m28, m29, m30, m31, m32, m33, m34, m35, m36, m37, m38, m39, m40, m41, m42, m43, m44, m45, m46, m47, m48, m49]))] sz)) 0 0 (va_A [(h0, .inr (9, [m0, m1, m2, .int 0, m4, m5, m6, m7, m8, m9, m10, m11, m12, m13, m14, m15, m16, m17, m18, m19, m20, m21, m22, m23, m24, m25, m26, m27, m28, m29, m30, m31, m32, m33, m34, m35, m36, m37, m38, m39, m40, m41, m42, m43, m44, m45, m46, m47, m48, m49]))] sz) := by
  refine Met.ofW (cc := cX9_endOf) (maxL := 3) (ret := (some .int)) (by decide) rfl ?_
  intro p e s m args below meth c s₁ B hml hv
  obtain ⟨rfl, ⟨hsz, hP, hK, hD0⟩⟩ := hv
  have hx := B.exec
  have hb := B.bytes
  have hr := B.returns
  have hts := atoms_spec (ws := wsX9_endOf) B.pre
  have hown : s.vm.findClass RX9 = some m.cls := findClass_of_methodNamed B.named
  have hlocks := B.notSynchronized
  subst hsz
  have hD := hD0.self (sz := s.heap.size)
  generalize hAe : va_A [(h0, .inr (9, [m0, m1, m2, .int 0, m4, m5, m6, m7, m8, m9, m10, m11, m12, m13, m14, m15, m16, m17, m18, m19, m20, m21, m22, m23, m24, m25, m26, m27, m28, m29, m30, m31, m32, m33, m34, m35, m36, m37, m38, m39, m40, m41, m42, m43, m44, m45, m46, m47, m48, m49]))] s.heap.size = A at hD ⊢
  have hA : ∀ q : Nat, s.heap.size ≤ q → A q := fun q h => by rw [← hAe]; exact Or.inr h
  have hS : va_S A s.heap s.heap [] := va_S.rf
  have hl := lv_entry ([.ref h0, .int p0, .int p1]) (n := 3) (Nat.le_of_ble_eq_true rfl)
  rw [lg_entry_eq]
  generalize (lg_sl ([.ref h0, .int p0, .int p1]) ++ List.replicate (3 - (lg_sl ([.ref h0, .int p0, .int p1])).length) Slot.unset).toArray = ls at hl ⊢
  have hl : lv_has ls 3 [(0, .ref h0), (1, .int p0), (2, .int p1)] := hl
  refine lv_aload_n hx hb dX9_endOf_0 rfl (lv_at hl 0 rfl) ?_
  refine lv_iload_n hx hb dX9_endOf_1 rfl (lv_at hl 1 rfl) ?_
  refine lv_iload_n hx hb dX9_endOf_2 rfl (lv_at hl 2 rfl) ?_
  have hPc := hP.sub (ws' := [(h0, .inr (9, [m0, m1, m2, .int 0, m4, m5, m6, m7, m8, m9, m10, m11, m12, m13, m14, m15, m16, m17, m18, m19, m20, m21, m22, m23, m24, m25, m26, m27, m28, m29, m30, m31, m32, m33, m34, m35, m36, m37, m38, m39, m40, m41, m42, m43, m44, m45, m46, m47, m48, m49]))]) [0] rfl
  have hDc := hD.sub (ws' := [(h0, .inr (9, [m0, m1, m2, .int 0, m4, m5, m6, m7, m8, m9, m10, m11, m12, m13, m14, m15, m16, m17, m18, m19, m20, m21, m22, m23, m24, m25, m26, m27, m28, m29, m30, m31, m32, m33, m34, m35, m36, m37, m38, m39, m40, m41, m42, m43, m44, m45, m46, m47, m48, m49]))]) [0] (by decide) rfl
  have hFc := va_free (wc := [(h0, .inr (9, [m0, m1, m2, .int 0, m4, m5, m6, m7, m8, m9, m10, m11, m12, m13, m14, m15, m16, m17, m18, m19, m20, m21, m22, m23, m24, m25, m26, m27, m28, m29, m30, m31, m32, m33, m34, m35, m36, m37, m38, m39, m40, m41, m42, m43, m44, m45, m46, m47, m48, m49]))]) hD hS hA [0] rfl
  refine va_calli (va_runV (As := [.int p0, .int p1]) (rest := []) ⟨hx, hb, hml, hown, hts⟩ (m0_isNoBay l g s.heap.size h0 m0 m1 m2 m4 m5 m6 m7 m8 m9 m10 m11 m12 m13 m14 m15 m16 m17 m18 m19 m20 m21 m22 m23 m24 m25 m26 m27 m28 m29 m30 m31 m32 m33 m34 m35 m36 m37 m38 m39 m40 m41 m42 m43 m44 m45 m46 m47 m48 m49 p0 p1) (cwV 2 hts gX9_endOf_X9_isNoBay rfl rfl rfl (by decide +kernel) ⟨Nat.le_of_ble_eq_true rfl, Nat.le_of_ble_eq_true rfl⟩) ⟨xB.blind, va_recv hK hPc (ci := 9) (q0 := 0) rfl rfl, fun U9 hU9 hW9 => ⟨rfl, xB.mk hPc hK hDc hU9 hW9⟩⟩ rfl rfl hl.1 rfl (lv_room (Nat.le_of_ble_eq_true rfl)) dX9_endOf_3 ⟨Nat.le_of_ble_eq_true rfl, Nat.le_of_ble_eq_true rfl⟩) hS (fun q _ h => hFc q h) hFc (fun r_1 u_2 t H1 locs ht hvm hw_3 hB hz1 hk1 hS => ?_)
  obtain ⟨hP1, hK1, hD1⟩ := hB
  rw [ht] at hP1
  obtain ⟨hP, hD⟩ := va_join (wr := []) (w1 := [(h0, .inr (9, [.int 1, m1, m2, .int 0, m4, m5, m6, m7, m8, m9, m10, m11, m12, m13, m14, m15, m16, m17, m18, m19, m20, m21, m22, m23, m24, m25, m26, m27, m28, m29, m30, m31, m32, m33, m34, m35, m36, m37, m38, m39, m40, m41, m42, m43, m44, m45, m46, m47, m48, m49]))]) hP hD [0] [] rfl rfl (by decide) (by decide) hk1 hFc hP1 hD1
  generalize H1 = H at hP hS ⊢
  have hP : va_P (xD g) vwCl [(h0, .inr (9, [.int 1, m1, m2, .int 0, m4, m5, m6, m7, m8, m9, m10, m11, m12, m13, m14, m15, m16, m17, m18, m19, m20, m21, m22, m23, m24, m25, m26, m27, m28, m29, m30, m31, m32, m33, m34, m35, m36, m37, m38, m39, m40, m41, m42, m43, m44, m45, m46, m47, m48, m49]))] H := hP
  have hD : va_D A [(h0, .inr (9, [.int 1, m1, m2, .int 0, m4, m5, m6, m7, m8, m9, m10, m11, m12, m13, m14, m15, m16, m17, m18, m19, m20, m21, m22, m23, m24, m25, m26, m27, m28, m29, m30, m31, m32, m33, m34, m35, m36, m37, m38, m39, m40, m41, m42, m43, m44, m45, m46, m47, m48, m49]))] := hD
  try dsimp only at hw_3
  obtain rfl := hw_3
  refine lv_if_eq (tgt := 11) hx hb dX9_endOf_6 (by decide) (fun c0 => absurd c0 (by decide)) (fun _ => ?_)
  refine lv_iconst (v := 0) hx hb dX9_endOf_9 (by decide) ?_
  have hP9 := hP.sub (ws' := [(h0, .inr (9, [.int 1, m1, m2, .int 0, m4, m5, m6, m7, m8, m9, m10, m11, m12, m13, m14, m15, m16, m17, m18, m19, m20, m21, m22, m23, m24, m25, m26, m27, m28, m29, m30, m31, m32, m33, m34, m35, m36, m37, m38, m39, m40, m41, m42, m43, m44, m45, m46, m47, m48, m49]))]) [0] rfl
  have hD9 := hD.sub (ws' := [(h0, .inr (9, [.int 1, m1, m2, .int 0, m4, m5, m6, m7, m8, m9, m10, m11, m12, m13, m14, m15, m16, m17, m18, m19, m20, m21, m22, m23, m24, m25, m26, m27, m28, m29, m30, m31, m32, m33, m34, m35, m36, m37, m38, m39, m40, m41, m42, m43, m44, m45, m46, m47, m48, m49]))]) [0] (by decide) rfl
  exact W.iret (v := 0) hx hb hr (fun t ht hW => ⟨⟨0, 1, rfl, ⟨rfl, rfl⟩, ⟨m1, m2, (.int 0), m4, m5, m6, m7, m8, m9, m10, m11, m12, m13, m14, m15, m16, m17, m18, m19, m20, m21, m22, m23, m24, m25, m26, m27, m28, m29, m30, m31, m32, m33, m34, m35, m36, m37, m38, m39, m40, m41, m42, m43, m44, m45, m46, m47, m48, m49, by rw [ht]; exact hP9, va_K.moved hW.alike hK, hD9⟩⟩, hS.F ht⟩) hS.2.2 dX9_endOf_10
theorem dX9_addContainer_0 : decode cX9_addContainer 0 = .ok (.aload_n 0, 1) := by decide +kernel
theorem dX9_addContainer_1 : decode cX9_addContainer 1 = .ok (.iload_n 1, 1) := by decide +kernel
theorem dX9_addContainer_2 : decode cX9_addContainer 2 = .ok (.iload_n 2, 1) := by decide +kernel
theorem dX9_addContainer_3 : decode cX9_addContainer 3 = .ok (.invokevirtual 151, 3) := by decide +kernel
set_option maxRecDepth 20000 in
theorem ggX9_addContainer_X9_isNoBay : GoodIn wsX9_addContainer wsX9_isNoBay := goodIn_r _ [11, 12, 13, 14, 15, 10, 16, 17, 18, 19, 20, 21, 22, 23, 24, 25, 26, 27, 28, 29, 51, 52, 53, 54, 55, 56, 57, 58, 59, 60, 61, 62, 63, 64, 65, 66, 67, 68, 69, 70, 71, 72, 73, 74, 75, 76, 77, 78, 79, 80, 81, 82, 83, 84, 85, 86, 87, 88, 89, 90, 91, 92, 93, 94, 95, 96, 97, 98, 99, 100] rfl (by decide +kernel)
set_option maxRecDepth 20000 in
theorem gX9_addContainer_X9_isNoBay : GoodIn wsX9_addContainer (wsV RX9 151 RX9 yX9_isNoBay wsX9_isNoBay) := goodIn_app (goodIn_of _ (by decide +kernel)) ggX9_addContainer_X9_isNoBay
theorem dX9_addContainer_6 : decode cX9_addContainer 6 = .ok (.ifCond .ne 60, 3) := by decide +kernel
theorem dX9_addContainer_66 : decode cX9_addContainer 66 = .ok (.iconst 0, 1) := by decide +kernel
theorem dX9_addContainer_67 : decode cX9_addContainer 67 = .ok (.ireturn, 1) := by decide +kernel
set_option maxHeartbeats 4000000 in
set_option maxRecDepth 100000 in
theorem m0_addContainer (l : Launch) (g : xG) (sz : Nat) (h0 : Nat) (m0 : Value) (m1 : Value) (m2 : Value) (m4 : Value) (m5 : Value) (m6 : Value) (m7 : Value) (m8 : Value) (m9 : Value) (m10 : Value) (m11 : Value) (m12 : Value) (m13 : Value) (m14 : Value) (m15 : Value) (m16 : Value) (m17 : Value) (m18 : Value) (m19 : Value) (m20 : Value) (m21 : Value) (m22 : Value) (m23 : Value) (m24 : Value) (m25 : Value) (m26 : Value) (m27 : Value) (m28 : Value) (m29 : Value) (m30 : Value) (m31 : Value) (m32 : Value) (m33 : Value) (m34 : Value) (m35 : Value) (m36 : Value) (m37 : Value) (m38 : Value) (m39 : Value) (m40 : Value) (m41 : Value) (m42 : Value) (m43 : Value) (m44 : Value) (m45 : Value) (m46 : Value) (m47 : Value) (m48 : Value) (m49 : Value) (p0 : Int32) (p1 : Int32) (p2 : Int32) (p3 : Int32) (p4 : Int32)  : Met l yX9_addContainer wsX9_addContainer ({ frames := 4, cells := 0, slots := 0, locals := 87 }) (va_Pc [.ref h0, .int p0, .int p1, .int p2, .int p3, .int p4] (fun U => xB g [(h0, .inr (9, [m0, m1, m2, .int 0, m4, m5, m6, m7, m8, m9, m10, m11, m12, m13, m14, m15, m16, m17, m18, m19, m20, m21, m22, m23, m24, m25, m26, m27, m28, m29, m30, m31, m32, m33, m34, m35, m36, m37, m38, m39, m40, m41, m42, m43, m44, m45, m46, m47, m48, m49]))] sz U)) (va_Qi (fun (r : Int32) (u : Int32) => u = 1 ∧ r = 0) (fun (u : Int32) (t : State) => ∃ (w1 : Value) (w2 : Value) (w3 : Value) (w4 : Value) (w5 : Value) (w6 : Value) (w7 : Value) (w8 : Value) (w9 : Value) (w10 : Value) (w11 : Value) (w12 : Value) (w13 : Value) (w14 : Value) (w15 : Value) (w16 : Value) (w17 : Value) (w18 : Value) (w19 : Value) (w20 : Value) (w21 : Value) (w22 : Value) (w23 : Value) (w24 : Value) (w25 : Value) (w26 : Value) (w27 : Value) (w28 : Value) (w29 : Value) (w30 : Value) (w31 : Value) (w32 : Value) (w33 : Value) (w34 : Value) (w35 : Value) (w36 : Value) (w37 : Value) (w38 : Value) (w39 : Value) (w40 : Value) (w41 : Value) (w42 : Value) (w43 : Value) (w44 : Value) (w45 : Value) (w46 : Value) (w47 : Value) (w48 : Value) (w49 : Value), xE g [(h0, .inr (9, [.int u, w1, w2, w3, w4, w5, w6, w7, w8, w9, w10, w11, w12, w13, w14, w15, w16, w17, w18, w19, w20, w21, w22, w23, w24, w25, w26, w27, w28, w29, w30, w31, w32, w33, w34, w35, w36, w37, w38, w39, w40, w41, w42, w43, w44, w45, w46, w47, w48, w49]))] (va_A [(h0, .inr (9, [m0, m1, m2, .int 0, m4, m5, m6, m7, m8, m9, m10, m11, m12, m13, m14, m15, m16, m17, m18, m19, m20, m21, m22, m23, m24, m25, m26, m27, m28, m29, m30, m31, m32, m33, m34, m35, m36, m37, m38, m39, m40, m41, m42, m43, m44, m45, m46, m47, m48, m49]))] sz) t) (va_A [(h0, .inr (9, [m0, m1, m2, .int 0, m4, m5, m6, m7, m8, m9, m10, m11, m12, m13, m14, m15, m16, m17, m18, m19, m20, m21, m22, m23, m24, m25, m26, m27, m28, m29, m30, m31, m32, m33, m34, m35, m36, m37, m38, m39, m40, m41, m42, m43, m44, m45, m46, m47, m48, m49]))] sz)) 0 0 (va_A [(h0, .inr (9, [m0, m1, m2, .int 0, m4, m5, m6, m7, m8, m9, m10, m11, m12, m13, m14, m15, m16, m17, m18, m19, m20, m21, m22, m23, m24, m25, m26, m27, m28, m29, m30, m31, m32, m33, m34, m35, m36, m37, m38, m39, m40, m41, m42, m43, m44, m45, m46, m47, m48, m49]))] sz) := by
  refine Met.ofW (cc := cX9_addContainer) (maxL := 6) (ret := (some .int)) (by decide) rfl ?_
  intro p e s m args below meth c s₁ B hml hv
  obtain ⟨rfl, ⟨hsz, hP, hK, hD0⟩⟩ := hv
  have hx := B.exec
  have hb := B.bytes
  have hr := B.returns
  have hts := atoms_spec (ws := wsX9_addContainer) B.pre
  have hown : s.vm.findClass RX9 = some m.cls := findClass_of_methodNamed B.named
  have hlocks := B.notSynchronized
  subst hsz
  have hD := hD0.self (sz := s.heap.size)
  generalize hAe : va_A [(h0, .inr (9, [m0, m1, m2, .int 0, m4, m5, m6, m7, m8, m9, m10, m11, m12, m13, m14, m15, m16, m17, m18, m19, m20, m21, m22, m23, m24, m25, m26, m27, m28, m29, m30, m31, m32, m33, m34, m35, m36, m37, m38, m39, m40, m41, m42, m43, m44, m45, m46, m47, m48, m49]))] s.heap.size = A at hD ⊢
  have hA : ∀ q : Nat, s.heap.size ≤ q → A q := fun q h => by rw [← hAe]; exact Or.inr h
  have hS : va_S A s.heap s.heap [] := va_S.rf
  have hl := lv_entry ([.ref h0, .int p0, .int p1, .int p2, .int p3, .int p4]) (n := 6) (Nat.le_of_ble_eq_true rfl)
  rw [lg_entry_eq]
  generalize (lg_sl ([.ref h0, .int p0, .int p1, .int p2, .int p3, .int p4]) ++ List.replicate (6 - (lg_sl ([.ref h0, .int p0, .int p1, .int p2, .int p3, .int p4])).length) Slot.unset).toArray = ls at hl ⊢
  have hl : lv_has ls 6 [(0, .ref h0), (1, .int p0), (2, .int p1), (3, .int p2), (4, .int p3), (5, .int p4)] := hl
  refine lv_aload_n hx hb dX9_addContainer_0 rfl (lv_at hl 0 rfl) ?_
  refine lv_iload_n hx hb dX9_addContainer_1 rfl (lv_at hl 1 rfl) ?_
  refine lv_iload_n hx hb dX9_addContainer_2 rfl (lv_at hl 2 rfl) ?_
  have hPc := hP.sub (ws' := [(h0, .inr (9, [m0, m1, m2, .int 0, m4, m5, m6, m7, m8, m9, m10, m11, m12, m13, m14, m15, m16, m17, m18, m19, m20, m21, m22, m23, m24, m25, m26, m27, m28, m29, m30, m31, m32, m33, m34, m35, m36, m37, m38, m39, m40, m41, m42, m43, m44, m45, m46, m47, m48, m49]))]) [0] rfl
  have hDc := hD.sub (ws' := [(h0, .inr (9, [m0, m1, m2, .int 0, m4, m5, m6, m7, m8, m9, m10, m11, m12, m13, m14, m15, m16, m17, m18, m19, m20, m21, m22, m23, m24, m25, m26, m27, m28, m29, m30, m31, m32, m33, m34, m35, m36, m37, m38, m39, m40, m41, m42, m43, m44, m45, m46, m47, m48, m49]))]) [0] (by decide) rfl
  have hFc := va_free (wc := [(h0, .inr (9, [m0, m1, m2, .int 0, m4, m5, m6, m7, m8, m9, m10, m11, m12, m13, m14, m15, m16, m17, m18, m19, m20, m21, m22, m23, m24, m25, m26, m27, m28, m29, m30, m31, m32, m33, m34, m35, m36, m37, m38, m39, m40, m41, m42, m43, m44, m45, m46, m47, m48, m49]))]) hD hS hA [0] rfl
  refine va_calli (va_runV (As := [.int p0, .int p1]) (rest := []) ⟨hx, hb, hml, hown, hts⟩ (m0_isNoBay l g s.heap.size h0 m0 m1 m2 m4 m5 m6 m7 m8 m9 m10 m11 m12 m13 m14 m15 m16 m17 m18 m19 m20 m21 m22 m23 m24 m25 m26 m27 m28 m29 m30 m31 m32 m33 m34 m35 m36 m37 m38 m39 m40 m41 m42 m43 m44 m45 m46 m47 m48 m49 p0 p1) (cwV 2 hts gX9_addContainer_X9_isNoBay rfl rfl rfl (by decide +kernel) ⟨Nat.le_of_ble_eq_true rfl, Nat.le_of_ble_eq_true rfl⟩) ⟨xB.blind, va_recv hK hPc (ci := 9) (q0 := 0) rfl rfl, fun U9 hU9 hW9 => ⟨rfl, xB.mk hPc hK hDc hU9 hW9⟩⟩ rfl rfl hl.1 rfl (lv_room (Nat.le_of_ble_eq_true rfl)) dX9_addContainer_3 ⟨Nat.le_of_ble_eq_true rfl, Nat.le_of_ble_eq_true rfl⟩) hS (fun q _ h => hFc q h) hFc (fun r_1 u_2 t H1 locs ht hvm hw_3 hB hz1 hk1 hS => ?_)
  obtain ⟨hP1, hK1, hD1⟩ := hB
  rw [ht] at hP1
  obtain ⟨hP, hD⟩ := va_join (wr := []) (w1 := [(h0, .inr (9, [.int 1, m1, m2, .int 0, m4, m5, m6, m7, m8, m9, m10, m11, m12, m13, m14, m15, m16, m17, m18, m19, m20, m21, m22, m23, m24, m25, m26, m27, m28, m29, m30, m31, m32, m33, m34, m35, m36, m37, m38, m39, m40, m41, m42, m43, m44, m45, m46, m47, m48, m49]))]) hP hD [0] [] rfl rfl (by decide) (by decide) hk1 hFc hP1 hD1
  generalize H1 = H at hP hS ⊢
  have hP : va_P (xD g) vwCl [(h0, .inr (9, [.int 1, m1, m2, .int 0, m4, m5, m6, m7, m8, m9, m10, m11, m12, m13, m14, m15, m16, m17, m18, m19, m20, m21, m22, m23, m24, m25, m26, m27, m28, m29, m30, m31, m32, m33, m34, m35, m36, m37, m38, m39, m40, m41, m42, m43, m44, m45, m46, m47, m48, m49]))] H := hP
  have hD : va_D A [(h0, .inr (9, [.int 1, m1, m2, .int 0, m4, m5, m6, m7, m8, m9, m10, m11, m12, m13, m14, m15, m16, m17, m18, m19, m20, m21, m22, m23, m24, m25, m26, m27, m28, m29, m30, m31, m32, m33, m34, m35, m36, m37, m38, m39, m40, m41, m42, m43, m44, m45, m46, m47, m48, m49]))] := hD
  try dsimp only at hw_3
  obtain rfl := hw_3
  refine lv_if_ne (tgt := 66) hx hb dX9_addContainer_6 (by decide) (fun _ => ?_) (fun c0 => absurd c0 (by decide))
  refine lv_iconst (v := 0) hx hb dX9_addContainer_66 (by decide) ?_
  have hP9 := hP.sub (ws' := [(h0, .inr (9, [.int 1, m1, m2, .int 0, m4, m5, m6, m7, m8, m9, m10, m11, m12, m13, m14, m15, m16, m17, m18, m19, m20, m21, m22, m23, m24, m25, m26, m27, m28, m29, m30, m31, m32, m33, m34, m35, m36, m37, m38, m39, m40, m41, m42, m43, m44, m45, m46, m47, m48, m49]))]) [0] rfl
  have hD9 := hD.sub (ws' := [(h0, .inr (9, [.int 1, m1, m2, .int 0, m4, m5, m6, m7, m8, m9, m10, m11, m12, m13, m14, m15, m16, m17, m18, m19, m20, m21, m22, m23, m24, m25, m26, m27, m28, m29, m30, m31, m32, m33, m34, m35, m36, m37, m38, m39, m40, m41, m42, m43, m44, m45, m46, m47, m48, m49]))]) [0] (by decide) rfl
  exact W.iret (v := 0) hx hb hr (fun t ht hW => ⟨⟨0, 1, rfl, ⟨rfl, rfl⟩, ⟨m1, m2, (.int 0), m4, m5, m6, m7, m8, m9, m10, m11, m12, m13, m14, m15, m16, m17, m18, m19, m20, m21, m22, m23, m24, m25, m26, m27, m28, m29, m30, m31, m32, m33, m34, m35, m36, m37, m38, m39, m40, m41, m42, m43, m44, m45, m46, m47, m48, m49, by rw [ht]; exact hP9, va_K.moved hW.alike hK, hD9⟩⟩, hS.F ht⟩) hS.2.2 dX9_addContainer_67
theorem dX9_setWish_0 : decode cX9_setWish 0 = .ok (.aload_n 0, 1) := by decide +kernel
theorem dX9_setWish_1 : decode cX9_setWish 1 = .ok (.iload_n 1, 1) := by decide +kernel
theorem dX9_setWish_2 : decode cX9_setWish 2 = .ok (.invokevirtual 158, 3) := by decide +kernel
set_option maxRecDepth 20000 in
theorem ggX9_setWish_X9_isNoContainer : GoodIn wsX9_setWish wsX9_isNoContainer := goodIn_r _ [6, 7, 8, 9, 5, 10, 11, 12, 13, 14, 15, 16, 17, 18, 19, 36, 37, 38, 39, 40, 41, 42, 43, 44, 45, 46, 47, 48, 49, 50, 51, 52, 53, 54, 55, 56, 57, 58, 59, 60, 61, 62, 63, 64, 65, 66, 67, 68, 69, 70, 71, 72, 73, 74, 75, 76, 77, 78, 79, 80, 81, 82, 83, 84, 85] rfl (by decide +kernel)
set_option maxRecDepth 20000 in
theorem gX9_setWish_X9_isNoContainer : GoodIn wsX9_setWish (wsV RX9 158 RX9 yX9_isNoContainer wsX9_isNoContainer) := goodIn_app (goodIn_of _ (by decide +kernel)) ggX9_setWish_X9_isNoContainer
theorem dX9_setWish_5 : decode cX9_setWish 5 = .ok (.ifCond .ne 26, 3) := by decide +kernel
theorem dX9_setWish_31 : decode cX9_setWish 31 = .ok (.iconst 0, 1) := by decide +kernel
theorem dX9_setWish_32 : decode cX9_setWish 32 = .ok (.ireturn, 1) := by decide +kernel
set_option maxHeartbeats 4000000 in
set_option maxRecDepth 100000 in
theorem m0_setWish (l : Launch) (g : xG) (sz : Nat) (h0 : Nat) (m0 : Value) (m1 : Value) (m2 : Value) (m3 : Value) (m4 : Value) (m5 : Value) (m6 : Value) (m7 : Value) (m9 : Value) (m10 : Value) (m11 : Value) (m12 : Value) (m13 : Value) (m14 : Value) (m15 : Value) (m16 : Value) (m17 : Value) (m18 : Value) (m19 : Value) (m20 : Value) (m21 : Value) (m22 : Value) (m23 : Value) (m24 : Value) (m25 : Value) (m26 : Value) (m27 : Value) (m28 : Value) (m29 : Value) (m30 : Value) (m31 : Value) (m32 : Value) (m33 : Value) (m34 : Value) (m35 : Value) (m36 : Value) (m37 : Value) (m38 : Value) (m39 : Value) (m40 : Value) (m41 : Value) (m42 : Value) (m43 : Value) (m44 : Value) (m45 : Value) (m46 : Value) (m47 : Value) (m48 : Value) (m49 : Value) (p0 : Int32) (p1 : Int32)  : Met l yX9_setWish wsX9_setWish ({ frames := 3, cells := 0, slots := 0, locals := 65 }) (va_Pc [.ref h0, .int p0, .int p1] (fun U => xB g [(h0, .inr (9, [m0, m1, m2, m3, m4, m5, m6, m7, .int 0, m9, m10, m11, m12, m13, m14, m15, m16, m17, m18, m19, m20, m21, m22, m23, m24, m25, m26, m27, m28, m29, m30, m31, m32, m33, m34, m35, m36, m37, m38, m39, m40, m41, m42, m43, m44, m45, m46, m47, m48, m49]))] sz U)) (va_Qi (fun (r : Int32) (u : Int32) => u = 1 ∧ r = 0) (fun (u : Int32) (t : State) => ∃ (w1 : Value) (w2 : Value) (w3 : Value) (w4 : Value) (w5 : Value) (w6 : Value) (w7 : Value) (w8 : Value) (w9 : Value) (w10 : Value) (w11 : Value) (w12 : Value) (w13 : Value) (w14 : Value) (w15 : Value) (w16 : Value) (w17 : Value) (w18 : Value) (w19 : Value) (w20 : Value) (w21 : Value) (w22 : Value) (w23 : Value) (w24 : Value) (w25 : Value) (w26 : Value) (w27 : Value) (w28 : Value) (w29 : Value) (w30 : Value) (w31 : Value) (w32 : Value) (w33 : Value) (w34 : Value) (w35 : Value) (w36 : Value) (w37 : Value) (w38 : Value) (w39 : Value) (w40 : Value) (w41 : Value) (w42 : Value) (w43 : Value) (w44 : Value) (w45 : Value) (w46 : Value) (w47 : Value) (w48 : Value) (w49 : Value), xE g [(h0, .inr (9, [.int u, w1, w2, w3, w4, w5, w6, w7, w8, w9, w10, w11, w12, w13, w14, w15, w16, w17, w18, w19, w20, w21, w22, w23, w24, w25, w26, w27, w28, w29, w30, w31, w32, w33, w34, w35, w36, w37, w38, w39, w40, w41, w42, w43, w44, w45, w46, w47, w48, w49]))] (va_A [(h0, .inr (9, [m0, m1, m2, m3, m4, m5, m6, m7, .int 0, m9, m10, m11, m12, m13, m14, m15, m16, m17, m18, m19, m20, m21, m22, m23, m24, m25, m26, m27, m28, m29, m30, m31, m32, m33, m34, m35, m36, m37, m38, m39, m40, m41, m42, m43, m44, m45, m46, m47, m48, m49]))] sz) t) (va_A [(h0, .inr (9, [m0, m1, m2, m3, m4, m5, m6, m7, .int 0, m9, m10, m11, m12, m13, m14, m15, m16, m17, m18, m19, m20, m21, m22, m23, m24, m25, m26, m27, m28, m29, m30, m31, m32, m33, m34, m35, m36, m37, m38, m39, m40, m41, m42, m43, m44, m45, m46, m47, m48, m49]))] sz)) 0 0 (va_A [(h0, .inr (9, [m0, m1, m2, m3, m4, m5, m6, m7, .int 0, m9, m10, m11, m12, m13, m14, m15, m16, m17, m18, m19, m20, m21, m22, m23, m24, m25, m26, m27, m28, m29, m30, m31, m32, m33, m34, m35, m36, m37, m38, m39, m40, m41, m42, m43, m44, m45, m46, m47, m48, m49]))] sz) := by
  refine Met.ofW (cc := cX9_setWish) (maxL := 4) (ret := (some .int)) (by decide) rfl ?_
  intro p e s m args below meth c s₁ B hml hv
  obtain ⟨rfl, ⟨hsz, hP, hK, hD0⟩⟩ := hv
  have hx := B.exec
  have hb := B.bytes
  have hr := B.returns
  have hts := atoms_spec (ws := wsX9_setWish) B.pre
  have hown : s.vm.findClass RX9 = some m.cls := findClass_of_methodNamed B.named
  have hlocks := B.notSynchronized
  subst hsz
  have hD := hD0.self (sz := s.heap.size)
  generalize hAe : va_A [(h0, .inr (9, [m0, m1, m2, m3, m4, m5, m6, m7, .int 0, m9, m10, m11, m12, m13, m14, m15, m16, m17, m18, m19, m20, m21, m22, m23, m24, m25, m26, m27, m28, m29, m30, m31, m32, m33, m34, m35, m36, m37, m38, m39, m40, m41, m42, m43, m44, m45, m46, m47, m48, m49]))] s.heap.size = A at hD ⊢
  have hA : ∀ q : Nat, s.heap.size ≤ q → A q := fun q h => by rw [← hAe]; exact Or.inr h
  have hS : va_S A s.heap s.heap [] := va_S.rf
  have hl := lv_entry ([.ref h0, .int p0, .int p1]) (n := 4) (Nat.le_of_ble_eq_true rfl)
  rw [lg_entry_eq]
  generalize (lg_sl ([.ref h0, .int p0, .int p1]) ++ List.replicate (4 - (lg_sl ([.ref h0, .int p0, .int p1])).length) Slot.unset).toArray = ls at hl ⊢
  have hl : lv_has ls 4 [(0, .ref h0), (1, .int p0), (2, .int p1)] := hl
  refine lv_aload_n hx hb dX9_setWish_0 rfl (lv_at hl 0 rfl) ?_
  refine lv_iload_n hx hb dX9_setWish_1 rfl (lv_at hl 1 rfl) ?_
  have hPc := hP.sub (ws' := [(h0, .inr (9, [m0, m1, m2, m3, m4, m5, m6, m7, .int 0, m9, m10, m11, m12, m13, m14, m15, m16, m17, m18, m19, m20, m21, m22, m23, m24, m25, m26, m27, m28, m29, m30, m31, m32, m33, m34, m35, m36, m37, m38, m39, m40, m41, m42, m43, m44, m45, m46, m47, m48, m49]))]) [0] rfl
  have hDc := hD.sub (ws' := [(h0, .inr (9, [m0, m1, m2, m3, m4, m5, m6, m7, .int 0, m9, m10, m11, m12, m13, m14, m15, m16, m17, m18, m19, m20, m21, m22, m23, m24, m25, m26, m27, m28, m29, m30, m31, m32, m33, m34, m35, m36, m37, m38, m39, m40, m41, m42, m43, m44, m45, m46, m47, m48, m49]))]) [0] (by decide) rfl
  have hFc := va_free (wc := [(h0, .inr (9, [m0, m1, m2, m3, m4, m5, m6, m7, .int 0, m9, m10, m11, m12, m13, m14, m15, m16, m17, m18, m19, m20, m21, m22, m23, m24, m25, m26, m27, m28, m29, m30, m31, m32, m33, m34, m35, m36, m37, m38, m39, m40, m41, m42, m43, m44, m45, m46, m47, m48, m49]))]) hD hS hA [0] rfl
  refine va_calli (va_runV (As := [.int p0]) (rest := []) ⟨hx, hb, hml, hown, hts⟩ (m0_isNoContainer l g s.heap.size h0 m0 m1 m2 m3 m4 m5 m6 m7 m9 m10 m11 m12 m13 m14 m15 m16 m17 m18 m19 m20 m21 m22 m23 m24 m25 m26 m27 m28 m29 m30 m31 m32 m33 m34 m35 m36 m37 m38 m39 m40 m41 m42 m43 m44 m45 m46 m47 m48 m49 p0) (cwV 1 hts gX9_setWish_X9_isNoContainer rfl rfl rfl (by decide +kernel) ⟨Nat.le_of_ble_eq_true rfl, Nat.le_of_ble_eq_true rfl⟩) ⟨xB.blind, va_recv hK hPc (ci := 9) (q0 := 0) rfl rfl, fun U9 hU9 hW9 => ⟨rfl, xB.mk hPc hK hDc hU9 hW9⟩⟩ rfl rfl hl.1 rfl (lv_room (Nat.le_of_ble_eq_true rfl)) dX9_setWish_2 ⟨Nat.le_of_ble_eq_true rfl, Nat.le_of_ble_eq_true rfl⟩) hS (fun q _ h => hFc q h) hFc (fun r_1 u_2 t H1 locs ht hvm hw_3 hB hz1 hk1 hS => ?_)
  obtain ⟨hP1, hK1, hD1⟩ := hB
  rw [ht] at hP1
  obtain ⟨hP, hD⟩ := va_join (wr := []) (w1 := [(h0, .inr (9, [.int 1, m1, m2, m3, m4, m5, m6, m7, .int 0, m9, m10, m11, m12, m13, m14, m15, m16, m17, m18, m19, m20, m21, m22, m23, m24, m25, m26, m27, m28, m29, m30, m31, m32, m33, m34, m35, m36, m37, m38, m39, m40, m41, m42, m43, m44, m45, m46, m47, m48, m49]))]) hP hD [0] [] rfl rfl (by decide) (by decide) hk1 hFc hP1 hD1
  generalize H1 = H at hP hS ⊢
  have hP : va_P (xD g) vwCl [(h0, .inr (9, [.int 1, m1, m2, m3, m4, m5, m6, m7, .int 0, m9, m10, m11, m12, m13, m14, m15, m16, m17, m18, m19, m20, m21, m22, m23, m24, m25, m26, m27, m28, m29, m30, m31, m32, m33, m34, m35, m36, m37, m38, m39, m40, m41, m42, m43, m44, m45, m46, m47, m48, m49]))] H := hP
  have hD : va_D A [(h0, .inr (9, [.int 1, m1, m2, m3, m4, m5, m6, m7, .int 0, m9, m10, m11, m12, m13, m14, m15, m16, m17, m18, m19, m20, m21, m22, m23, m24, m25, m26, m27, m28, m29, m30, m31, m32, m33, m34, m35, m36, m37, m38, m39, m40, m41, m42, m43, m44, m45, m46, m47, m48, m49]))] := hD
  try dsimp only at hw_3
  obtain rfl := hw_3
  refine lv_if_ne (tgt := 31) hx hb dX9_setWish_5 (by decide) (fun _ => ?_) (fun c0 => absurd c0 (by decide))
  refine lv_iconst (v := 0) hx hb dX9_setWish_31 (by decide) ?_
  have hP9 := hP.sub (ws' := [(h0, .inr (9, [.int 1, m1, m2, m3, m4, m5, m6, m7, .int 0, m9, m10, m11, m12, m13, m14, m15, m16, m17, m18, m19, m20, m21, m22, m23, m24, m25, m26, m27, m28, m29, m30, m31, m32, m33, m34, m35, m36, m37, m38, m39, m40, m41, m42, m43, m44, m45, m46, m47, m48, m49]))]) [0] rfl
  have hD9 := hD.sub (ws' := [(h0, .inr (9, [.int 1, m1, m2, m3, m4, m5, m6, m7, .int 0, m9, m10, m11, m12, m13, m14, m15, m16, m17, m18, m19, m20, m21, m22, m23, m24, m25, m26, m27, m28, m29, m30, m31, m32, m33, m34, m35, m36, m37, m38, m39, m40, m41, m42, m43, m44, m45, m46, m47, m48, m49]))]) [0] (by decide) rfl
  exact W.iret (v := 0) hx hb hr (fun t ht hW => ⟨⟨0, 1, rfl, ⟨rfl, rfl⟩, ⟨m1, m2, m3, m4, m5, m6, m7, (.int 0), m9, m10, m11, m12, m13, m14, m15, m16, m17, m18, m19, m20, m21, m22, m23, m24, m25, m26, m27, m28, m29, m30, m31, m32, m33, m34, m35, m36, m37, m38, m39, m40, m41, m42, m43, m44, m45, m46, m47, m48, m49, by rw [ht]; exact hP9, va_K.moved hW.alike hK, hD9⟩⟩, hS.F ht⟩) hS.2.2 dX9_setWish_32
theorem dX9_stateOf_0 : decode cX9_stateOf 0 = .ok (.aload_n 0, 1) := by decide +kernel
theorem dX9_stateOf_1 : decode cX9_stateOf 1 = .ok (.iload_n 1, 1) := by decide +kernel
theorem dX9_stateOf_2 : decode cX9_stateOf 2 = .ok (.invokevirtual 158, 3) := by decide +kernel
set_option maxRecDepth 20000 in
theorem ggX9_stateOf_X9_isNoContainer : GoodIn wsX9_stateOf wsX9_isNoContainer := goodIn_r _ [6, 7, 8, 9, 5, 10, 11, 12, 13, 14, 15, 16, 17, 18, 19, 20, 21, 22, 23, 24, 25, 26, 27, 28, 29, 30, 31, 32, 33, 34, 35, 36, 37, 38, 39, 40, 41, 42, 43, 44, 45, 46, 47, 48, 49, 50, 51, 52, 53, 54, 55, 56, 57, 58, 59, 60, 61, 62, 63, 64, 65, 66, 67, 68, 69] rfl (by decide +kernel)
set_option maxRecDepth 20000 in
theorem gX9_stateOf_X9_isNoContainer : GoodIn wsX9_stateOf (wsV RX9 158 RX9 yX9_isNoContainer wsX9_isNoContainer) := goodIn_app (goodIn_of _ (by decide +kernel)) ggX9_stateOf_X9_isNoContainer
theorem dX9_stateOf_5 : decode cX9_stateOf 5 = .ok (.ifCond .eq 7, 3) := by decide +kernel
theorem dX9_stateOf_8 : decode cX9_stateOf 8 = .ok (.iconst 0, 1) := by decide +kernel
theorem dX9_stateOf_9 : decode cX9_stateOf 9 = .ok (.goto 9, 3) := by decide +kernel
theorem dX9_stateOf_18 : decode cX9_stateOf 18 = .ok (.ireturn, 1) := by decide +kernel
set_option maxHeartbeats 4000000 in
set_option maxRecDepth 100000 in
theorem m0_stateOf (l : Launch) (g : xG) (sz : Nat) (h0 : Nat) (m0 : Value) (m1 : Value) (m2 : Value) (m3 : Value) (m4 : Value) (m5 : Value) (m6 : Value) (m7 : Value) (m9 : Value) (m10 : Value) (m11 : Value) (m12 : Value) (m13 : Value) (m14 : Value) (m15 : Value) (m16 : Value) (m17 : Value) (m18 : Value) (m19 : Value) (m20 : Value) (m21 : Value) (m22 : Value) (m23 : Value) (m24 : Value) (m25 : Value) (m26 : Value) (m27 : Value) (m28 : Value) (m29 : Value) (m30 : Value) (m31 : Value) (m32 : Value) (m33 : Value) (m34 : Value) (m35 : Value) (m36 : Value) (m37 : Value) (m38 : Value) (m39 : Value) (m40 : Value) (m41 : Value) (m42 : Value) (m43 : Value) (m44 : Value) (m45 : Value) (m46 : Value) (m47 : Value) (m48 : Value) (m49 : Value) (p0 : Int32)  : Met l yX9_stateOf wsX9_stateOf ({ frames := 3, cells := 0, slots := 0, locals := 65 }) (va_Pc [.ref h0, .int p0] (fun U => xB g [(h0, .inr (9, [m0, m1, m2, m3, m4, m5, m6, m7, .int 0, m9, m10, m11, m12, m13, m14, m15, m16, m17, m18, m19, m20, m21, m22, m23, m24, m25, m26, m27, m28, m29, m30, m31, m32, m33, m34, m35, m36, m37, m38, m39, m40, m41, m42, m43, m44, m45, m46, m47, m48, m49]))] sz U)) (va_Qi (fun (r : Int32) (u : Int32) => u = 1 ∧ r = 0) (fun (u : Int32) (t : State) => ∃ (w1 : Value) (w2 : Value) (w3 : Value) (w4 : Value) (w5 : Value) (w6 : Value) (w7 : Value) (w8 : Value) (w9 : Value) (w10 : Value) (w11 : Value) (w12 : Value) (w13 : Value) (w14 : Value) (w15 : Value) (w16 : Value) (w17 : Value) (w18 : Value) (w19 : Value) (w20 : Value) (w21 : Value) (w22 : Value) (w23 : Value) (w24 : Value) (w25 : Value) (w26 : Value) (w27 : Value) (w28 : Value) (w29 : Value) (w30 : Value) (w31 : Value) (w32 : Value) (w33 : Value) (w34 : Value) (w35 : Value) (w36 : Value) (w37 : Value) (w38 : Value) (w39 : Value) (w40 : Value) (w41 : Value) (w42 : Value) (w43 : Value) (w44 : Value) (w45 : Value) (w46 : Value) (w47 : Value) (w48 : Value) (w49 : Value), xE g [(h0, .inr (9, [.int u, w1, w2, w3, w4, w5, w6, w7, w8, w9, w10, w11, w12, w13, w14, w15, w16, w17, w18, w19, w20, w21, w22, w23, w24, w25, w26, w27, w28, w29, w30, w31, w32, w33, w34, w35, w36, w37, w38, w39, w40, w41, w42, w43, w44, w45, w46, w47, w48, w49]))] (va_A [(h0, .inr (9, [m0, m1, m2, m3, m4, m5, m6, m7, .int 0, m9, m10, m11, m12, m13, m14, m15, m16, m17, m18, m19, m20, m21, m22, m23, m24, m25, m26, m27, m28, m29, m30, m31, m32, m33, m34, m35, m36, m37, m38, m39, m40, m41, m42, m43, m44, m45, m46, m47, m48, m49]))] sz) t) (va_A [(h0, .inr (9, [m0, m1, m2, m3, m4, m5, m6, m7, .int 0, m9, m10, m11, m12, m13, m14, m15, m16, m17, m18, m19, m20, m21, m22, m23, m24, m25, m26, m27, m28, m29, m30, m31, m32, m33, m34, m35, m36, m37, m38, m39, m40, m41, m42, m43, m44, m45, m46, m47, m48, m49]))] sz)) 0 0 (va_A [(h0, .inr (9, [m0, m1, m2, m3, m4, m5, m6, m7, .int 0, m9, m10, m11, m12, m13, m14, m15, m16, m17, m18, m19, m20, m21, m22, m23, m24, m25, m26, m27, m28, m29, m30, m31, m32, m33, m34, m35, m36, m37, m38, m39, m40, m41, m42, m43, m44, m45, m46, m47, m48, m49]))] sz) := by
  refine Met.ofW (cc := cX9_stateOf) (maxL := 2) (ret := (some .int)) (by decide) rfl ?_
  intro p e s m args below meth c s₁ B hml hv
  obtain ⟨rfl, ⟨hsz, hP, hK, hD0⟩⟩ := hv
  have hx := B.exec
  have hb := B.bytes
  have hr := B.returns
  have hts := atoms_spec (ws := wsX9_stateOf) B.pre
  have hown : s.vm.findClass RX9 = some m.cls := findClass_of_methodNamed B.named
  have hlocks := B.notSynchronized
  subst hsz
  have hD := hD0.self (sz := s.heap.size)
  generalize hAe : va_A [(h0, .inr (9, [m0, m1, m2, m3, m4, m5, m6, m7, .int 0, m9, m10, m11, m12, m13, m14, m15, m16, m17, m18, m19, m20, m21, m22, m23, m24, m25, m26, m27, m28, m29, m30, m31, m32, m33, m34, m35, m36, m37, m38, m39, m40, m41, m42, m43, m44, m45, m46, m47, m48, m49]))] s.heap.size = A at hD ⊢
  have hA : ∀ q : Nat, s.heap.size ≤ q → A q := fun q h => by rw [← hAe]; exact Or.inr h
  have hS : va_S A s.heap s.heap [] := va_S.rf
  have hl := lv_entry ([.ref h0, .int p0]) (n := 2) (Nat.le_of_ble_eq_true rfl)
  rw [lg_entry_eq]
  generalize (lg_sl ([.ref h0, .int p0]) ++ List.replicate (2 - (lg_sl ([.ref h0, .int p0])).length) Slot.unset).toArray = ls at hl ⊢
  have hl : lv_has ls 2 [(0, .ref h0), (1, .int p0)] := hl
  refine lv_aload_n hx hb dX9_stateOf_0 rfl (lv_at hl 0 rfl) ?_
  refine lv_iload_n hx hb dX9_stateOf_1 rfl (lv_at hl 1 rfl) ?_
  have hPc := hP.sub (ws' := [(h0, .inr (9, [m0, m1, m2, m3, m4, m5, m6, m7, .int 0, m9, m10, m11, m12, m13, m14, m15, m16, m17, m18, m19, m20, m21, m22, m23, m24, m25, m26, m27, m28, m29, m30, m31, m32, m33, m34, m35, m36, m37, m38, m39, m40, m41, m42, m43, m44, m45, m46, m47, m48, m49]))]) [0] rfl
  have hDc := hD.sub (ws' := [(h0, .inr (9, [m0, m1, m2, m3, m4, m5, m6, m7, .int 0, m9, m10, m11, m12, m13, m14, m15, m16, m17, m18, m19, m20, m21, m22, m23, m24, m25, m26, m27, m28, m29, m30, m31, m32, m33, m34, m35, m36, m37, m38, m39, m40, m41, m42, m43, m44, m45, m46, m47, m48, m49]))]) [0] (by decide) rfl
  have hFc := va_free (wc := [(h0, .inr (9, [m0, m1, m2, m3, m4, m5, m6, m7, .int 0, m9, m10, m11, m12, m13, m14, m15, m16, m17, m18, m19, m20, m21, m22, m23, m24, m25, m26, m27, m28, m29, m30, m31, m32, m33, m34, m35, m36, m37, m38, m39, m40, m41, m42, m43, m44, m45, m46, m47, m48, m49]))]) hD hS hA [0] rfl
  refine va_calli (va_runV (As := [.int p0]) (rest := []) ⟨hx, hb, hml, hown, hts⟩ (m0_isNoContainer l g s.heap.size h0 m0 m1 m2 m3 m4 m5 m6 m7 m9 m10 m11 m12 m13 m14 m15 m16 m17 m18 m19 m20 m21 m22 m23 m24 m25 m26 m27 m28 m29 m30 m31 m32 m33 m34 m35 m36 m37 m38 m39 m40 m41 m42 m43 m44 m45 m46 m47 m48 m49 p0) (cwV 1 hts gX9_stateOf_X9_isNoContainer rfl rfl rfl (by decide +kernel) ⟨Nat.le_of_ble_eq_true rfl, Nat.le_of_ble_eq_true rfl⟩) ⟨xB.blind, va_recv hK hPc (ci := 9) (q0 := 0) rfl rfl, fun U9 hU9 hW9 => ⟨rfl, xB.mk hPc hK hDc hU9 hW9⟩⟩ rfl rfl hl.1 rfl (lv_room (Nat.le_of_ble_eq_true rfl)) dX9_stateOf_2 ⟨Nat.le_of_ble_eq_true rfl, Nat.le_of_ble_eq_true rfl⟩) hS (fun q _ h => hFc q h) hFc (fun r_1 u_2 t H1 locs ht hvm hw_3 hB hz1 hk1 hS => ?_)
  obtain ⟨hP1, hK1, hD1⟩ := hB
  rw [ht] at hP1
  obtain ⟨hP, hD⟩ := va_join (wr := []) (w1 := [(h0, .inr (9, [.int 1, m1, m2, m3, m4, m5, m6, m7, .int 0, m9, m10, m11, m12, m13, m14, m15, m16, m17, m18, m19, m20, m21, m22, m23, m24, m25, m26, m27, m28, m29, m30, m31, m32, m33, m34, m35, m36, m37, m38, m39, m40, m41, m42, m43, m44, m45, m46, m47, m48, m49]))]) hP hD [0] [] rfl rfl (by decide) (by decide) hk1 hFc hP1 hD1
  generalize H1 = H at hP hS ⊢
  have hP : va_P (xD g) vwCl [(h0, .inr (9, [.int 1, m1, m2, m3, m4, m5, m6, m7, .int 0, m9, m10, m11, m12, m13, m14, m15, m16, m17, m18, m19, m20, m21, m22, m23, m24, m25, m26, m27, m28, m29, m30, m31, m32, m33, m34, m35, m36, m37, m38, m39, m40, m41, m42, m43, m44, m45, m46, m47, m48, m49]))] H := hP
  have hD : va_D A [(h0, .inr (9, [.int 1, m1, m2, m3, m4, m5, m6, m7, .int 0, m9, m10, m11, m12, m13, m14, m15, m16, m17, m18, m19, m20, m21, m22, m23, m24, m25, m26, m27, m28, m29, m30, m31, m32, m33, m34, m35, m36, m37, m38, m39, m40, m41, m42, m43, m44, m45, m46, m47, m48, m49]))] := hD
  try dsimp only at hw_3
  obtain rfl := hw_3
  refine lv_if_eq (tgt := 12) hx hb dX9_stateOf_5 (by decide) (fun c0 => absurd c0 (by decide)) (fun _ => ?_)
  refine lv_iconst (v := 0) hx hb dX9_stateOf_8 (by decide) ?_
  refine lv_goto (tgt := 18) hx hb dX9_stateOf_9 (by decide) ?_
  have hP9 := hP.sub (ws' := [(h0, .inr (9, [.int 1, m1, m2, m3, m4, m5, m6, m7, .int 0, m9, m10, m11, m12, m13, m14, m15, m16, m17, m18, m19, m20, m21, m22, m23, m24, m25, m26, m27, m28, m29, m30, m31, m32, m33, m34, m35, m36, m37, m38, m39, m40, m41, m42, m43, m44, m45, m46, m47, m48, m49]))]) [0] rfl
  have hD9 := hD.sub (ws' := [(h0, .inr (9, [.int 1, m1, m2, m3, m4, m5, m6, m7, .int 0, m9, m10, m11, m12, m13, m14, m15, m16, m17, m18, m19, m20, m21, m22, m23, m24, m25, m26, m27, m28, m29, m30, m31, m32, m33, m34, m35, m36, m37, m38, m39, m40, m41, m42, m43, m44, m45, m46, m47, m48, m49]))]) [0] (by decide) rfl
  exact W.iret (v := 0) hx hb hr (fun t ht hW => ⟨⟨0, 1, rfl, ⟨rfl, rfl⟩, ⟨m1, m2, m3, m4, m5, m6, m7, (.int 0), m9, m10, m11, m12, m13, m14, m15, m16, m17, m18, m19, m20, m21, m22, m23, m24, m25, m26, m27, m28, m29, m30, m31, m32, m33, m34, m35, m36, m37, m38, m39, m40, m41, m42, m43, m44, m45, m46, m47, m48, m49, by rw [ht]; exact hP9, va_K.moved hW.alike hK, hD9⟩⟩, hS.F ht⟩) hS.2.2 dX9_stateOf_18
theorem dX9_stackOf_0 : decode cX9_stackOf 0 = .ok (.aload_n 0, 1) := by decide +kernel
theorem dX9_stackOf_1 : decode cX9_stackOf 1 = .ok (.iload_n 1, 1) := by decide +kernel
theorem dX9_stackOf_2 : decode cX9_stackOf 2 = .ok (.invokevirtual 158, 3) := by decide +kernel
set_option maxRecDepth 20000 in
theorem ggX9_stackOf_X9_isNoContainer : GoodIn wsX9_stackOf wsX9_isNoContainer := goodIn_r _ [5, 6, 7, 8, 4, 9, 10, 11, 12, 13, 14, 15, 16, 17, 18, 31, 32, 33, 34, 35, 36, 37, 38, 39, 40, 41, 42, 43, 44, 45, 46, 47, 48, 49, 50, 51, 52, 53, 54, 55, 56, 57, 58, 59, 60, 61, 62, 63, 64, 65, 66, 67, 68, 69, 70, 71, 72, 73, 74, 75, 76, 77, 78, 79, 80] rfl (by decide +kernel)
set_option maxRecDepth 20000 in
theorem gX9_stackOf_X9_isNoContainer : GoodIn wsX9_stackOf (wsV RX9 158 RX9 yX9_isNoContainer wsX9_isNoContainer) := goodIn_app (goodIn_of _ (by decide +kernel)) ggX9_stackOf_X9_isNoContainer
theorem dX9_stackOf_5 : decode cX9_stackOf 5 = .ok (.ifCond .eq 7, 3) := by decide +kernel
theorem dX9_stackOf_8 : decode cX9_stackOf 8 = .ok (.iconst 0, 1) := by decide +kernel
theorem dX9_stackOf_9 : decode cX9_stackOf 9 = .ok (.goto 8, 3) := by decide +kernel
theorem dX9_stackOf_17 : decode cX9_stackOf 17 = .ok (.ireturn, 1) := by decide +kernel
set_option maxHeartbeats 4000000 in
set_option maxRecDepth 100000 in
theorem m0_stackOf (l : Launch) (g : xG) (sz : Nat) (h0 : Nat) (m0 : Value) (m1 : Value) (m2 : Value) (m3 : Value) (m4 : Value) (m5 : Value) (m6 : Value) (m7 : Value) (m9 : Value) (m10 : Value) (m11 : Value) (m12 : Value) (m13 : Value) (m14 : Value) (m15 : Value) (m16 : Value) (m17 : Value) (m18 : Value) (m19 : Value) (m20 : Value) (m21 : Value) (m22 : Value) (m23 : Value) (m24 : Value) (m25 : Value) (m26 : Value) (m27 : Value) (m28 : Value) (m29 : Value) (m30 : Value) (m31 : Value) (m32 : Value) (m33 : Value) (m34 : Value) (m35 : Value) (m36 : Value) (m37 : Value) (m38 : Value) (m39 : Value) (m40 : Value) (m41 : Value) (m42 : Value) (m43 : Value) (m44 : Value) (m45 : Value) (m46 : Value) (m47 : Value) (m48 : Value) (m49 : Value) (p0 : Int32)  : Met l yX9_stackOf wsX9_stackOf ({ frames := 3, cells := 0, slots := 0, locals := 65 }) (va_Pc [.ref h0, .int p0] (fun U => xB g [(h0, .inr (9, [m0, m1, m2, m3, m4, m5, m6, m7, .int 0, m9, m10, m11, m12, m13, m14, m15, m16, m17, m18, m19, m20, m21, m22, m23, m24, m25, m26, m27, m28, m29, m30, m31, m32, m33, m34, m35, m36, m37, m38, m39, m40, m41, m42, m43, m44, m45, m46, m47, m48, m49]))] sz U)) (va_Qi (fun (r : Int32) (u : Int32) => u = 1 ∧ r = 0) (fun (u : Int32) (t : State) => ∃ (w1 : Value) (w2 : Value) (w3 : Value) (w4 : Value) (w5 : Value) (w6 : Value) (w7 : Value) (w8 : Value) (w9 : Value) (w10 : Value) (w11 : Value) (w12 : Value) (w13 : Value) (w14 : Value) (w15 : Value) (w16 : Value) (w17 : Value) (w18 : Value) (w19 : Value) (w20 : Value) (w21 : Value) (w22 : Value) (w23 : Value) (w24 : Value) (w25 : Value) (w26 : Value) (w27 : Value) (w28 : Value) (w29 : Value) (w30 : Value) (w31 : Value) (w32 : Value) (w33 : Value) (w34 : Value) (w35 : Value) (w36 : Value) (w37 : Value) (w38 : Value) (w39 : Value) (w40 : Value) (w41 : Value) (w42 : Value) (w43 : Value) (w44 : Value) (w45 : Value) (w46 : Value) (w47 : Value) (w48 : Value) (w49 : Value), xE g [(h0, .inr (9, [.int u, w1, w2, w3, w4, w5, w6, w7, w8, w9, w10, w11, w12, w13, w14, w15, w16, w17, w18, w19, w20, w21, w22, w23, w24, w25, w26, w27, w28, w29, w30, w31, w32, w33, w34, w35, w36, w37, w38, w39, w40, w41, w42, w43, w44, w45, w46, w47, w48, w49]))] (va_A [(h0, .inr (9, [m0, m1, m2, m3, m4, m5, m6, m7, .int 0, m9, m10, m11, m12, m13, m14, m15, m16, m17, m18, m19, m20, m21, m22, m23, m24, m25, m26, m27, m28, m29, m30, m31, m32, m33, m34, m35, m36, m37, m38, m39, m40, m41, m42, m43, m44, m45, m46, m47, m48, m49]))] sz) t) (va_A [(h0, .inr (9, [m0, m1, m2, m3, m4, m5, m6, m7, .int 0, m9, m10, m11, m12, m13, m14, m15, m16, m17, m18, m19, m20, m21, m22, m23, m24, m25, m26, m27, m28, m29, m30, m31, m32, m33, m34, m35, m36, m37, m38, m39, m40, m41, m42, m43, m44, m45, m46, m47, m48, m49]))] sz)) 0 0 (va_A [(h0, .inr (9, [m0, m1, m2, m3, m4, m5, m6, m7, .int 0, m9, m10, m11, m12, m13, m14, m15, m16, m17, m18, m19, m20, m21, m22, m23, m24, m25, m26, m27, m28, m29, m30, m31, m32, m33, m34, m35, m36, m37, m38, m39, m40, m41, m42, m43, m44, m45, m46, m47, m48, m49]))] sz) := by
  refine Met.ofW (cc := cX9_stackOf) (maxL := 2) (ret := (some .int)) (by decide) rfl ?_
  intro p e s m args below meth c s₁ B hml hv
  obtain ⟨rfl, ⟨hsz, hP, hK, hD0⟩⟩ := hv
  have hx := B.exec
  have hb := B.bytes
  have hr := B.returns
  have hts := atoms_spec (ws := wsX9_stackOf) B.pre
  have hown : s.vm.findClass RX9 = some m.cls := findClass_of_methodNamed B.named
  have hlocks := B.notSynchronized
  subst hsz
  have hD := hD0.self (sz := s.heap.size)
  generalize hAe : va_A [(h0, .inr (9, [m0, m1, m2, m3, m4, m5, m6, m7, .int 0, m9, m10, m11, m12, m13, m14, m15, m16, m17, m18, m19, m20, m21, m22, m23, m24, m25, m26, m27, m28, m29, m30, m31, m32, m33, m34, m35, m36, m37, m38, m39, m40, m41, m42, m43, m44, m45, m46, m47, m48, m49]))] s.heap.size = A at hD ⊢
  have hA : ∀ q : Nat, s.heap.size ≤ q → A q := fun q h => by rw [← hAe]; exact Or.inr h
  have hS : va_S A s.heap s.heap [] := va_S.rf
  have hl := lv_entry ([.ref h0, .int p0]) (n := 2) (Nat.le_of_ble_eq_true rfl)
  rw [lg_entry_eq]
  generalize (lg_sl ([.ref h0, .int p0]) ++ List.replicate (2 - (lg_sl ([.ref h0, .int p0])).length) Slot.unset).toArray = ls at hl ⊢
  have hl : lv_has ls 2 [(0, .ref h0), (1, .int p0)] := hl
  refine lv_aload_n hx hb dX9_stackOf_0 rfl (lv_at hl 0 rfl) ?_
  refine lv_iload_n hx hb dX9_stackOf_1 rfl (lv_at hl 1 rfl) ?_
  have hPc := hP.sub (ws' := [(h0, .inr (9, [m0, m1, m2, m3, m4, m5, m6, m7, .int 0, m9, m10, m11, m12, m13, m14, m15, m16, m17, m18, m19, m20, m21, m22, m23, m24, m25, m26, m27, m28, m29, m30, m31, m32, m33, m34, m35, m36, m37, m38, m39, m40, m41, m42, m43, m44, m45, m46, m47, m48, m49]))]) [0] rfl
  have hDc := hD.sub (ws' := [(h0, .inr (9, [m0, m1, m2, m3, m4, m5, m6, m7, .int 0, m9, m10, m11, m12, m13, m14, m15, m16, m17, m18, m19, m20, m21, m22, m23, m24, m25, m26, m27, m28, m29, m30, m31, m32, m33, m34, m35, m36, m37, m38, m39, m40, m41, m42, m43, m44, m45, m46, m47, m48, m49]))]) [0] (by decide) rfl
  have hFc := va_free (wc := [(h0, .inr (9, [m0, m1, m2, m3, m4, m5, m6, m7, .int 0, m9, m10, m11, m12, m13, m14, m15, m16, m17, m18, m19, m20, m21, m22, m23, m24, m25, m26, m27, m28, m29, m30, m31, m32, m33, m34, m35, m36, m37, m38, m39, m40, m41, m42, m43, m44, m45, m46, m47, m48, m49]))]) hD hS hA [0] rfl
  refine va_calli (va_runV (As := [.int p0]) (rest := []) ⟨hx, hb, hml, hown, hts⟩ (m0_isNoContainer l g s.heap.size h0 m0 m1 m2 m3 m4 m5 m6 m7 m9 m10 m11 m12 m13 m14 m15 m16 m17 m18 m19 m20 m21 m22 m23 m24 m25 m26 m27 m28 m29 m30 m31 m32 m33 m34 m35 m36 m37 m38 m39 m40 m41 m42 m43 m44 m45 m46 m47 m48 m49 p0) (cwV 1 hts gX9_stackOf_X9_isNoContainer rfl rfl rfl (by decide +kernel) ⟨Nat.le_of_ble_eq_true rfl, Nat.le_of_ble_eq_true rfl⟩) ⟨xB.blind, va_recv hK hPc (ci := 9) (q0 := 0) rfl rfl, fun U9 hU9 hW9 => ⟨rfl, xB.mk hPc hK hDc hU9 hW9⟩⟩ rfl rfl hl.1 rfl (lv_room (Nat.le_of_ble_eq_true rfl)) dX9_stackOf_2 ⟨Nat.le_of_ble_eq_true rfl, Nat.le_of_ble_eq_true rfl⟩) hS (fun q _ h => hFc q h) hFc (fun r_1 u_2 t H1 locs ht hvm hw_3 hB hz1 hk1 hS => ?_)
  obtain ⟨hP1, hK1, hD1⟩ := hB
  rw [ht] at hP1
  obtain ⟨hP, hD⟩ := va_join (wr := []) (w1 := [(h0, .inr (9, [.int 1, m1, m2, m3, m4, m5, m6, m7, .int 0, m9, m10, m11, m12, m13, m14, m15, m16, m17, m18, m19, m20, m21, m22, m23, m24, m25, m26, m27, m28, m29, m30, m31, m32, m33, m34, m35, m36, m37, m38, m39, m40, m41, m42, m43, m44, m45, m46, m47, m48, m49]))]) hP hD [0] [] rfl rfl (by decide) (by decide) hk1 hFc hP1 hD1
  generalize H1 = H at hP hS ⊢
  have hP : va_P (xD g) vwCl [(h0, .inr (9, [.int 1, m1, m2, m3, m4, m5, m6, m7, .int 0, m9, m10, m11, m12, m13, m14, m15, m16, m17, m18, m19, m20, m21, m22, m23, m24, m25, m26, m27, m28, m29, m30, m31, m32, m33, m34, m35, m36, m37, m38, m39, m40, m41, m42, m43, m44, m45, m46, m47, m48, m49]))] H := hP
  have hD : va_D A [(h0, .inr (9, [.int 1, m1, m2, m3, m4, m5, m6, m7, .int 0, m9, m10, m11, m12, m13, m14, m15, m16, m17, m18, m19, m20, m21, m22, m23, m24, m25, m26, m27, m28, m29, m30, m31, m32, m33, m34, m35, m36, m37, m38, m39, m40, m41, m42, m43, m44, m45, m46, m47, m48, m49]))] := hD
  try dsimp only at hw_3
  obtain rfl := hw_3
  refine lv_if_eq (tgt := 12) hx hb dX9_stackOf_5 (by decide) (fun c0 => absurd c0 (by decide)) (fun _ => ?_)
  refine lv_iconst (v := 0) hx hb dX9_stackOf_8 (by decide) ?_
  refine lv_goto (tgt := 17) hx hb dX9_stackOf_9 (by decide) ?_
  have hP9 := hP.sub (ws' := [(h0, .inr (9, [.int 1, m1, m2, m3, m4, m5, m6, m7, .int 0, m9, m10, m11, m12, m13, m14, m15, m16, m17, m18, m19, m20, m21, m22, m23, m24, m25, m26, m27, m28, m29, m30, m31, m32, m33, m34, m35, m36, m37, m38, m39, m40, m41, m42, m43, m44, m45, m46, m47, m48, m49]))]) [0] rfl
  have hD9 := hD.sub (ws' := [(h0, .inr (9, [.int 1, m1, m2, m3, m4, m5, m6, m7, .int 0, m9, m10, m11, m12, m13, m14, m15, m16, m17, m18, m19, m20, m21, m22, m23, m24, m25, m26, m27, m28, m29, m30, m31, m32, m33, m34, m35, m36, m37, m38, m39, m40, m41, m42, m43, m44, m45, m46, m47, m48, m49]))]) [0] (by decide) rfl
  exact W.iret (v := 0) hx hb hr (fun t ht hW => ⟨⟨0, 1, rfl, ⟨rfl, rfl⟩, ⟨m1, m2, m3, m4, m5, m6, m7, (.int 0), m9, m10, m11, m12, m13, m14, m15, m16, m17, m18, m19, m20, m21, m22, m23, m24, m25, m26, m27, m28, m29, m30, m31, m32, m33, m34, m35, m36, m37, m38, m39, m40, m41, m42, m43, m44, m45, m46, m47, m48, m49, by rw [ht]; exact hP9, va_K.moved hW.alike hK, hD9⟩⟩, hS.F ht⟩) hS.2.2 dX9_stackOf_17
theorem dX9_wouldTake_0 : decode cX9_wouldTake 0 = .ok (.aload_n 0, 1) := by decide +kernel
theorem dX9_wouldTake_1 : decode cX9_wouldTake 1 = .ok (.iload_n 1, 1) := by decide +kernel
theorem dX9_wouldTake_2 : decode cX9_wouldTake 2 = .ok (.invokevirtual 158, 3) := by decide +kernel
set_option maxRecDepth 20000 in
theorem ggX9_wouldTake_X9_isNoContainer : GoodIn wsX9_wouldTake wsX9_isNoContainer := goodIn_r _ [7, 8, 9, 10, 6, 11, 12, 13, 14, 15, 16, 17, 18, 19, 20, 66, 67, 68, 69, 70, 71, 72, 73, 74, 75, 76, 77, 78, 79, 80, 81, 82, 83, 84, 85, 86, 87, 88, 89, 90, 91, 92, 93, 94, 95, 96, 97, 98, 99, 100, 101, 102, 103, 104, 105, 106, 107, 108, 109, 110, 111, 112, 113, 114, 115] rfl (by decide +kernel)
set_option maxRecDepth 20000 in
theorem gX9_wouldTake_X9_isNoContainer : GoodIn wsX9_wouldTake (wsV RX9 158 RX9 yX9_isNoContainer wsX9_isNoContainer) := goodIn_app (goodIn_of _ (by decide +kernel)) ggX9_wouldTake_X9_isNoContainer
theorem dX9_wouldTake_5 : decode cX9_wouldTake 5 = .ok (.ifCond .eq 5, 3) := by decide +kernel
theorem dX9_wouldTake_8 : decode cX9_wouldTake 8 = .ok (.iconst 0, 1) := by decide +kernel
theorem dX9_wouldTake_9 : decode cX9_wouldTake 9 = .ok (.ireturn, 1) := by decide +kernel
set_option maxHeartbeats 4000000 in
set_option maxRecDepth 100000 in
theorem m0_wouldTake (l : Launch) (g : xG) (sz : Nat) (h0 : Nat) (m0 : Value) (m1 : Value) (m2 : Value) (m3 : Value) (m4 : Value) (m5 : Value) (m6 : Value) (m7 : Value) (m9 : Value) (m10 : Value) (m11 : Value) (m12 : Value) (m13 : Value) (m14 : Value) (m15 : Value) (m16 : Value) (m17 : Value) (m18 : Value) (m19 : Value) (m20 : Value) (m21 : Value) (m22 : Value) (m23 : Value) (m24 : Value) (m25 : Value) (m26 : Value) (m27 : Value) (m28 : Value) (m29 : Value) (m30 : Value) (m31 : Value) (m32 : Value) (m33 : Value) (m34 : Value) (m35 : Value) (m36 : Value) (m37 : Value) (m38 : Value) (m39 : Value) (m40 : Value) (m41 : Value) (m42 : Value) (m43 : Value) (m44 : Value) (m45 : Value) (m46 : Value) (m47 : Value) (m48 : Value) (m49 : Value) (p0 : Int32)  : Met l yX9_wouldTake wsX9_wouldTake ({ frames := 3, cells := 0, slots := 0, locals := 65 }) (va_Pc [.ref h0, .int p0] (fun U => xB g [(h0, .inr (9, [m0, m1, m2, m3, m4, m5, m6, m7, .int 0, m9, m10, m11, m12, m13, m14, m15, m16, m17, m18, m19, m20, m21, m22, m23, m24, m25, m26, m27, m28, m29, m30, m31, m32, m33, m34, m35, m36, m37, m38, m39, m40, m41, m42, m43, m44, m45, m46, m47, m48, m49]))] sz U)) (va_Qi (fun (r : Int32) (u : Int32) => u = 1 ∧ r = 0) (fun (u : Int32) (t : State) => ∃ (w1 : Value) (w2 : Value) (w3 : Value) (w4 : Value) (w5 : Value) (w6 : Value) (w7 : Value) (w8 : Value) (w9 : Value) (w10 : Value) (w11 : Value) (w12 : Value) (w13 : Value) (w14 : Value) (w15 : Value) (w16 : Value) (w17 : Value) (w18 : Value) (w19 : Value) (w20 : Value) (w21 : Value) (w22 : Value) (w23 : Value) (w24 : Value) (w25 : Value) (w26 : Value) (w27 : Value) (w28 : Value) (w29 : Value) (w30 : Value) (w31 : Value) (w32 : Value) (w33 : Value) (w34 : Value) (w35 : Value) (w36 : Value) (w37 : Value) (w38 : Value) (w39 : Value) (w40 : Value) (w41 : Value) (w42 : Value) (w43 : Value) (w44 : Value) (w45 : Value) (w46 : Value) (w47 : Value) (w48 : Value) (w49 : Value), xE g [(h0, .inr (9, [.int u, w1, w2, w3, w4, w5, w6, w7, w8, w9, w10, w11, w12, w13, w14, w15, w16, w17, w18, w19, w20, w21, w22, w23, w24, w25, w26, w27, w28, w29, w30, w31, w32, w33, w34, w35, w36, w37, w38, w39, w40, w41, w42, w43, w44, w45, w46, w47, w48, w49]))] (va_A [(h0, .inr (9, [m0, m1, m2, m3, m4, m5, m6, m7, .int 0, m9, m10, m11, m12, m13, m14, m15, m16, m17, m18, m19, m20, m21, m22, m23, m24, m25, m26, m27, m28, m29, m30, m31, m32, m33, m34, m35, m36, m37, m38, m39, m40, m41, m42, m43, m44, m45, m46, m47, m48, m49]))] sz) t) (va_A [(h0, .inr (9, [m0, m1, m2, m3, m4, m5, m6, m7, .int 0, m9, m10, m11, m12, m13, m14, m15, m16, m17, m18, m19, m20, m21, m22, m23, m24, m25, m26, m27, m28, m29, m30, m31, m32, m33, m34, m35, m36, m37, m38, m39, m40, m41, m42, m43, m44, m45, m46, m47, m48, m49]))] sz)) 0 0 (va_A [(h0, .inr (9, [m0, m1, m2, m3, m4, m5, m6, m7, .int 0, m9, m10, m11, m12, m13, m14, m15, m16, m17, m18, m19, m20, m21, m22, m23, m24, m25, m26, m27, m28, m29, m30, m31, m32, m33, m34, m35, m36, m37, m38, m39, m40, m41, m42, m43, m44, m45, m46, m47, m48, m49]))] sz) := by
  refine Met.ofW (cc := cX9_wouldTake) (maxL := 5) (ret := (some .int)) (by decide) rfl ?_
  intro p e s m args below meth c s₁ B hml hv
  obtain ⟨rfl, ⟨hsz, hP, hK, hD0⟩⟩ := hv
  have hx := B.exec
  have hb := B.bytes
  have hr := B.returns
  have hts := atoms_spec (ws := wsX9_wouldTake) B.pre
  have hown : s.vm.findClass RX9 = some m.cls := findClass_of_methodNamed B.named
  have hlocks := B.notSynchronized
  subst hsz
  have hD := hD0.self (sz := s.heap.size)
  generalize hAe : va_A [(h0, .inr (9, [m0, m1, m2, m3, m4, m5, m6, m7, .int 0, m9, m10, m11, m12, m13, m14, m15, m16, m17, m18, m19, m20, m21, m22, m23, m24, m25, m26, m27, m28, m29, m30, m31, m32, m33, m34, m35, m36, m37, m38, m39, m40, m41, m42, m43, m44, m45, m46, m47, m48, m49]))] s.heap.size = A at hD ⊢
  have hA : ∀ q : Nat, s.heap.size ≤ q → A q := fun q h => by rw [← hAe]; exact Or.inr h
  have hS : va_S A s.heap s.heap [] := va_S.rf
  have hl := lv_entry ([.ref h0, .int p0]) (n := 5) (Nat.le_of_ble_eq_true rfl)
  rw [lg_entry_eq]
  generalize (lg_sl ([.ref h0, .int p0]) ++ List.replicate (5 - (lg_sl ([.ref h0, .int p0])).length) Slot.unset).toArray = ls at hl ⊢
  have hl : lv_has ls 5 [(0, .ref h0), (1, .int p0)] := hl
  refine lv_aload_n hx hb dX9_wouldTake_0 rfl (lv_at hl 0 rfl) ?_
  refine lv_iload_n hx hb dX9_wouldTake_1 rfl (lv_at hl 1 rfl) ?_
  have hPc := hP.sub (ws' := [(h0, .inr (9, [m0, m1, m2, m3, m4, m5, m6, m7, .int 0, m9, m10, m11, m12, m13, m14, m15, m16, m17, m18, m19, m20, m21, m22, m23, m24, m25, m26, m27, m28, m29, m30, m31, m32, m33, m34, m35, m36, m37, m38, m39, m40, m41, m42, m43, m44, m45, m46, m47, m48, m49]))]) [0] rfl
  have hDc := hD.sub (ws' := [(h0, .inr (9, [m0, m1, m2, m3, m4, m5, m6, m7, .int 0, m9, m10, m11, m12, m13, m14, m15, m16, m17, m18, m19, m20, m21, m22, m23, m24, m25, m26, m27, m28, m29, m30, m31, m32, m33, m34, m35, m36, m37, m38, m39, m40, m41, m42, m43, m44, m45, m46, m47, m48, m49]))]) [0] (by decide) rfl
  have hFc := va_free (wc := [(h0, .inr (9, [m0, m1, m2, m3, m4, m5, m6, m7, .int 0, m9, m10, m11, m12, m13, m14, m15, m16, m17, m18, m19, m20, m21, m22, m23, m24, m25, m26, m27, m28, m29, m30, m31, m32, m33, m34, m35, m36, m37, m38, m39, m40, m41, m42, m43, m44, m45, m46, m47, m48, m49]))]) hD hS hA [0] rfl
  refine va_calli (va_runV (As := [.int p0]) (rest := []) ⟨hx, hb, hml, hown, hts⟩ (m0_isNoContainer l g s.heap.size h0 m0 m1 m2 m3 m4 m5 m6 m7 m9 m10 m11 m12 m13 m14 m15 m16 m17 m18 m19 m20 m21 m22 m23 m24 m25 m26 m27 m28 m29 m30 m31 m32 m33 m34 m35 m36 m37 m38 m39 m40 m41 m42 m43 m44 m45 m46 m47 m48 m49 p0) (cwV 1 hts gX9_wouldTake_X9_isNoContainer rfl rfl rfl (by decide +kernel) ⟨Nat.le_of_ble_eq_true rfl, Nat.le_of_ble_eq_true rfl⟩) ⟨xB.blind, va_recv hK hPc (ci := 9) (q0 := 0) rfl rfl, fun U9 hU9 hW9 => ⟨rfl, xB.mk hPc hK hDc hU9 hW9⟩⟩ rfl rfl hl.1 rfl (lv_room (Nat.le_of_ble_eq_true rfl)) dX9_wouldTake_2 ⟨Nat.le_of_ble_eq_true rfl, Nat.le_of_ble_eq_true rfl⟩) hS (fun q _ h => hFc q h) hFc (fun r_1 u_2 t H1 locs ht hvm hw_3 hB hz1 hk1 hS => ?_)
  obtain ⟨hP1, hK1, hD1⟩ := hB
  rw [ht] at hP1
  obtain ⟨hP, hD⟩ := va_join (wr := []) (w1 := [(h0, .inr (9, [.int 1, m1, m2, m3, m4, m5, m6, m7, .int 0, m9, m10, m11, m12, m13, m14, m15, m16, m17, m18, m19, m20, m21, m22, m23, m24, m25, m26, m27, m28, m29, m30, m31, m32, m33, m34, m35, m36, m37, m38, m39, m40, m41, m42, m43, m44, m45, m46, m47, m48, m49]))]) hP hD [0] [] rfl rfl (by decide) (by decide) hk1 hFc hP1 hD1
  generalize H1 = H at hP hS ⊢
  have hP : va_P (xD g) vwCl [(h0, .inr (9, [.int 1, m1, m2, m3, m4, m5, m6, m7, .int 0, m9, m10, m11, m12, m13, m14, m15, m16, m17, m18, m19, m20, m21, m22, m23, m24, m25, m26, m27, m28, m29, m30, m31, m32, m33, m34, m35, m36, m37, m38, m39, m40, m41, m42, m43, m44, m45, m46, m47, m48, m49]))] H := hP
  have hD : va_D A [(h0, .inr (9, [.int 1, m1, m2, m3, m4, m5, m6, m7, .int 0, m9, m10, m11, m12, m13, m14, m15, m16, m17, m18, m19, m20, m21, m22, m23, m24, m25, m26, m27, m28, m29, m30, m31, m32, m33, m34, m35, m36, m37, m38, m39, m40, m41, m42, m43, m44, m45, m46, m47, m48, m49]))] := hD
  try dsimp only at hw_3
  obtain rfl := hw_3
  refine lv_if_eq (tgt := 10) hx hb dX9_wouldTake_5 (by decide) (fun c0 => absurd c0 (by decide)) (fun _ => ?_)
  refine lv_iconst (v := 0) hx hb dX9_wouldTake_8 (by decide) ?_
  have hP9 := hP.sub (ws' := [(h0, .inr (9, [.int 1, m1, m2, m3, m4, m5, m6, m7, .int 0, m9, m10, m11, m12, m13, m14, m15, m16, m17, m18, m19, m20, m21, m22, m23, m24, m25, m26, m27, m28, m29, m30, m31, m32, m33, m34, m35, m36, m37, m38, m39, m40, m41, m42, m43, m44, m45, m46, m47, m48, m49]))]) [0] rfl
  have hD9 := hD.sub (ws' := [(h0, .inr (9, [.int 1, m1, m2, m3, m4, m5, m6, m7, .int 0, m9, m10, m11, m12, m13, m14, m15, m16, m17, m18, m19, m20, m21, m22, m23, m24, m25, m26, m27, m28, m29, m30, m31, m32, m33, m34, m35, m36, m37, m38, m39, m40, m41, m42, m43, m44, m45, m46, m47, m48, m49]))]) [0] (by decide) rfl
  exact W.iret (v := 0) hx hb hr (fun t ht hW => ⟨⟨0, 1, rfl, ⟨rfl, rfl⟩, ⟨m1, m2, m3, m4, m5, m6, m7, (.int 0), m9, m10, m11, m12, m13, m14, m15, m16, m17, m18, m19, m20, m21, m22, m23, m24, m25, m26, m27, m28, m29, m30, m31, m32, m33, m34, m35, m36, m37, m38, m39, m40, m41, m42, m43, m44, m45, m46, m47, m48, m49, by rw [ht]; exact hP9, va_K.moved hW.alike hK, hD9⟩⟩, hS.F ht⟩) hS.2.2 dX9_wouldTake_9
theorem dX9_heightOf_0 : decode cX9_heightOf 0 = .ok (.aload_n 0, 1) := by decide +kernel
theorem dX9_heightOf_1 : decode cX9_heightOf 1 = .ok (.iload_n 1, 1) := by decide +kernel
theorem dX9_heightOf_2 : decode cX9_heightOf 2 = .ok (.invokevirtual 353, 3) := by decide +kernel
set_option maxRecDepth 20000 in
theorem ggX9_heightOf_X9_isNoStack : GoodIn wsX9_heightOf wsX9_isNoStack := goodIn_r _ [6, 7, 8, 9, 5, 10, 11, 12, 13, 14, 15, 16, 17, 18, 19, 20, 21, 22, 23, 24, 25, 26, 27, 28, 29, 30, 31, 32, 33, 34, 35, 36, 37, 38, 39, 40, 41, 42, 43, 44, 45, 46, 47, 48, 49, 50, 51, 52, 53, 54, 55, 56, 57, 58, 59, 60, 61, 62, 63, 64, 65, 66, 67, 68, 69] rfl (by decide +kernel)
set_option maxRecDepth 20000 in
theorem gX9_heightOf_X9_isNoStack : GoodIn wsX9_heightOf (wsV RX9 353 RX9 yX9_isNoStack wsX9_isNoStack) := goodIn_app (goodIn_of _ (by decide +kernel)) ggX9_heightOf_X9_isNoStack
theorem dX9_heightOf_5 : decode cX9_heightOf 5 = .ok (.ifCond .eq 7, 3) := by decide +kernel
theorem dX9_heightOf_8 : decode cX9_heightOf 8 = .ok (.iconst 0, 1) := by decide +kernel
theorem dX9_heightOf_9 : decode cX9_heightOf 9 = .ok (.goto 9, 3) := by decide +kernel
theorem dX9_heightOf_18 : decode cX9_heightOf 18 = .ok (.ireturn, 1) := by decide +kernel
set_option maxHeartbeats 4000000 in
set_option maxRecDepth 100000 in
theorem m0_heightOf (l : Launch) (g : xG) (sz : Nat) (h0 : Nat) (m0 : Value) (m1 : Value) (m2 : Value) (m3 : Value) (m4 : Value) (m5 : Value) (m6 : Value) (m7 : Value) (m8 : Value) (m9 : Value) (m10 : Value) (m11 : Value) (m12 : Value) (m13 : Value) (m14 : Value) (m16 : Value) (m17 : Value) (m18 : Value) (m19 : Value) (m20 : Value) (m21 : Value) (m22 : Value) (m23 : Value) (m24 : Value) (m25 : Value) (m26 : Value) (m27 : Value) (m28 : Value) (m29 : Value) (m30 : Value) (m31 : Value) (m32 : Value) (m33 : Value) (m34 : Value) (m35 : Value) (m36 : Value) (m37 : Value) (m38 : Value) (m39 : Value) (m40 : Value) (m41 : Value) (m42 : Value) (m43 : Value) (m44 : Value) (m45 : Value) (m46 : Value) (m47 : Value) (m48 : Value) (m49 : Value) (p0 : Int32)  : Met l yX9_heightOf wsX9_heightOf ({ frames := 3, cells := 0, slots := 0, locals := 65 }) (va_Pc [.ref h0, .int p0] (fun U => xB g [(h0, .inr (9, [m0, m1, m2, m3, m4, m5, m6, m7, m8, m9, m10, m11, m12, m13, m14, .int 0, m16, m17, m18, m19, m20, m21, m22, m23, m24, m25, m26, m27, m28, m29, m30, m31, m32, m33, m34, m35, m36, m37, m38, m39, m40, m41, m42, m43, m44, m45, m46, m47, m48, m49]))] sz U)) (va_Qi (fun (r : Int32) (u : Int32) => u = 1 ∧ r = 0) (fun (u : Int32) (t : State) => ∃ (w1 : Value) (w2 : Value) (w3 : Value) (w4 : Value) (w5 : Value) (w6 : Value) (w7 : Value) (w8 : Value) (w9 : Value) (w10 : Value) (w11 : Value) (w12 : Value) (w13 : Value) (w14 : Value) (w15 : Value) (w16 : Value) (w17 : Value) (w18 : Value) (w19 : Value) (w20 : Value) (w21 : Value) (w22 : Value) (w23 : Value) (w24 : Value) (w25 : Value) (w26 : Value) (w27 : Value) (w28 : Value) (w29 : Value) (w30 : Value) (w31 : Value) (w32 : Value) (w33 : Value) (w34 : Value) (w35 : Value) (w36 : Value) (w37 : Value) (w38 : Value) (w39 : Value) (w40 : Value) (w41 : Value) (w42 : Value) (w43 : Value) (w44 : Value) (w45 : Value) (w46 : Value) (w47 : Value) (w48 : Value) (w49 : Value), xE g [(h0, .inr (9, [.int u, w1, w2, w3, w4, w5, w6, w7, w8, w9, w10, w11, w12, w13, w14, w15, w16, w17, w18, w19, w20, w21, w22, w23, w24, w25, w26, w27, w28, w29, w30, w31, w32, w33, w34, w35, w36, w37, w38, w39, w40, w41, w42, w43, w44, w45, w46, w47, w48, w49]))] (va_A [(h0, .inr (9, [m0, m1, m2, m3, m4, m5, m6, m7, m8, m9, m10, m11, m12, m13, m14, .int 0, m16, m17, m18, m19, m20, m21, m22, m23, m24, m25, m26, m27, m28, m29, m30, m31, m32, m33, m34, m35, m36, m37, m38, m39, m40, m41, m42, m43, m44, m45, m46, m47, m48, m49]))] sz) t) (va_A [(h0, .inr (9, [m0, m1, m2, m3, m4, m5, m6, m7, m8, m9, m10, m11, m12, m13, m14, .int 0, m16, m17, m18, m19, m20, m21, m22, m23, m24, m25, m26, m27, m28, m29, m30, m31, m32, m33, m34, m35, m36, m37, m38, m39, m40, m41, m42, m43, m44, m45, m46, m47, m48, m49]))] sz)) 0 0 (va_A [(h0, .inr (9, [m0, m1, m2, m3, m4, m5, m6, m7, m8, m9, m10, m11, m12, m13, m14, .int 0, m16, m17, m18, m19, m20, m21, m22, m23, m24, m25, m26, m27, m28, m29, m30, m31, m32, m33, m34, m35, m36, m37, m38, m39, m40, m41, m42, m43, m44, m45, m46, m47, m48, m49]))] sz) := by
  refine Met.ofW (cc := cX9_heightOf) (maxL := 2) (ret := (some .int)) (by decide) rfl ?_
  intro p e s m args below meth c s₁ B hml hv
  obtain ⟨rfl, ⟨hsz, hP, hK, hD0⟩⟩ := hv
  have hx := B.exec
  have hb := B.bytes
  have hr := B.returns
  have hts := atoms_spec (ws := wsX9_heightOf) B.pre
  have hown : s.vm.findClass RX9 = some m.cls := findClass_of_methodNamed B.named
  have hlocks := B.notSynchronized
  subst hsz
  have hD := hD0.self (sz := s.heap.size)
  generalize hAe : va_A [(h0, .inr (9, [m0, m1, m2, m3, m4, m5, m6, m7, m8, m9, m10, m11, m12, m13, m14, .int 0, m16, m17, m18, m19, m20, m21, m22, m23, m24, m25, m26, m27, m28, m29, m30, m31, m32, m33, m34, m35, m36, m37, m38, m39, m40, m41, m42, m43, m44, m45, m46, m47, m48, m49]))] s.heap.size = A at hD ⊢
  have hA : ∀ q : Nat, s.heap.size ≤ q → A q := fun q h => by rw [← hAe]; exact Or.inr h
  have hS : va_S A s.heap s.heap [] := va_S.rf
  have hl := lv_entry ([.ref h0, .int p0]) (n := 2) (Nat.le_of_ble_eq_true rfl)
  rw [lg_entry_eq]
  generalize (lg_sl ([.ref h0, .int p0]) ++ List.replicate (2 - (lg_sl ([.ref h0, .int p0])).length) Slot.unset).toArray = ls at hl ⊢
  have hl : lv_has ls 2 [(0, .ref h0), (1, .int p0)] := hl
  refine lv_aload_n hx hb dX9_heightOf_0 rfl (lv_at hl 0 rfl) ?_
  refine lv_iload_n hx hb dX9_heightOf_1 rfl (lv_at hl 1 rfl) ?_
  have hPc := hP.sub (ws' := [(h0, .inr (9, [m0, m1, m2, m3, m4, m5, m6, m7, m8, m9, m10, m11, m12, m13, m14, .int 0, m16, m17, m18, m19, m20, m21, m22, m23, m24, m25, m26, m27, m28, m29, m30, m31, m32, m33, m34, m35, m36, m37, m38, m39, m40, m41, m42, m43, m44, m45, m46, m47, m48, m49]))]) [0] rfl
  have hDc := hD.sub (ws' := [(h0, .inr (9, [m0, m1, m2, m3, m4, m5, m6, m7, m8, m9, m10, m11, m12, m13, m14, .int 0, m16, m17, m18, m19, m20, m21, m22, m23, m24, m25, m26, m27, m28, m29, m30, m31, m32, m33, m34, m35, m36, m37, m38, m39, m40, m41, m42, m43, m44, m45, m46, m47, m48, m49]))]) [0] (by decide) rfl
  have hFc := va_free (wc := [(h0, .inr (9, [m0, m1, m2, m3, m4, m5, m6, m7, m8, m9, m10, m11, m12, m13, m14, .int 0, m16, m17, m18, m19, m20, m21, m22, m23, m24, m25, m26, m27, m28, m29, m30, m31, m32, m33, m34, m35, m36, m37, m38, m39, m40, m41, m42, m43, m44, m45, m46, m47, m48, m49]))]) hD hS hA [0] rfl
  refine va_calli (va_runV (As := [.int p0]) (rest := []) ⟨hx, hb, hml, hown, hts⟩ (m0_isNoStack l g s.heap.size h0 m0 m1 m2 m3 m4 m5 m6 m7 m8 m9 m10 m11 m12 m13 m14 m16 m17 m18 m19 m20 m21 m22 m23 m24 m25 m26 m27 m28 m29 m30 m31 m32 m33 m34 m35 m36 m37 m38 m39 m40 m41 m42 m43 m44 m45 m46 m47 m48 m49 p0) (cwV 1 hts gX9_heightOf_X9_isNoStack rfl rfl rfl (by decide +kernel) ⟨Nat.le_of_ble_eq_true rfl, Nat.le_of_ble_eq_true rfl⟩) ⟨xB.blind, va_recv hK hPc (ci := 9) (q0 := 0) rfl rfl, fun U9 hU9 hW9 => ⟨rfl, xB.mk hPc hK hDc hU9 hW9⟩⟩ rfl rfl hl.1 rfl (lv_room (Nat.le_of_ble_eq_true rfl)) dX9_heightOf_2 ⟨Nat.le_of_ble_eq_true rfl, Nat.le_of_ble_eq_true rfl⟩) hS (fun q _ h => hFc q h) hFc (fun r_1 u_2 t H1 locs ht hvm hw_3 hB hz1 hk1 hS => ?_)
  obtain ⟨hP1, hK1, hD1⟩ := hB
  rw [ht] at hP1
  obtain ⟨hP, hD⟩ := va_join (wr := []) (w1 := [(h0, .inr (9, [.int 1, m1, m2, m3, m4, m5, m6, m7, m8, m9, m10, m11, m12, m13, m14, .int 0, m16, m17, m18, m19, m20, m21, m22, m23, m24, m25, m26, m27, m28, m29, m30, m31, m32, m33, m34, m35, m36, m37, m38, m39, m40, m41, m42, m43, m44, m45, m46, m47, m48, m49]))]) hP hD [0] [] rfl rfl (by decide) (by decide) hk1 hFc hP1 hD1
  generalize H1 = H at hP hS ⊢
  have hP : va_P (xD g) vwCl [(h0, .inr (9, [.int 1, m1, m2, m3, m4, m5, m6, m7, m8, m9, m10, m11, m12, m13, m14, .int 0, m16, m17, m18, m19, m20, m21, m22, m23, m24, m25, m26, m27, m28, m29, m30, m31, m32, m33, m34, m35, m36, m37, m38, m39, m40, m41, m42, m43, m44, m45, m46, m47, m48, m49]))] H := hP
  have hD : va_D A [(h0, .inr (9, [.int 1, m1, m2, m3, m4, m5, m6, m7, m8, m9, m10, m11, m12, m13, m14, .int 0, m16, m17, m18, m19, m20, m21, m22, m23, m24, m25, m26, m27, m28, m29, m30, m31, m32, m33, m34, m35, m36, m37, m38, m39, m40, m41, m42, m43, m44, m45, m46, m47, m48, m49]))] := hD
  try dsimp only at hw_3
  obtain rfl := hw_3
  refine lv_if_eq (tgt := 12) hx hb dX9_heightOf_5 (by decide) (fun c0 => absurd c0 (by decide)) (fun _ => ?_)
  refine lv_iconst (v := 0) hx hb dX9_heightOf_8 (by decide) ?_
  refine lv_goto (tgt := 18) hx hb dX9_heightOf_9 (by decide) ?_
  have hP9 := hP.sub (ws' := [(h0, .inr (9, [.int 1, m1, m2, m3, m4, m5, m6, m7, m8, m9, m10, m11, m12, m13, m14, .int 0, m16, m17, m18, m19, m20, m21, m22, m23, m24, m25, m26, m27, m28, m29, m30, m31, m32, m33, m34, m35, m36, m37, m38, m39, m40, m41, m42, m43, m44, m45, m46, m47, m48, m49]))]) [0] rfl
  have hD9 := hD.sub (ws' := [(h0, .inr (9, [.int 1, m1, m2, m3, m4, m5, m6, m7, m8, m9, m10, m11, m12, m13, m14, .int 0, m16, m17, m18, m19, m20, m21, m22, m23, m24, m25, m26, m27, m28, m29, m30, m31, m32, m33, m34, m35, m36, m37, m38, m39, m40, m41, m42, m43, m44, m45, m46, m47, m48, m49]))]) [0] (by decide) rfl
  exact W.iret (v := 0) hx hb hr (fun t ht hW => ⟨⟨0, 1, rfl, ⟨rfl, rfl⟩, ⟨m1, m2, m3, m4, m5, m6, m7, m8, m9, m10, m11, m12, m13, m14, (.int 0), m16, m17, m18, m19, m20, m21, m22, m23, m24, m25, m26, m27, m28, m29, m30, m31, m32, m33, m34, m35, m36, m37, m38, m39, m40, m41, m42, m43, m44, m45, m46, m47, m48, m49, by rw [ht]; exact hP9, va_K.moved hW.alike hK, hD9⟩⟩, hS.F ht⟩) hS.2.2 dX9_heightOf_18
theorem dX9_containerAt_0 : decode cX9_containerAt 0 = .ok (.aload_n 0, 1) := by decide +kernel
theorem dX9_containerAt_1 : decode cX9_containerAt 1 = .ok (.iload_n 1, 1) := by decide +kernel
theorem dX9_containerAt_2 : decode cX9_containerAt 2 = .ok (.invokevirtual 353, 3) := by decide +kernel
set_option maxRecDepth 20000 in
theorem ggX9_containerAt_X9_isNoStack : GoodIn wsX9_containerAt wsX9_isNoStack := goodIn_r _ [7, 8, 9, 10, 6, 11, 12, 13, 14, 15, 16, 17, 18, 19, 20, 21, 22, 23, 24, 25, 26, 27, 28, 29, 30, 31, 32, 33, 34, 35, 36, 37, 38, 39, 40, 41, 42, 43, 44, 45, 46, 47, 48, 49, 50, 51, 52, 53, 54, 55, 56, 57, 58, 59, 60, 61, 62, 63, 64, 65, 66, 67, 68, 69, 70] rfl (by decide +kernel)
set_option maxRecDepth 20000 in
theorem gX9_containerAt_X9_isNoStack : GoodIn wsX9_containerAt (wsV RX9 353 RX9 yX9_isNoStack wsX9_isNoStack) := goodIn_app (goodIn_of _ (by decide +kernel)) ggX9_containerAt_X9_isNoStack
theorem dX9_containerAt_5 : decode cX9_containerAt 5 = .ok (.ifCond .ne 32, 3) := by decide +kernel
theorem dX9_containerAt_37 : decode cX9_containerAt 37 = .ok (.iconst 0, 1) := by decide +kernel
theorem dX9_containerAt_38 : decode cX9_containerAt 38 = .ok (.goto 13, 3) := by decide +kernel
theorem dX9_containerAt_51 : decode cX9_containerAt 51 = .ok (.ireturn, 1) := by decide +kernel
set_option maxHeartbeats 4000000 in
set_option maxRecDepth 100000 in
theorem m0_containerAt (l : Launch) (g : xG) (sz : Nat) (h0 : Nat) (m0 : Value) (m1 : Value) (m2 : Value) (m3 : Value) (m4 : Value) (m5 : Value) (m6 : Value) (m7 : Value) (m8 : Value) (m9 : Value) (m10 : Value) (m11 : Value) (m12 : Value) (m13 : Value) (m14 : Value) (m16 : Value) (m17 : Value) (m18 : Value) (m19 : Value) (m20 : Value) (m21 : Value) (m22 : Value) (m23 : Value) (m24 : Value) (m25 : Value) (m26 : Value) (m27 : Value) (m28 : Value) (m29 : Value) (m30 : Value) (m31 : Value) (m32 : Value) (m33 : Value) (m34 : Value) (m35 : Value) (m36 : Value) (m37 : Value) (m38 : Value) (m39 : Value) (m40 : Value) (m41 : Value) (m42 : Value) (m43 : Value) (m44 : Value) (m45 : Value) (m46 : Value) (m47 : Value) (m48 : Value) (m49 : Value) (p0 : Int32) (p1 : Int32)  : Met l yX9_containerAt wsX9_containerAt ({ frames := 3, cells := 0, slots := 0, locals := 65 }) (va_Pc [.ref h0, .int p0, .int p1] (fun U => xB g [(h0, .inr (9, [m0, m1, m2, m3, m4, m5, m6, m7, m8, m9, m10, m11, m12, m13, m14, .int 0, m16, m17, m18, m19, m20, m21, m22, m23, m24, m25, m26, m27, m28, m29, m30, m31, m32, m33, m34, m35, m36, m37, m38, m39, m40, m41, m42, m43, m44, m45, m46, m47, m48, m49]))] sz U)) (va_Qi (fun (r : Int32) (u : Int32) => u = 1 ∧ r = 0) (fun (u : Int32) (t : State) => ∃ (w1 : Value) (w2 : Value) (w3 : Value) (w4 : Value) (w5 : Value) (w6 : Value) (w7 : Value) (w8 : Value) (w9 : Value) (w10 : Value) (w11 : Value) (w12 : Value) (w13 : Value) (w14 : Value) (w15 : Value) (w16 : Value) (w17 : Value) (w18 : Value) (w19 : Value) (w20 : Value) (w21 : Value) (w22 : Value) (w23 : Value) (w24 : Value) (w25 : Value) (w26 : Value) (w27 : Value) (w28 : Value) (w29 : Value) (w30 : Value) (w31 : Value) (w32 : Value) (w33 : Value) (w34 : Value) (w35 : Value) (w36 : Value) (w37 : Value) (w38 : Value) (w39 : Value) (w40 : Value) (w41 : Value) (w42 : Value) (w43 : Value) (w44 : Value) (w45 : Value) (w46 : Value) (w47 : Value) (w48 : Value) (w49 : Value), xE g [(h0, .inr (9, [.int u, w1, w2, w3, w4, w5, w6, w7, w8, w9, w10, w11, w12, w13, w14, w15, w16, w17, w18, w19, w20, w21, w22, w23, w24, w25, w26, w27, w28, w29, w30, w31, w32, w33, w34, w35, w36, w37, w38, w39, w40, w41, w42, w43, w44, w45, w46, w47, w48, w49]))] (va_A [(h0, .inr (9, [m0, m1, m2, m3, m4, m5, m6, m7, m8, m9, m10, m11, m12, m13, m14, .int 0, m16, m17, m18, m19, m20, m21, m22, m23, m24, m25, m26, m27, m28, m29, m30, m31, m32, m33, m34, m35, m36, m37, m38, m39, m40, m41, m42, m43, m44, m45, m46, m47, m48, m49]))] sz) t) (va_A [(h0, .inr (9, [m0, m1, m2, m3, m4, m5, m6, m7, m8, m9, m10, m11, m12, m13, m14, .int 0, m16, m17, m18, m19, m20, m21, m22, m23, m24, m25, m26, m27, m28, m29, m30, m31, m32, m33, m34, m35, m36, m37, m38, m39, m40, m41, m42, m43, m44, m45, m46, m47, m48, m49]))] sz)) 0 0 (va_A [(h0, .inr (9, [m0, m1, m2, m3, m4, m5, m6, m7, m8, m9, m10, m11, m12, m13, m14, .int 0, m16, m17, m18, m19, m20, m21, m22, m23, m24, m25, m26, m27, m28, m29, m30, m31, m32, m33, m34, m35, m36, m37, m38, m39, m40, m41, m42, m43, m44, m45, m46, m47, m48, m49]))] sz) := by
  refine Met.ofW (cc := cX9_containerAt) (maxL := 3) (ret := (some .int)) (by decide) rfl ?_
  intro p e s m args below meth c s₁ B hml hv
  obtain ⟨rfl, ⟨hsz, hP, hK, hD0⟩⟩ := hv
  have hx := B.exec
  have hb := B.bytes
  have hr := B.returns
  have hts := atoms_spec (ws := wsX9_containerAt) B.pre
  have hown : s.vm.findClass RX9 = some m.cls := findClass_of_methodNamed B.named
  have hlocks := B.notSynchronized
  subst hsz
  have hD := hD0.self (sz := s.heap.size)
  generalize hAe : va_A [(h0, .inr (9, [m0, m1, m2, m3, m4, m5, m6, m7, m8, m9, m10, m11, m12, m13, m14, .int 0, m16, m17, m18, m19, m20, m21, m22, m23, m24, m25, m26, m27, m28, m29, m30, m31, m32, m33, m34, m35, m36, m37, m38, m39, m40, m41, m42, m43, m44, m45, m46, m47, m48, m49]))] s.heap.size = A at hD ⊢
  have hA : ∀ q : Nat, s.heap.size ≤ q → A q := fun q h => by rw [← hAe]; exact Or.inr h
  have hS : va_S A s.heap s.heap [] := va_S.rf
  have hl := lv_entry ([.ref h0, .int p0, .int p1]) (n := 3) (Nat.le_of_ble_eq_true rfl)
  rw [lg_entry_eq]
  generalize (lg_sl ([.ref h0, .int p0, .int p1]) ++ List.replicate (3 - (lg_sl ([.ref h0, .int p0, .int p1])).length) Slot.unset).toArray = ls at hl ⊢
  have hl : lv_has ls 3 [(0, .ref h0), (1, .int p0), (2, .int p1)] := hl
  refine lv_aload_n hx hb dX9_containerAt_0 rfl (lv_at hl 0 rfl) ?_
  refine lv_iload_n hx hb dX9_containerAt_1 rfl (lv_at hl 1 rfl) ?_
  have hPc := hP.sub (ws' := [(h0, .inr (9, [m0, m1, m2, m3, m4, m5, m6, m7, m8, m9, m10, m11, m12, m13, m14, .int 0, m16, m17, m18, m19, m20, m21, m22, m23, m24, m25, m26, m27, m28, m29, m30, m31, m32, m33, m34, m35, m36, m37, m38, m39, m40, m41, m42, m43, m44, m45, m46, m47, m48, m49]))]) [0] rfl
  have hDc := hD.sub (ws' := [(h0, .inr (9, [m0, m1, m2, m3, m4, m5, m6, m7, m8, m9, m10, m11, m12, m13, m14, .int 0, m16, m17, m18, m19, m20, m21, m22, m23, m24, m25, m26, m27, m28, m29, m30, m31, m32, m33, m34, m35, m36, m37, m38, m39, m40, m41, m42, m43, m44, m45, m46, m47, m48, m49]))]) [0] (by decide) rfl
  have hFc := va_free (wc := [(h0, .inr (9, [m0, m1, m2, m3, m4, m5, m6, m7, m8, m9, m10, m11, m12, m13, m14, .int 0, m16, m17, m18, m19, m20, m21, m22, m23, m24, m25, m26, m27, m28, m29, m30, m31, m32, m33, m34, m35, m36, m37, m38, m39, m40, m41, m42, m43, m44, m45, m46, m47, m48, m49]))]) hD hS hA [0] rfl
  refine va_calli (va_runV (As := [.int p0]) (rest := []) ⟨hx, hb, hml, hown, hts⟩ (m0_isNoStack l g s.heap.size h0 m0 m1 m2 m3 m4 m5 m6 m7 m8 m9 m10 m11 m12 m13 m14 m16 m17 m18 m19 m20 m21 m22 m23 m24 m25 m26 m27 m28 m29 m30 m31 m32 m33 m34 m35 m36 m37 m38 m39 m40 m41 m42 m43 m44 m45 m46 m47 m48 m49 p0) (cwV 1 hts gX9_containerAt_X9_isNoStack rfl rfl rfl (by decide +kernel) ⟨Nat.le_of_ble_eq_true rfl, Nat.le_of_ble_eq_true rfl⟩) ⟨xB.blind, va_recv hK hPc (ci := 9) (q0 := 0) rfl rfl, fun U9 hU9 hW9 => ⟨rfl, xB.mk hPc hK hDc hU9 hW9⟩⟩ rfl rfl hl.1 rfl (lv_room (Nat.le_of_ble_eq_true rfl)) dX9_containerAt_2 ⟨Nat.le_of_ble_eq_true rfl, Nat.le_of_ble_eq_true rfl⟩) hS (fun q _ h => hFc q h) hFc (fun r_1 u_2 t H1 locs ht hvm hw_3 hB hz1 hk1 hS => ?_)
  obtain ⟨hP1, hK1, hD1⟩ := hB
  rw [ht] at hP1
  obtain ⟨hP, hD⟩ := va_join (wr := []) (w1 := [(h0, .inr (9, [.int 1, m1, m2, m3, m4, m5, m6, m7, m8, m9, m10, m11, m12, m13, m14, .int 0, m16, m17, m18, m19, m20, m21, m22, m23, m24, m25, m26, m27, m28, m29, m30, m31, m32, m33, m34, m35, m36, m37, m38, m39, m40, m41, m42, m43, m44, m45, m46, m47, m48, m49]))]) hP hD [0] [] rfl rfl (by decide) (by decide) hk1 hFc hP1 hD1
  generalize H1 = H at hP hS ⊢
  have hP : va_P (xD g) vwCl [(h0, .inr (9, [.int 1, m1, m2, m3, m4, m5, m6, m7, m8, m9, m10, m11, m12, m13, m14, .int 0, m16, m17, m18, m19, m20, m21, m22, m23, m24, m25, m26, m27, m28, m29, m30, m31, m32, m33, m34, m35, m36, m37, m38, m39, m40, m41, m42, m43, m44, m45, m46, m47, m48, m49]))] H := hP
  have hD : va_D A [(h0, .inr (9, [.int 1, m1, m2, m3, m4, m5, m6, m7, m8, m9, m10, m11, m12, m13, m14, .int 0, m16, m17, m18, m19, m20, m21, m22, m23, m24, m25, m26, m27, m28, m29, m30, m31, m32, m33, m34, m35, m36, m37, m38, m39, m40, m41, m42, m43, m44, m45, m46, m47, m48, m49]))] := hD
  try dsimp only at hw_3
  obtain rfl := hw_3
  refine lv_if_ne (tgt := 37) hx hb dX9_containerAt_5 (by decide) (fun _ => ?_) (fun c0 => absurd c0 (by decide))
  refine lv_iconst (v := 0) hx hb dX9_containerAt_37 (by decide) ?_
  refine lv_goto (tgt := 51) hx hb dX9_containerAt_38 (by decide) ?_
  have hP9 := hP.sub (ws' := [(h0, .inr (9, [.int 1, m1, m2, m3, m4, m5, m6, m7, m8, m9, m10, m11, m12, m13, m14, .int 0, m16, m17, m18, m19, m20, m21, m22, m23, m24, m25, m26, m27, m28, m29, m30, m31, m32, m33, m34, m35, m36, m37, m38, m39, m40, m41, m42, m43, m44, m45, m46, m47, m48, m49]))]) [0] rfl
  have hD9 := hD.sub (ws' := [(h0, .inr (9, [.int 1, m1, m2, m3, m4, m5, m6, m7, m8, m9, m10, m11, m12, m13, m14, .int 0, m16, m17, m18, m19, m20, m21, m22, m23, m24, m25, m26, m27, m28, m29, m30, m31, m32, m33, m34, m35, m36, m37, m38, m39, m40, m41, m42, m43, m44, m45, m46, m47, m48, m49]))]) [0] (by decide) rfl
  exact W.iret (v := 0) hx hb hr (fun t ht hW => ⟨⟨0, 1, rfl, ⟨rfl, rfl⟩, ⟨m1, m2, m3, m4, m5, m6, m7, m8, m9, m10, m11, m12, m13, m14, (.int 0), m16, m17, m18, m19, m20, m21, m22, m23, m24, m25, m26, m27, m28, m29, m30, m31, m32, m33, m34, m35, m36, m37, m38, m39, m40, m41, m42, m43, m44, m45, m46, m47, m48, m49, by rw [ht]; exact hP9, va_K.moved hW.alike hK, hD9⟩⟩, hS.F ht⟩) hS.2.2 dX9_containerAt_51
theorem dX9_timeOf_0 : decode cX9_timeOf 0 = .ok (.aload_n 0, 1) := by decide +kernel
theorem dX9_timeOf_1 : decode cX9_timeOf 1 = .ok (.iload_n 1, 1) := by decide +kernel
theorem dX9_timeOf_2 : decode cX9_timeOf 2 = .ok (.invokevirtual 315, 3) := by decide +kernel
set_option maxRecDepth 20000 in
theorem ggX9_timeOf_X9_isNoEvent : GoodIn wsX9_timeOf wsX9_isNoEvent := goodIn_r _ [6, 7, 8, 9, 5, 10, 11, 12, 13, 14, 15, 16, 17, 18, 19, 20, 21, 22, 23, 24, 25, 26, 27, 28, 29, 30, 31, 32, 33, 34, 35, 36, 37, 38, 39, 40, 41, 42, 43, 44, 45, 46, 47, 48, 49, 50, 51, 52, 53, 54, 55, 56, 57, 58, 59, 60, 61, 62, 63, 64, 65, 66, 67, 68, 69] rfl (by decide +kernel)
set_option maxRecDepth 20000 in
theorem gX9_timeOf_X9_isNoEvent : GoodIn wsX9_timeOf (wsV RX9 315 RX9 yX9_isNoEvent wsX9_isNoEvent) := goodIn_app (goodIn_of _ (by decide +kernel)) ggX9_timeOf_X9_isNoEvent
theorem dX9_timeOf_5 : decode cX9_timeOf 5 = .ok (.ifCond .eq 7, 3) := by decide +kernel
theorem dX9_timeOf_8 : decode cX9_timeOf 8 = .ok (.iconst 0, 1) := by decide +kernel
theorem dX9_timeOf_9 : decode cX9_timeOf 9 = .ok (.goto 9, 3) := by decide +kernel
theorem dX9_timeOf_18 : decode cX9_timeOf 18 = .ok (.ireturn, 1) := by decide +kernel
set_option maxHeartbeats 4000000 in
set_option maxRecDepth 100000 in
theorem m0_timeOf (l : Launch) (g : xG) (sz : Nat) (h0 : Nat) (m0 : Value) (m1 : Value) (m2 : Value) (m3 : Value) (m4 : Value) (m5 : Value) (m6 : Value) (m7 : Value) (m8 : Value) (m9 : Value) (m10 : Value) (m11 : Value) (m12 : Value) (m13 : Value) (m14 : Value) (m15 : Value) (m16 : Value) (m17 : Value) (m18 : Value) (m19 : Value) (m20 : Value) (m21 : Value) (m22 : Value) (m23 : Value) (m24 : Value) (m25 : Value) (m26 : Value) (m27 : Value) (m28 : Value) (m29 : Value) (m30 : Value) (m31 : Value) (m32 : Value) (m33 : Value) (m34 : Value) (m35 : Value) (m36 : Value) (m37 : Value) (m38 : Value) (m39 : Value) (m41 : Value) (m42 : Value) (m43 : Value) (m44 : Value) (m45 : Value) (m46 : Value) (m47 : Value) (m48 : Value) (m49 : Value) (p0 : Int32)  : Met l yX9_timeOf wsX9_timeOf ({ frames := 3, cells := 0, slots := 0, locals := 65 }) (va_Pc [.ref h0, .int p0] (fun U => xB g [(h0, .inr (9, [m0, m1, m2, m3, m4, m5, m6, m7, m8, m9, m10, m11, m12, m13, m14, m15, m16, m17, m18, m19, m20, m21, m22, m23, m24, m25, m26, m27, m28, m29, m30, m31, m32, m33, m34, m35, m36, m37, m38, m39, .int 0, m41, m42, m43, m44, m45, m46, m47, m48, m49]))] sz U)) (va_Qi (fun (r : Int32) (u : Int32) => u = 1 ∧ r = 0) (fun (u : Int32) (t : State) => ∃ (w1 : Value) (w2 : Value) (w3 : Value) (w4 : Value) (w5 : Value) (w6 : Value) (w7 : Value) (w8 : Value) (w9 : Value) (w10 : Value) (w11 : Value) (w12 : Value) (w13 : Value) (w14 : Value) (w15 : Value) (w16 : Value) (w17 : Value) (w18 : Value) (w19 : Value) (w20 : Value) (w21 : Value) (w22 : Value) (w23 : Value) (w24 : Value) (w25 : Value) (w26 : Value) (w27 : Value) (w28 : Value) (w29 : Value) (w30 : Value) (w31 : Value) (w32 : Value) (w33 : Value) (w34 : Value) (w35 : Value) (w36 : Value) (w37 : Value) (w38 : Value) (w39 : Value) (w40 : Value) (w41 : Value) (w42 : Value) (w43 : Value) (w44 : Value) (w45 : Value) (w46 : Value) (w47 : Value) (w48 : Value) (w49 : Value), xE g [(h0, .inr (9, [.int u, w1, w2, w3, w4, w5, w6, w7, w8, w9, w10, w11, w12, w13, w14, w15, w16, w17, w18, w19, w20, w21, w22, w23, w24, w25, w26, w27, w28, w29, w30, w31, w32, w33, w34, w35, w36, w37, w38, w39, w40, w41, w42, w43, w44, w45, w46, w47, w48, w49]))] (va_A [(h0, .inr (9, [m0, m1, m2, m3, m4, m5, m6, m7, m8, m9, m10, m11, m12, m13, m14, m15, m16, m17, m18, m19, m20, m21, m22, m23, m24, m25, m26, m27, m28, m29, m30, m31, m32, m33, m34, m35, m36, m37, m38, m39, .int 0, m41, m42, m43, m44, m45, m46, m47, m48, m49]))] sz) t) (va_A [(h0, .inr (9, [m0, m1, m2, m3, m4, m5, m6, m7, m8, m9, m10, m11, m12, m13, m14, m15, m16, m17, m18, m19, m20, m21, m22, m23, m24, m25, m26, m27, m28, m29, m30, m31, m32, m33, m34, m35, m36, m37, m38, m39, .int 0, m41, m42, m43, m44, m45, m46, m47, m48, m49]))] sz)) 0 0 (va_A [(h0, .inr (9, [m0, m1, m2, m3, m4, m5, m6, m7, m8, m9, m10, m11, m12, m13, m14, m15, m16, m17, m18, m19, m20, m21, m22, m23, m24, m25, m26, m27, m28, m29, m30, m31, m32, m33, m34, m35, m36, m37, m38, m39, .int 0, m41, m42, m43, m44, m45, m46, m47, m48, m49]))] sz) := by
  refine Met.ofW (cc := cX9_timeOf) (maxL := 2) (ret := (some .int)) (by decide) rfl ?_
  intro p e s m args below meth c s₁ B hml hv
  obtain ⟨rfl, ⟨hsz, hP, hK, hD0⟩⟩ := hv
  have hx := B.exec
  have hb := B.bytes
  have hr := B.returns
  have hts := atoms_spec (ws := wsX9_timeOf) B.pre
  have hown : s.vm.findClass RX9 = some m.cls := findClass_of_methodNamed B.named
  have hlocks := B.notSynchronized
  subst hsz
  have hD := hD0.self (sz := s.heap.size)
  generalize hAe : va_A [(h0, .inr (9, [m0, m1, m2, m3, m4, m5, m6, m7, m8, m9, m10, m11, m12, m13, m14, m15, m16, m17, m18, m19, m20, m21, m22, m23, m24, m25, m26, m27, m28, m29, m30, m31, m32, m33, m34, m35, m36, m37, m38, m39, .int 0, m41, m42, m43, m44, m45, m46, m47, m48, m49]))] s.heap.size = A at hD ⊢
  have hA : ∀ q : Nat, s.heap.size ≤ q → A q := fun q h => by rw [← hAe]; exact Or.inr h
  have hS : va_S A s.heap s.heap [] := va_S.rf
  have hl := lv_entry ([.ref h0, .int p0]) (n := 2) (Nat.le_of_ble_eq_true rfl)
  rw [lg_entry_eq]
  generalize (lg_sl ([.ref h0, .int p0]) ++ List.replicate (2 - (lg_sl ([.ref h0, .int p0])).length) Slot.unset).toArray = ls at hl ⊢
  have hl : lv_has ls 2 [(0, .ref h0), (1, .int p0)] := hl
  refine lv_aload_n hx hb dX9_timeOf_0 rfl (lv_at hl 0 rfl) ?_
  refine lv_iload_n hx hb dX9_timeOf_1 rfl (lv_at hl 1 rfl) ?_
  have hPc := hP.sub (ws' := [(h0, .inr (9, [m0, m1, m2, m3, m4, m5, m6, m7, m8, m9, m10, m11, m12, m13, m14, m15, m16, m17, m18, m19, m20, m21, m22, m23, m24, m25, m26, m27, m28, m29, m30, m31, m32, m33, m34, m35, m36, m37, m38, m39, .int 0, m41, m42, m43, m44, m45, m46, m47, m48, m49]))]) [0] rfl
  have hDc := hD.sub (ws' := [(h0, .inr (9, [m0, m1, m2, m3, m4, m5, m6, m7, m8, m9, m10, m11, m12, m13, m14, m15, m16, m17, m18, m19, m20, m21, m22, m23, m24, m25, m26, m27, m28, m29, m30, m31, m32, m33, m34, m35, m36, m37, m38, m39, .int 0, m41, m42, m43, m44, m45, m46, m47, m48, m49]))]) [0] (by decide) rfl
  have hFc := va_free (wc := [(h0, .inr (9, [m0, m1, m2, m3, m4, m5, m6, m7, m8, m9, m10, m11, m12, m13, m14, m15, m16, m17, m18, m19, m20, m21, m22, m23, m24, m25, m26, m27, m28, m29, m30, m31, m32, m33, m34, m35, m36, m37, m38, m39, .int 0, m41, m42, m43, m44, m45, m46, m47, m48, m49]))]) hD hS hA [0] rfl
  refine va_calli (va_runV (As := [.int p0]) (rest := []) ⟨hx, hb, hml, hown, hts⟩ (m0_isNoEvent l g s.heap.size h0 m0 m1 m2 m3 m4 m5 m6 m7 m8 m9 m10 m11 m12 m13 m14 m15 m16 m17 m18 m19 m20 m21 m22 m23 m24 m25 m26 m27 m28 m29 m30 m31 m32 m33 m34 m35 m36 m37 m38 m39 m41 m42 m43 m44 m45 m46 m47 m48 m49 p0) (cwV 1 hts gX9_timeOf_X9_isNoEvent rfl rfl rfl (by decide +kernel) ⟨Nat.le_of_ble_eq_true rfl, Nat.le_of_ble_eq_true rfl⟩) ⟨xB.blind, va_recv hK hPc (ci := 9) (q0 := 0) rfl rfl, fun U9 hU9 hW9 => ⟨rfl, xB.mk hPc hK hDc hU9 hW9⟩⟩ rfl rfl hl.1 rfl (lv_room (Nat.le_of_ble_eq_true rfl)) dX9_timeOf_2 ⟨Nat.le_of_ble_eq_true rfl, Nat.le_of_ble_eq_true rfl⟩) hS (fun q _ h => hFc q h) hFc (fun r_1 u_2 t H1 locs ht hvm hw_3 hB hz1 hk1 hS => ?_)
  obtain ⟨hP1, hK1, hD1⟩ := hB
  rw [ht] at hP1
  obtain ⟨hP, hD⟩ := va_join (wr := []) (w1 := [(h0, .inr (9, [.int 1, m1, m2, m3, m4, m5, m6, m7, m8, m9, m10, m11, m12, m13, m14, m15, m16, m17, m18, m19, m20, m21, m22, m23, m24, m25, m26, m27, m28, m29, m30, m31, m32, m33, m34, m35, m36, m37, m38, m39, .int 0, m41, m42, m43, m44, m45, m46, m47, m48, m49]))]) hP hD [0] [] rfl rfl (by decide) (by decide) hk1 hFc hP1 hD1
  generalize H1 = H at hP hS ⊢
  have hP : va_P (xD g) vwCl [(h0, .inr (9, [.int 1, m1, m2, m3, m4, m5, m6, m7, m8, m9, m10, m11, m12, m13, m14, m15, m16, m17, m18, m19, m20, m21, m22, m23, m24, m25, m26, m27, m28, m29, m30, m31, m32, m33, m34, m35, m36, m37, m38, m39, .int 0, m41, m42, m43, m44, m45, m46, m47, m48, m49]))] H := hP
  have hD : va_D A [(h0, .inr (9, [.int 1, m1, m2, m3, m4, m5, m6, m7, m8, m9, m10, m11, m12, m13, m14, m15, m16, m17, m18, m19, m20, m21, m22, m23, m24, m25, m26, m27, m28, m29, m30, m31, m32, m33, m34, m35, m36, m37, m38, m39, .int 0, m41, m42, m43, m44, m45, m46, m47, m48, m49]))] := hD
  try dsimp only at hw_3
  obtain rfl := hw_3
  refine lv_if_eq (tgt := 12) hx hb dX9_timeOf_5 (by decide) (fun c0 => absurd c0 (by decide)) (fun _ => ?_)
  refine lv_iconst (v := 0) hx hb dX9_timeOf_8 (by decide) ?_
  refine lv_goto (tgt := 18) hx hb dX9_timeOf_9 (by decide) ?_
  have hP9 := hP.sub (ws' := [(h0, .inr (9, [.int 1, m1, m2, m3, m4, m5, m6, m7, m8, m9, m10, m11, m12, m13, m14, m15, m16, m17, m18, m19, m20, m21, m22, m23, m24, m25, m26, m27, m28, m29, m30, m31, m32, m33, m34, m35, m36, m37, m38, m39, .int 0, m41, m42, m43, m44, m45, m46, m47, m48, m49]))]) [0] rfl
  have hD9 := hD.sub (ws' := [(h0, .inr (9, [.int 1, m1, m2, m3, m4, m5, m6, m7, m8, m9, m10, m11, m12, m13, m14, m15, m16, m17, m18, m19, m20, m21, m22, m23, m24, m25, m26, m27, m28, m29, m30, m31, m32, m33, m34, m35, m36, m37, m38, m39, .int 0, m41, m42, m43, m44, m45, m46, m47, m48, m49]))]) [0] (by decide) rfl
  exact W.iret (v := 0) hx hb hr (fun t ht hW => ⟨⟨0, 1, rfl, ⟨rfl, rfl⟩, ⟨m1, m2, m3, m4, m5, m6, m7, m8, m9, m10, m11, m12, m13, m14, m15, m16, m17, m18, m19, m20, m21, m22, m23, m24, m25, m26, m27, m28, m29, m30, m31, m32, m33, m34, m35, m36, m37, m38, m39, (.int 0), m41, m42, m43, m44, m45, m46, m47, m48, m49, by rw [ht]; exact hP9, va_K.moved hW.alike hK, hD9⟩⟩, hS.F ht⟩) hS.2.2 dX9_timeOf_18
theorem dX9_kindOf_0 : decode cX9_kindOf 0 = .ok (.aload_n 0, 1) := by decide +kernel
theorem dX9_kindOf_1 : decode cX9_kindOf 1 = .ok (.iload_n 1, 1) := by decide +kernel
theorem dX9_kindOf_2 : decode cX9_kindOf 2 = .ok (.invokevirtual 315, 3) := by decide +kernel
set_option maxRecDepth 20000 in
theorem ggX9_kindOf_X9_isNoEvent : GoodIn wsX9_kindOf wsX9_isNoEvent := goodIn_r _ [6, 7, 8, 9, 5, 10, 11, 12, 13, 14, 15, 16, 17, 18, 19, 20, 21, 22, 23, 24, 25, 26, 27, 28, 29, 30, 31, 32, 33, 34, 35, 36, 37, 38, 39, 40, 41, 42, 43, 44, 45, 46, 47, 48, 49, 50, 51, 52, 53, 54, 55, 56, 57, 58, 59, 60, 61, 62, 63, 64, 65, 66, 67, 68, 69] rfl (by decide +kernel)
set_option maxRecDepth 20000 in
theorem gX9_kindOf_X9_isNoEvent : GoodIn wsX9_kindOf (wsV RX9 315 RX9 yX9_isNoEvent wsX9_isNoEvent) := goodIn_app (goodIn_of _ (by decide +kernel)) ggX9_kindOf_X9_isNoEvent
theorem dX9_kindOf_5 : decode cX9_kindOf 5 = .ok (.ifCond .eq 7, 3) := by decide +kernel
theorem dX9_kindOf_8 : decode cX9_kindOf 8 = .ok (.iconst 0, 1) := by decide +kernel
theorem dX9_kindOf_9 : decode cX9_kindOf 9 = .ok (.goto 9, 3) := by decide +kernel
theorem dX9_kindOf_18 : decode cX9_kindOf 18 = .ok (.ireturn, 1) := by decide +kernel
set_option maxHeartbeats 4000000 in
set_option maxRecDepth 100000 in
theorem m0_kindOf (l : Launch) (g : xG) (sz : Nat) (h0 : Nat) (m0 : Value) (m1 : Value) (m2 : Value) (m3 : Value) (m4 : Value) (m5 : Value) (m6 : Value) (m7 : Value) (m8 : Value) (m9 : Value) (m10 : Value) (m11 : Value) (m12 : Value) (m13 : Value) (m14 : Value) (m15 : Value) (m16 : Value) (m17 : Value) (m18 : Value) (m19 : Value) (m20 : Value) (m21 : Value) (m22 : Value) (m23 : Value) (m24 : Value) (m25 : Value) (m26 : Value) (m27 : Value) (m28 : Value) (m29 : Value) (m30 : Value) (m31 : Value) (m32 : Value) (m33 : Value) (m34 : Value) (m35 : Value) (m36 : Value) (m37 : Value) (m38 : Value) (m39 : Value) (m41 : Value) (m42 : Value) (m43 : Value) (m44 : Value) (m45 : Value) (m46 : Value) (m47 : Value) (m48 : Value) (m49 : Value) (p0 : Int32)  : Met l yX9_kindOf wsX9_kindOf ({ frames := 3, cells := 0, slots := 0, locals := 65 }) (va_Pc [.ref h0, .int p0] (fun U => xB g [(h0, .inr (9, [m0, m1, m2, m3, m4, m5, m6, m7, m8, m9, m10, m11, m12, m13, m14, m15, m16, m17, m18, m19, m20, m21, m22, m23, m24, m25, m26, m27, m28, m29, m30, m31, m32, m33, m34, m35, m36, m37, m38, m39, .int 0, m41, m42, m43, m44, m45, m46, m47, m48, m49]))] sz U)) (va_Qi (fun (r : Int32) (u : Int32) => u = 1 ∧ r = 0) (fun (u : Int32) (t : State) => ∃ (w1 : Value) (w2 : Value) (w3 : Value) (w4 : Value) (w5 : Value) (w6 : Value) (w7 : Value) (w8 : Value) (w9 : Value) (w10 : Value) (w11 : Value) (w12 : Value) (w13 : Value) (w14 : Value) (w15 : Value) (w16 : Value) (w17 : Value) (w18 : Value) (w19 : Value) (w20 : Value) (w21 : Value) (w22 : Value) (w23 : Value) (w24 : Value) (w25 : Value) (w26 : Value) (w27 : Value) (w28 : Value) (w29 : Value) (w30 : Value) (w31 : Value) (w32 : Value) (w33 : Value) (w34 : Value) (w35 : Value) (w36 : Value) (w37 : Value) (w38 : Value) (w39 : Value) (w40 : Value) (w41 : Value) (w42 : Value) (w43 : Value) (w44 : Value) (w45 : Value) (w46 : Value) (w47 : Value) (w48 : Value) (w49 : Value), xE g [(h0, .inr (9, [.int u, w1, w2, w3, w4, w5, w6, w7, w8, w9, w10, w11, w12, w13, w14, w15, w16, w17, w18, w19, w20, w21, w22, w23, w24, w25, w26, w27, w28, w29, w30, w31, w32, w33, w34, w35, w36, w37, w38, w39, w40, w41, w42, w43, w44, w45, w46, w47, w48, w49]))] (va_A [(h0, .inr (9, [m0, m1, m2, m3, m4, m5, m6, m7, m8, m9, m10, m11, m12, m13, m14, m15, m16, m17, m18, m19, m20, m21, m22, m23, m24, m25, m26, m27, m28, m29, m30, m31, m32, m33, m34, m35, m36, m37, m38, m39, .int 0, m41, m42, m43, m44, m45, m46, m47, m48, m49]))] sz) t) (va_A [(h0, .inr (9, [m0, m1, m2, m3, m4, m5, m6, m7, m8, m9, m10, m11, m12, m13, m14, m15, m16, m17, m18, m19, m20, m21, m22, m23, m24, m25, m26, m27, m28, m29, m30, m31, m32, m33, m34, m35, m36, m37, m38, m39, .int 0, m41, m42, m43, m44, m45, m46, m47, m48, m49]))] sz)) 0 0 (va_A [(h0, .inr (9, [m0, m1, m2, m3, m4, m5, m6, m7, m8, m9, m10, m11, m12, m13, m14, m15, m16, m17, m18, m19, m20, m21, m22, m23, m24, m25, m26, m27, m28, m29, m30, m31, m32, m33, m34, m35, m36, m37, m38, m39, .int 0, m41, m42, m43, m44, m45, m46, m47, m48, m49]))] sz) := by
  refine Met.ofW (cc := cX9_kindOf) (maxL := 2) (ret := (some .int)) (by decide) rfl ?_
  intro p e s m args below meth c s₁ B hml hv
  obtain ⟨rfl, ⟨hsz, hP, hK, hD0⟩⟩ := hv
  have hx := B.exec
  have hb := B.bytes
  have hr := B.returns
  have hts := atoms_spec (ws := wsX9_kindOf) B.pre
  have hown : s.vm.findClass RX9 = some m.cls := findClass_of_methodNamed B.named
  have hlocks := B.notSynchronized
  subst hsz
  have hD := hD0.self (sz := s.heap.size)
  generalize hAe : va_A [(h0, .inr (9, [m0, m1, m2, m3, m4, m5, m6, m7, m8, m9, m10, m11, m12, m13, m14, m15, m16, m17, m18, m19, m20, m21, m22, m23, m24, m25, m26, m27, m28, m29, m30, m31, m32, m33, m34, m35, m36, m37, m38, m39, .int 0, m41, m42, m43, m44, m45, m46, m47, m48, m49]))] s.heap.size = A at hD ⊢
  have hA : ∀ q : Nat, s.heap.size ≤ q → A q := fun q h => by rw [← hAe]; exact Or.inr h
  have hS : va_S A s.heap s.heap [] := va_S.rf
  have hl := lv_entry ([.ref h0, .int p0]) (n := 2) (Nat.le_of_ble_eq_true rfl)
  rw [lg_entry_eq]
  generalize (lg_sl ([.ref h0, .int p0]) ++ List.replicate (2 - (lg_sl ([.ref h0, .int p0])).length) Slot.unset).toArray = ls at hl ⊢
  have hl : lv_has ls 2 [(0, .ref h0), (1, .int p0)] := hl
  refine lv_aload_n hx hb dX9_kindOf_0 rfl (lv_at hl 0 rfl) ?_
  refine lv_iload_n hx hb dX9_kindOf_1 rfl (lv_at hl 1 rfl) ?_
  have hPc := hP.sub (ws' := [(h0, .inr (9, [m0, m1, m2, m3, m4, m5, m6, m7, m8, m9, m10, m11, m12, m13, m14, m15, m16, m17, m18, m19, m20, m21, m22, m23, m24, m25, m26, m27, m28, m29, m30, m31, m32, m33, m34, m35, m36, m37, m38, m39, .int 0, m41, m42, m43, m44, m45, m46, m47, m48, m49]))]) [0] rfl
  have hDc := hD.sub (ws' := [(h0, .inr (9, [m0, m1, m2, m3, m4, m5, m6, m7, m8, m9, m10, m11, m12, m13, m14, m15, m16, m17, m18, m19, m20, m21, m22, m23, m24, m25, m26, m27, m28, m29, m30, m31, m32, m33, m34, m35, m36, m37, m38, m39, .int 0, m41, m42, m43, m44, m45, m46, m47, m48, m49]))]) [0] (by decide) rfl
  have hFc := va_free (wc := [(h0, .inr (9, [m0, m1, m2, m3, m4, m5, m6, m7, m8, m9, m10, m11, m12, m13, m14, m15, m16, m17, m18, m19, m20, m21, m22, m23, m24, m25, m26, m27, m28, m29, m30, m31, m32, m33, m34, m35, m36, m37, m38, m39, .int 0, m41, m42, m43, m44, m45, m46, m47, m48, m49]))]) hD hS hA [0] rfl
  refine va_calli (va_runV (As := [.int p0]) (rest := []) ⟨hx, hb, hml, hown, hts⟩ (m0_isNoEvent l g s.heap.size h0 m0 m1 m2 m3 m4 m5 m6 m7 m8 m9 m10 m11 m12 m13 m14 m15 m16 m17 m18 m19 m20 m21 m22 m23 m24 m25 m26 m27 m28 m29 m30 m31 m32 m33 m34 m35 m36 m37 m38 m39 m41 m42 m43 m44 m45 m46 m47 m48 m49 p0) (cwV 1 hts gX9_kindOf_X9_isNoEvent rfl rfl rfl (by decide +kernel) ⟨Nat.le_of_ble_eq_true rfl, Nat.le_of_ble_eq_true rfl⟩) ⟨xB.blind, va_recv hK hPc (ci := 9) (q0 := 0) rfl rfl, fun U9 hU9 hW9 => ⟨rfl, xB.mk hPc hK hDc hU9 hW9⟩⟩ rfl rfl hl.1 rfl (lv_room (Nat.le_of_ble_eq_true rfl)) dX9_kindOf_2 ⟨Nat.le_of_ble_eq_true rfl, Nat.le_of_ble_eq_true rfl⟩) hS (fun q _ h => hFc q h) hFc (fun r_1 u_2 t H1 locs ht hvm hw_3 hB hz1 hk1 hS => ?_)
  obtain ⟨hP1, hK1, hD1⟩ := hB
  rw [ht] at hP1
  obtain ⟨hP, hD⟩ := va_join (wr := []) (w1 := [(h0, .inr (9, [.int 1, m1, m2, m3, m4, m5, m6, m7, m8, m9, m10, m11, m12, m13, m14, m15, m16, m17, m18, m19, m20, m21, m22, m23, m24, m25, m26, m27, m28, m29, m30, m31, m32, m33, m34, m35, m36, m37, m38, m39, .int 0, m41, m42, m43, m44, m45, m46, m47, m48, m49]))]) hP hD [0] [] rfl rfl (by decide) (by decide) hk1 hFc hP1 hD1
  generalize H1 = H at hP hS ⊢
  have hP : va_P (xD g) vwCl [(h0, .inr (9, [.int 1, m1, m2, m3, m4, m5, m6, m7, m8, m9, m10, m11, m12, m13, m14, m15, m16, m17, m18, m19, m20, m21, m22, m23, m24, m25, m26, m27, m28, m29, m30, m31, m32, m33, m34, m35, m36, m37, m38, m39, .int 0, m41, m42, m43, m44, m45, m46, m47, m48, m49]))] H := hP
  have hD : va_D A [(h0, .inr (9, [.int 1, m1, m2, m3, m4, m5, m6, m7, m8, m9, m10, m11, m12, m13, m14, m15, m16, m17, m18, m19, m20, m21, m22, m23, m24, m25, m26, m27, m28, m29, m30, m31, m32, m33, m34, m35, m36, m37, m38, m39, .int 0, m41, m42, m43, m44, m45, m46, m47, m48, m49]))] := hD
  try dsimp only at hw_3
  obtain rfl := hw_3
  refine lv_if_eq (tgt := 12) hx hb dX9_kindOf_5 (by decide) (fun c0 => absurd c0 (by decide)) (fun _ => ?_)
  refine lv_iconst (v := 0) hx hb dX9_kindOf_8 (by decide) ?_
  refine lv_goto (tgt := 18) hx hb dX9_kindOf_9 (by decide) ?_
  have hP9 := hP.sub (ws' := [(h0, .inr (9, [.int 1, m1, m2, m3, m4, m5, m6, m7, m8, m9, m10, m11, m12, m13, m14, m15, m16, m17, m18, m19, m20, m21, m22, m23, m24, m25, m26, m27, m28, m29, m30, m31, m32, m33, m34, m35, m36, m37, m38, m39, .int 0, m41, m42, m43, m44, m45, m46, m47, m48, m49]))]) [0] rfl
  have hD9 := hD.sub (ws' := [(h0, .inr (9, [.int 1, m1, m2, m3, m4, m5, m6, m7, m8, m9, m10, m11, m12, m13, m14, m15, m16, m17, m18, m19, m20, m21, m22, m23, m24, m25, m26, m27, m28, m29, m30, m31, m32, m33, m34, m35, m36, m37, m38, m39, .int 0, m41, m42, m43, m44, m45, m46, m47, m48, m49]))]) [0] (by decide) rfl
  exact W.iret (v := 0) hx hb hr (fun t ht hW => ⟨⟨0, 1, rfl, ⟨rfl, rfl⟩, ⟨m1, m2, m3, m4, m5, m6, m7, m8, m9, m10, m11, m12, m13, m14, m15, m16, m17, m18, m19, m20, m21, m22, m23, m24, m25, m26, m27, m28, m29, m30, m31, m32, m33, m34, m35, m36, m37, m38, m39, (.int 0), m41, m42, m43, m44, m45, m46, m47, m48, m49, by rw [ht]; exact hP9, va_K.moved hW.alike hK, hD9⟩⟩, hS.F ht⟩) hS.2.2 dX9_kindOf_18
theorem dX9_containerOf_0 : decode cX9_containerOf 0 = .ok (.aload_n 0, 1) := by decide +kernel
theorem dX9_containerOf_1 : decode cX9_containerOf 1 = .ok (.iload_n 1, 1) := by decide +kernel
theorem dX9_containerOf_2 : decode cX9_containerOf 2 = .ok (.invokevirtual 315, 3) := by decide +kernel
set_option maxRecDepth 20000 in
theorem ggX9_containerOf_X9_isNoEvent : GoodIn wsX9_containerOf wsX9_isNoEvent := goodIn_r _ [6, 7, 8, 9, 5, 10, 11, 12, 13, 14, 15, 16, 17, 18, 19, 20, 21, 22, 23, 24, 25, 26, 27, 28, 29, 30, 31, 32, 33, 34, 35, 36, 37, 38, 39, 40, 41, 42, 43, 44, 45, 46, 47, 48, 49, 50, 51, 52, 53, 54, 55, 56, 57, 58, 59, 60, 61, 62, 63, 64, 65, 66, 67, 68, 69] rfl (by decide +kernel)
set_option maxRecDepth 20000 in
theorem gX9_containerOf_X9_isNoEvent : GoodIn wsX9_containerOf (wsV RX9 315 RX9 yX9_isNoEvent wsX9_isNoEvent) := goodIn_app (goodIn_of _ (by decide +kernel)) ggX9_containerOf_X9_isNoEvent
theorem dX9_containerOf_5 : decode cX9_containerOf 5 = .ok (.ifCond .eq 7, 3) := by decide +kernel
theorem dX9_containerOf_8 : decode cX9_containerOf 8 = .ok (.iconst 0, 1) := by decide +kernel
theorem dX9_containerOf_9 : decode cX9_containerOf 9 = .ok (.goto 9, 3) := by decide +kernel
theorem dX9_containerOf_18 : decode cX9_containerOf 18 = .ok (.ireturn, 1) := by decide +kernel
set_option maxHeartbeats 4000000 in
set_option maxRecDepth 100000 in
theorem m0_containerOf (l : Launch) (g : xG) (sz : Nat) (h0 : Nat) (m0 : Value) (m1 : Value) (m2 : Value) (m3 : Value) (m4 : Value) (m5 : Value) (m6 : Value) (m7 : Value) (m8 : Value) (m9 : Value) (m10 : Value) (m11 : Value) (m12 : Value) (m13 : Value) (m14 : Value) (m15 : Value) (m16 : Value) (m17 : Value) (m18 : Value) (m19 : Value) (m20 : Value) (m21 : Value) (m22 : Value) (m23 : Value) (m24 : Value) (m25 : Value) (m26 : Value) (m27 : Value) (m28 : Value) (m29 : Value) (m30 : Value) (m31 : Value) (m32 : Value) (m33 : Value) (m34 : Value) (m35 : Value) (m36 : Value) (m37 : Value) (m38 : Value) (m39 : Value) (m41 : Value) (m42 : Value) (m43 : Value) (m44 : Value) (m45 : Value) (m46 : Value) (m47 : Value) (m48 : Value) (m49 : Value) (p0 : Int32)  : Met l yX9_containerOf wsX9_containerOf ({ frames := 3, cells := 0, slots := 0, locals := 65 }) (va_Pc [.ref h0, .int p0] (fun U => xB g [(h0, .inr (9, [m0, m1, m2, m3, m4, m5, m6, m7, m8, m9, m10, m11, m12, m13, m14, m15, m16, m17, m18, m19, m20, m21, m22, m23, m24, m25, m26, m27, m28, m29, m30, m31, m32, m33, m34, m35, m36, m37, m38, m39, .int 0, m41, m42, m43, m44, m45, m46, m47, m48, m49]))] sz U)) (va_Qi (fun (r : Int32) (u : Int32) => u = 1 ∧ r = 0) (fun (u : Int32) (t : State) => ∃ (w1 : Value) (w2 : Value) (w3 : Value) (w4 : Value) (w5 : Value) (w6 : Value) (w7 : Value) (w8 : Value) (w9 : Value) (w10 : Value) (w11 : Value) (w12 : Value) (w13 : Value) (w14 : Value) (w15 : Value) (w16 : Value) (w17 : Value) (w18 : Value) (w19 : Value) (w20 : Value) (w21 : Value) (w22 : Value) (w23 : Value) (w24 : Value) (w25 : Value) (w26 : Value) (w27 : Value) (w28 : Value) (w29 : Value) (w30 : Value) (w31 : Value) (w32 : Value) (w33 : Value) (w34 : Value) (w35 : Value) (w36 : Value) (w37 : Value) (w38 : Value) (w39 : Value) (w40 : Value) (w41 : Value) (w42 : Value) (w43 : Value) (w44 : Value) (w45 : Value) (w46 : Value) (w47 : Value) (w48 : Value) (w49 : Value), xE g [(h0, .inr (9, [.int u, w1, w2, w3, w4, w5, w6, w7, w8, w9, w10, w11, w12, w13, w14, w15, w16, w17, w18, w19, w20, w21, w22, w23, w24, w25, w26, w27, w28, w29, w30, w31, w32, w33, w34, w35, w36, w37, w38, w39, w40, w41, w42, w43, w44, w45, w46, w47, w48, w49]))] (va_A [(h0, .inr (9, [m0, m1, m2, m3, m4, m5, m6, m7, m8, m9, m10, m11, m12, m13, m14, m15, m16, m17, m18, m19, m20, m21, m22, m23, m24, m25, m26, m27, m28, m29, m30, m31, m32, m33, m34, m35, m36, m37, m38, m39, .int 0, m41, m42, m43, m44, m45, m46, m47, m48, m49]))] sz) t) (va_A [(h0, .inr (9, [m0, m1, m2, m3, m4, m5, m6, m7, m8, m9, m10, m11, m12, m13, m14, m15, m16, m17, m18, m19, m20, m21, m22, m23, m24, m25, m26, m27, m28, m29, m30, m31, m32, m33, m34, m35, m36, m37, m38, m39, .int 0, m41, m42, m43, m44, m45, m46, m47, m48, m49]))] sz)) 0 0 (va_A [(h0, .inr (9, [m0, m1, m2, m3, m4, m5, m6, m7, m8, m9, m10, m11, m12, m13, m14, m15, m16, m17, m18, m19, m20, m21, m22, m23, m24, m25, m26, m27, m28, m29, m30, m31, m32, m33, m34, m35, m36, m37, m38, m39, .int 0, m41, m42, m43, m44, m45, m46, m47, m48, m49]))] sz) := by
  refine Met.ofW (cc := cX9_containerOf) (maxL := 2) (ret := (some .int)) (by decide) rfl ?_
  intro p e s m args below meth c s₁ B hml hv
  obtain ⟨rfl, ⟨hsz, hP, hK, hD0⟩⟩ := hv
  have hx := B.exec
  have hb := B.bytes
  have hr := B.returns
  have hts := atoms_spec (ws := wsX9_containerOf) B.pre
  have hown : s.vm.findClass RX9 = some m.cls := findClass_of_methodNamed B.named
  have hlocks := B.notSynchronized
  subst hsz
  have hD := hD0.self (sz := s.heap.size)
  generalize hAe : va_A [(h0, .inr (9, [m0, m1, m2, m3, m4, m5, m6, m7, m8, m9, m10, m11, m12, m13, m14, m15, m16, m17, m18, m19, m20, m21, m22, m23, m24, m25, m26, m27, m28, m29, m30, m31, m32, m33, m34, m35, m36, m37, m38, m39, .int 0, m41, m42, m43, m44, m45, m46, m47, m48, m49]))] s.heap.size = A at hD ⊢
  have hA : ∀ q : Nat, s.heap.size ≤ q → A q := fun q h => by rw [← hAe]; exact Or.inr h
  have hS : va_S A s.heap s.heap [] := va_S.rf
  have hl := lv_entry ([.ref h0, .int p0]) (n := 2) (Nat.le_of_ble_eq_true rfl)
  rw [lg_entry_eq]
  generalize (lg_sl ([.ref h0, .int p0]) ++ List.replicate (2 - (lg_sl ([.ref h0, .int p0])).length) Slot.unset).toArray = ls at hl ⊢
  have hl : lv_has ls 2 [(0, .ref h0), (1, .int p0)] := hl
  refine lv_aload_n hx hb dX9_containerOf_0 rfl (lv_at hl 0 rfl) ?_
  refine lv_iload_n hx hb dX9_containerOf_1 rfl (lv_at hl 1 rfl) ?_
  have hPc := hP.sub (ws' := [(h0, .inr (9, [m0, m1, m2, m3, m4, m5, m6, m7, m8, m9, m10, m11, m12, m13, m14, m15, m16, m17, m18, m19, m20, m21, m22, m23, m24, m25, m26, m27, m28, m29, m30, m31, m32, m33, m34, m35, m36, m37, m38, m39, .int 0, m41, m42, m43, m44, m45, m46, m47, m48, m49]))]) [0] rfl
  have hDc := hD.sub (ws' := [(h0, .inr (9, [m0, m1, m2, m3, m4, m5, m6, m7, m8, m9, m10, m11, m12, m13, m14, m15, m16, m17, m18, m19, m20, m21, m22, m23, m24, m25, m26, m27, m28, m29, m30, m31, m32, m33, m34, m35, m36, m37, m38, m39, .int 0, m41, m42, m43, m44, m45, m46, m47, m48, m49]))]) [0] (by decide) rfl
  have hFc := va_free (wc := [(h0, .inr (9, [m0, m1, m2, m3, m4, m5, m6, m7, m8, m9, m10, m11, m12, m13, m14, m15, m16, m17, m18, m19, m20, m21, m22, m23, m24, m25, m26, m27, m28, m29, m30, m31, m32, m33, m34, m35, m36, m37, m38, m39, .int 0, m41, m42, m43, m44, m45, m46, m47, m48, m49]))]) hD hS hA [0] rfl
  refine va_calli (va_runV (As := [.int p0]) (rest := []) ⟨hx, hb, hml, hown, hts⟩ (m0_isNoEvent l g s.heap.size h0 m0 m1 m2 m3 m4 m5 m6 m7 m8 m9 m10 m11 m12 m13 m14 m15 m16 m17 m18 m19 m20 m21 m22 m23 m24 m25 m26 m27 m28 m29 m30 m31 m32 m33 m34 m35 m36 m37 m38 m39 m41 m42 m43 m44 m45 m46 m47 m48 m49 p0) (cwV 1 hts gX9_containerOf_X9_isNoEvent rfl rfl rfl (by decide +kernel) ⟨Nat.le_of_ble_eq_true rfl, Nat.le_of_ble_eq_true rfl⟩) ⟨xB.blind, va_recv hK hPc (ci := 9) (q0 := 0) rfl rfl, fun U9 hU9 hW9 => ⟨rfl, xB.mk hPc hK hDc hU9 hW9⟩⟩ rfl rfl hl.1 rfl (lv_room (Nat.le_of_ble_eq_true rfl)) dX9_containerOf_2 ⟨Nat.le_of_ble_eq_true rfl, Nat.le_of_ble_eq_true rfl⟩) hS (fun q _ h => hFc q h) hFc (fun r_1 u_2 t H1 locs ht hvm hw_3 hB hz1 hk1 hS => ?_)
  obtain ⟨hP1, hK1, hD1⟩ := hB
  rw [ht] at hP1
  obtain ⟨hP, hD⟩ := va_join (wr := []) (w1 := [(h0, .inr (9, [.int 1, m1, m2, m3, m4, m5, m6, m7, m8, m9, m10, m11, m12, m13, m14, m15, m16, m17, m18, m19, m20, m21, m22, m23, m24, m25, m26, m27, m28, m29, m30, m31, m32, m33, m34, m35, m36, m37, m38, m39, .int 0, m41, m42, m43, m44, m45, m46, m47, m48, m49]))]) hP hD [0] [] rfl rfl (by decide) (by decide) hk1 hFc hP1 hD1
  generalize H1 = H at hP hS ⊢
  have hP : va_P (xD g) vwCl [(h0, .inr (9, [.int 1, m1, m2, m3, m4, m5, m6, m7, m8, m9, m10, m11, m12, m13, m14, m15, m16, m17, m18, m19, m20, m21, m22, m23, m24, m25, m26, m27, m28, m29, m30, m31, m32, m33, m34, m35, m36, m37, m38, m39, .int 0, m41, m42, m43, m44, m45, m46, m47, m48, m49]))] H := hP
  have hD : va_D A [(h0, .inr (9, [.int 1, m1, m2, m3, m4, m5, m6, m7, m8, m9, m10, m11, m12, m13, m14, m15, m16, m17, m18, m19, m20, m21, m22, m23, m24, m25, m26, m27, m28, m29, m30, m31, m32, m33, m34, m35, m36, m37, m38, m39, .int 0, m41, m42, m43, m44, m45, m46, m47, m48, m49]))] := hD
  try dsimp only at hw_3
  obtain rfl := hw_3
  refine lv_if_eq (tgt := 12) hx hb dX9_containerOf_5 (by decide) (fun c0 => absurd c0 (by decide)) (fun _ => ?_)
  refine lv_iconst (v := 0) hx hb dX9_containerOf_8 (by decide) ?_
  refine lv_goto (tgt := 18) hx hb dX9_containerOf_9 (by decide) ?_
  have hP9 := hP.sub (ws' := [(h0, .inr (9, [.int 1, m1, m2, m3, m4, m5, m6, m7, m8, m9, m10, m11, m12, m13, m14, m15, m16, m17, m18, m19, m20, m21, m22, m23, m24, m25, m26, m27, m28, m29, m30, m31, m32, m33, m34, m35, m36, m37, m38, m39, .int 0, m41, m42, m43, m44, m45, m46, m47, m48, m49]))]) [0] rfl
  have hD9 := hD.sub (ws' := [(h0, .inr (9, [.int 1, m1, m2, m3, m4, m5, m6, m7, m8, m9, m10, m11, m12, m13, m14, m15, m16, m17, m18, m19, m20, m21, m22, m23, m24, m25, m26, m27, m28, m29, m30, m31, m32, m33, m34, m35, m36, m37, m38, m39, .int 0, m41, m42, m43, m44, m45, m46, m47, m48, m49]))]) [0] (by decide) rfl
  exact W.iret (v := 0) hx hb hr (fun t ht hW => ⟨⟨0, 1, rfl, ⟨rfl, rfl⟩, ⟨m1, m2, m3, m4, m5, m6, m7, m8, m9, m10, m11, m12, m13, m14, m15, m16, m17, m18, m19, m20, m21, m22, m23, m24, m25, m26, m27, m28, m29, m30, m31, m32, m33, m34, m35, m36, m37, m38, m39, (.int 0), m41, m42, m43, m44, m45, m46, m47, m48, m49, by rw [ht]; exact hP9, va_K.moved hW.alike hK, hD9⟩⟩, hS.F ht⟩) hS.2.2 dX9_containerOf_18
theorem dX9_plan_0 : decode cX9_plan 0 = .ok (.aload_n 0, 1) := by decide +kernel
theorem dX9_plan_1 : decode cX9_plan 1 = .ok (.aload_n 0, 1) := by decide +kernel
theorem dX9_plan_2 : decode cX9_plan 2 = .ok (.getfield 144, 3) := by decide +kernel
theorem dX9_plan_5 : decode cX9_plan 5 = .ok (.ifCond .ne 7, 3) := by decide +kernel
theorem dX9_plan_8 : decode cX9_plan 8 = .ok (.iconst 1, 1) := by decide +kernel
theorem dX9_plan_9 : decode cX9_plan 9 = .ok (.goto 4, 3) := by decide +kernel
theorem dX9_plan_13 : decode cX9_plan 13 = .ok (.iconst 1, 1) := by decide +kernel
theorem dX9_plan_14 : decode cX9_plan 14 = .ok (.invokevirtual 138, 3) := by decide +kernel
set_option maxRecDepth 20000 in
theorem ggX9_plan_X9_start : GoodIn wsX9_plan wsX9_start := goodIn_r _ [18, 19, 20, 21, 22, 17, 23, 126, 127, 128, 129, 130, 131, 132, 133, 134, 135, 136, 137, 138, 139, 140, 141, 142, 143, 144, 145, 146, 147, 148, 149, 150, 151, 152, 153, 154, 155, 156, 157, 158, 159, 160, 161, 162, 163, 164, 165, 166, 167, 168, 169, 170, 171, 172, 173, 174, 175] rfl (by decide +kernel)
set_option maxRecDepth 20000 in
theorem gX9_plan_X9_start : GoodIn wsX9_plan (wsV RX9 138 RX9 yX9_start wsX9_start) := goodIn_app (goodIn_of _ (by decide +kernel)) ggX9_plan_X9_start
theorem dX9_plan_17 : decode cX9_plan 17 = .ok (.ifCond .eq 5, 3) := by decide +kernel
theorem dX9_plan_20 : decode cX9_plan 20 = .ok (.iconst 0, 1) := by decide +kernel
theorem dX9_plan_21 : decode cX9_plan 21 = .ok (.ireturn, 1) := by decide +kernel
set_option maxHeartbeats 4000000 in
set_option maxRecDepth 100000 in
theorem m0_plan (l : Launch) (g : xG) (sz : Nat) (h0 : Nat) (m0 : Value) (m1 : Value) (m2 : Value) (m4 : Value) (m5 : Value) (m6 : Value) (m7 : Value) (m8 : Value) (m9 : Value) (m10 : Value) (m11 : Value) (m12 : Value) (m13 : Value) (m14 : Value) (m15 : Value) (m16 : Value) (m17 : Value) (m18 : Value) (m19 : Value) (m20 : Value) (m21 : Value) (m22 : Value) (m23 : Value) (m24 : Value) (m25 : Value) (m26 : Value) (m27 : Value) (m28 : Value) (m29 : Value) (m30 : Value) (m31 : Value) (m32 : Value) (m33 : Value) (m34 : Value) (m35 : Value) (m36 : Value) (m37 : Value) (m38 : Value) (m39 : Value) (m40 : Value) (m41 : Value) (m42 : Value) (m43 : Value) (m44 : Value) (m45 : Value) (m46 : Value) (m47 : Value) (m48 : Value) (m49 : Value)  : Met l yX9_plan wsX9_plan ({ frames := 2, cells := 0, slots := 0, locals := 44 }) (va_Pc [.ref h0] (fun U => xB g [(h0, .inr (9, [m0, m1, m2, .int 0, m4, m5, m6, m7, m8, m9, m10, m11, m12, m13, m14, m15, m16, m17, m18, m19, m20, m21, m22, m23, m24, m25, m26, m27, m28, m29, m30, m31, m32, m33, m34, m35, m36, m37, m38, m39, m40, m41, m42, m43, m44, m45, m46, m47, m48, m49]))] sz U)) (va_Qi (fun (r : Int32) (u : Int32) => u = 1 ∧ r = 0) (fun (u : Int32) (t : State) => ∃ (w1 : Value) (w2 : Value) (w3 : Value) (w4 : Value) (w5 : Value) (w6 : Value) (w7 : Value) (w8 : Value) (w9 : Value) (w10 : Value) (w11 : Value) (w12 : Value) (w13 : Value) (w14 : Value) (w15 : Value) (w16 : Value) (w17 : Value) (w18 : Value) (w19 : Value) (w20 : Value) (w21 : Value) (w22 : Value) (w23 : Value) (w24 : Value) (w25 : Value) (w26 : Value) (w27 : Value) (w28 : Value) (w29 : Value) (w30 : Value) (w31 : Value) (w32 : Value) (w33 : Value) (w34 : Value) (w35 : Value) (w36 : Value) (w37 : Value) (w38 : Value) (w39 : Value) (w40 : Value) (w41 : Value) (w42 : Value) (w43 : Value) (w44 : Value) (w45 : Value) (w46 : Value) (w47 : Value) (w48 : Value) (w49 : Value), xE g [(h0, .inr (9, [.int u, w1, w2, w3, w4, w5, w6, w7, w8, w9, w10, w11, w12, w13, w14, w15, w16, w17, w18, w19, w20, w21, w22, w23, w24, w25, w26, w27, w28, w29, w30, w31, w32, w33, w34, w35, w36, w37, w38, w39, w40, w41, w42, w43, w44, w45, w46, w47, w48, w49]))] (va_A [(h0, .inr (9, [m0, m1, m2, .int 0, m4, m5, m6, m7, m8, m9, m10, m11, m12, m13, m14, m15, m16, m17, m18, m19, m20, m21, m22, m23, m24, m25, m26, m27, m28, m29, m30, m31, m32, m33, m34, m35, m36, m37, m38, m39, m40, m41, m42, m43, m44, m45, m46, m47, m48, m49]))] sz) t) (va_A [(h0, .inr (9, [m0, m1, m2, .int 0, m4, m5, m6, m7, m8, m9, m10, m11, m12, m13, m14, m15, m16, m17, m18, m19, m20, m21, m22, m23, m24, m25, m26, m27, m28, m29, m30, m31, m32, m33, m34, m35, m36, m37, m38, m39, m40, m41, m42, m43, m44, m45, m46, m47, m48, m49]))] sz)) 0 0 (va_A [(h0, .inr (9, [m0, m1, m2, .int 0, m4, m5, m6, m7, m8, m9, m10, m11, m12, m13, m14, m15, m16, m17, m18, m19, m20, m21, m22, m23, m24, m25, m26, m27, m28, m29, m30, m31, m32, m33, m34, m35, m36, m37, m38, m39, m40, m41, m42, m43, m44, m45, m46, m47, m48, m49]))] sz) := by
  refine Met.ofW (cc := cX9_plan) (maxL := 1) (ret := (some .int)) (by decide) rfl ?_
  intro p e s m args below meth c s₁ B hml hv
  obtain ⟨rfl, ⟨hsz, hP, hK, hD0⟩⟩ := hv
  have hx := B.exec
  have hb := B.bytes
  have hr := B.returns
  have hts := atoms_spec (ws := wsX9_plan) B.pre
  have hown : s.vm.findClass RX9 = some m.cls := findClass_of_methodNamed B.named
  have hlocks := B.notSynchronized
  subst hsz
  have hD := hD0.self (sz := s.heap.size)
  generalize hAe : va_A [(h0, .inr (9, [m0, m1, m2, .int 0, m4, m5, m6, m7, m8, m9, m10, m11, m12, m13, m14, m15, m16, m17, m18, m19, m20, m21, m22, m23, m24, m25, m26, m27, m28, m29, m30, m31, m32, m33, m34, m35, m36, m37, m38, m39, m40, m41, m42, m43, m44, m45, m46, m47, m48, m49]))] s.heap.size = A at hD ⊢
  have hA : ∀ q : Nat, s.heap.size ≤ q → A q := fun q h => by rw [← hAe]; exact Or.inr h
  have hS : va_S A s.heap s.heap [] := va_S.rf
  have hl := lv_entry ([.ref h0]) (n := 1) (Nat.le_of_ble_eq_true rfl)
  rw [lg_entry_eq]
  generalize (lg_sl ([.ref h0]) ++ List.replicate (1 - (lg_sl ([.ref h0])).length) Slot.unset).toArray = ls at hl ⊢
  have hl : lv_has ls 1 [(0, .ref h0)] := hl
  have hFX9 : ∀ w ∈ u_ws RX9 TX9 50, w ∈ wsX9_plan := by decide +kernel
  refine lv_aload_n hx hb dX9_plan_0 rfl (lv_at hl 0 rfl) ?_
  refine lv_aload_n hx hb dX9_plan_1 rfl (lv_at hl 0 rfl) ?_
  refine va_get (D := xD g) (ci := 9) (v := .int 0) (C := RX9) (T := TX9) (N := 50) hx hb hts hFX9 hown hK hP 0 rfl rfl 3 (by decide) (hts (.fieldLink RX9 144 "StevedoreModel" "vessels" "I") (by decide +kernel)) (fun _ h9 => h9) rfl dX9_plan_2 ?_
  refine lv_if_ne (tgt := 12) hx hb dX9_plan_5 (by decide) (fun c0 => absurd (by decide) c0) (fun _ => ?_)
  refine lv_iconst (v := 1) hx hb dX9_plan_8 (by decide) ?_
  refine lv_goto (tgt := 13) hx hb dX9_plan_9 (by decide) ?_
  refine lv_iconst (v := 1) hx hb dX9_plan_13 (by decide) ?_
  have hPc := hP.sub (ws' := [(h0, .inr (9, [m0, m1, m2, .int 0, m4, m5, m6, m7, m8, m9, m10, m11, m12, m13, m14, m15, m16, m17, m18, m19, m20, m21, m22, m23, m24, m25, m26, m27, m28, m29, m30, m31, m32, m33, m34, m35, m36, m37, m38, m39, m40, m41, m42, m43, m44, m45, m46, m47, m48, m49]))]) [0] rfl
  have hDc := hD.sub (ws' := [(h0, .inr (9, [m0, m1, m2, .int 0, m4, m5, m6, m7, m8, m9, m10, m11, m12, m13, m14, m15, m16, m17, m18, m19, m20, m21, m22, m23, m24, m25, m26, m27, m28, m29, m30, m31, m32, m33, m34, m35, m36, m37, m38, m39, m40, m41, m42, m43, m44, m45, m46, m47, m48, m49]))]) [0] (by decide) rfl
  have hFc := va_free (wc := [(h0, .inr (9, [m0, m1, m2, .int 0, m4, m5, m6, m7, m8, m9, m10, m11, m12, m13, m14, m15, m16, m17, m18, m19, m20, m21, m22, m23, m24, m25, m26, m27, m28, m29, m30, m31, m32, m33, m34, m35, m36, m37, m38, m39, m40, m41, m42, m43, m44, m45, m46, m47, m48, m49]))]) hD hS hA [0] rfl
  refine va_calli (va_runV (As := [.int 1, .int 1]) (rest := []) ⟨hx, hb, hml, hown, hts⟩ (m_start1 l g s.heap.size h0 m0 m1 m2 (.int 0) m4 m5 m6 m7 m8 m9 m10 m11 m12 m13 m14 m15 m16 m17 m18 m19 m20 m21 m22 m23 m24 m25 m26 m27 m28 m29 m30 m31 m32 m33 m34 m35 m36 m37 m38 m39 m40 m41 m42 m43 m44 m45 m46 m47 m48 m49 1 (by first | assumption | decide | omega | simp_all)) (cwV 2 hts gX9_plan_X9_start rfl rfl rfl (by decide +kernel) ⟨Nat.le_of_ble_eq_true rfl, Nat.le_of_ble_eq_true rfl⟩) ⟨xB.blind, va_recv hK hPc (ci := 9) (q0 := 0) rfl rfl, fun U9 hU9 hW9 => ⟨rfl, xB.mk hPc hK hDc hU9 hW9⟩⟩ rfl rfl hl.1 rfl (lv_room (Nat.le_of_ble_eq_true rfl)) dX9_plan_14 ⟨Nat.le_of_ble_eq_true rfl, Nat.le_of_ble_eq_true rfl⟩) hS (fun q _ h => hFc q h) hFc (fun r_1 u_2 t H1 locs ht hvm hw_3 hB hz1 hk1 hS => ?_)
  obtain ⟨hP1, hK1, hD1⟩ := hB
  rw [ht] at hP1
  obtain ⟨hP, hD⟩ := va_join (wr := []) (w1 := [(h0, .inr (9, [.int 1, m1, m2, .int 0, m4, m5, m6, m7, m8, m9, m10, m11, m12, m13, m14, m15, m16, m17, m18, m19, m20, m21, m22, m23, m24, m25, m26, m27, m28, m29, m30, m31, m32, m33, m34, m35, m36, m37, m38, m39, m40, m41, m42, m43, m44, m45, m46, m47, m48, m49]))]) hP hD [0] [] rfl rfl (by decide) (by decide) hk1 hFc hP1 hD1
  generalize H1 = H at hP hS ⊢
  have hP : va_P (xD g) vwCl [(h0, .inr (9, [.int 1, m1, m2, .int 0, m4, m5, m6, m7, m8, m9, m10, m11, m12, m13, m14, m15, m16, m17, m18, m19, m20, m21, m22, m23, m24, m25, m26, m27, m28, m29, m30, m31, m32, m33, m34, m35, m36, m37, m38, m39, m40, m41, m42, m43, m44, m45, m46, m47, m48, m49]))] H := hP
  have hD : va_D A [(h0, .inr (9, [.int 1, m1, m2, .int 0, m4, m5, m6, m7, m8, m9, m10, m11, m12, m13, m14, m15, m16, m17, m18, m19, m20, m21, m22, m23, m24, m25, m26, m27, m28, m29, m30, m31, m32, m33, m34, m35, m36, m37, m38, m39, m40, m41, m42, m43, m44, m45, m46, m47, m48, m49]))] := hD
  try dsimp only at hw_3
  obtain rfl := hw_3
  refine lv_if_eq (tgt := 22) hx hb dX9_plan_17 (by decide) (fun c0 => absurd c0 (by decide)) (fun _ => ?_)
  refine lv_iconst (v := 0) hx hb dX9_plan_20 (by decide) ?_
  have hP9 := hP.sub (ws' := [(h0, .inr (9, [.int 1, m1, m2, .int 0, m4, m5, m6, m7, m8, m9, m10, m11, m12, m13, m14, m15, m16, m17, m18, m19, m20, m21, m22, m23, m24, m25, m26, m27, m28, m29, m30, m31, m32, m33, m34, m35, m36, m37, m38, m39, m40, m41, m42, m43, m44, m45, m46, m47, m48, m49]))]) [0] rfl
  have hD9 := hD.sub (ws' := [(h0, .inr (9, [.int 1, m1, m2, .int 0, m4, m5, m6, m7, m8, m9, m10, m11, m12, m13, m14, m15, m16, m17, m18, m19, m20, m21, m22, m23, m24, m25, m26, m27, m28, m29, m30, m31, m32, m33, m34, m35, m36, m37, m38, m39, m40, m41, m42, m43, m44, m45, m46, m47, m48, m49]))]) [0] (by decide) rfl
  exact W.iret (v := 0) hx hb hr (fun t ht hW => ⟨⟨0, 1, rfl, ⟨rfl, rfl⟩, ⟨m1, m2, (.int 0), m4, m5, m6, m7, m8, m9, m10, m11, m12, m13, m14, m15, m16, m17, m18, m19, m20, m21, m22, m23, m24, m25, m26, m27, m28, m29, m30, m31, m32, m33, m34, m35, m36, m37, m38, m39, m40, m41, m42, m43, m44, m45, m46, m47, m48, m49, by rw [ht]; exact hP9, va_K.moved hW.alike hK, hD9⟩⟩, hS.F ht⟩) hS.2.2 dX9_plan_21
theorem dX9_delayByNumbers_0 : decode cX9_delayByNumbers 0 = .ok (.aload_n 0, 1) := by decide +kernel
theorem dX9_delayByNumbers_1 : decode cX9_delayByNumbers 1 = .ok (.aload_n 0, 1) := by decide +kernel
theorem dX9_delayByNumbers_2 : decode cX9_delayByNumbers 2 = .ok (.getfield 144, 3) := by decide +kernel
theorem dX9_delayByNumbers_5 : decode cX9_delayByNumbers 5 = .ok (.ifCond .ne 7, 3) := by decide +kernel
theorem dX9_delayByNumbers_8 : decode cX9_delayByNumbers 8 = .ok (.iconst 1, 1) := by decide +kernel
theorem dX9_delayByNumbers_9 : decode cX9_delayByNumbers 9 = .ok (.goto 4, 3) := by decide +kernel
theorem dX9_delayByNumbers_13 : decode cX9_delayByNumbers 13 = .ok (.iconst 1, 1) := by decide +kernel
theorem dX9_delayByNumbers_14 : decode cX9_delayByNumbers 14 = .ok (.invokevirtual 138, 3) := by decide +kernel
set_option maxRecDepth 20000 in
theorem ggX9_delayByNumbers_X9_start : GoodIn wsX9_delayByNumbers wsX9_start := goodIn_r _ [7, 8, 9, 10, 11, 6, 12, 93, 94, 95, 96, 97, 98, 99, 100, 101, 102, 103, 104, 105, 106, 107, 108, 109, 110, 111, 112, 113, 114, 115, 116, 117, 118, 119, 120, 121, 122, 123, 124, 125, 126, 127, 128, 129, 130, 131, 132, 133, 134, 135, 136, 137, 138, 139, 140, 141, 142] rfl (by decide +kernel)
set_option maxRecDepth 20000 in
theorem gX9_delayByNumbers_X9_start : GoodIn wsX9_delayByNumbers (wsV RX9 138 RX9 yX9_start wsX9_start) := goodIn_app (goodIn_of _ (by decide +kernel)) ggX9_delayByNumbers_X9_start
theorem dX9_delayByNumbers_17 : decode cX9_delayByNumbers 17 = .ok (.ifCond .eq 5, 3) := by decide +kernel
theorem dX9_delayByNumbers_20 : decode cX9_delayByNumbers 20 = .ok (.iconst 0, 1) := by decide +kernel
theorem dX9_delayByNumbers_21 : decode cX9_delayByNumbers 21 = .ok (.ireturn, 1) := by decide +kernel
set_option maxHeartbeats 4000000 in
set_option maxRecDepth 100000 in
theorem m0_delayByNumbers (l : Launch) (g : xG) (sz : Nat) (h0 : Nat) (m0 : Value) (m1 : Value) (m2 : Value) (m4 : Value) (m5 : Value) (m6 : Value) (m7 : Value) (m8 : Value) (m9 : Value) (m10 : Value) (m11 : Value) (m12 : Value) (m13 : Value) (m14 : Value) (m15 : Value) (m16 : Value) (m17 : Value) (m18 : Value) (m19 : Value) (m20 : Value) (m21 : Value) (m22 : Value) (m23 : Value) (m24 : Value) (m25 : Value) (m26 : Value) (m27 : Value) (m28 : Value) (m29 : Value) (m30 : Value) (m31 : Value) (m32 : Value) (m33 : Value) (m34 : Value) (m35 : Value) (m36 : Value) (m37 : Value) (m38 : Value) (m39 : Value) (m40 : Value) (m41 : Value) (m42 : Value) (m43 : Value) (m44 : Value) (m45 : Value) (m46 : Value) (m47 : Value) (m48 : Value) (m49 : Value)  : Met l yX9_delayByNumbers wsX9_delayByNumbers ({ frames := 2, cells := 0, slots := 0, locals := 44 }) (va_Pc [.ref h0] (fun U => xB g [(h0, .inr (9, [m0, m1, m2, .int 0, m4, m5, m6, m7, m8, m9, m10, m11, m12, m13, m14, m15, m16, m17, m18, m19, m20, m21, m22, m23, m24, m25, m26, m27, m28, m29, m30, m31, m32, m33, m34, m35, m36, m37, m38, m39, m40, m41, m42, m43, m44, m45, m46, m47, m48, m49]))] sz U)) (va_Qi (fun (r : Int32) (u : Int32) => u = 1 ∧ r = 0) (fun (u : Int32) (t : State) => ∃ (w1 : Value) (w2 : Value) (w3 : Value) (w4 : Value) (w5 : Value) (w6 : Value) (w7 : Value) (w8 : Value) (w9 : Value) (w10 : Value) (w11 : Value) (w12 : Value) (w13 : Value) (w14 : Value) (w15 : Value) (w16 : Value) (w17 : Value) (w18 : Value) (w19 : Value) (w20 : Value) (w21 : Value) (w22 : Value) (w23 : Value) (w24 : Value) (w25 : Value) (w26 : Value) (w27 : Value) (w28 : Value) (w29 : Value) (w30 : Value) (w31 : Value) (w32 : Value) (w33 : Value) (w34 : Value) (w35 : Value) (w36 : Value) (w37 : Value) (w38 : Value) (w39 : Value) (w40 : Value) (w41 : Value) (w42 : Value) (w43 : Value) (w44 : Value) (w45 : Value) (w46 : Value) (w47 : Value) (w48 : Value) (w49 : Value), xE g [(h0, .inr (9, [.int u, w1, w2, w3, w4, w5, w6, w7, w8, w9, w10, w11, w12, w13, w14, w15, w16, w17, w18, w19, w20, w21, w22, w23, w24, w25, w26, w27, w28, w29, w30, w31, w32, w33, w34, w35, w36, w37, w38, w39, w40, w41, w42, w43, w44, w45, w46, w47, w48, w49]))] (va_A [(h0, .inr (9, [m0, m1, m2, .int 0, m4, m5, m6, m7, m8, m9, m10, m11, m12, m13, m14, m15, m16, m17, m18, m19, m20, m21, m22, m23, m24, m25, m26, m27, m28, m29, m30, m31, m32, m33, m34, m35, m36, m37, m38, m39, m40, m41, m42, m43, m44, m45, m46, m47, m48, m49]))] sz) t) (va_A [(h0, .inr (9, [m0, m1, m2, .int 0, m4, m5, m6, m7, m8, m9, m10, m11, m12, m13, m14, m15, m16, m17, m18, m19, m20, m21, m22, m23, m24, m25, m26, m27, m28, m29, m30, m31, m32, m33, m34, m35, m36, m37, m38, m39, m40, m41, m42, m43, m44, m45, m46, m47, m48, m49]))] sz)) 0 0 (va_A [(h0, .inr (9, [m0, m1, m2, .int 0, m4, m5, m6, m7, m8, m9, m10, m11, m12, m13, m14, m15, m16, m17, m18, m19, m20, m21, m22, m23, m24, m25, m26, m27, m28, m29, m30, m31, m32, m33, m34, m35, m36, m37, m38, m39, m40, m41, m42, m43, m44, m45, m46, m47, m48, m49]))] sz) := by
  refine Met.ofW (cc := cX9_delayByNumbers) (maxL := 3) (ret := (some .int)) (by decide) rfl ?_
  intro p e s m args below meth c s₁ B hml hv
  obtain ⟨rfl, ⟨hsz, hP, hK, hD0⟩⟩ := hv
  have hx := B.exec
  have hb := B.bytes
  have hr := B.returns
  have hts := atoms_spec (ws := wsX9_delayByNumbers) B.pre
  have hown : s.vm.findClass RX9 = some m.cls := findClass_of_methodNamed B.named
  have hlocks := B.notSynchronized
  subst hsz
  have hD := hD0.self (sz := s.heap.size)
  generalize hAe : va_A [(h0, .inr (9, [m0, m1, m2, .int 0, m4, m5, m6, m7, m8, m9, m10, m11, m12, m13, m14, m15, m16, m17, m18, m19, m20, m21, m22, m23, m24, m25, m26, m27, m28, m29, m30, m31, m32, m33, m34, m35, m36, m37, m38, m39, m40, m41, m42, m43, m44, m45, m46, m47, m48, m49]))] s.heap.size = A at hD ⊢
  have hA : ∀ q : Nat, s.heap.size ≤ q → A q := fun q h => by rw [← hAe]; exact Or.inr h
  have hS : va_S A s.heap s.heap [] := va_S.rf
  have hl := lv_entry ([.ref h0]) (n := 3) (Nat.le_of_ble_eq_true rfl)
  rw [lg_entry_eq]
  generalize (lg_sl ([.ref h0]) ++ List.replicate (3 - (lg_sl ([.ref h0])).length) Slot.unset).toArray = ls at hl ⊢
  have hl : lv_has ls 3 [(0, .ref h0)] := hl
  have hFX9 : ∀ w ∈ u_ws RX9 TX9 50, w ∈ wsX9_delayByNumbers := by decide +kernel
  refine lv_aload_n hx hb dX9_delayByNumbers_0 rfl (lv_at hl 0 rfl) ?_
  refine lv_aload_n hx hb dX9_delayByNumbers_1 rfl (lv_at hl 0 rfl) ?_
  refine va_get (D := xD g) (ci := 9) (v := .int 0) (C := RX9) (T := TX9) (N := 50) hx hb hts hFX9 hown hK hP 0 rfl rfl 3 (by decide) (hts (.fieldLink RX9 144 "StevedoreModel" "vessels" "I") (by decide +kernel)) (fun _ h9 => h9) rfl dX9_delayByNumbers_2 ?_
  refine lv_if_ne (tgt := 12) hx hb dX9_delayByNumbers_5 (by decide) (fun c0 => absurd (by decide) c0) (fun _ => ?_)
  refine lv_iconst (v := 1) hx hb dX9_delayByNumbers_8 (by decide) ?_
  refine lv_goto (tgt := 13) hx hb dX9_delayByNumbers_9 (by decide) ?_
  refine lv_iconst (v := 1) hx hb dX9_delayByNumbers_13 (by decide) ?_
  have hPc := hP.sub (ws' := [(h0, .inr (9, [m0, m1, m2, .int 0, m4, m5, m6, m7, m8, m9, m10, m11, m12, m13, m14, m15, m16, m17, m18, m19, m20, m21, m22, m23, m24, m25, m26, m27, m28, m29, m30, m31, m32, m33, m34, m35, m36, m37, m38, m39, m40, m41, m42, m43, m44, m45, m46, m47, m48, m49]))]) [0] rfl
  have hDc := hD.sub (ws' := [(h0, .inr (9, [m0, m1, m2, .int 0, m4, m5, m6, m7, m8, m9, m10, m11, m12, m13, m14, m15, m16, m17, m18, m19, m20, m21, m22, m23, m24, m25, m26, m27, m28, m29, m30, m31, m32, m33, m34, m35, m36, m37, m38, m39, m40, m41, m42, m43, m44, m45, m46, m47, m48, m49]))]) [0] (by decide) rfl
  have hFc := va_free (wc := [(h0, .inr (9, [m0, m1, m2, .int 0, m4, m5, m6, m7, m8, m9, m10, m11, m12, m13, m14, m15, m16, m17, m18, m19, m20, m21, m22, m23, m24, m25, m26, m27, m28, m29, m30, m31, m32, m33, m34, m35, m36, m37, m38, m39, m40, m41, m42, m43, m44, m45, m46, m47, m48, m49]))]) hD hS hA [0] rfl
  refine va_calli (va_runV (As := [.int 1, .int 1]) (rest := []) ⟨hx, hb, hml, hown, hts⟩ (m_start1 l g s.heap.size h0 m0 m1 m2 (.int 0) m4 m5 m6 m7 m8 m9 m10 m11 m12 m13 m14 m15 m16 m17 m18 m19 m20 m21 m22 m23 m24 m25 m26 m27 m28 m29 m30 m31 m32 m33 m34 m35 m36 m37 m38 m39 m40 m41 m42 m43 m44 m45 m46 m47 m48 m49 1 (by first | assumption | decide | omega | simp_all)) (cwV 2 hts gX9_delayByNumbers_X9_start rfl rfl rfl (by decide +kernel) ⟨Nat.le_of_ble_eq_true rfl, Nat.le_of_ble_eq_true rfl⟩) ⟨xB.blind, va_recv hK hPc (ci := 9) (q0 := 0) rfl rfl, fun U9 hU9 hW9 => ⟨rfl, xB.mk hPc hK hDc hU9 hW9⟩⟩ rfl rfl hl.1 rfl (lv_room (Nat.le_of_ble_eq_true rfl)) dX9_delayByNumbers_14 ⟨Nat.le_of_ble_eq_true rfl, Nat.le_of_ble_eq_true rfl⟩) hS (fun q _ h => hFc q h) hFc (fun r_1 u_2 t H1 locs ht hvm hw_3 hB hz1 hk1 hS => ?_)
  obtain ⟨hP1, hK1, hD1⟩ := hB
  rw [ht] at hP1
  obtain ⟨hP, hD⟩ := va_join (wr := []) (w1 := [(h0, .inr (9, [.int 1, m1, m2, .int 0, m4, m5, m6, m7, m8, m9, m10, m11, m12, m13, m14, m15, m16, m17, m18, m19, m20, m21, m22, m23, m24, m25, m26, m27, m28, m29, m30, m31, m32, m33, m34, m35, m36, m37, m38, m39, m40, m41, m42, m43, m44, m45, m46, m47, m48, m49]))]) hP hD [0] [] rfl rfl (by decide) (by decide) hk1 hFc hP1 hD1
  generalize H1 = H at hP hS ⊢
  have hP : va_P (xD g) vwCl [(h0, .inr (9, [.int 1, m1, m2, .int 0, m4, m5, m6, m7, m8, m9, m10, m11, m12, m13, m14, m15, m16, m17, m18, m19, m20, m21, m22, m23, m24, m25, m26, m27, m28, m29, m30, m31, m32, m33, m34, m35, m36, m37, m38, m39, m40, m41, m42, m43, m44, m45, m46, m47, m48, m49]))] H := hP
  have hD : va_D A [(h0, .inr (9, [.int 1, m1, m2, .int 0, m4, m5, m6, m7, m8, m9, m10, m11, m12, m13, m14, m15, m16, m17, m18, m19, m20, m21, m22, m23, m24, m25, m26, m27, m28, m29, m30, m31, m32, m33, m34, m35, m36, m37, m38, m39, m40, m41, m42, m43, m44, m45, m46, m47, m48, m49]))] := hD
  try dsimp only at hw_3
  obtain rfl := hw_3
  refine lv_if_eq (tgt := 22) hx hb dX9_delayByNumbers_17 (by decide) (fun c0 => absurd c0 (by decide)) (fun _ => ?_)
  refine lv_iconst (v := 0) hx hb dX9_delayByNumbers_20 (by decide) ?_
  have hP9 := hP.sub (ws' := [(h0, .inr (9, [.int 1, m1, m2, .int 0, m4, m5, m6, m7, m8, m9, m10, m11, m12, m13, m14, m15, m16, m17, m18, m19, m20, m21, m22, m23, m24, m25, m26, m27, m28, m29, m30, m31, m32, m33, m34, m35, m36, m37, m38, m39, m40, m41, m42, m43, m44, m45, m46, m47, m48, m49]))]) [0] rfl
  have hD9 := hD.sub (ws' := [(h0, .inr (9, [.int 1, m1, m2, .int 0, m4, m5, m6, m7, m8, m9, m10, m11, m12, m13, m14, m15, m16, m17, m18, m19, m20, m21, m22, m23, m24, m25, m26, m27, m28, m29, m30, m31, m32, m33, m34, m35, m36, m37, m38, m39, m40, m41, m42, m43, m44, m45, m46, m47, m48, m49]))]) [0] (by decide) rfl
  exact W.iret (v := 0) hx hb hr (fun t ht hW => ⟨⟨0, 1, rfl, ⟨rfl, rfl⟩, ⟨m1, m2, (.int 0), m4, m5, m6, m7, m8, m9, m10, m11, m12, m13, m14, m15, m16, m17, m18, m19, m20, m21, m22, m23, m24, m25, m26, m27, m28, m29, m30, m31, m32, m33, m34, m35, m36, m37, m38, m39, m40, m41, m42, m43, m44, m45, m46, m47, m48, m49, by rw [ht]; exact hP9, va_K.moved hW.alike hK, hD9⟩⟩, hS.F ht⟩) hS.2.2 dX9_delayByNumbers_21
theorem dX9_orderAt_0 : decode cX9_orderAt 0 = .ok (.aload_n 0, 1) := by decide +kernel
theorem dX9_orderAt_1 : decode cX9_orderAt 1 = .ok (.iload_n 1, 1) := by decide +kernel
theorem dX9_orderAt_2 : decode cX9_orderAt 2 = .ok (.aload_n 0, 1) := by decide +kernel
theorem dX9_orderAt_3 : decode cX9_orderAt 3 = .ok (.getfield 144, 3) := by decide +kernel
theorem dX9_orderAt_6 : decode cX9_orderAt 6 = .ok (.iconst 1, 1) := by decide +kernel
theorem dX9_orderAt_7 : decode cX9_orderAt 7 = .ok (.isub, 1) := by decide +kernel
theorem dX9_orderAt_8 : decode cX9_orderAt 8 = .ok (.invokevirtual 259, 3) := by decide +kernel
set_option maxRecDepth 20000 in
theorem ggX9_orderAt_X9_isUnplanned : GoodIn wsX9_orderAt wsX9_isUnplanned := goodIn_r _ [7, 8, 9, 10, 11, 6, 12, 13, 14, 15, 16, 17, 18, 19, 20, 21, 22, 23, 24, 25, 26, 27, 28, 29, 30, 31, 32, 33, 34, 35, 36, 37, 38, 39, 40, 41, 42, 43, 44, 45, 46, 47, 48, 49, 50, 51, 52, 53, 54, 55, 56, 57, 58, 59, 60, 61, 62, 63, 64, 65, 66, 67, 68, 69, 70] rfl (by decide +kernel)
set_option maxRecDepth 20000 in
theorem gX9_orderAt_X9_isUnplanned : GoodIn wsX9_orderAt (wsV RX9 259 RX9 yX9_isUnplanned wsX9_isUnplanned) := goodIn_app (goodIn_of _ (by decide +kernel)) ggX9_orderAt_X9_isUnplanned
theorem dX9_orderAt_11 : decode cX9_orderAt 11 = .ok (.ifCond .eq 7, 3) := by decide +kernel
theorem dX9_orderAt_14 : decode cX9_orderAt 14 = .ok (.iconst 0, 1) := by decide +kernel
theorem dX9_orderAt_15 : decode cX9_orderAt 15 = .ok (.goto 9, 3) := by decide +kernel
theorem dX9_orderAt_24 : decode cX9_orderAt 24 = .ok (.ireturn, 1) := by decide +kernel
set_option maxHeartbeats 4000000 in
set_option maxRecDepth 100000 in
theorem m0_orderAt (l : Launch) (g : xG) (sz : Nat) (h0 : Nat) (m0 : Value) (m1 : Value) (m2 : Value) (m4 : Value) (m5 : Value) (m6 : Value) (m7 : Value) (m8 : Value) (m9 : Value) (m10 : Value) (m11 : Value) (m12 : Value) (m13 : Value) (m14 : Value) (m15 : Value) (m16 : Value) (m17 : Value) (m18 : Value) (m19 : Value) (m20 : Value) (m21 : Value) (m22 : Value) (m23 : Value) (m25 : Value) (m26 : Value) (m27 : Value) (m28 : Value) (m29 : Value) (m30 : Value) (m31 : Value) (m32 : Value) (m33 : Value) (m34 : Value) (m35 : Value) (m36 : Value) (m37 : Value) (m38 : Value) (m39 : Value) (m40 : Value) (m41 : Value) (m42 : Value) (m43 : Value) (m44 : Value) (m45 : Value) (m46 : Value) (m47 : Value) (m48 : Value) (m49 : Value) (p0 : Int32)  : Met l yX9_orderAt wsX9_orderAt ({ frames := 3, cells := 0, slots := 0, locals := 66 }) (va_Pc [.ref h0, .int p0] (fun U => xB g [(h0, .inr (9, [m0, m1, m2, .int 0, m4, m5, m6, m7, m8, m9, m10, m11, m12, m13, m14, m15, m16, m17, m18, m19, m20, m21, m22, m23, .int 0, m25, m26, m27, m28, m29, m30, m31, m32, m33, m34, m35, m36, m37, m38, m39, m40, m41, m42, m43, m44, m45, m46, m47, m48, m49]))] sz U)) (va_Qi (fun (r : Int32) (u : Int32) => u = 1 ∧ r = 0) (fun (u : Int32) (t : State) => ∃ (w1 : Value) (w2 : Value) (w3 : Value) (w4 : Value) (w5 : Value) (w6 : Value) (w7 : Value) (w8 : Value) (w9 : Value) (w10 : Value) (w11 : Value) (w12 : Value) (w13 : Value) (w14 : Value) (w15 : Value) (w16 : Value) (w17 : Value) (w18 : Value) (w19 : Value) (w20 : Value) (w21 : Value) (w22 : Value) (w23 : Value) (w24 : Value) (w25 : Value) (w26 : Value) (w27 : Value) (w28 : Value) (w29 : Value) (w30 : Value) (w31 : Value) (w32 : Value) (w33 : Value) (w34 : Value) (w35 : Value) (w36 : Value) (w37 : Value) (w38 : Value) (w39 : Value) (w40 : Value) (w41 : Value) (w42 : Value) (w43 : Value) (w44 : Value) (w45 : Value) (w46 : Value) (w47 : Value) (w48 : Value) (w49 : Value), xE g [(h0, .inr (9, [.int u, w1, w2, w3, w4, w5, w6, w7, w8, w9, w10, w11, w12, w13, w14, w15, w16, w17, w18, w19, w20, w21, w22, w23, w24, w25, w26, w27, w28, w29, w30, w31, w32, w33, w34, w35, w36, w37, w38, w39, w40, w41, w42, w43, w44, w45, w46, w47, w48, w49]))] (va_A [(h0, .inr (9, [m0, m1, m2, .int 0, m4, m5, m6, m7, m8, m9, m10, m11, m12, m13, m14, m15, m16, m17, m18, m19, m20, m21, m22, m23, .int 0, m25, m26, m27, m28, m29, m30, m31, m32, m33, m34, m35, m36, m37, m38, m39, m40, m41, m42, m43, m44, m45, m46, m47, m48, m49]))] sz) t) (va_A [(h0, .inr (9, [m0, m1, m2, .int 0, m4, m5, m6, m7, m8, m9, m10, m11, m12, m13, m14, m15, m16, m17, m18, m19, m20, m21, m22, m23, .int 0, m25, m26, m27, m28, m29, m30, m31, m32, m33, m34, m35, m36, m37, m38, m39, m40, m41, m42, m43, m44, m45, m46, m47, m48, m49]))] sz)) 0 0 (va_A [(h0, .inr (9, [m0, m1, m2, .int 0, m4, m5, m6, m7, m8, m9, m10, m11, m12, m13, m14, m15, m16, m17, m18, m19, m20, m21, m22, m23, .int 0, m25, m26, m27, m28, m29, m30, m31, m32, m33, m34, m35, m36, m37, m38, m39, m40, m41, m42, m43, m44, m45, m46, m47, m48, m49]))] sz) := by
  refine Met.ofW (cc := cX9_orderAt) (maxL := 2) (ret := (some .int)) (by decide) rfl ?_
  intro p e s m args below meth c s₁ B hml hv
  obtain ⟨rfl, ⟨hsz, hP, hK, hD0⟩⟩ := hv
  have hx := B.exec
  have hb := B.bytes
  have hr := B.returns
  have hts := atoms_spec (ws := wsX9_orderAt) B.pre
  have hown : s.vm.findClass RX9 = some m.cls := findClass_of_methodNamed B.named
  have hlocks := B.notSynchronized
  subst hsz
  have hD := hD0.self (sz := s.heap.size)
  generalize hAe : va_A [(h0, .inr (9, [m0, m1, m2, .int 0, m4, m5, m6, m7, m8, m9, m10, m11, m12, m13, m14, m15, m16, m17, m18, m19, m20, m21, m22, m23, .int 0, m25, m26, m27, m28, m29, m30, m31, m32, m33, m34, m35, m36, m37, m38, m39, m40, m41, m42, m43, m44, m45, m46, m47, m48, m49]))] s.heap.size = A at hD ⊢
  have hA : ∀ q : Nat, s.heap.size ≤ q → A q := fun q h => by rw [← hAe]; exact Or.inr h
  have hS : va_S A s.heap s.heap [] := va_S.rf
  have hl := lv_entry ([.ref h0, .int p0]) (n := 2) (Nat.le_of_ble_eq_true rfl)
  rw [lg_entry_eq]
  generalize (lg_sl ([.ref h0, .int p0]) ++ List.replicate (2 - (lg_sl ([.ref h0, .int p0])).length) Slot.unset).toArray = ls at hl ⊢
  have hl : lv_has ls 2 [(0, .ref h0), (1, .int p0)] := hl
  have hFX9 : ∀ w ∈ u_ws RX9 TX9 50, w ∈ wsX9_orderAt := by decide +kernel
  refine lv_aload_n hx hb dX9_orderAt_0 rfl (lv_at hl 0 rfl) ?_
  refine lv_iload_n hx hb dX9_orderAt_1 rfl (lv_at hl 1 rfl) ?_
  refine lv_aload_n hx hb dX9_orderAt_2 rfl (lv_at hl 0 rfl) ?_
  refine va_get (D := xD g) (ci := 9) (v := .int 0) (C := RX9) (T := TX9) (N := 50) hx hb hts hFX9 hown hK hP 0 rfl rfl 3 (by decide) (hts (.fieldLink RX9 144 "StevedoreModel" "vessels" "I") (by decide +kernel)) (fun _ h9 => h9) rfl dX9_orderAt_3 ?_
  refine lv_iconst (v := 1) hx hb dX9_orderAt_6 (by decide) ?_
  refine lv_isub hx hb dX9_orderAt_7 ?_
  refine lv_topi (fun v_1 ev => ?_)
  obtain rfl : v_1 = ((-1) : Int32) := ev.trans (by decide)
  have hPc := hP.sub (ws' := [(h0, .inr (9, [m0, m1, m2, .int 0, m4, m5, m6, m7, m8, m9, m10, m11, m12, m13, m14, m15, m16, m17, m18, m19, m20, m21, m22, m23, .int 0, m25, m26, m27, m28, m29, m30, m31, m32, m33, m34, m35, m36, m37, m38, m39, m40, m41, m42, m43, m44, m45, m46, m47, m48, m49]))]) [0] rfl
  have hDc := hD.sub (ws' := [(h0, .inr (9, [m0, m1, m2, .int 0, m4, m5, m6, m7, m8, m9, m10, m11, m12, m13, m14, m15, m16, m17, m18, m19, m20, m21, m22, m23, .int 0, m25, m26, m27, m28, m29, m30, m31, m32, m33, m34, m35, m36, m37, m38, m39, m40, m41, m42, m43, m44, m45, m46, m47, m48, m49]))]) [0] (by decide) rfl
  have hFc := va_free (wc := [(h0, .inr (9, [m0, m1, m2, .int 0, m4, m5, m6, m7, m8, m9, m10, m11, m12, m13, m14, m15, m16, m17, m18, m19, m20, m21, m22, m23, .int 0, m25, m26, m27, m28, m29, m30, m31, m32, m33, m34, m35, m36, m37, m38, m39, m40, m41, m42, m43, m44, m45, m46, m47, m48, m49]))]) hD hS hA [0] rfl
  refine va_calli (va_runV (As := [.int p0, .int (-1)]) (rest := []) ⟨hx, hb, hml, hown, hts⟩ (m0_isUnplanned l g s.heap.size h0 m0 m1 m2 (.int 0) m4 m5 m6 m7 m8 m9 m10 m11 m12 m13 m14 m15 m16 m17 m18 m19 m20 m21 m22 m23 m25 m26 m27 m28 m29 m30 m31 m32 m33 m34 m35 m36 m37 m38 m39 m40 m41 m42 m43 m44 m45 m46 m47 m48 m49 p0 (-1)) (cwV 2 hts gX9_orderAt_X9_isUnplanned rfl rfl rfl (by decide +kernel) ⟨Nat.le_of_ble_eq_true rfl, Nat.le_of_ble_eq_true rfl⟩) ⟨xB.blind, va_recv hK hPc (ci := 9) (q0 := 0) rfl rfl, fun U9 hU9 hW9 => ⟨rfl, xB.mk hPc hK hDc hU9 hW9⟩⟩ rfl rfl hl.1 rfl (lv_room (Nat.le_of_ble_eq_true rfl)) dX9_orderAt_8 ⟨Nat.le_of_ble_eq_true rfl, Nat.le_of_ble_eq_true rfl⟩) hS (fun q _ h => hFc q h) hFc (fun r_2 u_3 t H1 locs ht hvm hw_4 hB hz1 hk1 hS => ?_)
  obtain ⟨hP1, hK1, hD1⟩ := hB
  rw [ht] at hP1
  obtain ⟨hP, hD⟩ := va_join (wr := []) (w1 := [(h0, .inr (9, [.int 1, m1, m2, .int 0, m4, m5, m6, m7, m8, m9, m10, m11, m12, m13, m14, m15, m16, m17, m18, m19, m20, m21, m22, m23, .int 0, m25, m26, m27, m28, m29, m30, m31, m32, m33, m34, m35, m36, m37, m38, m39, m40, m41, m42, m43, m44, m45, m46, m47, m48, m49]))]) hP hD [0] [] rfl rfl (by decide) (by decide) hk1 hFc hP1 hD1
  generalize H1 = H at hP hS ⊢
  have hP : va_P (xD g) vwCl [(h0, .inr (9, [.int 1, m1, m2, .int 0, m4, m5, m6, m7, m8, m9, m10, m11, m12, m13, m14, m15, m16, m17, m18, m19, m20, m21, m22, m23, .int 0, m25, m26, m27, m28, m29, m30, m31, m32, m33, m34, m35, m36, m37, m38, m39, m40, m41, m42, m43, m44, m45, m46, m47, m48, m49]))] H := hP
  have hD : va_D A [(h0, .inr (9, [.int 1, m1, m2, .int 0, m4, m5, m6, m7, m8, m9, m10, m11, m12, m13, m14, m15, m16, m17, m18, m19, m20, m21, m22, m23, .int 0, m25, m26, m27, m28, m29, m30, m31, m32, m33, m34, m35, m36, m37, m38, m39, m40, m41, m42, m43, m44, m45, m46, m47, m48, m49]))] := hD
  try dsimp only at hw_4
  obtain rfl := hw_4
  refine lv_if_eq (tgt := 18) hx hb dX9_orderAt_11 (by decide) (fun c0 => absurd c0 (by decide)) (fun _ => ?_)
  refine lv_iconst (v := 0) hx hb dX9_orderAt_14 (by decide) ?_
  refine lv_goto (tgt := 24) hx hb dX9_orderAt_15 (by decide) ?_
  have hP9 := hP.sub (ws' := [(h0, .inr (9, [.int 1, m1, m2, .int 0, m4, m5, m6, m7, m8, m9, m10, m11, m12, m13, m14, m15, m16, m17, m18, m19, m20, m21, m22, m23, .int 0, m25, m26, m27, m28, m29, m30, m31, m32, m33, m34, m35, m36, m37, m38, m39, m40, m41, m42, m43, m44, m45, m46, m47, m48, m49]))]) [0] rfl
  have hD9 := hD.sub (ws' := [(h0, .inr (9, [.int 1, m1, m2, .int 0, m4, m5, m6, m7, m8, m9, m10, m11, m12, m13, m14, m15, m16, m17, m18, m19, m20, m21, m22, m23, .int 0, m25, m26, m27, m28, m29, m30, m31, m32, m33, m34, m35, m36, m37, m38, m39, m40, m41, m42, m43, m44, m45, m46, m47, m48, m49]))]) [0] (by decide) rfl
  exact W.iret (v := 0) hx hb hr (fun t ht hW => ⟨⟨0, 1, rfl, ⟨rfl, rfl⟩, ⟨m1, m2, (.int 0), m4, m5, m6, m7, m8, m9, m10, m11, m12, m13, m14, m15, m16, m17, m18, m19, m20, m21, m22, m23, (.int 0), m25, m26, m27, m28, m29, m30, m31, m32, m33, m34, m35, m36, m37, m38, m39, m40, m41, m42, m43, m44, m45, m46, m47, m48, m49, by rw [ht]; exact hP9, va_K.moved hW.alike hK, hD9⟩⟩, hS.F ht⟩) hS.2.2 dX9_orderAt_24
theorem dX9_startOf_0 : decode cX9_startOf 0 = .ok (.aload_n 0, 1) := by decide +kernel
theorem dX9_startOf_1 : decode cX9_startOf 1 = .ok (.iload_n 1, 1) := by decide +kernel
theorem dX9_startOf_2 : decode cX9_startOf 2 = .ok (.aload_n 0, 1) := by decide +kernel
theorem dX9_startOf_3 : decode cX9_startOf 3 = .ok (.getfield 144, 3) := by decide +kernel
theorem dX9_startOf_6 : decode cX9_startOf 6 = .ok (.iconst 1, 1) := by decide +kernel
theorem dX9_startOf_7 : decode cX9_startOf 7 = .ok (.isub, 1) := by decide +kernel
theorem dX9_startOf_8 : decode cX9_startOf 8 = .ok (.invokevirtual 259, 3) := by decide +kernel
set_option maxRecDepth 20000 in
theorem ggX9_startOf_X9_isUnplanned : GoodIn wsX9_startOf wsX9_isUnplanned := goodIn_r _ [7, 8, 9, 10, 11, 6, 12, 13, 14, 15, 16, 17, 18, 19, 20, 21, 22, 23, 24, 25, 26, 27, 28, 29, 30, 31, 32, 33, 34, 35, 36, 37, 38, 39, 40, 41, 42, 43, 44, 45, 46, 47, 48, 49, 50, 51, 52, 53, 54, 55, 56, 57, 58, 59, 60, 61, 62, 63, 64, 65, 66, 67, 68, 69, 70] rfl (by decide +kernel)
set_option maxRecDepth 20000 in
theorem gX9_startOf_X9_isUnplanned : GoodIn wsX9_startOf (wsV RX9 259 RX9 yX9_isUnplanned wsX9_isUnplanned) := goodIn_app (goodIn_of _ (by decide +kernel)) ggX9_startOf_X9_isUnplanned
theorem dX9_startOf_11 : decode cX9_startOf 11 = .ok (.ifCond .eq 7, 3) := by decide +kernel
theorem dX9_startOf_14 : decode cX9_startOf 14 = .ok (.iconst 0, 1) := by decide +kernel
theorem dX9_startOf_15 : decode cX9_startOf 15 = .ok (.goto 9, 3) := by decide +kernel
theorem dX9_startOf_24 : decode cX9_startOf 24 = .ok (.ireturn, 1) := by decide +kernel
set_option maxHeartbeats 4000000 in
set_option maxRecDepth 100000 in
theorem m0_startOf (l : Launch) (g : xG) (sz : Nat) (h0 : Nat) (m0 : Value) (m1 : Value) (m2 : Value) (m4 : Value) (m5 : Value) (m6 : Value) (m7 : Value) (m8 : Value) (m9 : Value) (m10 : Value) (m11 : Value) (m12 : Value) (m13 : Value) (m14 : Value) (m15 : Value) (m16 : Value) (m17 : Value) (m18 : Value) (m19 : Value) (m20 : Value) (m21 : Value) (m22 : Value) (m23 : Value) (m25 : Value) (m26 : Value) (m27 : Value) (m28 : Value) (m29 : Value) (m30 : Value) (m31 : Value) (m32 : Value) (m33 : Value) (m34 : Value) (m35 : Value) (m36 : Value) (m37 : Value) (m38 : Value) (m39 : Value) (m40 : Value) (m41 : Value) (m42 : Value) (m43 : Value) (m44 : Value) (m45 : Value) (m46 : Value) (m47 : Value) (m48 : Value) (m49 : Value) (p0 : Int32)  : Met l yX9_startOf wsX9_startOf ({ frames := 3, cells := 0, slots := 0, locals := 66 }) (va_Pc [.ref h0, .int p0] (fun U => xB g [(h0, .inr (9, [m0, m1, m2, .int 0, m4, m5, m6, m7, m8, m9, m10, m11, m12, m13, m14, m15, m16, m17, m18, m19, m20, m21, m22, m23, .int 0, m25, m26, m27, m28, m29, m30, m31, m32, m33, m34, m35, m36, m37, m38, m39, m40, m41, m42, m43, m44, m45, m46, m47, m48, m49]))] sz U)) (va_Qi (fun (r : Int32) (u : Int32) => u = 1 ∧ r = 0) (fun (u : Int32) (t : State) => ∃ (w1 : Value) (w2 : Value) (w3 : Value) (w4 : Value) (w5 : Value) (w6 : Value) (w7 : Value) (w8 : Value) (w9 : Value) (w10 : Value) (w11 : Value) (w12 : Value) (w13 : Value) (w14 : Value) (w15 : Value) (w16 : Value) (w17 : Value) (w18 : Value) (w19 : Value) (w20 : Value) (w21 : Value) (w22 : Value) (w23 : Value) (w24 : Value) (w25 : Value) (w26 : Value) (w27 : Value) (w28 : Value) (w29 : Value) (w30 : Value) (w31 : Value) (w32 : Value) (w33 : Value) (w34 : Value) (w35 : Value) (w36 : Value) (w37 : Value) (w38 : Value) (w39 : Value) (w40 : Value) (w41 : Value) (w42 : Value) (w43 : Value) (w44 : Value) (w45 : Value) (w46 : Value) (w47 : Value) (w48 : Value) (w49 : Value), xE g [(h0, .inr (9, [.int u, w1, w2, w3, w4, w5, w6, w7, w8, w9, w10, w11, w12, w13, w14, w15, w16, w17, w18, w19, w20, w21, w22, w23, w24, w25, w26, w27, w28, w29, w30, w31, w32, w33, w34, w35, w36, w37, w38, w39, w40, w41, w42, w43, w44, w45, w46, w47, w48, w49]))] (va_A [(h0, .inr (9, [m0, m1, m2, .int 0, m4, m5, m6, m7, m8, m9, m10, m11, m12, m13, m14, m15, m16, m17, m18, m19, m20, m21, m22, m23, .int 0, m25, m26, m27, m28, m29, m30, m31, m32, m33, m34, m35, m36, m37, m38, m39, m40, m41, m42, m43, m44, m45, m46, m47, m48, m49]))] sz) t) (va_A [(h0, .inr (9, [m0, m1, m2, .int 0, m4, m5, m6, m7, m8, m9, m10, m11, m12, m13, m14, m15, m16, m17, m18, m19, m20, m21, m22, m23, .int 0, m25, m26, m27, m28, m29, m30, m31, m32, m33, m34, m35, m36, m37, m38, m39, m40, m41, m42, m43, m44, m45, m46, m47, m48, m49]))] sz)) 0 0 (va_A [(h0, .inr (9, [m0, m1, m2, .int 0, m4, m5, m6, m7, m8, m9, m10, m11, m12, m13, m14, m15, m16, m17, m18, m19, m20, m21, m22, m23, .int 0, m25, m26, m27, m28, m29, m30, m31, m32, m33, m34, m35, m36, m37, m38, m39, m40, m41, m42, m43, m44, m45, m46, m47, m48, m49]))] sz) := by
  refine Met.ofW (cc := cX9_startOf) (maxL := 2) (ret := (some .int)) (by decide) rfl ?_
  intro p e s m args below meth c s₁ B hml hv
  obtain ⟨rfl, ⟨hsz, hP, hK, hD0⟩⟩ := hv
  have hx := B.exec
  have hb := B.bytes
  have hr := B.returns
  have hts := atoms_spec (ws := wsX9_startOf) B.pre
  have hown : s.vm.findClass RX9 = some m.cls := findClass_of_methodNamed B.named
  have hlocks := B.notSynchronized
  subst hsz
  have hD := hD0.self (sz := s.heap.size)
  generalize hAe : va_A [(h0, .inr (9, [m0, m1, m2, .int 0, m4, m5, m6, m7, m8, m9, m10, m11, m12, m13, m14, m15, m16, m17, m18, m19, m20, m21, m22, m23, .int 0, m25, m26, m27, m28, m29, m30, m31, m32, m33, m34, m35, m36, m37, m38, m39, m40, m41, m42, m43, m44, m45, m46, m47, m48, m49]))] s.heap.size = A at hD ⊢
  have hA : ∀ q : Nat, s.heap.size ≤ q → A q := fun q h => by rw [← hAe]; exact Or.inr h
  have hS : va_S A s.heap s.heap [] := va_S.rf
  have hl := lv_entry ([.ref h0, .int p0]) (n := 2) (Nat.le_of_ble_eq_true rfl)
  rw [lg_entry_eq]
  generalize (lg_sl ([.ref h0, .int p0]) ++ List.replicate (2 - (lg_sl ([.ref h0, .int p0])).length) Slot.unset).toArray = ls at hl ⊢
  have hl : lv_has ls 2 [(0, .ref h0), (1, .int p0)] := hl
  have hFX9 : ∀ w ∈ u_ws RX9 TX9 50, w ∈ wsX9_startOf := by decide +kernel
  refine lv_aload_n hx hb dX9_startOf_0 rfl (lv_at hl 0 rfl) ?_
  refine lv_iload_n hx hb dX9_startOf_1 rfl (lv_at hl 1 rfl) ?_
  refine lv_aload_n hx hb dX9_startOf_2 rfl (lv_at hl 0 rfl) ?_
  refine va_get (D := xD g) (ci := 9) (v := .int 0) (C := RX9) (T := TX9) (N := 50) hx hb hts hFX9 hown hK hP 0 rfl rfl 3 (by decide) (hts (.fieldLink RX9 144 "StevedoreModel" "vessels" "I") (by decide +kernel)) (fun _ h9 => h9) rfl dX9_startOf_3 ?_
  refine lv_iconst (v := 1) hx hb dX9_startOf_6 (by decide) ?_
  refine lv_isub hx hb dX9_startOf_7 ?_
  refine lv_topi (fun v_1 ev => ?_)
  obtain rfl : v_1 = ((-1) : Int32) := ev.trans (by decide)
  have hPc := hP.sub (ws' := [(h0, .inr (9, [m0, m1, m2, .int 0, m4, m5, m6, m7, m8, m9, m10, m11, m12, m13, m14, m15, m16, m17, m18, m19, m20, m21, m22, m23, .int 0, m25, m26, m27, m28, m29, m30, m31, m32, m33, m34, m35, m36, m37, m38, m39, m40, m41, m42, m43, m44, m45, m46, m47, m48, m49]))]) [0] rfl
  have hDc := hD.sub (ws' := [(h0, .inr (9, [m0, m1, m2, .int 0, m4, m5, m6, m7, m8, m9, m10, m11, m12, m13, m14, m15, m16, m17, m18, m19, m20, m21, m22, m23, .int 0, m25, m26, m27, m28, m29, m30, m31, m32, m33, m34, m35, m36, m37, m38, m39, m40, m41, m42, m43, m44, m45, m46, m47, m48, m49]))]) [0] (by decide) rfl
  have hFc := va_free (wc := [(h0, .inr (9, [m0, m1, m2, .int 0, m4, m5, m6, m7, m8, m9, m10, m11, m12, m13, m14, m15, m16, m17, m18, m19, m20, m21, m22, m23, .int 0, m25, m26, m27, m28, m29, m30, m31, m32, m33, m34, m35, m36, m37, m38, m39, m40, m41, m42, m43, m44, m45, m46, m47, m48, m49]))]) hD hS hA [0] rfl
  refine va_calli (va_runV (As := [.int p0, .int (-1)]) (rest := []) ⟨hx, hb, hml, hown, hts⟩ (m0_isUnplanned l g s.heap.size h0 m0 m1 m2 (.int 0) m4 m5 m6 m7 m8 m9 m10 m11 m12 m13 m14 m15 m16 m17 m18 m19 m20 m21 m22 m23 m25 m26 m27 m28 m29 m30 m31 m32 m33 m34 m35 m36 m37 m38 m39 m40 m41 m42 m43 m44 m45 m46 m47 m48 m49 p0 (-1)) (cwV 2 hts gX9_startOf_X9_isUnplanned rfl rfl rfl (by decide +kernel) ⟨Nat.le_of_ble_eq_true rfl, Nat.le_of_ble_eq_true rfl⟩) ⟨xB.blind, va_recv hK hPc (ci := 9) (q0 := 0) rfl rfl, fun U9 hU9 hW9 => ⟨rfl, xB.mk hPc hK hDc hU9 hW9⟩⟩ rfl rfl hl.1 rfl (lv_room (Nat.le_of_ble_eq_true rfl)) dX9_startOf_8 ⟨Nat.le_of_ble_eq_true rfl, Nat.le_of_ble_eq_true rfl⟩) hS (fun q _ h => hFc q h) hFc (fun r_2 u_3 t H1 locs ht hvm hw_4 hB hz1 hk1 hS => ?_)
  obtain ⟨hP1, hK1, hD1⟩ := hB
  rw [ht] at hP1
  obtain ⟨hP, hD⟩ := va_join (wr := []) (w1 := [(h0, .inr (9, [.int 1, m1, m2, .int 0, m4, m5, m6, m7, m8, m9, m10, m11, m12, m13, m14, m15, m16, m17, m18, m19, m20, m21, m22, m23, .int 0, m25, m26, m27, m28, m29, m30, m31, m32, m33, m34, m35, m36, m37, m38, m39, m40, m41, m42, m43, m44, m45, m46, m47, m48, m49]))]) hP hD [0] [] rfl rfl (by decide) (by decide) hk1 hFc hP1 hD1
  generalize H1 = H at hP hS ⊢
  have hP : va_P (xD g) vwCl [(h0, .inr (9, [.int 1, m1, m2, .int 0, m4, m5, m6, m7, m8, m9, m10, m11, m12, m13, m14, m15, m16, m17, m18, m19, m20, m21, m22, m23, .int 0, m25, m26, m27, m28, m29, m30, m31, m32, m33, m34, m35, m36, m37, m38, m39, m40, m41, m42, m43, m44, m45, m46, m47, m48, m49]))] H := hP
  have hD : va_D A [(h0, .inr (9, [.int 1, m1, m2, .int 0, m4, m5, m6, m7, m8, m9, m10, m11, m12, m13, m14, m15, m16, m17, m18, m19, m20, m21, m22, m23, .int 0, m25, m26, m27, m28, m29, m30, m31, m32, m33, m34, m35, m36, m37, m38, m39, m40, m41, m42, m43, m44, m45, m46, m47, m48, m49]))] := hD
  try dsimp only at hw_4
  obtain rfl := hw_4
  refine lv_if_eq (tgt := 18) hx hb dX9_startOf_11 (by decide) (fun c0 => absurd c0 (by decide)) (fun _ => ?_)
  refine lv_iconst (v := 0) hx hb dX9_startOf_14 (by decide) ?_
  refine lv_goto (tgt := 24) hx hb dX9_startOf_15 (by decide) ?_
  have hP9 := hP.sub (ws' := [(h0, .inr (9, [.int 1, m1, m2, .int 0, m4, m5, m6, m7, m8, m9, m10, m11, m12, m13, m14, m15, m16, m17, m18, m19, m20, m21, m22, m23, .int 0, m25, m26, m27, m28, m29, m30, m31, m32, m33, m34, m35, m36, m37, m38, m39, m40, m41, m42, m43, m44, m45, m46, m47, m48, m49]))]) [0] rfl
  have hD9 := hD.sub (ws' := [(h0, .inr (9, [.int 1, m1, m2, .int 0, m4, m5, m6, m7, m8, m9, m10, m11, m12, m13, m14, m15, m16, m17, m18, m19, m20, m21, m22, m23, .int 0, m25, m26, m27, m28, m29, m30, m31, m32, m33, m34, m35, m36, m37, m38, m39, m40, m41, m42, m43, m44, m45, m46, m47, m48, m49]))]) [0] (by decide) rfl
  exact W.iret (v := 0) hx hb hr (fun t ht hW => ⟨⟨0, 1, rfl, ⟨rfl, rfl⟩, ⟨m1, m2, (.int 0), m4, m5, m6, m7, m8, m9, m10, m11, m12, m13, m14, m15, m16, m17, m18, m19, m20, m21, m22, m23, (.int 0), m25, m26, m27, m28, m29, m30, m31, m32, m33, m34, m35, m36, m37, m38, m39, m40, m41, m42, m43, m44, m45, m46, m47, m48, m49, by rw [ht]; exact hP9, va_K.moved hW.alike hK, hD9⟩⟩, hS.F ht⟩) hS.2.2 dX9_startOf_24
theorem dX9_placeOf_0 : decode cX9_placeOf 0 = .ok (.aload_n 0, 1) := by decide +kernel
theorem dX9_placeOf_1 : decode cX9_placeOf 1 = .ok (.iload_n 1, 1) := by decide +kernel
theorem dX9_placeOf_2 : decode cX9_placeOf 2 = .ok (.aload_n 0, 1) := by decide +kernel
theorem dX9_placeOf_3 : decode cX9_placeOf 3 = .ok (.getfield 144, 3) := by decide +kernel
theorem dX9_placeOf_6 : decode cX9_placeOf 6 = .ok (.iconst 1, 1) := by decide +kernel
theorem dX9_placeOf_7 : decode cX9_placeOf 7 = .ok (.isub, 1) := by decide +kernel
theorem dX9_placeOf_8 : decode cX9_placeOf 8 = .ok (.invokevirtual 259, 3) := by decide +kernel
set_option maxRecDepth 20000 in
theorem ggX9_placeOf_X9_isUnplanned : GoodIn wsX9_placeOf wsX9_isUnplanned := goodIn_r _ [7, 8, 9, 10, 11, 6, 12, 13, 14, 15, 16, 17, 18, 19, 20, 21, 22, 23, 24, 25, 26, 27, 28, 29, 30, 31, 32, 33, 34, 35, 36, 37, 38, 39, 40, 41, 42, 43, 44, 45, 46, 47, 48, 49, 50, 51, 52, 53, 54, 55, 56, 57, 58, 59, 60, 61, 62, 63, 64, 65, 66, 67, 68, 69, 70] rfl (by decide +kernel)
set_option maxRecDepth 20000 in
theorem gX9_placeOf_X9_isUnplanned : GoodIn wsX9_placeOf (wsV RX9 259 RX9 yX9_isUnplanned wsX9_isUnplanned) := goodIn_app (goodIn_of _ (by decide +kernel)) ggX9_placeOf_X9_isUnplanned
theorem dX9_placeOf_11 : decode cX9_placeOf 11 = .ok (.ifCond .eq 7, 3) := by decide +kernel
theorem dX9_placeOf_14 : decode cX9_placeOf 14 = .ok (.iconst 0, 1) := by decide +kernel
theorem dX9_placeOf_15 : decode cX9_placeOf 15 = .ok (.goto 9, 3) := by decide +kernel
theorem dX9_placeOf_24 : decode cX9_placeOf 24 = .ok (.ireturn, 1) := by decide +kernel
set_option maxHeartbeats 4000000 in
set_option maxRecDepth 100000 in
theorem m0_placeOf (l : Launch) (g : xG) (sz : Nat) (h0 : Nat) (m0 : Value) (m1 : Value) (m2 : Value) (m4 : Value) (m5 : Value) (m6 : Value) (m7 : Value) (m8 : Value) (m9 : Value) (m10 : Value) (m11 : Value) (m12 : Value) (m13 : Value) (m14 : Value) (m15 : Value) (m16 : Value) (m17 : Value) (m18 : Value) (m19 : Value) (m20 : Value) (m21 : Value) (m22 : Value) (m23 : Value) (m25 : Value) (m26 : Value) (m27 : Value) (m28 : Value) (m29 : Value) (m30 : Value) (m31 : Value) (m32 : Value) (m33 : Value) (m34 : Value) (m35 : Value) (m36 : Value) (m37 : Value) (m38 : Value) (m39 : Value) (m40 : Value) (m41 : Value) (m42 : Value) (m43 : Value) (m44 : Value) (m45 : Value) (m46 : Value) (m47 : Value) (m48 : Value) (m49 : Value) (p0 : Int32)  : Met l yX9_placeOf wsX9_placeOf ({ frames := 3, cells := 0, slots := 0, locals := 66 }) (va_Pc [.ref h0, .int p0] (fun U => xB g [(h0, .inr (9, [m0, m1, m2, .int 0, m4, m5, m6, m7, m8, m9, m10, m11, m12, m13, m14, m15, m16, m17, m18, m19, m20, m21, m22, m23, .int 0, m25, m26, m27, m28, m29, m30, m31, m32, m33, m34, m35, m36, m37, m38, m39, m40, m41, m42, m43, m44, m45, m46, m47, m48, m49]))] sz U)) (va_Qi (fun (r : Int32) (u : Int32) => u = 1 ∧ r = 0) (fun (u : Int32) (t : State) => ∃ (w1 : Value) (w2 : Value) (w3 : Value) (w4 : Value) (w5 : Value) (w6 : Value) (w7 : Value) (w8 : Value) (w9 : Value) (w10 : Value) (w11 : Value) (w12 : Value) (w13 : Value) (w14 : Value) (w15 : Value) (w16 : Value) (w17 : Value) (w18 : Value) (w19 : Value) (w20 : Value) (w21 : Value) (w22 : Value) (w23 : Value) (w24 : Value) (w25 : Value) (w26 : Value) (w27 : Value) (w28 : Value) (w29 : Value) (w30 : Value) (w31 : Value) (w32 : Value) (w33 : Value) (w34 : Value) (w35 : Value) (w36 : Value) (w37 : Value) (w38 : Value) (w39 : Value) (w40 : Value) (w41 : Value) (w42 : Value) (w43 : Value) (w44 : Value) (w45 : Value) (w46 : Value) (w47 : Value) (w48 : Value) (w49 : Value), xE g [(h0, .inr (9, [.int u, w1, w2, w3, w4, w5, w6, w7, w8, w9, w10, w11, w12, w13, w14, w15, w16, w17, w18, w19, w20, w21, w22, w23, w24, w25, w26, w27, w28, w29, w30, w31, w32, w33, w34, w35, w36, w37, w38, w39, w40, w41, w42, w43, w44, w45, w46, w47, w48, w49]))] (va_A [(h0, .inr (9, [m0, m1, m2, .int 0, m4, m5, m6, m7, m8, m9, m10, m11, m12, m13, m14, m15, m16, m17, m18, m19, m20, m21, m22, m23, .int 0, m25, m26, m27, m28, m29, m30, m31, m32, m33, m34, m35, m36, m37, m38, m39, m40, m41, m42, m43, m44, m45, m46, m47, m48, m49]))] sz) t) (va_A [(h0, .inr (9, [m0, m1, m2, .int 0, m4, m5, m6, m7, m8, m9, m10, m11, m12, m13, m14, m15, m16, m17, m18, m19, m20, m21, m22, m23, .int 0, m25, m26, m27, m28, m29, m30, m31, m32, m33, m34, m35, m36, m37, m38, m39, m40, m41, m42, m43, m44, m45, m46, m47, m48, m49]))] sz)) 0 0 (va_A [(h0, .inr (9, [m0, m1, m2, .int 0, m4, m5, m6, m7, m8, m9, m10, m11, m12, m13, m14, m15, m16, m17, m18, m19, m20, m21, m22, m23, .int 0, m25, m26, m27, m28, m29, m30, m31, m32, m33, m34, m35, m36, m37, m38, m39, m40, m41, m42, m43, m44, m45, m46, m47, m48, m49]))] sz) := by
  refine Met.ofW (cc := cX9_placeOf) (maxL := 2) (ret := (some .int)) (by decide) rfl ?_
  intro p e s m args below meth c s₁ B hml hv
  obtain ⟨rfl, ⟨hsz, hP, hK, hD0⟩⟩ := hv
  have hx := B.exec
  have hb := B.bytes
  have hr := B.returns
  have hts := atoms_spec (ws := wsX9_placeOf) B.pre
  have hown : s.vm.findClass RX9 = some m.cls := findClass_of_methodNamed B.named
  have hlocks := B.notSynchronized
  subst hsz
  have hD := hD0.self (sz := s.heap.size)
  generalize hAe : va_A [(h0, .inr (9, [m0, m1, m2, .int 0, m4, m5, m6, m7, m8, m9, m10, m11, m12, m13, m14, m15, m16, m17, m18, m19, m20, m21, m22, m23, .int 0, m25, m26, m27, m28, m29, m30, m31, m32, m33, m34, m35, m36, m37, m38, m39, m40, m41, m42, m43, m44, m45, m46, m47, m48, m49]))] s.heap.size = A at hD ⊢
  have hA : ∀ q : Nat, s.heap.size ≤ q → A q := fun q h => by rw [← hAe]; exact Or.inr h
  have hS : va_S A s.heap s.heap [] := va_S.rf
  have hl := lv_entry ([.ref h0, .int p0]) (n := 2) (Nat.le_of_ble_eq_true rfl)
  rw [lg_entry_eq]
  generalize (lg_sl ([.ref h0, .int p0]) ++ List.replicate (2 - (lg_sl ([.ref h0, .int p0])).length) Slot.unset).toArray = ls at hl ⊢
  have hl : lv_has ls 2 [(0, .ref h0), (1, .int p0)] := hl
  have hFX9 : ∀ w ∈ u_ws RX9 TX9 50, w ∈ wsX9_placeOf := by decide +kernel
  refine lv_aload_n hx hb dX9_placeOf_0 rfl (lv_at hl 0 rfl) ?_
  refine lv_iload_n hx hb dX9_placeOf_1 rfl (lv_at hl 1 rfl) ?_
  refine lv_aload_n hx hb dX9_placeOf_2 rfl (lv_at hl 0 rfl) ?_
  refine va_get (D := xD g) (ci := 9) (v := .int 0) (C := RX9) (T := TX9) (N := 50) hx hb hts hFX9 hown hK hP 0 rfl rfl 3 (by decide) (hts (.fieldLink RX9 144 "StevedoreModel" "vessels" "I") (by decide +kernel)) (fun _ h9 => h9) rfl dX9_placeOf_3 ?_
  refine lv_iconst (v := 1) hx hb dX9_placeOf_6 (by decide) ?_
  refine lv_isub hx hb dX9_placeOf_7 ?_
  refine lv_topi (fun v_1 ev => ?_)
  obtain rfl : v_1 = ((-1) : Int32) := ev.trans (by decide)
  have hPc := hP.sub (ws' := [(h0, .inr (9, [m0, m1, m2, .int 0, m4, m5, m6, m7, m8, m9, m10, m11, m12, m13, m14, m15, m16, m17, m18, m19, m20, m21, m22, m23, .int 0, m25, m26, m27, m28, m29, m30, m31, m32, m33, m34, m35, m36, m37, m38, m39, m40, m41, m42, m43, m44, m45, m46, m47, m48, m49]))]) [0] rfl
  have hDc := hD.sub (ws' := [(h0, .inr (9, [m0, m1, m2, .int 0, m4, m5, m6, m7, m8, m9, m10, m11, m12, m13, m14, m15, m16, m17, m18, m19, m20, m21, m22, m23, .int 0, m25, m26, m27, m28, m29, m30, m31, m32, m33, m34, m35, m36, m37, m38, m39, m40, m41, m42, m43, m44, m45, m46, m47, m48, m49]))]) [0] (by decide) rfl
  have hFc := va_free (wc := [(h0, .inr (9, [m0, m1, m2, .int 0, m4, m5, m6, m7, m8, m9, m10, m11, m12, m13, m14, m15, m16, m17, m18, m19, m20, m21, m22, m23, .int 0, m25, m26, m27, m28, m29, m30, m31, m32, m33, m34, m35, m36, m37, m38, m39, m40, m41, m42, m43, m44, m45, m46, m47, m48, m49]))]) hD hS hA [0] rfl
  refine va_calli (va_runV (As := [.int p0, .int (-1)]) (rest := []) ⟨hx, hb, hml, hown, hts⟩ (m0_isUnplanned l g s.heap.size h0 m0 m1 m2 (.int 0) m4 m5 m6 m7 m8 m9 m10 m11 m12 m13 m14 m15 m16 m17 m18 m19 m20 m21 m22 m23 m25 m26 m27 m28 m29 m30 m31 m32 m33 m34 m35 m36 m37 m38 m39 m40 m41 m42 m43 m44 m45 m46 m47 m48 m49 p0 (-1)) (cwV 2 hts gX9_placeOf_X9_isUnplanned rfl rfl rfl (by decide +kernel) ⟨Nat.le_of_ble_eq_true rfl, Nat.le_of_ble_eq_true rfl⟩) ⟨xB.blind, va_recv hK hPc (ci := 9) (q0 := 0) rfl rfl, fun U9 hU9 hW9 => ⟨rfl, xB.mk hPc hK hDc hU9 hW9⟩⟩ rfl rfl hl.1 rfl (lv_room (Nat.le_of_ble_eq_true rfl)) dX9_placeOf_8 ⟨Nat.le_of_ble_eq_true rfl, Nat.le_of_ble_eq_true rfl⟩) hS (fun q _ h => hFc q h) hFc (fun r_2 u_3 t H1 locs ht hvm hw_4 hB hz1 hk1 hS => ?_)
  obtain ⟨hP1, hK1, hD1⟩ := hB
  rw [ht] at hP1
  obtain ⟨hP, hD⟩ := va_join (wr := []) (w1 := [(h0, .inr (9, [.int 1, m1, m2, .int 0, m4, m5, m6, m7, m8, m9, m10, m11, m12, m13, m14, m15, m16, m17, m18, m19, m20, m21, m22, m23, .int 0, m25, m26, m27, m28, m29, m30, m31, m32, m33, m34, m35, m36, m37, m38, m39, m40, m41, m42, m43, m44, m45, m46, m47, m48, m49]))]) hP hD [0] [] rfl rfl (by decide) (by decide) hk1 hFc hP1 hD1
  generalize H1 = H at hP hS ⊢
  have hP : va_P (xD g) vwCl [(h0, .inr (9, [.int 1, m1, m2, .int 0, m4, m5, m6, m7, m8, m9, m10, m11, m12, m13, m14, m15, m16, m17, m18, m19, m20, m21, m22, m23, .int 0, m25, m26, m27, m28, m29, m30, m31, m32, m33, m34, m35, m36, m37, m38, m39, m40, m41, m42, m43, m44, m45, m46, m47, m48, m49]))] H := hP
  have hD : va_D A [(h0, .inr (9, [.int 1, m1, m2, .int 0, m4, m5, m6, m7, m8, m9, m10, m11, m12, m13, m14, m15, m16, m17, m18, m19, m20, m21, m22, m23, .int 0, m25, m26, m27, m28, m29, m30, m31, m32, m33, m34, m35, m36, m37, m38, m39, m40, m41, m42, m43, m44, m45, m46, m47, m48, m49]))] := hD
  try dsimp only at hw_4
  obtain rfl := hw_4
  refine lv_if_eq (tgt := 18) hx hb dX9_placeOf_11 (by decide) (fun c0 => absurd c0 (by decide)) (fun _ => ?_)
  refine lv_iconst (v := 0) hx hb dX9_placeOf_14 (by decide) ?_
  refine lv_goto (tgt := 24) hx hb dX9_placeOf_15 (by decide) ?_
  have hP9 := hP.sub (ws' := [(h0, .inr (9, [.int 1, m1, m2, .int 0, m4, m5, m6, m7, m8, m9, m10, m11, m12, m13, m14, m15, m16, m17, m18, m19, m20, m21, m22, m23, .int 0, m25, m26, m27, m28, m29, m30, m31, m32, m33, m34, m35, m36, m37, m38, m39, m40, m41, m42, m43, m44, m45, m46, m47, m48, m49]))]) [0] rfl
  have hD9 := hD.sub (ws' := [(h0, .inr (9, [.int 1, m1, m2, .int 0, m4, m5, m6, m7, m8, m9, m10, m11, m12, m13, m14, m15, m16, m17, m18, m19, m20, m21, m22, m23, .int 0, m25, m26, m27, m28, m29, m30, m31, m32, m33, m34, m35, m36, m37, m38, m39, m40, m41, m42, m43, m44, m45, m46, m47, m48, m49]))]) [0] (by decide) rfl
  exact W.iret (v := 0) hx hb hr (fun t ht hW => ⟨⟨0, 1, rfl, ⟨rfl, rfl⟩, ⟨m1, m2, (.int 0), m4, m5, m6, m7, m8, m9, m10, m11, m12, m13, m14, m15, m16, m17, m18, m19, m20, m21, m22, m23, (.int 0), m25, m26, m27, m28, m29, m30, m31, m32, m33, m34, m35, m36, m37, m38, m39, m40, m41, m42, m43, m44, m45, m46, m47, m48, m49, by rw [ht]; exact hP9, va_K.moved hW.alike hK, hD9⟩⟩, hS.F ht⟩) hS.2.2 dX9_placeOf_24
theorem dX9_vesselAt_0 : decode cX9_vesselAt 0 = .ok (.aload_n 0, 1) := by decide +kernel
theorem dX9_vesselAt_1 : decode cX9_vesselAt 1 = .ok (.iload_n 1, 1) := by decide +kernel
theorem dX9_vesselAt_2 : decode cX9_vesselAt 2 = .ok (.aload_n 0, 1) := by decide +kernel
theorem dX9_vesselAt_3 : decode cX9_vesselAt 3 = .ok (.getfield 7, 3) := by decide +kernel
theorem dX9_vesselAt_6 : decode cX9_vesselAt 6 = .ok (.iconst 1, 1) := by decide +kernel
theorem dX9_vesselAt_7 : decode cX9_vesselAt 7 = .ok (.isub, 1) := by decide +kernel
theorem dX9_vesselAt_8 : decode cX9_vesselAt 8 = .ok (.invokevirtual 259, 3) := by decide +kernel
set_option maxRecDepth 20000 in
theorem ggX9_vesselAt_X9_isUnplanned : GoodIn wsX9_vesselAt wsX9_isUnplanned := goodIn_r _ [9, 10, 11, 12, 13, 8, 14, 15, 16, 17, 18, 19, 20, 21, 22, 66, 67, 68, 69, 70, 71, 72, 73, 74, 75, 76, 77, 78, 79, 80, 81, 82, 83, 84, 85, 86, 87, 88, 89, 90, 91, 92, 93, 94, 95, 96, 97, 98, 99, 100, 101, 102, 103, 104, 105, 106, 107, 108, 109, 110, 111, 112, 113, 114, 115] rfl (by decide +kernel)
set_option maxRecDepth 20000 in
theorem gX9_vesselAt_X9_isUnplanned : GoodIn wsX9_vesselAt (wsV RX9 259 RX9 yX9_isUnplanned wsX9_isUnplanned) := goodIn_app (goodIn_of _ (by decide +kernel)) ggX9_vesselAt_X9_isUnplanned
theorem dX9_vesselAt_11 : decode cX9_vesselAt 11 = .ok (.ifCond .eq 5, 3) := by decide +kernel
theorem dX9_vesselAt_14 : decode cX9_vesselAt 14 = .ok (.iconst 0, 1) := by decide +kernel
theorem dX9_vesselAt_15 : decode cX9_vesselAt 15 = .ok (.ireturn, 1) := by decide +kernel
set_option maxHeartbeats 4000000 in
set_option maxRecDepth 100000 in
theorem m0_vesselAt (l : Launch) (g : xG) (sz : Nat) (h0 : Nat) (m0 : Value) (m2 : Value) (m3 : Value) (m4 : Value) (m5 : Value) (m6 : Value) (m7 : Value) (m8 : Value) (m9 : Value) (m10 : Value) (m11 : Value) (m12 : Value) (m13 : Value) (m14 : Value) (m15 : Value) (m16 : Value) (m17 : Value) (m18 : Value) (m19 : Value) (m20 : Value) (m21 : Value) (m22 : Value) (m23 : Value) (m25 : Value) (m26 : Value) (m27 : Value) (m28 : Value) (m29 : Value) (m30 : Value) (m31 : Value) (m32 : Value) (m33 : Value) (m34 : Value) (m35 : Value) (m36 : Value) (m37 : Value) (m38 : Value) (m39 : Value) (m40 : Value) (m41 : Value) (m42 : Value) (m43 : Value) (m44 : Value) (m45 : Value) (m46 : Value) (m47 : Value) (m48 : Value) (m49 : Value) (p0 : Int32) (p1 : Int32)  : Met l yX9_vesselAt wsX9_vesselAt ({ frames := 3, cells := 0, slots := 0, locals := 66 }) (va_Pc [.ref h0, .int p0, .int p1] (fun U => xB g [(h0, .inr (9, [m0, .int 20, m2, m3, m4, m5, m6, m7, m8, m9, m10, m11, m12, m13, m14, m15, m16, m17, m18, m19, m20, m21, m22, m23, .int 0, m25, m26, m27, m28, m29, m30, m31, m32, m33, m34, m35, m36, m37, m38, m39, m40, m41, m42, m43, m44, m45, m46, m47, m48, m49]))] sz U)) (va_Qi (fun (r : Int32) (u : Int32) => u = 1 ∧ r = 0) (fun (u : Int32) (t : State) => ∃ (w1 : Value) (w2 : Value) (w3 : Value) (w4 : Value) (w5 : Value) (w6 : Value) (w7 : Value) (w8 : Value) (w9 : Value) (w10 : Value) (w11 : Value) (w12 : Value) (w13 : Value) (w14 : Value) (w15 : Value) (w16 : Value) (w17 : Value) (w18 : Value) (w19 : Value) (w20 : Value) (w21 : Value) (w22 : Value) (w23 : Value) (w24 : Value) (w25 : Value) (w26 : Value) (w27 : Value) (w28 : Value) (w29 : Value) (w30 : Value) (w31 : Value) (w32 : Value) (w33 : Value) (w34 : Value) (w35 : Value) (w36 : Value) (w37 : Value) (w38 : Value) (w39 : Value) (w40 : Value) (w41 : Value) (w42 : Value) (w43 : Value) (w44 : Value) (w45 : Value) (w46 : Value) (w47 : Value) (w48 : Value) (w49 : Value), xE g [(h0, .inr (9, [.int u, w1, w2, w3, w4, w5, w6, w7, w8, w9, w10, w11, w12, w13, w14, w15, w16, w17, w18, w19, w20, w21, w22, w23, w24, w25, w26, w27, w28, w29, w30, w31, w32, w33, w34, w35, w36, w37, w38, w39, w40, w41, w42, w43, w44, w45, w46, w47, w48, w49]))] (va_A [(h0, .inr (9, [m0, .int 20, m2, m3, m4, m5, m6, m7, m8, m9, m10, m11, m12, m13, m14, m15, m16, m17, m18, m19, m20, m21, m22, m23, .int 0, m25, m26, m27, m28, m29, m30, m31, m32, m33, m34, m35, m36, m37, m38, m39, m40, m41, m42, m43, m44, m45, m46, m47, m48, m49]))] sz) t) (va_A [(h0, .inr (9, [m0, .int 20, m2, m3, m4, m5, m6, m7, m8, m9, m10, m11, m12, m13, m14, m15, m16, m17, m18, m19, m20, m21, m22, m23, .int 0, m25, m26, m27, m28, m29, m30, m31, m32, m33, m34, m35, m36, m37, m38, m39, m40, m41, m42, m43, m44, m45, m46, m47, m48, m49]))] sz)) 0 0 (va_A [(h0, .inr (9, [m0, .int 20, m2, m3, m4, m5, m6, m7, m8, m9, m10, m11, m12, m13, m14, m15, m16, m17, m18, m19, m20, m21, m22, m23, .int 0, m25, m26, m27, m28, m29, m30, m31, m32, m33, m34, m35, m36, m37, m38, m39, m40, m41, m42, m43, m44, m45, m46, m47, m48, m49]))] sz) := by
  refine Met.ofW (cc := cX9_vesselAt) (maxL := 4) (ret := (some .int)) (by decide) rfl ?_
  intro p e s m args below meth c s₁ B hml hv
  obtain ⟨rfl, ⟨hsz, hP, hK, hD0⟩⟩ := hv
  have hx := B.exec
  have hb := B.bytes
  have hr := B.returns
  have hts := atoms_spec (ws := wsX9_vesselAt) B.pre
  have hown : s.vm.findClass RX9 = some m.cls := findClass_of_methodNamed B.named
  have hlocks := B.notSynchronized
  subst hsz
  have hD := hD0.self (sz := s.heap.size)
  generalize hAe : va_A [(h0, .inr (9, [m0, .int 20, m2, m3, m4, m5, m6, m7, m8, m9, m10, m11, m12, m13, m14, m15, m16, m17, m18, m19, m20, m21, m22, m23, .int 0, m25, m26, m27, m28, m29, m30, m31, m32, m33, m34, m35, m36, m37, m38, m39, m40, m41, m42, m43, m44, m45, m46, m47, m48, m49]))] s.heap.size = A at hD ⊢
  have hA : ∀ q : Nat, s.heap.size ≤ q → A q := fun q h => by rw [← hAe]; exact Or.inr h
  have hS : va_S A s.heap s.heap [] := va_S.rf
  have hl := lv_entry ([.ref h0, .int p0, .int p1]) (n := 4) (Nat.le_of_ble_eq_true rfl)
  rw [lg_entry_eq]
  generalize (lg_sl ([.ref h0, .int p0, .int p1]) ++ List.replicate (4 - (lg_sl ([.ref h0, .int p0, .int p1])).length) Slot.unset).toArray = ls at hl ⊢
  have hl : lv_has ls 4 [(0, .ref h0), (1, .int p0), (2, .int p1)] := hl
  have hFX9 : ∀ w ∈ u_ws RX9 TX9 50, w ∈ wsX9_vesselAt := by decide +kernel
  refine lv_aload_n hx hb dX9_vesselAt_0 rfl (lv_at hl 0 rfl) ?_
  refine lv_iload_n hx hb dX9_vesselAt_1 rfl (lv_at hl 1 rfl) ?_
  refine lv_aload_n hx hb dX9_vesselAt_2 rfl (lv_at hl 0 rfl) ?_
  refine va_get (D := xD g) (ci := 9) (v := .int 20) (C := RX9) (T := TX9) (N := 50) hx hb hts hFX9 hown hK hP 0 rfl rfl 1 (by decide) (hts (.fieldLink RX9 7 "StevedoreModel" "berths" "I") (by decide +kernel)) (fun _ h9 => h9) rfl dX9_vesselAt_3 ?_
  refine lv_iconst (v := 1) hx hb dX9_vesselAt_6 (by decide) ?_
  refine lv_isub hx hb dX9_vesselAt_7 ?_
  refine lv_topi (fun v_1 ev => ?_)
  obtain rfl : v_1 = (19 : Int32) := ev.trans (by decide)
  have hPc := hP.sub (ws' := [(h0, .inr (9, [m0, .int 20, m2, m3, m4, m5, m6, m7, m8, m9, m10, m11, m12, m13, m14, m15, m16, m17, m18, m19, m20, m21, m22, m23, .int 0, m25, m26, m27, m28, m29, m30, m31, m32, m33, m34, m35, m36, m37, m38, m39, m40, m41, m42, m43, m44, m45, m46, m47, m48, m49]))]) [0] rfl
  have hDc := hD.sub (ws' := [(h0, .inr (9, [m0, .int 20, m2, m3, m4, m5, m6, m7, m8, m9, m10, m11, m12, m13, m14, m15, m16, m17, m18, m19, m20, m21, m22, m23, .int 0, m25, m26, m27, m28, m29, m30, m31, m32, m33, m34, m35, m36, m37, m38, m39, m40, m41, m42, m43, m44, m45, m46, m47, m48, m49]))]) [0] (by decide) rfl
  have hFc := va_free (wc := [(h0, .inr (9, [m0, .int 20, m2, m3, m4, m5, m6, m7, m8, m9, m10, m11, m12, m13, m14, m15, m16, m17, m18, m19, m20, m21, m22, m23, .int 0, m25, m26, m27, m28, m29, m30, m31, m32, m33, m34, m35, m36, m37, m38, m39, m40, m41, m42, m43, m44, m45, m46, m47, m48, m49]))]) hD hS hA [0] rfl
  refine va_calli (va_runV (As := [.int p0, .int 19]) (rest := []) ⟨hx, hb, hml, hown, hts⟩ (m0_isUnplanned l g s.heap.size h0 m0 (.int 20) m2 m3 m4 m5 m6 m7 m8 m9 m10 m11 m12 m13 m14 m15 m16 m17 m18 m19 m20 m21 m22 m23 m25 m26 m27 m28 m29 m30 m31 m32 m33 m34 m35 m36 m37 m38 m39 m40 m41 m42 m43 m44 m45 m46 m47 m48 m49 p0 19) (cwV 2 hts gX9_vesselAt_X9_isUnplanned rfl rfl rfl (by decide +kernel) ⟨Nat.le_of_ble_eq_true rfl, Nat.le_of_ble_eq_true rfl⟩) ⟨xB.blind, va_recv hK hPc (ci := 9) (q0 := 0) rfl rfl, fun U9 hU9 hW9 => ⟨rfl, xB.mk hPc hK hDc hU9 hW9⟩⟩ rfl rfl hl.1 rfl (lv_room (Nat.le_of_ble_eq_true rfl)) dX9_vesselAt_8 ⟨Nat.le_of_ble_eq_true rfl, Nat.le_of_ble_eq_true rfl⟩) hS (fun q _ h => hFc q h) hFc (fun r_2 u_3 t H1 locs ht hvm hw_4 hB hz1 hk1 hS => ?_)
  obtain ⟨hP1, hK1, hD1⟩ := hB
  rw [ht] at hP1
  obtain ⟨hP, hD⟩ := va_join (wr := []) (w1 := [(h0, .inr (9, [.int 1, .int 20, m2, m3, m4, m5, m6, m7, m8, m9, m10, m11, m12, m13, m14, m15, m16, m17, m18, m19, m20, m21, m22, m23, .int 0, m25, m26, m27, m28, m29, m30, m31, m32, m33, m34, m35, m36, m37, m38, m39, m40, m41, m42, m43, m44, m45, m46, m47, m48, m49]))]) hP hD [0] [] rfl rfl (by decide) (by decide) hk1 hFc hP1 hD1
  generalize H1 = H at hP hS ⊢
  have hP : va_P (xD g) vwCl [(h0, .inr (9, [.int 1, .int 20, m2, m3, m4, m5, m6, m7, m8, m9, m10, m11, m12, m13, m14, m15, m16, m17, m18, m19, m20, m21, m22, m23, .int 0, m25, m26, m27, m28, m29, m30, m31, m32, m33, m34, m35, m36, m37, m38, m39, m40, m41, m42, m43, m44, m45, m46, m47, m48, m49]))] H := hP
  have hD : va_D A [(h0, .inr (9, [.int 1, .int 20, m2, m3, m4, m5, m6, m7, m8, m9, m10, m11, m12, m13, m14, m15, m16, m17, m18, m19, m20, m21, m22, m23, .int 0, m25, m26, m27, m28, m29, m30, m31, m32, m33, m34, m35, m36, m37, m38, m39, m40, m41, m42, m43, m44, m45, m46, m47, m48, m49]))] := hD
  try dsimp only at hw_4
  obtain rfl := hw_4
  refine lv_if_eq (tgt := 16) hx hb dX9_vesselAt_11 (by decide) (fun c0 => absurd c0 (by decide)) (fun _ => ?_)
  refine lv_iconst (v := 0) hx hb dX9_vesselAt_14 (by decide) ?_
  have hP9 := hP.sub (ws' := [(h0, .inr (9, [.int 1, .int 20, m2, m3, m4, m5, m6, m7, m8, m9, m10, m11, m12, m13, m14, m15, m16, m17, m18, m19, m20, m21, m22, m23, .int 0, m25, m26, m27, m28, m29, m30, m31, m32, m33, m34, m35, m36, m37, m38, m39, m40, m41, m42, m43, m44, m45, m46, m47, m48, m49]))]) [0] rfl
  have hD9 := hD.sub (ws' := [(h0, .inr (9, [.int 1, .int 20, m2, m3, m4, m5, m6, m7, m8, m9, m10, m11, m12, m13, m14, m15, m16, m17, m18, m19, m20, m21, m22, m23, .int 0, m25, m26, m27, m28, m29, m30, m31, m32, m33, m34, m35, m36, m37, m38, m39, m40, m41, m42, m43, m44, m45, m46, m47, m48, m49]))]) [0] (by decide) rfl
  exact W.iret (v := 0) hx hb hr (fun t ht hW => ⟨⟨0, 1, rfl, ⟨rfl, rfl⟩, ⟨(.int 20), m2, m3, m4, m5, m6, m7, m8, m9, m10, m11, m12, m13, m14, m15, m16, m17, m18, m19, m20, m21, m22, m23, (.int 0), m25, m26, m27, m28, m29, m30, m31, m32, m33, m34, m35, m36, m37, m38, m39, m40, m41, m42, m43, m44, m45, m46, m47, m48, m49, by rw [ht]; exact hP9, va_K.moved hW.alike hK, hD9⟩⟩, hS.F ht⟩) hS.2.2 dX9_vesselAt_15
theorem dX9_cranesAt_0 : decode cX9_cranesAt 0 = .ok (.aload_n 0, 1) := by decide +kernel
theorem dX9_cranesAt_1 : decode cX9_cranesAt 1 = .ok (.aload_n 0, 1) := by decide +kernel
theorem dX9_cranesAt_2 : decode cX9_cranesAt 2 = .ok (.getfield 118, 3) := by decide +kernel
theorem dX9_cranesAt_5 : decode cX9_cranesAt 5 = .ok (.ifCond .ne 7, 3) := by decide +kernel
theorem dX9_cranesAt_8 : decode cX9_cranesAt 8 = .ok (.iconst 1, 1) := by decide +kernel
theorem dX9_cranesAt_9 : decode cX9_cranesAt 9 = .ok (.goto 4, 3) := by decide +kernel
theorem dX9_cranesAt_13 : decode cX9_cranesAt 13 = .ok (.iconst 1, 1) := by decide +kernel
theorem dX9_cranesAt_14 : decode cX9_cranesAt 14 = .ok (.invokevirtual 138, 3) := by decide +kernel
set_option maxRecDepth 20000 in
theorem ggX9_cranesAt_X9_start : GoodIn wsX9_cranesAt wsX9_start := goodIn_r _ [8, 9, 10, 11, 12, 7, 13, 60, 61, 62, 63, 64, 65, 66, 67, 68, 69, 70, 71, 72, 73, 74, 75, 76, 77, 78, 79, 80, 81, 82, 83, 84, 85, 86, 87, 88, 89, 90, 91, 92, 93, 94, 95, 96, 97, 98, 99, 100, 101, 102, 103, 104, 105, 106, 107, 108, 109] rfl (by decide +kernel)
set_option maxRecDepth 20000 in
theorem gX9_cranesAt_X9_start : GoodIn wsX9_cranesAt (wsV RX9 138 RX9 yX9_start wsX9_start) := goodIn_app (goodIn_of _ (by decide +kernel)) ggX9_cranesAt_X9_start
theorem dX9_cranesAt_17 : decode cX9_cranesAt 17 = .ok (.ifCond .eq 5, 3) := by decide +kernel
theorem dX9_cranesAt_20 : decode cX9_cranesAt 20 = .ok (.iconst 0, 1) := by decide +kernel
theorem dX9_cranesAt_21 : decode cX9_cranesAt 21 = .ok (.ireturn, 1) := by decide +kernel
set_option maxHeartbeats 4000000 in
set_option maxRecDepth 100000 in
theorem m0_cranesAt (l : Launch) (g : xG) (sz : Nat) (h0 : Nat) (m0 : Value) (m1 : Value) (m2 : Value) (m3 : Value) (m4 : Value) (m5 : Value) (m6 : Value) (m7 : Value) (m8 : Value) (m9 : Value) (m10 : Value) (m11 : Value) (m12 : Value) (m13 : Value) (m14 : Value) (m15 : Value) (m16 : Value) (m17 : Value) (m18 : Value) (m19 : Value) (m20 : Value) (m21 : Value) (m22 : Value) (m23 : Value) (m25 : Value) (m26 : Value) (m27 : Value) (m28 : Value) (m29 : Value) (m30 : Value) (m31 : Value) (m32 : Value) (m33 : Value) (m34 : Value) (m35 : Value) (m36 : Value) (m37 : Value) (m38 : Value) (m39 : Value) (m40 : Value) (m41 : Value) (m42 : Value) (m43 : Value) (m44 : Value) (m45 : Value) (m46 : Value) (m47 : Value) (m48 : Value) (m49 : Value) (p0 : Int32)  : Met l yX9_cranesAt wsX9_cranesAt ({ frames := 2, cells := 0, slots := 0, locals := 44 }) (va_Pc [.ref h0, .int p0] (fun U => xB g [(h0, .inr (9, [m0, m1, m2, m3, m4, m5, m6, m7, m8, m9, m10, m11, m12, m13, m14, m15, m16, m17, m18, m19, m20, m21, m22, m23, .int 0, m25, m26, m27, m28, m29, m30, m31, m32, m33, m34, m35, m36, m37, m38, m39, m40, m41, m42, m43, m44, m45, m46, m47, m48, m49]))] sz U)) (va_Qi (fun (r : Int32) (u : Int32) => u = 1 ∧ r = 0) (fun (u : Int32) (t : State) => ∃ (w1 : Value) (w2 : Value) (w3 : Value) (w4 : Value) (w5 : Value) (w6 : Value) (w7 : Value) (w8 : Value) (w9 : Value) (w10 : Value) (w11 : Value) (w12 : Value) (w13 : Value) (w14 : Value) (w15 : Value) (w16 : Value) (w17 : Value) (w18 : Value) (w19 : Value) (w20 : Value) (w21 : Value) (w22 : Value) (w23 : Value) (w24 : Value) (w25 : Value) (w26 : Value) (w27 : Value) (w28 : Value) (w29 : Value) (w30 : Value) (w31 : Value) (w32 : Value) (w33 : Value) (w34 : Value) (w35 : Value) (w36 : Value) (w37 : Value) (w38 : Value) (w39 : Value) (w40 : Value) (w41 : Value) (w42 : Value) (w43 : Value) (w44 : Value) (w45 : Value) (w46 : Value) (w47 : Value) (w48 : Value) (w49 : Value), xE g [(h0, .inr (9, [.int u, w1, w2, w3, w4, w5, w6, w7, w8, w9, w10, w11, w12, w13, w14, w15, w16, w17, w18, w19, w20, w21, w22, w23, w24, w25, w26, w27, w28, w29, w30, w31, w32, w33, w34, w35, w36, w37, w38, w39, w40, w41, w42, w43, w44, w45, w46, w47, w48, w49]))] (va_A [(h0, .inr (9, [m0, m1, m2, m3, m4, m5, m6, m7, m8, m9, m10, m11, m12, m13, m14, m15, m16, m17, m18, m19, m20, m21, m22, m23, .int 0, m25, m26, m27, m28, m29, m30, m31, m32, m33, m34, m35, m36, m37, m38, m39, m40, m41, m42, m43, m44, m45, m46, m47, m48, m49]))] sz) t) (va_A [(h0, .inr (9, [m0, m1, m2, m3, m4, m5, m6, m7, m8, m9, m10, m11, m12, m13, m14, m15, m16, m17, m18, m19, m20, m21, m22, m23, .int 0, m25, m26, m27, m28, m29, m30, m31, m32, m33, m34, m35, m36, m37, m38, m39, m40, m41, m42, m43, m44, m45, m46, m47, m48, m49]))] sz)) 0 0 (va_A [(h0, .inr (9, [m0, m1, m2, m3, m4, m5, m6, m7, m8, m9, m10, m11, m12, m13, m14, m15, m16, m17, m18, m19, m20, m21, m22, m23, .int 0, m25, m26, m27, m28, m29, m30, m31, m32, m33, m34, m35, m36, m37, m38, m39, m40, m41, m42, m43, m44, m45, m46, m47, m48, m49]))] sz) := by
  refine Met.ofW (cc := cX9_cranesAt) (maxL := 4) (ret := (some .int)) (by decide) rfl ?_
  intro p e s m args below meth c s₁ B hml hv
  obtain ⟨rfl, ⟨hsz, hP, hK, hD0⟩⟩ := hv
  have hx := B.exec
  have hb := B.bytes
  have hr := B.returns
  have hts := atoms_spec (ws := wsX9_cranesAt) B.pre
  have hown : s.vm.findClass RX9 = some m.cls := findClass_of_methodNamed B.named
  have hlocks := B.notSynchronized
  subst hsz
  have hD := hD0.self (sz := s.heap.size)
  generalize hAe : va_A [(h0, .inr (9, [m0, m1, m2, m3, m4, m5, m6, m7, m8, m9, m10, m11, m12, m13, m14, m15, m16, m17, m18, m19, m20, m21, m22, m23, .int 0, m25, m26, m27, m28, m29, m30, m31, m32, m33, m34, m35, m36, m37, m38, m39, m40, m41, m42, m43, m44, m45, m46, m47, m48, m49]))] s.heap.size = A at hD ⊢
  have hA : ∀ q : Nat, s.heap.size ≤ q → A q := fun q h => by rw [← hAe]; exact Or.inr h
  have hS : va_S A s.heap s.heap [] := va_S.rf
  have hl := lv_entry ([.ref h0, .int p0]) (n := 4) (Nat.le_of_ble_eq_true rfl)
  rw [lg_entry_eq]
  generalize (lg_sl ([.ref h0, .int p0]) ++ List.replicate (4 - (lg_sl ([.ref h0, .int p0])).length) Slot.unset).toArray = ls at hl ⊢
  have hl : lv_has ls 4 [(0, .ref h0), (1, .int p0)] := hl
  have hFX9 : ∀ w ∈ u_ws RX9 TX9 50, w ∈ wsX9_cranesAt := by decide +kernel
  refine lv_aload_n hx hb dX9_cranesAt_0 rfl (lv_at hl 0 rfl) ?_
  refine lv_aload_n hx hb dX9_cranesAt_1 rfl (lv_at hl 0 rfl) ?_
  refine va_get (D := xD g) (ci := 9) (v := .int 0) (C := RX9) (T := TX9) (N := 50) hx hb hts hFX9 hown hK hP 0 rfl rfl 24 (by decide) (hts (.fieldLink RX9 118 "StevedoreModel" "isPlanned" "Z") (by decide +kernel)) (fun _ h9 => h9) rfl dX9_cranesAt_2 ?_
  refine lv_if_ne (tgt := 12) hx hb dX9_cranesAt_5 (by decide) (fun c0 => absurd (by decide) c0) (fun _ => ?_)
  refine lv_iconst (v := 1) hx hb dX9_cranesAt_8 (by decide) ?_
  refine lv_goto (tgt := 13) hx hb dX9_cranesAt_9 (by decide) ?_
  refine lv_iconst (v := 1) hx hb dX9_cranesAt_13 (by decide) ?_
  have hPc := hP.sub (ws' := [(h0, .inr (9, [m0, m1, m2, m3, m4, m5, m6, m7, m8, m9, m10, m11, m12, m13, m14, m15, m16, m17, m18, m19, m20, m21, m22, m23, .int 0, m25, m26, m27, m28, m29, m30, m31, m32, m33, m34, m35, m36, m37, m38, m39, m40, m41, m42, m43, m44, m45, m46, m47, m48, m49]))]) [0] rfl
  have hDc := hD.sub (ws' := [(h0, .inr (9, [m0, m1, m2, m3, m4, m5, m6, m7, m8, m9, m10, m11, m12, m13, m14, m15, m16, m17, m18, m19, m20, m21, m22, m23, .int 0, m25, m26, m27, m28, m29, m30, m31, m32, m33, m34, m35, m36, m37, m38, m39, m40, m41, m42, m43, m44, m45, m46, m47, m48, m49]))]) [0] (by decide) rfl
  have hFc := va_free (wc := [(h0, .inr (9, [m0, m1, m2, m3, m4, m5, m6, m7, m8, m9, m10, m11, m12, m13, m14, m15, m16, m17, m18, m19, m20, m21, m22, m23, .int 0, m25, m26, m27, m28, m29, m30, m31, m32, m33, m34, m35, m36, m37, m38, m39, m40, m41, m42, m43, m44, m45, m46, m47, m48, m49]))]) hD hS hA [0] rfl
  refine va_calli (va_runV (As := [.int 1, .int 1]) (rest := []) ⟨hx, hb, hml, hown, hts⟩ (m_start1 l g s.heap.size h0 m0 m1 m2 m3 m4 m5 m6 m7 m8 m9 m10 m11 m12 m13 m14 m15 m16 m17 m18 m19 m20 m21 m22 m23 (.int 0) m25 m26 m27 m28 m29 m30 m31 m32 m33 m34 m35 m36 m37 m38 m39 m40 m41 m42 m43 m44 m45 m46 m47 m48 m49 1 (by first | assumption | decide | omega | simp_all)) (cwV 2 hts gX9_cranesAt_X9_start rfl rfl rfl (by decide +kernel) ⟨Nat.le_of_ble_eq_true rfl, Nat.le_of_ble_eq_true rfl⟩) ⟨xB.blind, va_recv hK hPc (ci := 9) (q0 := 0) rfl rfl, fun U9 hU9 hW9 => ⟨rfl, xB.mk hPc hK hDc hU9 hW9⟩⟩ rfl rfl hl.1 rfl (lv_room (Nat.le_of_ble_eq_true rfl)) dX9_cranesAt_14 ⟨Nat.le_of_ble_eq_true rfl, Nat.le_of_ble_eq_true rfl⟩) hS (fun q _ h => hFc q h) hFc (fun r_1 u_2 t H1 locs ht hvm hw_3 hB hz1 hk1 hS => ?_)
  obtain ⟨hP1, hK1, hD1⟩ := hB
  rw [ht] at hP1
  obtain ⟨hP, hD⟩ := va_join (wr := []) (w1 := [(h0, .inr (9, [.int 1, m1, m2, m3, m4, m5, m6, m7, m8, m9, m10, m11, m12, m13, m14, m15, m16, m17, m18, m19, m20, m21, m22, m23, .int 0, m25, m26, m27, m28, m29, m30, m31, m32, m33, m34, m35, m36, m37, m38, m39, m40, m41, m42, m43, m44, m45, m46, m47, m48, m49]))]) hP hD [0] [] rfl rfl (by decide) (by decide) hk1 hFc hP1 hD1
  generalize H1 = H at hP hS ⊢
  have hP : va_P (xD g) vwCl [(h0, .inr (9, [.int 1, m1, m2, m3, m4, m5, m6, m7, m8, m9, m10, m11, m12, m13, m14, m15, m16, m17, m18, m19, m20, m21, m22, m23, .int 0, m25, m26, m27, m28, m29, m30, m31, m32, m33, m34, m35, m36, m37, m38, m39, m40, m41, m42, m43, m44, m45, m46, m47, m48, m49]))] H := hP
  have hD : va_D A [(h0, .inr (9, [.int 1, m1, m2, m3, m4, m5, m6, m7, m8, m9, m10, m11, m12, m13, m14, m15, m16, m17, m18, m19, m20, m21, m22, m23, .int 0, m25, m26, m27, m28, m29, m30, m31, m32, m33, m34, m35, m36, m37, m38, m39, m40, m41, m42, m43, m44, m45, m46, m47, m48, m49]))] := hD
  try dsimp only at hw_3
  obtain rfl := hw_3
  refine lv_if_eq (tgt := 22) hx hb dX9_cranesAt_17 (by decide) (fun c0 => absurd c0 (by decide)) (fun _ => ?_)
  refine lv_iconst (v := 0) hx hb dX9_cranesAt_20 (by decide) ?_
  have hP9 := hP.sub (ws' := [(h0, .inr (9, [.int 1, m1, m2, m3, m4, m5, m6, m7, m8, m9, m10, m11, m12, m13, m14, m15, m16, m17, m18, m19, m20, m21, m22, m23, .int 0, m25, m26, m27, m28, m29, m30, m31, m32, m33, m34, m35, m36, m37, m38, m39, m40, m41, m42, m43, m44, m45, m46, m47, m48, m49]))]) [0] rfl
  have hD9 := hD.sub (ws' := [(h0, .inr (9, [.int 1, m1, m2, m3, m4, m5, m6, m7, m8, m9, m10, m11, m12, m13, m14, m15, m16, m17, m18, m19, m20, m21, m22, m23, .int 0, m25, m26, m27, m28, m29, m30, m31, m32, m33, m34, m35, m36, m37, m38, m39, m40, m41, m42, m43, m44, m45, m46, m47, m48, m49]))]) [0] (by decide) rfl
  exact W.iret (v := 0) hx hb hr (fun t ht hW => ⟨⟨0, 1, rfl, ⟨rfl, rfl⟩, ⟨m1, m2, m3, m4, m5, m6, m7, m8, m9, m10, m11, m12, m13, m14, m15, m16, m17, m18, m19, m20, m21, m22, m23, (.int 0), m25, m26, m27, m28, m29, m30, m31, m32, m33, m34, m35, m36, m37, m38, m39, m40, m41, m42, m43, m44, m45, m46, m47, m48, m49, by rw [ht]; exact hP9, va_K.moved hW.alike hK, hD9⟩⟩, hS.F ht⟩) hS.2.2 dX9_cranesAt_21
theorem dX9_movedAt_0 : decode cX9_movedAt 0 = .ok (.aload_n 0, 1) := by decide +kernel
theorem dX9_movedAt_1 : decode cX9_movedAt 1 = .ok (.iload_n 1, 1) := by decide +kernel
theorem dX9_movedAt_2 : decode cX9_movedAt 2 = .ok (.aload_n 0, 1) := by decide +kernel
theorem dX9_movedAt_3 : decode cX9_movedAt 3 = .ok (.getfield 155, 3) := by decide +kernel
theorem dX9_movedAt_6 : decode cX9_movedAt 6 = .ok (.iconst 1, 1) := by decide +kernel
theorem dX9_movedAt_7 : decode cX9_movedAt 7 = .ok (.isub, 1) := by decide +kernel
theorem dX9_movedAt_8 : decode cX9_movedAt 8 = .ok (.invokevirtual 259, 3) := by decide +kernel
set_option maxRecDepth 20000 in
theorem ggX9_movedAt_X9_isUnplanned : GoodIn wsX9_movedAt wsX9_isUnplanned := goodIn_r _ [6, 7, 8, 9, 10, 5, 11, 12, 13, 14, 15, 16, 17, 18, 19, 68, 69, 70, 71, 72, 73, 74, 75, 76, 77, 78, 79, 80, 81, 82, 83, 84, 85, 86, 87, 88, 89, 90, 91, 92, 93, 94, 95, 96, 97, 98, 99, 100, 101, 102, 103, 104, 105, 106, 107, 108, 109, 110, 111, 112, 113, 114, 115, 116, 117] rfl (by decide +kernel)
set_option maxRecDepth 20000 in
theorem gX9_movedAt_X9_isUnplanned : GoodIn wsX9_movedAt (wsV RX9 259 RX9 yX9_isUnplanned wsX9_isUnplanned) := goodIn_app (goodIn_of _ (by decide +kernel)) ggX9_movedAt_X9_isUnplanned
theorem dX9_movedAt_11 : decode cX9_movedAt 11 = .ok (.ifCond .eq 7, 3) := by decide +kernel
theorem dX9_movedAt_14 : decode cX9_movedAt 14 = .ok (.iconst 0, 1) := by decide +kernel
theorem dX9_movedAt_15 : decode cX9_movedAt 15 = .ok (.goto 8, 3) := by decide +kernel
theorem dX9_movedAt_23 : decode cX9_movedAt 23 = .ok (.ireturn, 1) := by decide +kernel
set_option maxHeartbeats 4000000 in
set_option maxRecDepth 100000 in
theorem m0_movedAt (l : Launch) (g : xG) (sz : Nat) (h0 : Nat) (m0 : Value) (m1 : Value) (m2 : Value) (m3 : Value) (m4 : Value) (m5 : Value) (m6 : Value) (m7 : Value) (m9 : Value) (m10 : Value) (m11 : Value) (m12 : Value) (m13 : Value) (m14 : Value) (m15 : Value) (m16 : Value) (m17 : Value) (m18 : Value) (m19 : Value) (m20 : Value) (m21 : Value) (m22 : Value) (m23 : Value) (m25 : Value) (m26 : Value) (m27 : Value) (m28 : Value) (m29 : Value) (m30 : Value) (m31 : Value) (m32 : Value) (m33 : Value) (m34 : Value) (m35 : Value) (m36 : Value) (m37 : Value) (m38 : Value) (m39 : Value) (m40 : Value) (m41 : Value) (m42 : Value) (m43 : Value) (m44 : Value) (m45 : Value) (m46 : Value) (m47 : Value) (m48 : Value) (m49 : Value) (p0 : Int32)  : Met l yX9_movedAt wsX9_movedAt ({ frames := 3, cells := 0, slots := 0, locals := 66 }) (va_Pc [.ref h0, .int p0] (fun U => xB g [(h0, .inr (9, [m0, m1, m2, m3, m4, m5, m6, m7, .int 0, m9, m10, m11, m12, m13, m14, m15, m16, m17, m18, m19, m20, m21, m22, m23, .int 0, m25, m26, m27, m28, m29, m30, m31, m32, m33, m34, m35, m36, m37, m38, m39, m40, m41, m42, m43, m44, m45, m46, m47, m48, m49]))] sz U)) (va_Qi (fun (r : Int32) (u : Int32) => u = 1 ∧ r = 0) (fun (u : Int32) (t : State) => ∃ (w1 : Value) (w2 : Value) (w3 : Value) (w4 : Value) (w5 : Value) (w6 : Value) (w7 : Value) (w8 : Value) (w9 : Value) (w10 : Value) (w11 : Value) (w12 : Value) (w13 : Value) (w14 : Value) (w15 : Value) (w16 : Value) (w17 : Value) (w18 : Value) (w19 : Value) (w20 : Value) (w21 : Value) (w22 : Value) (w23 : Value) (w24 : Value) (w25 : Value) (w26 : Value) (w27 : Value) (w28 : Value) (w29 : Value) (w30 : Value) (w31 : Value) (w32 : Value) (w33 : Value) (w34 : Value) (w35 : Value) (w36 : Value) (w37 : Value) (w38 : Value) (w39 : Value) (w40 : Value) (w41 : Value) (w42 : Value) (w43 : Value) (w44 : Value) (w45 : Value) (w46 : Value) (w47 : Value) (w48 : Value) (w49 : Value), xE g [(h0, .inr (9, [.int u, w1, w2, w3, w4, w5, w6, w7, w8, w9, w10, w11, w12, w13, w14, w15, w16, w17, w18, w19, w20, w21, w22, w23, w24, w25, w26, w27, w28, w29, w30, w31, w32, w33, w34, w35, w36, w37, w38, w39, w40, w41, w42, w43, w44, w45, w46, w47, w48, w49]))] (va_A [(h0, .inr (9, [m0, m1, m2, m3, m4, m5, m6, m7, .int 0, m9, m10, m11, m12, m13, m14, m15, m16, m17, m18, m19, m20, m21, m22, m23, .int 0, m25, m26, m27, m28, m29, m30, m31, m32, m33, m34, m35, m36, m37, m38, m39, m40, m41, m42, m43, m44, m45, m46, m47, m48, m49]))] sz) t) (va_A [(h0, .inr (9, [m0, m1, m2, m3, m4, m5, m6, m7, .int 0, m9, m10, m11, m12, m13, m14, m15, m16, m17, m18, m19, m20, m21, m22, m23, .int 0, m25, m26, m27, m28, m29, m30, m31, m32, m33, m34, m35, m36, m37, m38, m39, m40, m41, m42, m43, m44, m45, m46, m47, m48, m49]))] sz)) 0 0 (va_A [(h0, .inr (9, [m0, m1, m2, m3, m4, m5, m6, m7, .int 0, m9, m10, m11, m12, m13, m14, m15, m16, m17, m18, m19, m20, m21, m22, m23, .int 0, m25, m26, m27, m28, m29, m30, m31, m32, m33, m34, m35, m36, m37, m38, m39, m40, m41, m42, m43, m44, m45, m46, m47, m48, m49]))] sz) := by
  refine Met.ofW (cc := cX9_movedAt) (maxL := 2) (ret := (some .int)) (by decide) rfl ?_
  intro p e s m args below meth c s₁ B hml hv
  obtain ⟨rfl, ⟨hsz, hP, hK, hD0⟩⟩ := hv
  have hx := B.exec
  have hb := B.bytes
  have hr := B.returns
  have hts := atoms_spec (ws := wsX9_movedAt) B.pre
  have hown : s.vm.findClass RX9 = some m.cls := findClass_of_methodNamed B.named
  have hlocks := B.notSynchronized
  subst hsz
  have hD := hD0.self (sz := s.heap.size)
  generalize hAe : va_A [(h0, .inr (9, [m0, m1, m2, m3, m4, m5, m6, m7, .int 0, m9, m10, m11, m12, m13, m14, m15, m16, m17, m18, m19, m20, m21, m22, m23, .int 0, m25, m26, m27, m28, m29, m30, m31, m32, m33, m34, m35, m36, m37, m38, m39, m40, m41, m42, m43, m44, m45, m46, m47, m48, m49]))] s.heap.size = A at hD ⊢
  have hA : ∀ q : Nat, s.heap.size ≤ q → A q := fun q h => by rw [← hAe]; exact Or.inr h
  have hS : va_S A s.heap s.heap [] := va_S.rf
  have hl := lv_entry ([.ref h0, .int p0]) (n := 2) (Nat.le_of_ble_eq_true rfl)
  rw [lg_entry_eq]
  generalize (lg_sl ([.ref h0, .int p0]) ++ List.replicate (2 - (lg_sl ([.ref h0, .int p0])).length) Slot.unset).toArray = ls at hl ⊢
  have hl : lv_has ls 2 [(0, .ref h0), (1, .int p0)] := hl
  have hFX9 : ∀ w ∈ u_ws RX9 TX9 50, w ∈ wsX9_movedAt := by decide +kernel
  refine lv_aload_n hx hb dX9_movedAt_0 rfl (lv_at hl 0 rfl) ?_
  refine lv_iload_n hx hb dX9_movedAt_1 rfl (lv_at hl 1 rfl) ?_
  refine lv_aload_n hx hb dX9_movedAt_2 rfl (lv_at hl 0 rfl) ?_
  refine va_get (D := xD g) (ci := 9) (v := .int 0) (C := RX9) (T := TX9) (N := 50) hx hb hts hFX9 hown hK hP 0 rfl rfl 8 (by decide) (hts (.fieldLink RX9 155 "StevedoreModel" "containers" "I") (by decide +kernel)) (fun _ h9 => h9) rfl dX9_movedAt_3 ?_
  refine lv_iconst (v := 1) hx hb dX9_movedAt_6 (by decide) ?_
  refine lv_isub hx hb dX9_movedAt_7 ?_
  refine lv_topi (fun v_1 ev => ?_)
  obtain rfl : v_1 = ((-1) : Int32) := ev.trans (by decide)
  have hPc := hP.sub (ws' := [(h0, .inr (9, [m0, m1, m2, m3, m4, m5, m6, m7, .int 0, m9, m10, m11, m12, m13, m14, m15, m16, m17, m18, m19, m20, m21, m22, m23, .int 0, m25, m26, m27, m28, m29, m30, m31, m32, m33, m34, m35, m36, m37, m38, m39, m40, m41, m42, m43, m44, m45, m46, m47, m48, m49]))]) [0] rfl
  have hDc := hD.sub (ws' := [(h0, .inr (9, [m0, m1, m2, m3, m4, m5, m6, m7, .int 0, m9, m10, m11, m12, m13, m14, m15, m16, m17, m18, m19, m20, m21, m22, m23, .int 0, m25, m26, m27, m28, m29, m30, m31, m32, m33, m34, m35, m36, m37, m38, m39, m40, m41, m42, m43, m44, m45, m46, m47, m48, m49]))]) [0] (by decide) rfl
  have hFc := va_free (wc := [(h0, .inr (9, [m0, m1, m2, m3, m4, m5, m6, m7, .int 0, m9, m10, m11, m12, m13, m14, m15, m16, m17, m18, m19, m20, m21, m22, m23, .int 0, m25, m26, m27, m28, m29, m30, m31, m32, m33, m34, m35, m36, m37, m38, m39, m40, m41, m42, m43, m44, m45, m46, m47, m48, m49]))]) hD hS hA [0] rfl
  refine va_calli (va_runV (As := [.int p0, .int (-1)]) (rest := []) ⟨hx, hb, hml, hown, hts⟩ (m0_isUnplanned l g s.heap.size h0 m0 m1 m2 m3 m4 m5 m6 m7 (.int 0) m9 m10 m11 m12 m13 m14 m15 m16 m17 m18 m19 m20 m21 m22 m23 m25 m26 m27 m28 m29 m30 m31 m32 m33 m34 m35 m36 m37 m38 m39 m40 m41 m42 m43 m44 m45 m46 m47 m48 m49 p0 (-1)) (cwV 2 hts gX9_movedAt_X9_isUnplanned rfl rfl rfl (by decide +kernel) ⟨Nat.le_of_ble_eq_true rfl, Nat.le_of_ble_eq_true rfl⟩) ⟨xB.blind, va_recv hK hPc (ci := 9) (q0 := 0) rfl rfl, fun U9 hU9 hW9 => ⟨rfl, xB.mk hPc hK hDc hU9 hW9⟩⟩ rfl rfl hl.1 rfl (lv_room (Nat.le_of_ble_eq_true rfl)) dX9_movedAt_8 ⟨Nat.le_of_ble_eq_true rfl, Nat.le_of_ble_eq_true rfl⟩) hS (fun q _ h => hFc q h) hFc (fun r_2 u_3 t H1 locs ht hvm hw_4 hB hz1 hk1 hS => ?_)
  obtain ⟨hP1, hK1, hD1⟩ := hB
  rw [ht] at hP1
  obtain ⟨hP, hD⟩ := va_join (wr := []) (w1 := [(h0, .inr (9, [.int 1, m1, m2, m3, m4, m5, m6, m7, .int 0, m9, m10, m11, m12, m13, m14, m15, m16, m17, m18, m19, m20, m21, m22, m23, .int 0, m25, m26, m27, m28, m29, m30, m31, m32, m33, m34, m35, m36, m37, m38, m39, m40, m41, m42, m43, m44, m45, m46, m47, m48, m49]))]) hP hD [0] [] rfl rfl (by decide) (by decide) hk1 hFc hP1 hD1
  generalize H1 = H at hP hS ⊢
  have hP : va_P (xD g) vwCl [(h0, .inr (9, [.int 1, m1, m2, m3, m4, m5, m6, m7, .int 0, m9, m10, m11, m12, m13, m14, m15, m16, m17, m18, m19, m20, m21, m22, m23, .int 0, m25, m26, m27, m28, m29, m30, m31, m32, m33, m34, m35, m36, m37, m38, m39, m40, m41, m42, m43, m44, m45, m46, m47, m48, m49]))] H := hP
  have hD : va_D A [(h0, .inr (9, [.int 1, m1, m2, m3, m4, m5, m6, m7, .int 0, m9, m10, m11, m12, m13, m14, m15, m16, m17, m18, m19, m20, m21, m22, m23, .int 0, m25, m26, m27, m28, m29, m30, m31, m32, m33, m34, m35, m36, m37, m38, m39, m40, m41, m42, m43, m44, m45, m46, m47, m48, m49]))] := hD
  try dsimp only at hw_4
  obtain rfl := hw_4
  refine lv_if_eq (tgt := 18) hx hb dX9_movedAt_11 (by decide) (fun c0 => absurd c0 (by decide)) (fun _ => ?_)
  refine lv_iconst (v := 0) hx hb dX9_movedAt_14 (by decide) ?_
  refine lv_goto (tgt := 23) hx hb dX9_movedAt_15 (by decide) ?_
  have hP9 := hP.sub (ws' := [(h0, .inr (9, [.int 1, m1, m2, m3, m4, m5, m6, m7, .int 0, m9, m10, m11, m12, m13, m14, m15, m16, m17, m18, m19, m20, m21, m22, m23, .int 0, m25, m26, m27, m28, m29, m30, m31, m32, m33, m34, m35, m36, m37, m38, m39, m40, m41, m42, m43, m44, m45, m46, m47, m48, m49]))]) [0] rfl
  have hD9 := hD.sub (ws' := [(h0, .inr (9, [.int 1, m1, m2, m3, m4, m5, m6, m7, .int 0, m9, m10, m11, m12, m13, m14, m15, m16, m17, m18, m19, m20, m21, m22, m23, .int 0, m25, m26, m27, m28, m29, m30, m31, m32, m33, m34, m35, m36, m37, m38, m39, m40, m41, m42, m43, m44, m45, m46, m47, m48, m49]))]) [0] (by decide) rfl
  exact W.iret (v := 0) hx hb hr (fun t ht hW => ⟨⟨0, 1, rfl, ⟨rfl, rfl⟩, ⟨m1, m2, m3, m4, m5, m6, m7, (.int 0), m9, m10, m11, m12, m13, m14, m15, m16, m17, m18, m19, m20, m21, m22, m23, (.int 0), m25, m26, m27, m28, m29, m30, m31, m32, m33, m34, m35, m36, m37, m38, m39, m40, m41, m42, m43, m44, m45, m46, m47, m48, m49, by rw [ht]; exact hP9, va_K.moved hW.alike hK, hD9⟩⟩, hS.F ht⟩) hS.2.2 dX9_movedAt_23
theorem dX9_giveSlots_0 : decode cX9_giveSlots 0 = .ok (.aload_n 0, 1) := by decide +kernel
theorem dX9_giveSlots_1 : decode cX9_giveSlots 1 = .ok (.aload_n 0, 1) := by decide +kernel
theorem dX9_giveSlots_2 : decode cX9_giveSlots 2 = .ok (.getfield 118, 3) := by decide +kernel
theorem dX9_giveSlots_5 : decode cX9_giveSlots 5 = .ok (.ifCond .ne 7, 3) := by decide +kernel
theorem dX9_giveSlots_8 : decode cX9_giveSlots 8 = .ok (.iconst 1, 1) := by decide +kernel
theorem dX9_giveSlots_9 : decode cX9_giveSlots 9 = .ok (.goto 4, 3) := by decide +kernel
theorem dX9_giveSlots_13 : decode cX9_giveSlots 13 = .ok (.iconst 1, 1) := by decide +kernel
theorem dX9_giveSlots_14 : decode cX9_giveSlots 14 = .ok (.invokevirtual 138, 3) := by decide +kernel
set_option maxRecDepth 20000 in
theorem ggX9_giveSlots_X9_start : GoodIn wsX9_giveSlots wsX9_start := goodIn_r _ [16, 17, 18, 19, 20, 15, 21, 120, 121, 122, 123, 124, 125, 126, 127, 128, 129, 130, 131, 132, 133, 134, 135, 136, 137, 138, 139, 140, 141, 142, 143, 144, 145, 146, 147, 148, 149, 150, 151, 152, 153, 154, 155, 156, 157, 158, 159, 160, 161, 162, 163, 164, 165, 166, 167, 168, 169] rfl (by decide +kernel)
set_option maxRecDepth 20000 in
theorem gX9_giveSlots_X9_start : GoodIn wsX9_giveSlots (wsV RX9 138 RX9 yX9_start wsX9_start) := goodIn_app (goodIn_of _ (by decide +kernel)) ggX9_giveSlots_X9_start
theorem dX9_giveSlots_17 : decode cX9_giveSlots 17 = .ok (.ifCond .eq 5, 3) := by decide +kernel
theorem dX9_giveSlots_20 : decode cX9_giveSlots 20 = .ok (.iconst 0, 1) := by decide +kernel
theorem dX9_giveSlots_21 : decode cX9_giveSlots 21 = .ok (.ireturn, 1) := by decide +kernel
set_option maxHeartbeats 4000000 in
set_option maxRecDepth 100000 in
theorem m0_giveSlots (l : Launch) (g : xG) (sz : Nat) (h0 : Nat) (m0 : Value) (m1 : Value) (m2 : Value) (m3 : Value) (m4 : Value) (m5 : Value) (m6 : Value) (m7 : Value) (m8 : Value) (m9 : Value) (m10 : Value) (m11 : Value) (m12 : Value) (m13 : Value) (m14 : Value) (m15 : Value) (m16 : Value) (m17 : Value) (m18 : Value) (m19 : Value) (m20 : Value) (m21 : Value) (m22 : Value) (m23 : Value) (m25 : Value) (m26 : Value) (m27 : Value) (m28 : Value) (m29 : Value) (m30 : Value) (m31 : Value) (m32 : Value) (m33 : Value) (m34 : Value) (m35 : Value) (m36 : Value) (m37 : Value) (m38 : Value) (m39 : Value) (m40 : Value) (m41 : Value) (m42 : Value) (m43 : Value) (m44 : Value) (m45 : Value) (m46 : Value) (m47 : Value) (m48 : Value) (m49 : Value)  : Met l yX9_giveSlots wsX9_giveSlots ({ frames := 2, cells := 0, slots := 0, locals := 44 }) (va_Pc [.ref h0] (fun U => xB g [(h0, .inr (9, [m0, m1, m2, m3, m4, m5, m6, m7, m8, m9, m10, m11, m12, m13, m14, m15, m16, m17, m18, m19, m20, m21, m22, m23, .int 0, m25, m26, m27, m28, m29, m30, m31, m32, m33, m34, m35, m36, m37, m38, m39, m40, m41, m42, m43, m44, m45, m46, m47, m48, m49]))] sz U)) (va_Qi (fun (r : Int32) (u : Int32) => u = 1 ∧ r = 0) (fun (u : Int32) (t : State) => ∃ (w1 : Value) (w2 : Value) (w3 : Value) (w4 : Value) (w5 : Value) (w6 : Value) (w7 : Value) (w8 : Value) (w9 : Value) (w10 : Value) (w11 : Value) (w12 : Value) (w13 : Value) (w14 : Value) (w15 : Value) (w16 : Value) (w17 : Value) (w18 : Value) (w19 : Value) (w20 : Value) (w21 : Value) (w22 : Value) (w23 : Value) (w24 : Value) (w25 : Value) (w26 : Value) (w27 : Value) (w28 : Value) (w29 : Value) (w30 : Value) (w31 : Value) (w32 : Value) (w33 : Value) (w34 : Value) (w35 : Value) (w36 : Value) (w37 : Value) (w38 : Value) (w39 : Value) (w40 : Value) (w41 : Value) (w42 : Value) (w43 : Value) (w44 : Value) (w45 : Value) (w46 : Value) (w47 : Value) (w48 : Value) (w49 : Value), xE g [(h0, .inr (9, [.int u, w1, w2, w3, w4, w5, w6, w7, w8, w9, w10, w11, w12, w13, w14, w15, w16, w17, w18, w19, w20, w21, w22, w23, w24, w25, w26, w27, w28, w29, w30, w31, w32, w33, w34, w35, w36, w37, w38, w39, w40, w41, w42, w43, w44, w45, w46, w47, w48, w49]))] (va_A [(h0, .inr (9, [m0, m1, m2, m3, m4, m5, m6, m7, m8, m9, m10, m11, m12, m13, m14, m15, m16, m17, m18, m19, m20, m21, m22, m23, .int 0, m25, m26, m27, m28, m29, m30, m31, m32, m33, m34, m35, m36, m37, m38, m39, m40, m41, m42, m43, m44, m45, m46, m47, m48, m49]))] sz) t) (va_A [(h0, .inr (9, [m0, m1, m2, m3, m4, m5, m6, m7, m8, m9, m10, m11, m12, m13, m14, m15, m16, m17, m18, m19, m20, m21, m22, m23, .int 0, m25, m26, m27, m28, m29, m30, m31, m32, m33, m34, m35, m36, m37, m38, m39, m40, m41, m42, m43, m44, m45, m46, m47, m48, m49]))] sz)) 0 0 (va_A [(h0, .inr (9, [m0, m1, m2, m3, m4, m5, m6, m7, m8, m9, m10, m11, m12, m13, m14, m15, m16, m17, m18, m19, m20, m21, m22, m23, .int 0, m25, m26, m27, m28, m29, m30, m31, m32, m33, m34, m35, m36, m37, m38, m39, m40, m41, m42, m43, m44, m45, m46, m47, m48, m49]))] sz) := by
  refine Met.ofW (cc := cX9_giveSlots) (maxL := 7) (ret := (some .int)) (by decide) rfl ?_
  intro p e s m args below meth c s₁ B hml hv
  obtain ⟨rfl, ⟨hsz, hP, hK, hD0⟩⟩ := hv
  have hx := B.exec
  have hb := B.bytes
  have hr := B.returns
  have hts := atoms_spec (ws := wsX9_giveSlots) B.pre
  have hown : s.vm.findClass RX9 = some m.cls := findClass_of_methodNamed B.named
  have hlocks := B.notSynchronized
  subst hsz
  have hD := hD0.self (sz := s.heap.size)
  generalize hAe : va_A [(h0, .inr (9, [m0, m1, m2, m3, m4, m5, m6, m7, m8, m9, m10, m11, m12, m13, m14, m15, m16, m17, m18, m19, m20, m21, m22, m23, .int 0, m25, m26, m27, m28, m29, m30, m31, m32, m33, m34, m35, m36, m37, m38, m39, m40, m41, m42, m43, m44, m45, m46, m47, m48, m49]))] s.heap.size = A at hD ⊢
  have hA : ∀ q : Nat, s.heap.size ≤ q → A q := fun q h => by rw [← hAe]; exact Or.inr h
  have hS : va_S A s.heap s.heap [] := va_S.rf
  have hl := lv_entry ([.ref h0]) (n := 7) (Nat.le_of_ble_eq_true rfl)
  rw [lg_entry_eq]
  generalize (lg_sl ([.ref h0]) ++ List.replicate (7 - (lg_sl ([.ref h0])).length) Slot.unset).toArray = ls at hl ⊢
  have hl : lv_has ls 7 [(0, .ref h0)] := hl
  have hFX9 : ∀ w ∈ u_ws RX9 TX9 50, w ∈ wsX9_giveSlots := by decide +kernel
  refine lv_aload_n hx hb dX9_giveSlots_0 rfl (lv_at hl 0 rfl) ?_
  refine lv_aload_n hx hb dX9_giveSlots_1 rfl (lv_at hl 0 rfl) ?_
  refine va_get (D := xD g) (ci := 9) (v := .int 0) (C := RX9) (T := TX9) (N := 50) hx hb hts hFX9 hown hK hP 0 rfl rfl 24 (by decide) (hts (.fieldLink RX9 118 "StevedoreModel" "isPlanned" "Z") (by decide +kernel)) (fun _ h9 => h9) rfl dX9_giveSlots_2 ?_
  refine lv_if_ne (tgt := 12) hx hb dX9_giveSlots_5 (by decide) (fun c0 => absurd (by decide) c0) (fun _ => ?_)
  refine lv_iconst (v := 1) hx hb dX9_giveSlots_8 (by decide) ?_
  refine lv_goto (tgt := 13) hx hb dX9_giveSlots_9 (by decide) ?_
  refine lv_iconst (v := 1) hx hb dX9_giveSlots_13 (by decide) ?_
  have hPc := hP.sub (ws' := [(h0, .inr (9, [m0, m1, m2, m3, m4, m5, m6, m7, m8, m9, m10, m11, m12, m13, m14, m15, m16, m17, m18, m19, m20, m21, m22, m23, .int 0, m25, m26, m27, m28, m29, m30, m31, m32, m33, m34, m35, m36, m37, m38, m39, m40, m41, m42, m43, m44, m45, m46, m47, m48, m49]))]) [0] rfl
  have hDc := hD.sub (ws' := [(h0, .inr (9, [m0, m1, m2, m3, m4, m5, m6, m7, m8, m9, m10, m11, m12, m13, m14, m15, m16, m17, m18, m19, m20, m21, m22, m23, .int 0, m25, m26, m27, m28, m29, m30, m31, m32, m33, m34, m35, m36, m37, m38, m39, m40, m41, m42, m43, m44, m45, m46, m47, m48, m49]))]) [0] (by decide) rfl
  have hFc := va_free (wc := [(h0, .inr (9, [m0, m1, m2, m3, m4, m5, m6, m7, m8, m9, m10, m11, m12, m13, m14, m15, m16, m17, m18, m19, m20, m21, m22, m23, .int 0, m25, m26, m27, m28, m29, m30, m31, m32, m33, m34, m35, m36, m37, m38, m39, m40, m41, m42, m43, m44, m45, m46, m47, m48, m49]))]) hD hS hA [0] rfl
  refine va_calli (va_runV (As := [.int 1, .int 1]) (rest := []) ⟨hx, hb, hml, hown, hts⟩ (m_start1 l g s.heap.size h0 m0 m1 m2 m3 m4 m5 m6 m7 m8 m9 m10 m11 m12 m13 m14 m15 m16 m17 m18 m19 m20 m21 m22 m23 (.int 0) m25 m26 m27 m28 m29 m30 m31 m32 m33 m34 m35 m36 m37 m38 m39 m40 m41 m42 m43 m44 m45 m46 m47 m48 m49 1 (by first | assumption | decide | omega | simp_all)) (cwV 2 hts gX9_giveSlots_X9_start rfl rfl rfl (by decide +kernel) ⟨Nat.le_of_ble_eq_true rfl, Nat.le_of_ble_eq_true rfl⟩) ⟨xB.blind, va_recv hK hPc (ci := 9) (q0 := 0) rfl rfl, fun U9 hU9 hW9 => ⟨rfl, xB.mk hPc hK hDc hU9 hW9⟩⟩ rfl rfl hl.1 rfl (lv_room (Nat.le_of_ble_eq_true rfl)) dX9_giveSlots_14 ⟨Nat.le_of_ble_eq_true rfl, Nat.le_of_ble_eq_true rfl⟩) hS (fun q _ h => hFc q h) hFc (fun r_1 u_2 t H1 locs ht hvm hw_3 hB hz1 hk1 hS => ?_)
  obtain ⟨hP1, hK1, hD1⟩ := hB
  rw [ht] at hP1
  obtain ⟨hP, hD⟩ := va_join (wr := []) (w1 := [(h0, .inr (9, [.int 1, m1, m2, m3, m4, m5, m6, m7, m8, m9, m10, m11, m12, m13, m14, m15, m16, m17, m18, m19, m20, m21, m22, m23, .int 0, m25, m26, m27, m28, m29, m30, m31, m32, m33, m34, m35, m36, m37, m38, m39, m40, m41, m42, m43, m44, m45, m46, m47, m48, m49]))]) hP hD [0] [] rfl rfl (by decide) (by decide) hk1 hFc hP1 hD1
  generalize H1 = H at hP hS ⊢
  have hP : va_P (xD g) vwCl [(h0, .inr (9, [.int 1, m1, m2, m3, m4, m5, m6, m7, m8, m9, m10, m11, m12, m13, m14, m15, m16, m17, m18, m19, m20, m21, m22, m23, .int 0, m25, m26, m27, m28, m29, m30, m31, m32, m33, m34, m35, m36, m37, m38, m39, m40, m41, m42, m43, m44, m45, m46, m47, m48, m49]))] H := hP
  have hD : va_D A [(h0, .inr (9, [.int 1, m1, m2, m3, m4, m5, m6, m7, m8, m9, m10, m11, m12, m13, m14, m15, m16, m17, m18, m19, m20, m21, m22, m23, .int 0, m25, m26, m27, m28, m29, m30, m31, m32, m33, m34, m35, m36, m37, m38, m39, m40, m41, m42, m43, m44, m45, m46, m47, m48, m49]))] := hD
  try dsimp only at hw_3
  obtain rfl := hw_3
  refine lv_if_eq (tgt := 22) hx hb dX9_giveSlots_17 (by decide) (fun c0 => absurd c0 (by decide)) (fun _ => ?_)
  refine lv_iconst (v := 0) hx hb dX9_giveSlots_20 (by decide) ?_
  have hP9 := hP.sub (ws' := [(h0, .inr (9, [.int 1, m1, m2, m3, m4, m5, m6, m7, m8, m9, m10, m11, m12, m13, m14, m15, m16, m17, m18, m19, m20, m21, m22, m23, .int 0, m25, m26, m27, m28, m29, m30, m31, m32, m33, m34, m35, m36, m37, m38, m39, m40, m41, m42, m43, m44, m45, m46, m47, m48, m49]))]) [0] rfl
  have hD9 := hD.sub (ws' := [(h0, .inr (9, [.int 1, m1, m2, m3, m4, m5, m6, m7, m8, m9, m10, m11, m12, m13, m14, m15, m16, m17, m18, m19, m20, m21, m22, m23, .int 0, m25, m26, m27, m28, m29, m30, m31, m32, m33, m34, m35, m36, m37, m38, m39, m40, m41, m42, m43, m44, m45, m46, m47, m48, m49]))]) [0] (by decide) rfl
  exact W.iret (v := 0) hx hb hr (fun t ht hW => ⟨⟨0, 1, rfl, ⟨rfl, rfl⟩, ⟨m1, m2, m3, m4, m5, m6, m7, m8, m9, m10, m11, m12, m13, m14, m15, m16, m17, m18, m19, m20, m21, m22, m23, (.int 0), m25, m26, m27, m28, m29, m30, m31, m32, m33, m34, m35, m36, m37, m38, m39, m40, m41, m42, m43, m44, m45, m46, m47, m48, m49, by rw [ht]; exact hP9, va_K.moved hW.alike hK, hD9⟩⟩, hS.F ht⟩) hS.2.2 dX9_giveSlots_21
theorem dX9_costIf_0 : decode cX9_costIf 0 = .ok (.aload_n 0, 1) := by decide +kernel
theorem dX9_costIf_1 : decode cX9_costIf 1 = .ok (.aload_n 0, 1) := by decide +kernel
theorem dX9_costIf_2 : decode cX9_costIf 2 = .ok (.getfield 118, 3) := by decide +kernel
theorem dX9_costIf_5 : decode cX9_costIf 5 = .ok (.ifCond .ne 7, 3) := by decide +kernel
theorem dX9_costIf_8 : decode cX9_costIf 8 = .ok (.iconst 1, 1) := by decide +kernel
theorem dX9_costIf_9 : decode cX9_costIf 9 = .ok (.goto 4, 3) := by decide +kernel
theorem dX9_costIf_13 : decode cX9_costIf 13 = .ok (.iconst 1, 1) := by decide +kernel
theorem dX9_costIf_14 : decode cX9_costIf 14 = .ok (.invokevirtual 138, 3) := by decide +kernel
set_option maxRecDepth 20000 in
theorem ggX9_costIf_X9_start : GoodIn wsX9_costIf wsX9_start := goodIn_r _ [12, 13, 14, 15, 16, 11, 17, 91, 92, 93, 94, 95, 96, 97, 98, 99, 100, 101, 102, 103, 104, 105, 106, 107, 108, 109, 110, 111, 112, 113, 114, 115, 116, 117, 118, 119, 120, 121, 122, 123, 124, 125, 126, 127, 128, 129, 130, 131, 132, 133, 134, 135, 136, 137, 138, 139, 140] rfl (by decide +kernel)
set_option maxRecDepth 20000 in
theorem gX9_costIf_X9_start : GoodIn wsX9_costIf (wsV RX9 138 RX9 yX9_start wsX9_start) := goodIn_app (goodIn_of _ (by decide +kernel)) ggX9_costIf_X9_start
theorem dX9_costIf_17 : decode cX9_costIf 17 = .ok (.ifCond .ne 49, 3) := by decide +kernel
theorem dX9_costIf_66 : decode cX9_costIf 66 = .ok (.iconst 0, 1) := by decide +kernel
theorem dX9_costIf_67 : decode cX9_costIf 67 = .ok (.ireturn, 1) := by decide +kernel
set_option maxHeartbeats 4000000 in
set_option maxRecDepth 100000 in
theorem m0_costIf (l : Launch) (g : xG) (sz : Nat) (h0 : Nat) (m0 : Value) (m1 : Value) (m2 : Value) (m3 : Value) (m4 : Value) (m5 : Value) (m6 : Value) (m7 : Value) (m8 : Value) (m9 : Value) (m10 : Value) (m11 : Value) (m12 : Value) (m13 : Value) (m14 : Value) (m15 : Value) (m16 : Value) (m17 : Value) (m18 : Value) (m19 : Value) (m20 : Value) (m21 : Value) (m22 : Value) (m23 : Value) (m25 : Value) (m26 : Value) (m27 : Value) (m28 : Value) (m29 : Value) (m30 : Value) (m31 : Value) (m32 : Value) (m33 : Value) (m34 : Value) (m35 : Value) (m36 : Value) (m37 : Value) (m38 : Value) (m39 : Value) (m40 : Value) (m41 : Value) (m42 : Value) (m43 : Value) (m44 : Value) (m45 : Value) (m46 : Value) (m47 : Value) (m48 : Value) (m49 : Value) (p0 : Int32) (p1 : Int32)  : Met l yX9_costIf wsX9_costIf ({ frames := 2, cells := 0, slots := 0, locals := 44 }) (va_Pc [.ref h0, .int p0, .int p1] (fun U => xB g [(h0, .inr (9, [m0, m1, m2, m3, m4, m5, m6, m7, m8, m9, m10, m11, m12, m13, m14, m15, m16, m17, m18, m19, m20, m21, m22, m23, .int 0, m25, m26, m27, m28, m29, m30, m31, m32, m33, m34, m35, m36, m37, m38, m39, m40, m41, m42, m43, m44, m45, m46, m47, m48, m49]))] sz U)) (va_Qi (fun (r : Int32) (u : Int32) => u = 1 ∧ r = 0) (fun (u : Int32) (t : State) => ∃ (w1 : Value) (w2 : Value) (w3 : Value) (w4 : Value) (w5 : Value) (w6 : Value) (w7 : Value) (w8 : Value) (w9 : Value) (w10 : Value) (w11 : Value) (w12 : Value) (w13 : Value) (w14 : Value) (w15 : Value) (w16 : Value) (w17 : Value) (w18 : Value) (w19 : Value) (w20 : Value) (w21 : Value) (w22 : Value) (w23 : Value) (w24 : Value) (w25 : Value) (w26 : Value) (w27 : Value) (w28 : Value) (w29 : Value) (w30 : Value) (w31 : Value) (w32 : Value) (w33 : Value) (w34 : Value) (w35 : Value) (w36 : Value) (w37 : Value) (w38 : Value) (w39 : Value) (w40 : Value) (w41 : Value) (w42 : Value) (w43 : Value) (w44 : Value) (w45 : Value) (w46 : Value) (w47 : Value) (w48 : Value) (w49 : Value), xE g [(h0, .inr (9, [.int u, w1, w2, w3, w4, w5, w6, w7, w8, w9, w10, w11, w12, w13, w14, w15, w16, w17, w18, w19, w20, w21, w22, w23, w24, w25, w26, w27, w28, w29, w30, w31, w32, w33, w34, w35, w36, w37, w38, w39, w40, w41, w42, w43, w44, w45, w46, w47, w48, w49]))] (va_A [(h0, .inr (9, [m0, m1, m2, m3, m4, m5, m6, m7, m8, m9, m10, m11, m12, m13, m14, m15, m16, m17, m18, m19, m20, m21, m22, m23, .int 0, m25, m26, m27, m28, m29, m30, m31, m32, m33, m34, m35, m36, m37, m38, m39, m40, m41, m42, m43, m44, m45, m46, m47, m48, m49]))] sz) t) (va_A [(h0, .inr (9, [m0, m1, m2, m3, m4, m5, m6, m7, m8, m9, m10, m11, m12, m13, m14, m15, m16, m17, m18, m19, m20, m21, m22, m23, .int 0, m25, m26, m27, m28, m29, m30, m31, m32, m33, m34, m35, m36, m37, m38, m39, m40, m41, m42, m43, m44, m45, m46, m47, m48, m49]))] sz)) 0 0 (va_A [(h0, .inr (9, [m0, m1, m2, m3, m4, m5, m6, m7, m8, m9, m10, m11, m12, m13, m14, m15, m16, m17, m18, m19, m20, m21, m22, m23, .int 0, m25, m26, m27, m28, m29, m30, m31, m32, m33, m34, m35, m36, m37, m38, m39, m40, m41, m42, m43, m44, m45, m46, m47, m48, m49]))] sz) := by
  refine Met.ofW (cc := cX9_costIf) (maxL := 4) (ret := (some .int)) (by decide) rfl ?_
  intro p e s m args below meth c s₁ B hml hv
  obtain ⟨rfl, ⟨hsz, hP, hK, hD0⟩⟩ := hv
  have hx := B.exec
  have hb := B.bytes
  have hr := B.returns
  have hts := atoms_spec (ws := wsX9_costIf) B.pre
  have hown : s.vm.findClass RX9 = some m.cls := findClass_of_methodNamed B.named
  have hlocks := B.notSynchronized
  subst hsz
  have hD := hD0.self (sz := s.heap.size)
  generalize hAe : va_A [(h0, .inr (9, [m0, m1, m2, m3, m4, m5, m6, m7, m8, m9, m10, m11, m12, m13, m14, m15, m16, m17, m18, m19, m20, m21, m22, m23, .int 0, m25, m26, m27, m28, m29, m30, m31, m32, m33, m34, m35, m36, m37, m38, m39, m40, m41, m42, m43, m44, m45, m46, m47, m48, m49]))] s.heap.size = A at hD ⊢
  have hA : ∀ q : Nat, s.heap.size ≤ q → A q := fun q h => by rw [← hAe]; exact Or.inr h
  have hS : va_S A s.heap s.heap [] := va_S.rf
  have hl := lv_entry ([.ref h0, .int p0, .int p1]) (n := 4) (Nat.le_of_ble_eq_true rfl)
  rw [lg_entry_eq]
  generalize (lg_sl ([.ref h0, .int p0, .int p1]) ++ List.replicate (4 - (lg_sl ([.ref h0, .int p0, .int p1])).length) Slot.unset).toArray = ls at hl ⊢
  have hl : lv_has ls 4 [(0, .ref h0), (1, .int p0), (2, .int p1)] := hl
  have hFX9 : ∀ w ∈ u_ws RX9 TX9 50, w ∈ wsX9_costIf := by decide +kernel
  refine lv_aload_n hx hb dX9_costIf_0 rfl (lv_at hl 0 rfl) ?_
  refine lv_aload_n hx hb dX9_costIf_1 rfl (lv_at hl 0 rfl) ?_
  refine va_get (D := xD g) (ci := 9) (v := .int 0) (C := RX9) (T := TX9) (N := 50) hx hb hts hFX9 hown hK hP 0 rfl rfl 24 (by decide) (hts (.fieldLink RX9 118 "StevedoreModel" "isPlanned" "Z") (by decide +kernel)) (fun _ h9 => h9) rfl dX9_costIf_2 ?_
  refine lv_if_ne (tgt := 12) hx hb dX9_costIf_5 (by decide) (fun c0 => absurd (by decide) c0) (fun _ => ?_)
  refine lv_iconst (v := 1) hx hb dX9_costIf_8 (by decide) ?_
  refine lv_goto (tgt := 13) hx hb dX9_costIf_9 (by decide) ?_
  refine lv_iconst (v := 1) hx hb dX9_costIf_13 (by decide) ?_
  have hPc := hP.sub (ws' := [(h0, .inr (9, [m0, m1, m2, m3, m4, m5, m6, m7, m8, m9, m10, m11, m12, m13, m14, m15, m16, m17, m18, m19, m20, m21, m22, m23, .int 0, m25, m26, m27, m28, m29, m30, m31, m32, m33, m34, m35, m36, m37, m38, m39, m40, m41, m42, m43, m44, m45, m46, m47, m48, m49]))]) [0] rfl
  have hDc := hD.sub (ws' := [(h0, .inr (9, [m0, m1, m2, m3, m4, m5, m6, m7, m8, m9, m10, m11, m12, m13, m14, m15, m16, m17, m18, m19, m20, m21, m22, m23, .int 0, m25, m26, m27, m28, m29, m30, m31, m32, m33, m34, m35, m36, m37, m38, m39, m40, m41, m42, m43, m44, m45, m46, m47, m48, m49]))]) [0] (by decide) rfl
  have hFc := va_free (wc := [(h0, .inr (9, [m0, m1, m2, m3, m4, m5, m6, m7, m8, m9, m10, m11, m12, m13, m14, m15, m16, m17, m18, m19, m20, m21, m22, m23, .int 0, m25, m26, m27, m28, m29, m30, m31, m32, m33, m34, m35, m36, m37, m38, m39, m40, m41, m42, m43, m44, m45, m46, m47, m48, m49]))]) hD hS hA [0] rfl
  refine va_calli (va_runV (As := [.int 1, .int 1]) (rest := []) ⟨hx, hb, hml, hown, hts⟩ (m_start1 l g s.heap.size h0 m0 m1 m2 m3 m4 m5 m6 m7 m8 m9 m10 m11 m12 m13 m14 m15 m16 m17 m18 m19 m20 m21 m22 m23 (.int 0) m25 m26 m27 m28 m29 m30 m31 m32 m33 m34 m35 m36 m37 m38 m39 m40 m41 m42 m43 m44 m45 m46 m47 m48 m49 1 (by first | assumption | decide | omega | simp_all)) (cwV 2 hts gX9_costIf_X9_start rfl rfl rfl (by decide +kernel) ⟨Nat.le_of_ble_eq_true rfl, Nat.le_of_ble_eq_true rfl⟩) ⟨xB.blind, va_recv hK hPc (ci := 9) (q0 := 0) rfl rfl, fun U9 hU9 hW9 => ⟨rfl, xB.mk hPc hK hDc hU9 hW9⟩⟩ rfl rfl hl.1 rfl (lv_room (Nat.le_of_ble_eq_true rfl)) dX9_costIf_14 ⟨Nat.le_of_ble_eq_true rfl, Nat.le_of_ble_eq_true rfl⟩) hS (fun q _ h => hFc q h) hFc (fun r_1 u_2 t H1 locs ht hvm hw_3 hB hz1 hk1 hS => ?_)
  obtain ⟨hP1, hK1, hD1⟩ := hB
  rw [ht] at hP1
  obtain ⟨hP, hD⟩ := va_join (wr := []) (w1 := [(h0, .inr (9, [.int 1, m1, m2, m3, m4, m5, m6, m7, m8, m9, m10, m11, m12, m13, m14, m15, m16, m17, m18, m19, m20, m21, m22, m23, .int 0, m25, m26, m27, m28, m29, m30, m31, m32, m33, m34, m35, m36, m37, m38, m39, m40, m41, m42, m43, m44, m45, m46, m47, m48, m49]))]) hP hD [0] [] rfl rfl (by decide) (by decide) hk1 hFc hP1 hD1
  generalize H1 = H at hP hS ⊢
  have hP : va_P (xD g) vwCl [(h0, .inr (9, [.int 1, m1, m2, m3, m4, m5, m6, m7, m8, m9, m10, m11, m12, m13, m14, m15, m16, m17, m18, m19, m20, m21, m22, m23, .int 0, m25, m26, m27, m28, m29, m30, m31, m32, m33, m34, m35, m36, m37, m38, m39, m40, m41, m42, m43, m44, m45, m46, m47, m48, m49]))] H := hP
  have hD : va_D A [(h0, .inr (9, [.int 1, m1, m2, m3, m4, m5, m6, m7, m8, m9, m10, m11, m12, m13, m14, m15, m16, m17, m18, m19, m20, m21, m22, m23, .int 0, m25, m26, m27, m28, m29, m30, m31, m32, m33, m34, m35, m36, m37, m38, m39, m40, m41, m42, m43, m44, m45, m46, m47, m48, m49]))] := hD
  try dsimp only at hw_3
  obtain rfl := hw_3
  refine lv_if_ne (tgt := 66) hx hb dX9_costIf_17 (by decide) (fun _ => ?_) (fun c0 => absurd c0 (by decide))
  refine lv_iconst (v := 0) hx hb dX9_costIf_66 (by decide) ?_
  have hP9 := hP.sub (ws' := [(h0, .inr (9, [.int 1, m1, m2, m3, m4, m5, m6, m7, m8, m9, m10, m11, m12, m13, m14, m15, m16, m17, m18, m19, m20, m21, m22, m23, .int 0, m25, m26, m27, m28, m29, m30, m31, m32, m33, m34, m35, m36, m37, m38, m39, m40, m41, m42, m43, m44, m45, m46, m47, m48, m49]))]) [0] rfl
  have hD9 := hD.sub (ws' := [(h0, .inr (9, [.int 1, m1, m2, m3, m4, m5, m6, m7, m8, m9, m10, m11, m12, m13, m14, m15, m16, m17, m18, m19, m20, m21, m22, m23, .int 0, m25, m26, m27, m28, m29, m30, m31, m32, m33, m34, m35, m36, m37, m38, m39, m40, m41, m42, m43, m44, m45, m46, m47, m48, m49]))]) [0] (by decide) rfl
  exact W.iret (v := 0) hx hb hr (fun t ht hW => ⟨⟨0, 1, rfl, ⟨rfl, rfl⟩, ⟨m1, m2, m3, m4, m5, m6, m7, m8, m9, m10, m11, m12, m13, m14, m15, m16, m17, m18, m19, m20, m21, m22, m23, (.int 0), m25, m26, m27, m28, m29, m30, m31, m32, m33, m34, m35, m36, m37, m38, m39, m40, m41, m42, m43, m44, m45, m46, m47, m48, m49, by rw [ht]; exact hP9, va_K.moved hW.alike hK, hD9⟩⟩, hS.F ht⟩) hS.2.2 dX9_costIf_67
theorem dX9_slotOf_0 : decode cX9_slotOf 0 = .ok (.aload_n 0, 1) := by decide +kernel
theorem dX9_slotOf_1 : decode cX9_slotOf 1 = .ok (.iload_n 1, 1) := by decide +kernel
theorem dX9_slotOf_2 : decode cX9_slotOf 2 = .ok (.aload_n 0, 1) := by decide +kernel
theorem dX9_slotOf_3 : decode cX9_slotOf 3 = .ok (.getfield 155, 3) := by decide +kernel
theorem dX9_slotOf_6 : decode cX9_slotOf 6 = .ok (.iconst 1, 1) := by decide +kernel
theorem dX9_slotOf_7 : decode cX9_slotOf 7 = .ok (.isub, 1) := by decide +kernel
theorem dX9_slotOf_8 : decode cX9_slotOf 8 = .ok (.invokevirtual 304, 3) := by decide +kernel
set_option maxRecDepth 20000 in
theorem ggX9_slotOf_X9_isUnslotted : GoodIn wsX9_slotOf wsX9_isUnslotted := goodIn_r _ [7, 8, 9, 10, 11, 6, 12, 13, 14, 15, 16, 17, 18, 19, 20, 21, 22, 23, 24, 25, 26, 27, 28, 29, 30, 31, 32, 33, 34, 35, 36, 37, 38, 39, 40, 41, 42, 43, 44, 45, 46, 47, 48, 49, 50, 51, 52, 53, 54, 55, 56, 57, 58, 59, 60, 61, 62, 63, 64, 65, 66, 67, 68, 69, 70] rfl (by decide +kernel)
set_option maxRecDepth 20000 in
theorem gX9_slotOf_X9_isUnslotted : GoodIn wsX9_slotOf (wsV RX9 304 RX9 yX9_isUnslotted wsX9_isUnslotted) := goodIn_app (goodIn_of _ (by decide +kernel)) ggX9_slotOf_X9_isUnslotted
theorem dX9_slotOf_11 : decode cX9_slotOf 11 = .ok (.ifCond .eq 7, 3) := by decide +kernel
theorem dX9_slotOf_14 : decode cX9_slotOf 14 = .ok (.iconst 0, 1) := by decide +kernel
theorem dX9_slotOf_15 : decode cX9_slotOf 15 = .ok (.goto 9, 3) := by decide +kernel
theorem dX9_slotOf_24 : decode cX9_slotOf 24 = .ok (.ireturn, 1) := by decide +kernel
set_option maxHeartbeats 4000000 in
set_option maxRecDepth 100000 in
theorem m0_slotOf (l : Launch) (g : xG) (sz : Nat) (h0 : Nat) (m0 : Value) (m1 : Value) (m2 : Value) (m3 : Value) (m4 : Value) (m5 : Value) (m6 : Value) (m7 : Value) (m9 : Value) (m10 : Value) (m11 : Value) (m12 : Value) (m13 : Value) (m14 : Value) (m15 : Value) (m16 : Value) (m17 : Value) (m18 : Value) (m19 : Value) (m20 : Value) (m21 : Value) (m22 : Value) (m23 : Value) (m24 : Value) (m25 : Value) (m26 : Value) (m27 : Value) (m28 : Value) (m29 : Value) (m30 : Value) (m31 : Value) (m32 : Value) (m33 : Value) (m34 : Value) (m35 : Value) (m36 : Value) (m37 : Value) (m39 : Value) (m40 : Value) (m41 : Value) (m42 : Value) (m43 : Value) (m44 : Value) (m45 : Value) (m46 : Value) (m47 : Value) (m48 : Value) (m49 : Value) (p0 : Int32)  : Met l yX9_slotOf wsX9_slotOf ({ frames := 3, cells := 0, slots := 0, locals := 66 }) (va_Pc [.ref h0, .int p0] (fun U => xB g [(h0, .inr (9, [m0, m1, m2, m3, m4, m5, m6, m7, .int 0, m9, m10, m11, m12, m13, m14, m15, m16, m17, m18, m19, m20, m21, m22, m23, m24, m25, m26, m27, m28, m29, m30, m31, m32, m33, m34, m35, m36, m37, .int 0, m39, m40, m41, m42, m43, m44, m45, m46, m47, m48, m49]))] sz U)) (va_Qi (fun (r : Int32) (u : Int32) => u = 1 ∧ r = 0) (fun (u : Int32) (t : State) => ∃ (w1 : Value) (w2 : Value) (w3 : Value) (w4 : Value) (w5 : Value) (w6 : Value) (w7 : Value) (w8 : Value) (w9 : Value) (w10 : Value) (w11 : Value) (w12 : Value) (w13 : Value) (w14 : Value) (w15 : Value) (w16 : Value) (w17 : Value) (w18 : Value) (w19 : Value) (w20 : Value) (w21 : Value) (w22 : Value) (w23 : Value) (w24 : Value) (w25 : Value) (w26 : Value) (w27 : Value) (w28 : Value) (w29 : Value) (w30 : Value) (w31 : Value) (w32 : Value) (w33 : Value) (w34 : Value) (w35 : Value) (w36 : Value) (w37 : Value) (w38 : Value) (w39 : Value) (w40 : Value) (w41 : Value) (w42 : Value) (w43 : Value) (w44 : Value) (w45 : Value) (w46 : Value) (w47 : Value) (w48 : Value) (w49 : Value), xE g [(h0, .inr (9, [.int u, w1, w2, w3, w4, w5, w6, w7, w8, w9, w10, w11, w12, w13, w14, w15, w16, w17, w18, w19, w20, w21, w22, w23, w24, w25, w26, w27, w28, w29, w30, w31, w32, w33, w34, w35, w36, w37, w38, w39, w40, w41, w42, w43, w44, w45, w46, w47, w48, w49]))] (va_A [(h0, .inr (9, [m0, m1, m2, m3, m4, m5, m6, m7, .int 0, m9, m10, m11, m12, m13, m14, m15, m16, m17, m18, m19, m20, m21, m22, m23, m24, m25, m26, m27, m28, m29, m30, m31, m32, m33, m34, m35, m36, m37, .int 0, m39, m40, m41, m42, m43, m44, m45, m46, m47, m48, m49]))] sz) t) (va_A [(h0, .inr (9, [m0, m1, m2, m3, m4, m5, m6, m7, .int 0, m9, m10, m11, m12, m13, m14, m15, m16, m17, m18, m19, m20, m21, m22, m23, m24, m25, m26, m27, m28, m29, m30, m31, m32, m33, m34, m35, m36, m37, .int 0, m39, m40, m41, m42, m43, m44, m45, m46, m47, m48, m49]))] sz)) 0 0 (va_A [(h0, .inr (9, [m0, m1, m2, m3, m4, m5, m6, m7, .int 0, m9, m10, m11, m12, m13, m14, m15, m16, m17, m18, m19, m20, m21, m22, m23, m24, m25, m26, m27, m28, m29, m30, m31, m32, m33, m34, m35, m36, m37, .int 0, m39, m40, m41, m42, m43, m44, m45, m46, m47, m48, m49]))] sz) := by
  refine Met.ofW (cc := cX9_slotOf) (maxL := 2) (ret := (some .int)) (by decide) rfl ?_
  intro p e s m args below meth c s₁ B hml hv
  obtain ⟨rfl, ⟨hsz, hP, hK, hD0⟩⟩ := hv
  have hx := B.exec
  have hb := B.bytes
  have hr := B.returns
  have hts := atoms_spec (ws := wsX9_slotOf) B.pre
  have hown : s.vm.findClass RX9 = some m.cls := findClass_of_methodNamed B.named
  have hlocks := B.notSynchronized
  subst hsz
  have hD := hD0.self (sz := s.heap.size)
  generalize hAe : va_A [(h0, .inr (9, [m0, m1, m2, m3, m4, m5, m6, m7, .int 0, m9, m10, m11, m12, m13, m14, m15, m16, m17, m18, m19, m20, m21, m22, m23, m24, m25, m26, m27, m28, m29, m30, m31, m32, m33, m34, m35, m36, m37, .int 0, m39, m40, m41, m42, m43, m44, m45, m46, m47, m48, m49]))] s.heap.size = A at hD ⊢
  have hA : ∀ q : Nat, s.heap.size ≤ q → A q := fun q h => by rw [← hAe]; exact Or.inr h
  have hS : va_S A s.heap s.heap [] := va_S.rf
  have hl := lv_entry ([.ref h0, .int p0]) (n := 2) (Nat.le_of_ble_eq_true rfl)
  rw [lg_entry_eq]
  generalize (lg_sl ([.ref h0, .int p0]) ++ List.replicate (2 - (lg_sl ([.ref h0, .int p0])).length) Slot.unset).toArray = ls at hl ⊢
  have hl : lv_has ls 2 [(0, .ref h0), (1, .int p0)] := hl
  have hFX9 : ∀ w ∈ u_ws RX9 TX9 50, w ∈ wsX9_slotOf := by decide +kernel
  refine lv_aload_n hx hb dX9_slotOf_0 rfl (lv_at hl 0 rfl) ?_
  refine lv_iload_n hx hb dX9_slotOf_1 rfl (lv_at hl 1 rfl) ?_
  refine lv_aload_n hx hb dX9_slotOf_2 rfl (lv_at hl 0 rfl) ?_
  refine va_get (D := xD g) (ci := 9) (v := .int 0) (C := RX9) (T := TX9) (N := 50) hx hb hts hFX9 hown hK hP 0 rfl rfl 8 (by decide) (hts (.fieldLink RX9 155 "StevedoreModel" "containers" "I") (by decide +kernel)) (fun _ h9 => h9) rfl dX9_slotOf_3 ?_
  refine lv_iconst (v := 1) hx hb dX9_slotOf_6 (by decide) ?_
  refine lv_isub hx hb dX9_slotOf_7 ?_
  refine lv_topi (fun v_1 ev => ?_)
  obtain rfl : v_1 = ((-1) : Int32) := ev.trans (by decide)
  have hPc := hP.sub (ws' := [(h0, .inr (9, [m0, m1, m2, m3, m4, m5, m6, m7, .int 0, m9, m10, m11, m12, m13, m14, m15, m16, m17, m18, m19, m20, m21, m22, m23, m24, m25, m26, m27, m28, m29, m30, m31, m32, m33, m34, m35, m36, m37, .int 0, m39, m40, m41, m42, m43, m44, m45, m46, m47, m48, m49]))]) [0] rfl
  have hDc := hD.sub (ws' := [(h0, .inr (9, [m0, m1, m2, m3, m4, m5, m6, m7, .int 0, m9, m10, m11, m12, m13, m14, m15, m16, m17, m18, m19, m20, m21, m22, m23, m24, m25, m26, m27, m28, m29, m30, m31, m32, m33, m34, m35, m36, m37, .int 0, m39, m40, m41, m42, m43, m44, m45, m46, m47, m48, m49]))]) [0] (by decide) rfl
  have hFc := va_free (wc := [(h0, .inr (9, [m0, m1, m2, m3, m4, m5, m6, m7, .int 0, m9, m10, m11, m12, m13, m14, m15, m16, m17, m18, m19, m20, m21, m22, m23, m24, m25, m26, m27, m28, m29, m30, m31, m32, m33, m34, m35, m36, m37, .int 0, m39, m40, m41, m42, m43, m44, m45, m46, m47, m48, m49]))]) hD hS hA [0] rfl
  refine va_calli (va_runV (As := [.int p0, .int (-1)]) (rest := []) ⟨hx, hb, hml, hown, hts⟩ (m0_isUnslotted l g s.heap.size h0 m0 m1 m2 m3 m4 m5 m6 m7 (.int 0) m9 m10 m11 m12 m13 m14 m15 m16 m17 m18 m19 m20 m21 m22 m23 m24 m25 m26 m27 m28 m29 m30 m31 m32 m33 m34 m35 m36 m37 m39 m40 m41 m42 m43 m44 m45 m46 m47 m48 m49 p0 (-1)) (cwV 2 hts gX9_slotOf_X9_isUnslotted rfl rfl rfl (by decide +kernel) ⟨Nat.le_of_ble_eq_true rfl, Nat.le_of_ble_eq_true rfl⟩) ⟨xB.blind, va_recv hK hPc (ci := 9) (q0 := 0) rfl rfl, fun U9 hU9 hW9 => ⟨rfl, xB.mk hPc hK hDc hU9 hW9⟩⟩ rfl rfl hl.1 rfl (lv_room (Nat.le_of_ble_eq_true rfl)) dX9_slotOf_8 ⟨Nat.le_of_ble_eq_true rfl, Nat.le_of_ble_eq_true rfl⟩) hS (fun q _ h => hFc q h) hFc (fun r_2 u_3 t H1 locs ht hvm hw_4 hB hz1 hk1 hS => ?_)
  obtain ⟨hP1, hK1, hD1⟩ := hB
  rw [ht] at hP1
  obtain ⟨hP, hD⟩ := va_join (wr := []) (w1 := [(h0, .inr (9, [.int 1, m1, m2, m3, m4, m5, m6, m7, .int 0, m9, m10, m11, m12, m13, m14, m15, m16, m17, m18, m19, m20, m21, m22, m23, m24, m25, m26, m27, m28, m29, m30, m31, m32, m33, m34, m35, m36, m37, .int 0, m39, m40, m41, m42, m43, m44, m45, m46, m47, m48, m49]))]) hP hD [0] [] rfl rfl (by decide) (by decide) hk1 hFc hP1 hD1
  generalize H1 = H at hP hS ⊢
  have hP : va_P (xD g) vwCl [(h0, .inr (9, [.int 1, m1, m2, m3, m4, m5, m6, m7, .int 0, m9, m10, m11, m12, m13, m14, m15, m16, m17, m18, m19, m20, m21, m22, m23, m24, m25, m26, m27, m28, m29, m30, m31, m32, m33, m34, m35, m36, m37, .int 0, m39, m40, m41, m42, m43, m44, m45, m46, m47, m48, m49]))] H := hP
  have hD : va_D A [(h0, .inr (9, [.int 1, m1, m2, m3, m4, m5, m6, m7, .int 0, m9, m10, m11, m12, m13, m14, m15, m16, m17, m18, m19, m20, m21, m22, m23, m24, m25, m26, m27, m28, m29, m30, m31, m32, m33, m34, m35, m36, m37, .int 0, m39, m40, m41, m42, m43, m44, m45, m46, m47, m48, m49]))] := hD
  try dsimp only at hw_4
  obtain rfl := hw_4
  refine lv_if_eq (tgt := 18) hx hb dX9_slotOf_11 (by decide) (fun c0 => absurd c0 (by decide)) (fun _ => ?_)
  refine lv_iconst (v := 0) hx hb dX9_slotOf_14 (by decide) ?_
  refine lv_goto (tgt := 24) hx hb dX9_slotOf_15 (by decide) ?_
  have hP9 := hP.sub (ws' := [(h0, .inr (9, [.int 1, m1, m2, m3, m4, m5, m6, m7, .int 0, m9, m10, m11, m12, m13, m14, m15, m16, m17, m18, m19, m20, m21, m22, m23, m24, m25, m26, m27, m28, m29, m30, m31, m32, m33, m34, m35, m36, m37, .int 0, m39, m40, m41, m42, m43, m44, m45, m46, m47, m48, m49]))]) [0] rfl
  have hD9 := hD.sub (ws' := [(h0, .inr (9, [.int 1, m1, m2, m3, m4, m5, m6, m7, .int 0, m9, m10, m11, m12, m13, m14, m15, m16, m17, m18, m19, m20, m21, m22, m23, m24, m25, m26, m27, m28, m29, m30, m31, m32, m33, m34, m35, m36, m37, .int 0, m39, m40, m41, m42, m43, m44, m45, m46, m47, m48, m49]))]) [0] (by decide) rfl
  exact W.iret (v := 0) hx hb hr (fun t ht hW => ⟨⟨0, 1, rfl, ⟨rfl, rfl⟩, ⟨m1, m2, m3, m4, m5, m6, m7, (.int 0), m9, m10, m11, m12, m13, m14, m15, m16, m17, m18, m19, m20, m21, m22, m23, m24, m25, m26, m27, m28, m29, m30, m31, m32, m33, m34, m35, m36, m37, (.int 0), m39, m40, m41, m42, m43, m44, m45, m46, m47, m48, m49, by rw [ht]; exact hP9, va_K.moved hW.alike hK, hD9⟩⟩, hS.F ht⟩) hS.2.2 dX9_slotOf_24
theorem dX9_inSlot_0 : decode cX9_inSlot 0 = .ok (.aload_n 0, 1) := by decide +kernel
theorem dX9_inSlot_1 : decode cX9_inSlot 1 = .ok (.iload_n 1, 1) := by decide +kernel
theorem dX9_inSlot_2 : decode cX9_inSlot 2 = .ok (.bipush 15, 2) := by decide +kernel
theorem dX9_inSlot_4 : decode cX9_inSlot 4 = .ok (.invokevirtual 304, 3) := by decide +kernel
set_option maxRecDepth 20000 in
theorem ggX9_inSlot_X9_isUnslotted : GoodIn wsX9_inSlot wsX9_isUnslotted := goodIn_r _ [7, 8, 9, 10, 11, 6, 12, 13, 14, 15, 16, 17, 18, 19, 20, 21, 22, 23, 24, 25, 26, 27, 28, 29, 30, 31, 32, 33, 34, 35, 36, 37, 38, 39, 40, 41, 42, 43, 44, 45, 46, 47, 48, 49, 50, 51, 52, 53, 54, 55, 56, 57, 58, 59, 60, 61, 62, 63, 64, 65, 66, 67, 68, 69, 70] rfl (by decide +kernel)
set_option maxRecDepth 20000 in
theorem gX9_inSlot_X9_isUnslotted : GoodIn wsX9_inSlot (wsV RX9 304 RX9 yX9_isUnslotted wsX9_isUnslotted) := goodIn_app (goodIn_of _ (by decide +kernel)) ggX9_inSlot_X9_isUnslotted
theorem dX9_inSlot_7 : decode cX9_inSlot 7 = .ok (.ifCond .eq 5, 3) := by decide +kernel
theorem dX9_inSlot_10 : decode cX9_inSlot 10 = .ok (.iconst 0, 1) := by decide +kernel
theorem dX9_inSlot_11 : decode cX9_inSlot 11 = .ok (.ireturn, 1) := by decide +kernel
set_option maxHeartbeats 4000000 in
set_option maxRecDepth 100000 in
theorem m0_inSlot (l : Launch) (g : xG) (sz : Nat) (h0 : Nat) (m0 : Value) (m1 : Value) (m2 : Value) (m3 : Value) (m4 : Value) (m5 : Value) (m6 : Value) (m7 : Value) (m8 : Value) (m9 : Value) (m10 : Value) (m11 : Value) (m12 : Value) (m13 : Value) (m14 : Value) (m15 : Value) (m16 : Value) (m17 : Value) (m18 : Value) (m19 : Value) (m20 : Value) (m21 : Value) (m22 : Value) (m23 : Value) (m24 : Value) (m25 : Value) (m26 : Value) (m27 : Value) (m28 : Value) (m29 : Value) (m30 : Value) (m31 : Value) (m32 : Value) (m33 : Value) (m34 : Value) (m35 : Value) (m36 : Value) (m37 : Value) (m39 : Value) (m40 : Value) (m41 : Value) (m42 : Value) (m43 : Value) (m44 : Value) (m45 : Value) (m46 : Value) (m47 : Value) (m48 : Value) (m49 : Value) (p0 : Int32)  : Met l yX9_inSlot wsX9_inSlot ({ frames := 3, cells := 0, slots := 0, locals := 66 }) (va_Pc [.ref h0, .int p0] (fun U => xB g [(h0, .inr (9, [m0, m1, m2, m3, m4, m5, m6, m7, m8, m9, m10, m11, m12, m13, m14, m15, m16, m17, m18, m19, m20, m21, m22, m23, m24, m25, m26, m27, m28, m29, m30, m31, m32, m33, m34, m35, m36, m37, .int 0, m39, m40, m41, m42, m43, m44, m45, m46, m47, m48, m49]))] sz U)) (va_Qi (fun (r : Int32) (u : Int32) => u = 1 ∧ r = 0) (fun (u : Int32) (t : State) => ∃ (w1 : Value) (w2 : Value) (w3 : Value) (w4 : Value) (w5 : Value) (w6 : Value) (w7 : Value) (w8 : Value) (w9 : Value) (w10 : Value) (w11 : Value) (w12 : Value) (w13 : Value) (w14 : Value) (w15 : Value) (w16 : Value) (w17 : Value) (w18 : Value) (w19 : Value) (w20 : Value) (w21 : Value) (w22 : Value) (w23 : Value) (w24 : Value) (w25 : Value) (w26 : Value) (w27 : Value) (w28 : Value) (w29 : Value) (w30 : Value) (w31 : Value) (w32 : Value) (w33 : Value) (w34 : Value) (w35 : Value) (w36 : Value) (w37 : Value) (w38 : Value) (w39 : Value) (w40 : Value) (w41 : Value) (w42 : Value) (w43 : Value) (w44 : Value) (w45 : Value) (w46 : Value) (w47 : Value) (w48 : Value) (w49 : Value), xE g [(h0, .inr (9, [.int u, w1, w2, w3, w4, w5, w6, w7, w8, w9, w10, w11, w12, w13, w14, w15, w16, w17, w18, w19, w20, w21, w22, w23, w24, w25, w26, w27, w28, w29, w30, w31, w32, w33, w34, w35, w36, w37, w38, w39, w40, w41, w42, w43, w44, w45, w46, w47, w48, w49]))] (va_A [(h0, .inr (9, [m0, m1, m2, m3, m4, m5, m6, m7, m8, m9, m10, m11, m12, m13, m14, m15, m16, m17, m18, m19, m20, m21, m22, m23, m24, m25, m26, m27, m28, m29, m30, m31, m32, m33, m34, m35, m36, m37, .int 0, m39, m40, m41, m42, m43, m44, m45, m46, m47, m48, m49]))] sz) t) (va_A [(h0, .inr (9, [m0, m1, m2, m3, m4, m5, m6, m7, m8, m9, m10, m11, m12, m13, m14, m15, m16, m17, m18, m19, m20, m21, m22, m23, m24, m25, m26, m27, m28, m29, m30, m31, m32, m33, m34, m35, m36, m37, .int 0, m39, m40, m41, m42, m43, m44, m45, m46, m47, m48, m49]))] sz)) 0 0 (va_A [(h0, .inr (9, [m0, m1, m2, m3, m4, m5, m6, m7, m8, m9, m10, m11, m12, m13, m14, m15, m16, m17, m18, m19, m20, m21, m22, m23, m24, m25, m26, m27, m28, m29, m30, m31, m32, m33, m34, m35, m36, m37, .int 0, m39, m40, m41, m42, m43, m44, m45, m46, m47, m48, m49]))] sz) := by
  refine Met.ofW (cc := cX9_inSlot) (maxL := 4) (ret := (some .int)) (by decide) rfl ?_
  intro p e s m args below meth c s₁ B hml hv
  obtain ⟨rfl, ⟨hsz, hP, hK, hD0⟩⟩ := hv
  have hx := B.exec
  have hb := B.bytes
  have hr := B.returns
  have hts := atoms_spec (ws := wsX9_inSlot) B.pre
  have hown : s.vm.findClass RX9 = some m.cls := findClass_of_methodNamed B.named
  have hlocks := B.notSynchronized
  subst hsz
  have hD := hD0.self (sz := s.heap.size)
  generalize hAe : va_A [(h0, .inr (9, [m0, m1, m2, m3, m4, m5, m6, m7, m8, m9, m10, m11, m12, m13, m14, m15, m16, m17, m18, m19, m20, m21, m22, m23, m24, m25, m26, m27, m28, m29, m30, m31, m32, m33, m34, m35, m36, m37, .int 0, m39, m40, m41, m42, m43, m44, m45, m46, m47, m48, m49]))] s.heap.size = A at hD ⊢
  have hA : ∀ q : Nat, s.heap.size ≤ q → A q := fun q h => by rw [← hAe]; exact Or.inr h
  have hS : va_S A s.heap s.heap [] := va_S.rf
  have hl := lv_entry ([.ref h0, .int p0]) (n := 4) (Nat.le_of_ble_eq_true rfl)
  rw [lg_entry_eq]
  generalize (lg_sl ([.ref h0, .int p0]) ++ List.replicate (4 - (lg_sl ([.ref h0, .int p0])).length) Slot.unset).toArray = ls at hl ⊢
  have hl : lv_has ls 4 [(0, .ref h0), (1, .int p0)] := hl
  refine lv_aload_n hx hb dX9_inSlot_0 rfl (lv_at hl 0 rfl) ?_
  refine lv_iload_n hx hb dX9_inSlot_1 rfl (lv_at hl 1 rfl) ?_
  refine lv_bipush (v := 15) hx hb dX9_inSlot_2 (by decide) ?_
  have hPc := hP.sub (ws' := [(h0, .inr (9, [m0, m1, m2, m3, m4, m5, m6, m7, m8, m9, m10, m11, m12, m13, m14, m15, m16, m17, m18, m19, m20, m21, m22, m23, m24, m25, m26, m27, m28, m29, m30, m31, m32, m33, m34, m35, m36, m37, .int 0, m39, m40, m41, m42, m43, m44, m45, m46, m47, m48, m49]))]) [0] rfl
  have hDc := hD.sub (ws' := [(h0, .inr (9, [m0, m1, m2, m3, m4, m5, m6, m7, m8, m9, m10, m11, m12, m13, m14, m15, m16, m17, m18, m19, m20, m21, m22, m23, m24, m25, m26, m27, m28, m29, m30, m31, m32, m33, m34, m35, m36, m37, .int 0, m39, m40, m41, m42, m43, m44, m45, m46, m47, m48, m49]))]) [0] (by decide) rfl
  have hFc := va_free (wc := [(h0, .inr (9, [m0, m1, m2, m3, m4, m5, m6, m7, m8, m9, m10, m11, m12, m13, m14, m15, m16, m17, m18, m19, m20, m21, m22, m23, m24, m25, m26, m27, m28, m29, m30, m31, m32, m33, m34, m35, m36, m37, .int 0, m39, m40, m41, m42, m43, m44, m45, m46, m47, m48, m49]))]) hD hS hA [0] rfl
  refine va_calli (va_runV (As := [.int p0, .int 15]) (rest := []) ⟨hx, hb, hml, hown, hts⟩ (m0_isUnslotted l g s.heap.size h0 m0 m1 m2 m3 m4 m5 m6 m7 m8 m9 m10 m11 m12 m13 m14 m15 m16 m17 m18 m19 m20 m21 m22 m23 m24 m25 m26 m27 m28 m29 m30 m31 m32 m33 m34 m35 m36 m37 m39 m40 m41 m42 m43 m44 m45 m46 m47 m48 m49 p0 15) (cwV 2 hts gX9_inSlot_X9_isUnslotted rfl rfl rfl (by decide +kernel) ⟨Nat.le_of_ble_eq_true rfl, Nat.le_of_ble_eq_true rfl⟩) ⟨xB.blind, va_recv hK hPc (ci := 9) (q0 := 0) rfl rfl, fun U9 hU9 hW9 => ⟨rfl, xB.mk hPc hK hDc hU9 hW9⟩⟩ rfl rfl hl.1 rfl (lv_room (Nat.le_of_ble_eq_true rfl)) dX9_inSlot_4 ⟨Nat.le_of_ble_eq_true rfl, Nat.le_of_ble_eq_true rfl⟩) hS (fun q _ h => hFc q h) hFc (fun r_1 u_2 t H1 locs ht hvm hw_3 hB hz1 hk1 hS => ?_)
  obtain ⟨hP1, hK1, hD1⟩ := hB
  rw [ht] at hP1
  obtain ⟨hP, hD⟩ := va_join (wr := []) (w1 := [(h0, .inr (9, [.int 1, m1, m2, m3, m4, m5, m6, m7, m8, m9, m10, m11, m12, m13, m14, m15, m16, m17, m18, m19, m20, m21, m22, m23, m24, m25, m26, m27, m28, m29, m30, m31, m32, m33, m34, m35, m36, m37, .int 0, m39, m40, m41, m42, m43, m44, m45, m46, m47, m48, m49]))]) hP hD [0] [] rfl rfl (by decide) (by decide) hk1 hFc hP1 hD1
  generalize H1 = H at hP hS ⊢
  have hP : va_P (xD g) vwCl [(h0, .inr (9, [.int 1, m1, m2, m3, m4, m5, m6, m7, m8, m9, m10, m11, m12, m13, m14, m15, m16, m17, m18, m19, m20, m21, m22, m23, m24, m25, m26, m27, m28, m29, m30, m31, m32, m33, m34, m35, m36, m37, .int 0, m39, m40, m41, m42, m43, m44, m45, m46, m47, m48, m49]))] H := hP
  have hD : va_D A [(h0, .inr (9, [.int 1, m1, m2, m3, m4, m5, m6, m7, m8, m9, m10, m11, m12, m13, m14, m15, m16, m17, m18, m19, m20, m21, m22, m23, m24, m25, m26, m27, m28, m29, m30, m31, m32, m33, m34, m35, m36, m37, .int 0, m39, m40, m41, m42, m43, m44, m45, m46, m47, m48, m49]))] := hD
  try dsimp only at hw_3
  obtain rfl := hw_3
  refine lv_if_eq (tgt := 12) hx hb dX9_inSlot_7 (by decide) (fun c0 => absurd c0 (by decide)) (fun _ => ?_)
  refine lv_iconst (v := 0) hx hb dX9_inSlot_10 (by decide) ?_
  have hP9 := hP.sub (ws' := [(h0, .inr (9, [.int 1, m1, m2, m3, m4, m5, m6, m7, m8, m9, m10, m11, m12, m13, m14, m15, m16, m17, m18, m19, m20, m21, m22, m23, m24, m25, m26, m27, m28, m29, m30, m31, m32, m33, m34, m35, m36, m37, .int 0, m39, m40, m41, m42, m43, m44, m45, m46, m47, m48, m49]))]) [0] rfl
  have hD9 := hD.sub (ws' := [(h0, .inr (9, [.int 1, m1, m2, m3, m4, m5, m6, m7, m8, m9, m10, m11, m12, m13, m14, m15, m16, m17, m18, m19, m20, m21, m22, m23, m24, m25, m26, m27, m28, m29, m30, m31, m32, m33, m34, m35, m36, m37, .int 0, m39, m40, m41, m42, m43, m44, m45, m46, m47, m48, m49]))]) [0] (by decide) rfl
  exact W.iret (v := 0) hx hb hr (fun t ht hW => ⟨⟨0, 1, rfl, ⟨rfl, rfl⟩, ⟨m1, m2, m3, m4, m5, m6, m7, m8, m9, m10, m11, m12, m13, m14, m15, m16, m17, m18, m19, m20, m21, m22, m23, m24, m25, m26, m27, m28, m29, m30, m31, m32, m33, m34, m35, m36, m37, (.int 0), m39, m40, m41, m42, m43, m44, m45, m46, m47, m48, m49, by rw [ht]; exact hP9, va_K.moved hW.alike hK, hD9⟩⟩, hS.F ht⟩) hS.2.2 dX9_inSlot_11
theorem dX9_vessels_0 : decode cX9_vessels 0 = .ok (.aload_n 0, 1) := by decide +kernel
theorem dX9_vessels_1 : decode cX9_vessels 1 = .ok (.aload_n 0, 1) := by decide +kernel
theorem dX9_vessels_2 : decode cX9_vessels 2 = .ok (.getfield 144, 3) := by decide +kernel
theorem dX9_vessels_5 : decode cX9_vessels 5 = .ok (.invokevirtual 164, 3) := by decide +kernel
set_option maxRecDepth 20000 in
theorem ggX9_vessels_X9_plain : GoodIn wsX9_vessels wsX9_plain := goodIn_r _ [6, 7, 8, 9, 10, 11, 12, 13, 14, 15, 16, 17, 18, 19, 20, 21, 22, 23, 24, 25, 26, 27, 28, 29, 30, 31, 32, 33, 34, 35, 36, 37, 38, 39, 40, 41, 42, 43, 44, 45, 46, 47, 48, 49, 50, 51, 52, 53, 54, 55, 56, 57] rfl (by decide +kernel)
set_option maxRecDepth 20000 in
theorem gX9_vessels_X9_plain : GoodIn wsX9_vessels (wsV RX9 164 RX9 yX9_plain wsX9_plain) := goodIn_app (goodIn_of _ (by decide +kernel)) ggX9_vessels_X9_plain
theorem dX9_vessels_8 : decode cX9_vessels 8 = .ok (.ireturn, 1) := by decide +kernel
set_option maxHeartbeats 4000000 in
set_option maxRecDepth 100000 in
theorem m0_vessels (l : Launch) (g : xG) (sz : Nat) (h0 : Nat) (m0 : Value) (m1 : Value) (m2 : Value) (m4 : Value) (m5 : Value) (m6 : Value) (m7 : Value) (m8 : Value) (m9 : Value) (m10 : Value) (m11 : Value) (m12 : Value) (m13 : Value) (m14 : Value) (m15 : Value) (m16 : Value) (m17 : Value) (m18 : Value) (m19 : Value) (m20 : Value) (m21 : Value) (m22 : Value) (m23 : Value) (m24 : Value) (m25 : Value) (m26 : Value) (m27 : Value) (m28 : Value) (m29 : Value) (m30 : Value) (m31 : Value) (m32 : Value) (m33 : Value) (m34 : Value) (m35 : Value) (m36 : Value) (m37 : Value) (m38 : Value) (m39 : Value) (m40 : Value) (m41 : Value) (m42 : Value) (m43 : Value) (m44 : Value) (m45 : Value) (m46 : Value) (m47 : Value) (m48 : Value) (m49 : Value)  : Met l yX9_vessels wsX9_vessels ({ frames := 1, cells := 0, slots := 0, locals := 21 }) (va_Pc [.ref h0] (fun U => xB g [(h0, .inr (9, [m0, m1, m2, .int 0, m4, m5, m6, m7, m8, m9, m10, m11, m12, m13, m14, m15, m16, m17, m18, m19, m20, m21, m22, m23, m24, m25, m26, m27, m28, m29, m30, m31, m32, m33, m34, m35, m36, m37, m38, m39, m40, m41, m42, m43, m44, m45, m46, m47, m48, m49]))] sz U)) (va_Qi (fun (r : Int32) (u : Int32) => u = 0 ∧ r = 0) (fun (u : Int32) (t : State) => ∃ (w1 : Value) (w2 : Value) (w3 : Value) (w4 : Value) (w5 : Value) (w6 : Value) (w7 : Value) (w8 : Value) (w9 : Value) (w10 : Value) (w11 : Value) (w12 : Value) (w13 : Value) (w14 : Value) (w15 : Value) (w16 : Value) (w17 : Value) (w18 : Value) (w19 : Value) (w20 : Value) (w21 : Value) (w22 : Value) (w23 : Value) (w24 : Value) (w25 : Value) (w26 : Value) (w27 : Value) (w28 : Value) (w29 : Value) (w30 : Value) (w31 : Value) (w32 : Value) (w33 : Value) (w34 : Value) (w35 : Value) (w36 : Value) (w37 : Value) (w38 : Value) (w39 : Value) (w40 : Value) (w41 : Value) (w42 : Value) (w43 : Value) (w44 : Value) (w45 : Value) (w46 : Value) (w47 : Value) (w48 : Value) (w49 : Value), xE g [(h0, .inr (9, [.int u, w1, w2, w3, w4, w5, w6, w7, w8, w9, w10, w11, w12, w13, w14, w15, w16, w17, w18, w19, w20, w21, w22, w23, w24, w25, w26, w27, w28, w29, w30, w31, w32, w33, w34, w35, w36, w37, w38, w39, w40, w41, w42, w43, w44, w45, w46, w47, w48, w49]))] (va_A [(h0, .inr (9, [m0, m1, m2, .int 0, m4, m5, m6, m7, m8, m9, m10, m11, m12, m13, m14, m15, m16, m17, m18, m19, m20, m21, m22, m23, m24, m25, m26, m27, m28, m29, m30, m31, m32, m33, m34, m35, m36, m37, m38, m39, m40, m41, m42, m43, m44, m45, m46, m47, m48, m49]))] sz) t) (va_A [(h0, .inr (9, [m0, m1, m2, .int 0, m4, m5, m6, m7, m8, m9, m10, m11, m12, m13, m14, m15, m16, m17, m18, m19, m20, m21, m22, m23, m24, m25, m26, m27, m28, m29, m30, m31, m32, m33, m34, m35, m36, m37, m38, m39, m40, m41, m42, m43, m44, m45, m46, m47, m48, m49]))] sz)) 0 0 (va_A [(h0, .inr (9, [m0, m1, m2, .int 0, m4, m5, m6, m7, m8, m9, m10, m11, m12, m13, m14, m15, m16, m17, m18, m19, m20, m21, m22, m23, m24, m25, m26, m27, m28, m29, m30, m31, m32, m33, m34, m35, m36, m37, m38, m39, m40, m41, m42, m43, m44, m45, m46, m47, m48, m49]))] sz) := by
  refine Met.ofW (cc := cX9_vessels) (maxL := 1) (ret := (some .int)) (by decide) rfl ?_
  intro p e s m args below meth c s₁ B hml hv
  obtain ⟨rfl, ⟨hsz, hP, hK, hD0⟩⟩ := hv
  have hx := B.exec
  have hb := B.bytes
  have hr := B.returns
  have hts := atoms_spec (ws := wsX9_vessels) B.pre
  have hown : s.vm.findClass RX9 = some m.cls := findClass_of_methodNamed B.named
  have hlocks := B.notSynchronized
  subst hsz
  have hD := hD0.self (sz := s.heap.size)
  generalize hAe : va_A [(h0, .inr (9, [m0, m1, m2, .int 0, m4, m5, m6, m7, m8, m9, m10, m11, m12, m13, m14, m15, m16, m17, m18, m19, m20, m21, m22, m23, m24, m25, m26, m27, m28, m29, m30, m31, m32, m33, m34, m35, m36, m37, m38, m39, m40, m41, m42, m43, m44, m45, m46, m47, m48, m49]))] s.heap.size = A at hD ⊢
  have hA : ∀ q : Nat, s.heap.size ≤ q → A q := fun q h => by rw [← hAe]; exact Or.inr h
  have hS : va_S A s.heap s.heap [] := va_S.rf
  have hl := lv_entry ([.ref h0]) (n := 1) (Nat.le_of_ble_eq_true rfl)
  rw [lg_entry_eq]
  generalize (lg_sl ([.ref h0]) ++ List.replicate (1 - (lg_sl ([.ref h0])).length) Slot.unset).toArray = ls at hl ⊢
  have hl : lv_has ls 1 [(0, .ref h0)] := hl
  have hFX9 : ∀ w ∈ u_ws RX9 TX9 50, w ∈ wsX9_vessels := by decide +kernel
  refine lv_aload_n hx hb dX9_vessels_0 rfl (lv_at hl 0 rfl) ?_
  refine lv_aload_n hx hb dX9_vessels_1 rfl (lv_at hl 0 rfl) ?_
  refine va_get (D := xD g) (ci := 9) (v := .int 0) (C := RX9) (T := TX9) (N := 50) hx hb hts hFX9 hown hK hP 0 rfl rfl 3 (by decide) (hts (.fieldLink RX9 144 "StevedoreModel" "vessels" "I") (by decide +kernel)) (fun _ h9 => h9) rfl dX9_vessels_2 ?_
  have hPc := hP.sub (ws' := [(h0, .inr (9, [m0, m1, m2, .int 0, m4, m5, m6, m7, m8, m9, m10, m11, m12, m13, m14, m15, m16, m17, m18, m19, m20, m21, m22, m23, m24, m25, m26, m27, m28, m29, m30, m31, m32, m33, m34, m35, m36, m37, m38, m39, m40, m41, m42, m43, m44, m45, m46, m47, m48, m49]))]) [0] rfl
  have hDc := hD.sub (ws' := [(h0, .inr (9, [m0, m1, m2, .int 0, m4, m5, m6, m7, m8, m9, m10, m11, m12, m13, m14, m15, m16, m17, m18, m19, m20, m21, m22, m23, m24, m25, m26, m27, m28, m29, m30, m31, m32, m33, m34, m35, m36, m37, m38, m39, m40, m41, m42, m43, m44, m45, m46, m47, m48, m49]))]) [0] (by decide) rfl
  have hFc := va_free (wc := [(h0, .inr (9, [m0, m1, m2, .int 0, m4, m5, m6, m7, m8, m9, m10, m11, m12, m13, m14, m15, m16, m17, m18, m19, m20, m21, m22, m23, m24, m25, m26, m27, m28, m29, m30, m31, m32, m33, m34, m35, m36, m37, m38, m39, m40, m41, m42, m43, m44, m45, m46, m47, m48, m49]))]) hD hS hA [0] rfl
  refine va_calli (va_runV (As := [.int 0]) (rest := []) ⟨hx, hb, hml, hown, hts⟩ (m_plain l g s.heap.size h0 m0 m1 m2 (.int 0) m4 m5 m6 m7 m8 m9 m10 m11 m12 m13 m14 m15 m16 m17 m18 m19 m20 m21 m22 m23 m24 m25 m26 m27 m28 m29 m30 m31 m32 m33 m34 m35 m36 m37 m38 m39 m40 m41 m42 m43 m44 m45 m46 m47 m48 m49 0) (cwV 1 hts gX9_vessels_X9_plain rfl rfl rfl (by decide +kernel) ⟨Nat.le_of_ble_eq_true rfl, Nat.le_of_ble_eq_true rfl⟩) ⟨xB.blind, va_recv hK hPc (ci := 9) (q0 := 0) rfl rfl, fun U9 hU9 hW9 => ⟨rfl, xB.mk hPc hK hDc hU9 hW9⟩⟩ rfl rfl hl.1 rfl (lv_room (Nat.le_of_ble_eq_true rfl)) dX9_vessels_5 ⟨Nat.le_of_ble_eq_true rfl, Nat.le_of_ble_eq_true rfl⟩) hS (fun q _ h => hFc q h) hFc (fun r_1 u_2 t H1 locs ht hvm hw_3 hB hz1 hk1 hS => ?_)
  obtain ⟨hP1, hK1, hD1⟩ := hB
  rw [ht] at hP1
  obtain ⟨hP, hD⟩ := va_join (wr := []) (w1 := [(h0, .inr (9, [.int 0, m1, m2, .int 0, m4, m5, m6, m7, m8, m9, m10, m11, m12, m13, m14, m15, m16, m17, m18, m19, m20, m21, m22, m23, m24, m25, m26, m27, m28, m29, m30, m31, m32, m33, m34, m35, m36, m37, m38, m39, m40, m41, m42, m43, m44, m45, m46, m47, m48, m49]))]) hP hD [0] [] rfl rfl (by decide) (by decide) hk1 hFc hP1 hD1
  generalize H1 = H at hP hS ⊢
  have hP : va_P (xD g) vwCl [(h0, .inr (9, [.int 0, m1, m2, .int 0, m4, m5, m6, m7, m8, m9, m10, m11, m12, m13, m14, m15, m16, m17, m18, m19, m20, m21, m22, m23, m24, m25, m26, m27, m28, m29, m30, m31, m32, m33, m34, m35, m36, m37, m38, m39, m40, m41, m42, m43, m44, m45, m46, m47, m48, m49]))] H := hP
  have hD : va_D A [(h0, .inr (9, [.int 0, m1, m2, .int 0, m4, m5, m6, m7, m8, m9, m10, m11, m12, m13, m14, m15, m16, m17, m18, m19, m20, m21, m22, m23, m24, m25, m26, m27, m28, m29, m30, m31, m32, m33, m34, m35, m36, m37, m38, m39, m40, m41, m42, m43, m44, m45, m46, m47, m48, m49]))] := hD
  try dsimp only at hw_3
  obtain rfl := hw_3
  have hP9 := hP.sub (ws' := [(h0, .inr (9, [.int 0, m1, m2, .int 0, m4, m5, m6, m7, m8, m9, m10, m11, m12, m13, m14, m15, m16, m17, m18, m19, m20, m21, m22, m23, m24, m25, m26, m27, m28, m29, m30, m31, m32, m33, m34, m35, m36, m37, m38, m39, m40, m41, m42, m43, m44, m45, m46, m47, m48, m49]))]) [0] rfl
  have hD9 := hD.sub (ws' := [(h0, .inr (9, [.int 0, m1, m2, .int 0, m4, m5, m6, m7, m8, m9, m10, m11, m12, m13, m14, m15, m16, m17, m18, m19, m20, m21, m22, m23, m24, m25, m26, m27, m28, m29, m30, m31, m32, m33, m34, m35, m36, m37, m38, m39, m40, m41, m42, m43, m44, m45, m46, m47, m48, m49]))]) [0] (by decide) rfl
  exact W.iret (v := 0) hx hb hr (fun t ht hW => ⟨⟨0, 0, rfl, ⟨rfl, rfl⟩, ⟨m1, m2, (.int 0), m4, m5, m6, m7, m8, m9, m10, m11, m12, m13, m14, m15, m16, m17, m18, m19, m20, m21, m22, m23, m24, m25, m26, m27, m28, m29, m30, m31, m32, m33, m34, m35, m36, m37, m38, m39, m40, m41, m42, m43, m44, m45, m46, m47, m48, m49, by rw [ht]; exact hP9, va_K.moved hW.alike hK, hD9⟩⟩, hS.F ht⟩) hS.2.2 dX9_vessels_8
theorem dX9_containers_0 : decode cX9_containers 0 = .ok (.aload_n 0, 1) := by decide +kernel
theorem dX9_containers_1 : decode cX9_containers 1 = .ok (.aload_n 0, 1) := by decide +kernel
theorem dX9_containers_2 : decode cX9_containers 2 = .ok (.getfield 155, 3) := by decide +kernel
theorem dX9_containers_5 : decode cX9_containers 5 = .ok (.invokevirtual 164, 3) := by decide +kernel
set_option maxRecDepth 20000 in
theorem ggX9_containers_X9_plain : GoodIn wsX9_containers wsX9_plain := goodIn_r _ [6, 7, 8, 9, 10, 11, 12, 13, 14, 15, 16, 17, 18, 19, 20, 21, 22, 23, 24, 25, 26, 27, 28, 29, 30, 31, 32, 33, 34, 35, 36, 37, 38, 39, 40, 41, 42, 43, 44, 45, 46, 47, 48, 49, 50, 51, 52, 53, 54, 55, 56, 57] rfl (by decide +kernel)
set_option maxRecDepth 20000 in
theorem gX9_containers_X9_plain : GoodIn wsX9_containers (wsV RX9 164 RX9 yX9_plain wsX9_plain) := goodIn_app (goodIn_of _ (by decide +kernel)) ggX9_containers_X9_plain
theorem dX9_containers_8 : decode cX9_containers 8 = .ok (.ireturn, 1) := by decide +kernel
set_option maxHeartbeats 4000000 in
set_option maxRecDepth 100000 in
theorem m0_containers (l : Launch) (g : xG) (sz : Nat) (h0 : Nat) (m0 : Value) (m1 : Value) (m2 : Value) (m3 : Value) (m4 : Value) (m5 : Value) (m6 : Value) (m7 : Value) (m9 : Value) (m10 : Value) (m11 : Value) (m12 : Value) (m13 : Value) (m14 : Value) (m15 : Value) (m16 : Value) (m17 : Value) (m18 : Value) (m19 : Value) (m20 : Value) (m21 : Value) (m22 : Value) (m23 : Value) (m24 : Value) (m25 : Value) (m26 : Value) (m27 : Value) (m28 : Value) (m29 : Value) (m30 : Value) (m31 : Value) (m32 : Value) (m33 : Value) (m34 : Value) (m35 : Value) (m36 : Value) (m37 : Value) (m38 : Value) (m39 : Value) (m40 : Value) (m41 : Value) (m42 : Value) (m43 : Value) (m44 : Value) (m45 : Value) (m46 : Value) (m47 : Value) (m48 : Value) (m49 : Value)  : Met l yX9_containers wsX9_containers ({ frames := 1, cells := 0, slots := 0, locals := 21 }) (va_Pc [.ref h0] (fun U => xB g [(h0, .inr (9, [m0, m1, m2, m3, m4, m5, m6, m7, .int 0, m9, m10, m11, m12, m13, m14, m15, m16, m17, m18, m19, m20, m21, m22, m23, m24, m25, m26, m27, m28, m29, m30, m31, m32, m33, m34, m35, m36, m37, m38, m39, m40, m41, m42, m43, m44, m45, m46, m47, m48, m49]))] sz U)) (va_Qi (fun (r : Int32) (u : Int32) => u = 0 ∧ r = 0) (fun (u : Int32) (t : State) => ∃ (w1 : Value) (w2 : Value) (w3 : Value) (w4 : Value) (w5 : Value) (w6 : Value) (w7 : Value) (w8 : Value) (w9 : Value) (w10 : Value) (w11 : Value) (w12 : Value) (w13 : Value) (w14 : Value) (w15 : Value) (w16 : Value) (w17 : Value) (w18 : Value) (w19 : Value) (w20 : Value) (w21 : Value) (w22 : Value) (w23 : Value) (w24 : Value) (w25 : Value) (w26 : Value) (w27 : Value) (w28 : Value) (w29 : Value) (w30 : Value) (w31 : Value) (w32 : Value) (w33 : Value) (w34 : Value) (w35 : Value) (w36 : Value) (w37 : Value) (w38 : Value) (w39 : Value) (w40 : Value) (w41 : Value) (w42 : Value) (w43 : Value) (w44 : Value) (w45 : Value) (w46 : Value) (w47 : Value) (w48 : Value) (w49 : Value), xE g [(h0, .inr (9, [.int u, w1, w2, w3, w4, w5, w6, w7, w8, w9, w10, w11, w12, w13, w14, w15, w16, w17, w18, w19, w20, w21, w22, w23, w24, w25, w26, w27, w28, w29, w30, w31, w32, w33, w34, w35, w36, w37, w38, w39, w40, w41, w42, w43, w44, w45, w46, w47, w48, w49]))] (va_A [(h0, .inr (9, [m0, m1, m2, m3, m4, m5, m6, m7, .int 0, m9, m10, m11, m12, m13, m14, m15, m16, m17, m18, m19, m20, m21, m22, m23, m24, m25, m26, m27, m28, m29, m30, m31, m32, m33, m34, m35, m36, m37, m38, m39, m40, m41, m42, m43, m44, m45, m46, m47, m48, m49]))] sz) t) (va_A [(h0, .inr (9, [m0, m1, m2, m3, m4, m5, m6, m7, .int 0, m9, m10, m11, m12, m13, m14, m15, m16, m17, m18, m19, m20, m21, m22, m23, m24, m25, m26, m27, m28, m29, m30, m31, m32, m33, m34, m35, m36, m37, m38, m39, m40, m41, m42, m43, m44, m45, m46, m47, m48, m49]))] sz)) 0 0 (va_A [(h0, .inr (9, [m0, m1, m2, m3, m4, m5, m6, m7, .int 0, m9, m10, m11, m12, m13, m14, m15, m16, m17, m18, m19, m20, m21, m22, m23, m24, m25, m26, m27, m28, m29, m30, m31, m32, m33, m34, m35, m36, m37, m38, m39, m40, m41, m42, m43, m44, m45, m46, m47, m48, m49]))] sz) := by
  refine Met.ofW (cc := cX9_containers) (maxL := 1) (ret := (some .int)) (by decide) rfl ?_
  intro p e s m args below meth c s₁ B hml hv
  obtain ⟨rfl, ⟨hsz, hP, hK, hD0⟩⟩ := hv
  have hx := B.exec
  have hb := B.bytes
  have hr := B.returns
  have hts := atoms_spec (ws := wsX9_containers) B.pre
  have hown : s.vm.findClass RX9 = some m.cls := findClass_of_methodNamed B.named
  have hlocks := B.notSynchronized
  subst hsz
  have hD := hD0.self (sz := s.heap.size)
  generalize hAe : va_A [(h0, .inr (9, [m0, m1, m2, m3, m4, m5, m6, m7, .int 0, m9, m10, m11, m12, m13, m14, m15, m16, m17, m18, m19, m20, m21, m22, m23, m24, m25, m26, m27, m28, m29, m30, m31, m32, m33, m34, m35, m36, m37, m38, m39, m40, m41, m42, m43, m44, m45, m46, m47, m48, m49]))] s.heap.size = A at hD ⊢
  have hA : ∀ q : Nat, s.heap.size ≤ q → A q := fun q h => by rw [← hAe]; exact Or.inr h
  have hS : va_S A s.heap s.heap [] := va_S.rf
  have hl := lv_entry ([.ref h0]) (n := 1) (Nat.le_of_ble_eq_true rfl)
  rw [lg_entry_eq]
  generalize (lg_sl ([.ref h0]) ++ List.replicate (1 - (lg_sl ([.ref h0])).length) Slot.unset).toArray = ls at hl ⊢
  have hl : lv_has ls 1 [(0, .ref h0)] := hl
  have hFX9 : ∀ w ∈ u_ws RX9 TX9 50, w ∈ wsX9_containers := by decide +kernel
  refine lv_aload_n hx hb dX9_containers_0 rfl (lv_at hl 0 rfl) ?_
  refine lv_aload_n hx hb dX9_containers_1 rfl (lv_at hl 0 rfl) ?_
  refine va_get (D := xD g) (ci := 9) (v := .int 0) (C := RX9) (T := TX9) (N := 50) hx hb hts hFX9 hown hK hP 0 rfl rfl 8 (by decide) (hts (.fieldLink RX9 155 "StevedoreModel" "containers" "I") (by decide +kernel)) (fun _ h9 => h9) rfl dX9_containers_2 ?_
  have hPc := hP.sub (ws' := [(h0, .inr (9, [m0, m1, m2, m3, m4, m5, m6, m7, .int 0, m9, m10, m11, m12, m13, m14, m15, m16, m17, m18, m19, m20, m21, m22, m23, m24, m25, m26, m27, m28, m29, m30, m31, m32, m33, m34, m35, m36, m37, m38, m39, m40, m41, m42, m43, m44, m45, m46, m47, m48, m49]))]) [0] rfl
  have hDc := hD.sub (ws' := [(h0, .inr (9, [m0, m1, m2, m3, m4, m5, m6, m7, .int 0, m9, m10, m11, m12, m13, m14, m15, m16, m17, m18, m19, m20, m21, m22, m23, m24, m25, m26, m27, m28, m29, m30, m31, m32, m33, m34, m35, m36, m37, m38, m39, m40, m41, m42, m43, m44, m45, m46, m47, m48, m49]))]) [0] (by decide) rfl
  have hFc := va_free (wc := [(h0, .inr (9, [m0, m1, m2, m3, m4, m5, m6, m7, .int 0, m9, m10, m11, m12, m13, m14, m15, m16, m17, m18, m19, m20, m21, m22, m23, m24, m25, m26, m27, m28, m29, m30, m31, m32, m33, m34, m35, m36, m37, m38, m39, m40, m41, m42, m43, m44, m45, m46, m47, m48, m49]))]) hD hS hA [0] rfl
  refine va_calli (va_runV (As := [.int 0]) (rest := []) ⟨hx, hb, hml, hown, hts⟩ (m_plain l g s.heap.size h0 m0 m1 m2 m3 m4 m5 m6 m7 (.int 0) m9 m10 m11 m12 m13 m14 m15 m16 m17 m18 m19 m20 m21 m22 m23 m24 m25 m26 m27 m28 m29 m30 m31 m32 m33 m34 m35 m36 m37 m38 m39 m40 m41 m42 m43 m44 m45 m46 m47 m48 m49 0) (cwV 1 hts gX9_containers_X9_plain rfl rfl rfl (by decide +kernel) ⟨Nat.le_of_ble_eq_true rfl, Nat.le_of_ble_eq_true rfl⟩) ⟨xB.blind, va_recv hK hPc (ci := 9) (q0 := 0) rfl rfl, fun U9 hU9 hW9 => ⟨rfl, xB.mk hPc hK hDc hU9 hW9⟩⟩ rfl rfl hl.1 rfl (lv_room (Nat.le_of_ble_eq_true rfl)) dX9_containers_5 ⟨Nat.le_of_ble_eq_true rfl, Nat.le_of_ble_eq_true rfl⟩) hS (fun q _ h => hFc q h) hFc (fun r_1 u_2 t H1 locs ht hvm hw_3 hB hz1 hk1 hS => ?_)
  obtain ⟨hP1, hK1, hD1⟩ := hB
  rw [ht] at hP1
  obtain ⟨hP, hD⟩ := va_join (wr := []) (w1 := [(h0, .inr (9, [.int 0, m1, m2, m3, m4, m5, m6, m7, .int 0, m9, m10, m11, m12, m13, m14, m15, m16, m17, m18, m19, m20, m21, m22, m23, m24, m25, m26, m27, m28, m29, m30, m31, m32, m33, m34, m35, m36, m37, m38, m39, m40, m41, m42, m43, m44, m45, m46, m47, m48, m49]))]) hP hD [0] [] rfl rfl (by decide) (by decide) hk1 hFc hP1 hD1
  generalize H1 = H at hP hS ⊢
  have hP : va_P (xD g) vwCl [(h0, .inr (9, [.int 0, m1, m2, m3, m4, m5, m6, m7, .int 0, m9, m10, m11, m12, m13, m14, m15, m16, m17, m18, m19, m20, m21, m22, m23, m24, m25, m26, m27, m28, m29, m30, m31, m32, m33, m34, m35, m36, m37, m38, m39, m40, m41, m42, m43, m44, m45, m46, m47, m48, m49]))] H := hP
  have hD : va_D A [(h0, .inr (9, [.int 0, m1, m2, m3, m4, m5, m6, m7, .int 0, m9, m10, m11, m12, m13, m14, m15, m16, m17, m18, m19, m20, m21, m22, m23, m24, m25, m26, m27, m28, m29, m30, m31, m32, m33, m34, m35, m36, m37, m38, m39, m40, m41, m42, m43, m44, m45, m46, m47, m48, m49]))] := hD
  try dsimp only at hw_3
  obtain rfl := hw_3
  have hP9 := hP.sub (ws' := [(h0, .inr (9, [.int 0, m1, m2, m3, m4, m5, m6, m7, .int 0, m9, m10, m11, m12, m13, m14, m15, m16, m17, m18, m19, m20, m21, m22, m23, m24, m25, m26, m27, m28, m29, m30, m31, m32, m33, m34, m35, m36, m37, m38, m39, m40, m41, m42, m43, m44, m45, m46, m47, m48, m49]))]) [0] rfl
  have hD9 := hD.sub (ws' := [(h0, .inr (9, [.int 0, m1, m2, m3, m4, m5, m6, m7, .int 0, m9, m10, m11, m12, m13, m14, m15, m16, m17, m18, m19, m20, m21, m22, m23, m24, m25, m26, m27, m28, m29, m30, m31, m32, m33, m34, m35, m36, m37, m38, m39, m40, m41, m42, m43, m44, m45, m46, m47, m48, m49]))]) [0] (by decide) rfl
  exact W.iret (v := 0) hx hb hr (fun t ht hW => ⟨⟨0, 0, rfl, ⟨rfl, rfl⟩, ⟨m1, m2, m3, m4, m5, m6, m7, (.int 0), m9, m10, m11, m12, m13, m14, m15, m16, m17, m18, m19, m20, m21, m22, m23, m24, m25, m26, m27, m28, m29, m30, m31, m32, m33, m34, m35, m36, m37, m38, m39, m40, m41, m42, m43, m44, m45, m46, m47, m48, m49, by rw [ht]; exact hP9, va_K.moved hW.alike hK, hD9⟩⟩, hS.F ht⟩) hS.2.2 dX9_containers_8
theorem dX9_stacks_0 : decode cX9_stacks 0 = .ok (.aload_n 0, 1) := by decide +kernel
theorem dX9_stacks_1 : decode cX9_stacks 1 = .ok (.aload_n 0, 1) := by decide +kernel
theorem dX9_stacks_2 : decode cX9_stacks 2 = .ok (.getfield 161, 3) := by decide +kernel
theorem dX9_stacks_5 : decode cX9_stacks 5 = .ok (.invokevirtual 164, 3) := by decide +kernel
set_option maxRecDepth 20000 in
theorem ggX9_stacks_X9_plain : GoodIn wsX9_stacks wsX9_plain := goodIn_r _ [6, 7, 8, 9, 10, 11, 12, 13, 14, 15, 16, 17, 18, 19, 20, 21, 22, 23, 24, 25, 26, 27, 28, 29, 30, 31, 32, 33, 34, 35, 36, 37, 38, 39, 40, 41, 42, 43, 44, 45, 46, 47, 48, 49, 50, 51, 52, 53, 54, 55, 56, 57] rfl (by decide +kernel)
set_option maxRecDepth 20000 in
theorem gX9_stacks_X9_plain : GoodIn wsX9_stacks (wsV RX9 164 RX9 yX9_plain wsX9_plain) := goodIn_app (goodIn_of _ (by decide +kernel)) ggX9_stacks_X9_plain
theorem dX9_stacks_8 : decode cX9_stacks 8 = .ok (.ireturn, 1) := by decide +kernel
set_option maxHeartbeats 4000000 in
set_option maxRecDepth 100000 in
theorem m0_stacks (l : Launch) (g : xG) (sz : Nat) (h0 : Nat) (m0 : Value) (m1 : Value) (m2 : Value) (m3 : Value) (m4 : Value) (m5 : Value) (m6 : Value) (m7 : Value) (m8 : Value) (m9 : Value) (m10 : Value) (m11 : Value) (m12 : Value) (m13 : Value) (m14 : Value) (m16 : Value) (m17 : Value) (m18 : Value) (m19 : Value) (m20 : Value) (m21 : Value) (m22 : Value) (m23 : Value) (m24 : Value) (m25 : Value) (m26 : Value) (m27 : Value) (m28 : Value) (m29 : Value) (m30 : Value) (m31 : Value) (m32 : Value) (m33 : Value) (m34 : Value) (m35 : Value) (m36 : Value) (m37 : Value) (m38 : Value) (m39 : Value) (m40 : Value) (m41 : Value) (m42 : Value) (m43 : Value) (m44 : Value) (m45 : Value) (m46 : Value) (m47 : Value) (m48 : Value) (m49 : Value)  : Met l yX9_stacks wsX9_stacks ({ frames := 1, cells := 0, slots := 0, locals := 21 }) (va_Pc [.ref h0] (fun U => xB g [(h0, .inr (9, [m0, m1, m2, m3, m4, m5, m6, m7, m8, m9, m10, m11, m12, m13, m14, .int 0, m16, m17, m18, m19, m20, m21, m22, m23, m24, m25, m26, m27, m28, m29, m30, m31, m32, m33, m34, m35, m36, m37, m38, m39, m40, m41, m42, m43, m44, m45, m46, m47, m48, m49]))] sz U)) (va_Qi (fun (r : Int32) (u : Int32) => u = 0 ∧ r = 0) (fun (u : Int32) (t : State) => ∃ (w1 : Value) (w2 : Value) (w3 : Value) (w4 : Value) (w5 : Value) (w6 : Value) (w7 : Value) (w8 : Value) (w9 : Value) (w10 : Value) (w11 : Value) (w12 : Value) (w13 : Value) (w14 : Value) (w15 : Value) (w16 : Value) (w17 : Value) (w18 : Value) (w19 : Value) (w20 : Value) (w21 : Value) (w22 : Value) (w23 : Value) (w24 : Value) (w25 : Value) (w26 : Value) (w27 : Value) (w28 : Value) (w29 : Value) (w30 : Value) (w31 : Value) (w32 : Value) (w33 : Value) (w34 : Value) (w35 : Value) (w36 : Value) (w37 : Value) (w38 : Value) (w39 : Value) (w40 : Value) (w41 : Value) (w42 : Value) (w43 : Value) (w44 : Value) (w45 : Value) (w46 : Value) (w47 : Value) (w48 : Value) (w49 : Value), xE g [(h0, .inr (9, [.int u, w1, w2, w3, w4, w5, w6, w7, w8, w9, w10, w11, w12, w13, w14, w15, w16, w17, w18, w19, w20, w21, w22, w23, w24, w25, w26, w27, w28, w29, w30, w31, w32, w33, w34, w35, w36, w37, w38, w39, w40, w41, w42, w43, w44, w45, w46, w47, w48, w49]))] (va_A [(h0, .inr (9, [m0, m1, m2, m3, m4, m5, m6, m7, m8, m9, m10, m11, m12, m13, m14, .int 0, m16, m17, m18, m19, m20, m21, m22, m23, m24, m25, m26, m27, m28, m29, m30, m31, m32, m33, m34, m35, m36, m37, m38, m39, m40, m41, m42, m43, m44, m45, m46, m47, m48, m49]))] sz) t) (va_A [(h0, .inr (9, [m0, m1, m2, m3, m4, m5, m6, m7, m8, m9, m10, m11, m12, m13, m14, .int 0, m16, m17, m18, m19, m20, m21, m22, m23, m24, m25, m26, m27, m28, m29, m30, m31, m32, m33, m34, m35, m36, m37, m38, m39, m40, m41, m42, m43, m44, m45, m46, m47, m48, m49]))] sz)) 0 0 (va_A [(h0, .inr (9, [m0, m1, m2, m3, m4, m5, m6, m7, m8, m9, m10, m11, m12, m13, m14, .int 0, m16, m17, m18, m19, m20, m21, m22, m23, m24, m25, m26, m27, m28, m29, m30, m31, m32, m33, m34, m35, m36, m37, m38, m39, m40, m41, m42, m43, m44, m45, m46, m47, m48, m49]))] sz) := by
  refine Met.ofW (cc := cX9_stacks) (maxL := 1) (ret := (some .int)) (by decide) rfl ?_
  intro p e s m args below meth c s₁ B hml hv
  obtain ⟨rfl, ⟨hsz, hP, hK, hD0⟩⟩ := hv
  have hx := B.exec
  have hb := B.bytes
  have hr := B.returns
  have hts := atoms_spec (ws := wsX9_stacks) B.pre
  have hown : s.vm.findClass RX9 = some m.cls := findClass_of_methodNamed B.named
  have hlocks := B.notSynchronized
  subst hsz
  have hD := hD0.self (sz := s.heap.size)
  generalize hAe : va_A [(h0, .inr (9, [m0, m1, m2, m3, m4, m5, m6, m7, m8, m9, m10, m11, m12, m13, m14, .int 0, m16, m17, m18, m19, m20, m21, m22, m23, m24, m25, m26, m27, m28, m29, m30, m31, m32, m33, m34, m35, m36, m37, m38, m39, m40, m41, m42, m43, m44, m45, m46, m47, m48, m49]))] s.heap.size = A at hD ⊢
  have hA : ∀ q : Nat, s.heap.size ≤ q → A q := fun q h => by rw [← hAe]; exact Or.inr h
  have hS : va_S A s.heap s.heap [] := va_S.rf
  have hl := lv_entry ([.ref h0]) (n := 1) (Nat.le_of_ble_eq_true rfl)
  rw [lg_entry_eq]
  generalize (lg_sl ([.ref h0]) ++ List.replicate (1 - (lg_sl ([.ref h0])).length) Slot.unset).toArray = ls at hl ⊢
  have hl : lv_has ls 1 [(0, .ref h0)] := hl
  have hFX9 : ∀ w ∈ u_ws RX9 TX9 50, w ∈ wsX9_stacks := by decide +kernel
  refine lv_aload_n hx hb dX9_stacks_0 rfl (lv_at hl 0 rfl) ?_
  refine lv_aload_n hx hb dX9_stacks_1 rfl (lv_at hl 0 rfl) ?_
  refine va_get (D := xD g) (ci := 9) (v := .int 0) (C := RX9) (T := TX9) (N := 50) hx hb hts hFX9 hown hK hP 0 rfl rfl 15 (by decide) (hts (.fieldLink RX9 161 "StevedoreModel" "stacks" "I") (by decide +kernel)) (fun _ h9 => h9) rfl dX9_stacks_2 ?_
  have hPc := hP.sub (ws' := [(h0, .inr (9, [m0, m1, m2, m3, m4, m5, m6, m7, m8, m9, m10, m11, m12, m13, m14, .int 0, m16, m17, m18, m19, m20, m21, m22, m23, m24, m25, m26, m27, m28, m29, m30, m31, m32, m33, m34, m35, m36, m37, m38, m39, m40, m41, m42, m43, m44, m45, m46, m47, m48, m49]))]) [0] rfl
  have hDc := hD.sub (ws' := [(h0, .inr (9, [m0, m1, m2, m3, m4, m5, m6, m7, m8, m9, m10, m11, m12, m13, m14, .int 0, m16, m17, m18, m19, m20, m21, m22, m23, m24, m25, m26, m27, m28, m29, m30, m31, m32, m33, m34, m35, m36, m37, m38, m39, m40, m41, m42, m43, m44, m45, m46, m47, m48, m49]))]) [0] (by decide) rfl
  have hFc := va_free (wc := [(h0, .inr (9, [m0, m1, m2, m3, m4, m5, m6, m7, m8, m9, m10, m11, m12, m13, m14, .int 0, m16, m17, m18, m19, m20, m21, m22, m23, m24, m25, m26, m27, m28, m29, m30, m31, m32, m33, m34, m35, m36, m37, m38, m39, m40, m41, m42, m43, m44, m45, m46, m47, m48, m49]))]) hD hS hA [0] rfl
  refine va_calli (va_runV (As := [.int 0]) (rest := []) ⟨hx, hb, hml, hown, hts⟩ (m_plain l g s.heap.size h0 m0 m1 m2 m3 m4 m5 m6 m7 m8 m9 m10 m11 m12 m13 m14 (.int 0) m16 m17 m18 m19 m20 m21 m22 m23 m24 m25 m26 m27 m28 m29 m30 m31 m32 m33 m34 m35 m36 m37 m38 m39 m40 m41 m42 m43 m44 m45 m46 m47 m48 m49 0) (cwV 1 hts gX9_stacks_X9_plain rfl rfl rfl (by decide +kernel) ⟨Nat.le_of_ble_eq_true rfl, Nat.le_of_ble_eq_true rfl⟩) ⟨xB.blind, va_recv hK hPc (ci := 9) (q0 := 0) rfl rfl, fun U9 hU9 hW9 => ⟨rfl, xB.mk hPc hK hDc hU9 hW9⟩⟩ rfl rfl hl.1 rfl (lv_room (Nat.le_of_ble_eq_true rfl)) dX9_stacks_5 ⟨Nat.le_of_ble_eq_true rfl, Nat.le_of_ble_eq_true rfl⟩) hS (fun q _ h => hFc q h) hFc (fun r_1 u_2 t H1 locs ht hvm hw_3 hB hz1 hk1 hS => ?_)
  obtain ⟨hP1, hK1, hD1⟩ := hB
  rw [ht] at hP1
  obtain ⟨hP, hD⟩ := va_join (wr := []) (w1 := [(h0, .inr (9, [.int 0, m1, m2, m3, m4, m5, m6, m7, m8, m9, m10, m11, m12, m13, m14, .int 0, m16, m17, m18, m19, m20, m21, m22, m23, m24, m25, m26, m27, m28, m29, m30, m31, m32, m33, m34, m35, m36, m37, m38, m39, m40, m41, m42, m43, m44, m45, m46, m47, m48, m49]))]) hP hD [0] [] rfl rfl (by decide) (by decide) hk1 hFc hP1 hD1
  generalize H1 = H at hP hS ⊢
  have hP : va_P (xD g) vwCl [(h0, .inr (9, [.int 0, m1, m2, m3, m4, m5, m6, m7, m8, m9, m10, m11, m12, m13, m14, .int 0, m16, m17, m18, m19, m20, m21, m22, m23, m24, m25, m26, m27, m28, m29, m30, m31, m32, m33, m34, m35, m36, m37, m38, m39, m40, m41, m42, m43, m44, m45, m46, m47, m48, m49]))] H := hP
  have hD : va_D A [(h0, .inr (9, [.int 0, m1, m2, m3, m4, m5, m6, m7, m8, m9, m10, m11, m12, m13, m14, .int 0, m16, m17, m18, m19, m20, m21, m22, m23, m24, m25, m26, m27, m28, m29, m30, m31, m32, m33, m34, m35, m36, m37, m38, m39, m40, m41, m42, m43, m44, m45, m46, m47, m48, m49]))] := hD
  try dsimp only at hw_3
  obtain rfl := hw_3
  have hP9 := hP.sub (ws' := [(h0, .inr (9, [.int 0, m1, m2, m3, m4, m5, m6, m7, m8, m9, m10, m11, m12, m13, m14, .int 0, m16, m17, m18, m19, m20, m21, m22, m23, m24, m25, m26, m27, m28, m29, m30, m31, m32, m33, m34, m35, m36, m37, m38, m39, m40, m41, m42, m43, m44, m45, m46, m47, m48, m49]))]) [0] rfl
  have hD9 := hD.sub (ws' := [(h0, .inr (9, [.int 0, m1, m2, m3, m4, m5, m6, m7, m8, m9, m10, m11, m12, m13, m14, .int 0, m16, m17, m18, m19, m20, m21, m22, m23, m24, m25, m26, m27, m28, m29, m30, m31, m32, m33, m34, m35, m36, m37, m38, m39, m40, m41, m42, m43, m44, m45, m46, m47, m48, m49]))]) [0] (by decide) rfl
  exact W.iret (v := 0) hx hb hr (fun t ht hW => ⟨⟨0, 0, rfl, ⟨rfl, rfl⟩, ⟨m1, m2, m3, m4, m5, m6, m7, m8, m9, m10, m11, m12, m13, m14, (.int 0), m16, m17, m18, m19, m20, m21, m22, m23, m24, m25, m26, m27, m28, m29, m30, m31, m32, m33, m34, m35, m36, m37, m38, m39, m40, m41, m42, m43, m44, m45, m46, m47, m48, m49, by rw [ht]; exact hP9, va_K.moved hW.alike hK, hD9⟩⟩, hS.F ht⟩) hS.2.2 dX9_stacks_8
theorem dX9_events_0 : decode cX9_events 0 = .ok (.aload_n 0, 1) := by decide +kernel
theorem dX9_events_1 : decode cX9_events 1 = .ok (.aload_n 0, 1) := by decide +kernel
theorem dX9_events_2 : decode cX9_events 2 = .ok (.getfield 128, 3) := by decide +kernel
theorem dX9_events_5 : decode cX9_events 5 = .ok (.invokevirtual 164, 3) := by decide +kernel
set_option maxRecDepth 20000 in
theorem ggX9_events_X9_plain : GoodIn wsX9_events wsX9_plain := goodIn_r _ [6, 7, 8, 9, 10, 11, 12, 13, 14, 15, 16, 17, 18, 19, 20, 21, 22, 23, 24, 25, 26, 27, 28, 29, 30, 31, 32, 33, 34, 35, 36, 37, 38, 39, 40, 41, 42, 43, 44, 45, 46, 47, 48, 49, 50, 51, 52, 53, 54, 55, 56, 57] rfl (by decide +kernel)
set_option maxRecDepth 20000 in
theorem gX9_events_X9_plain : GoodIn wsX9_events (wsV RX9 164 RX9 yX9_plain wsX9_plain) := goodIn_app (goodIn_of _ (by decide +kernel)) ggX9_events_X9_plain
theorem dX9_events_8 : decode cX9_events 8 = .ok (.ireturn, 1) := by decide +kernel
set_option maxHeartbeats 4000000 in
set_option maxRecDepth 100000 in
theorem m0_events (l : Launch) (g : xG) (sz : Nat) (h0 : Nat) (m0 : Value) (m1 : Value) (m2 : Value) (m3 : Value) (m4 : Value) (m5 : Value) (m6 : Value) (m7 : Value) (m8 : Value) (m9 : Value) (m10 : Value) (m11 : Value) (m12 : Value) (m13 : Value) (m14 : Value) (m15 : Value) (m16 : Value) (m17 : Value) (m18 : Value) (m19 : Value) (m20 : Value) (m21 : Value) (m22 : Value) (m23 : Value) (m24 : Value) (m25 : Value) (m26 : Value) (m27 : Value) (m28 : Value) (m29 : Value) (m30 : Value) (m31 : Value) (m32 : Value) (m33 : Value) (m34 : Value) (m35 : Value) (m36 : Value) (m37 : Value) (m38 : Value) (m39 : Value) (m41 : Value) (m42 : Value) (m43 : Value) (m44 : Value) (m45 : Value) (m46 : Value) (m47 : Value) (m48 : Value) (m49 : Value)  : Met l yX9_events wsX9_events ({ frames := 1, cells := 0, slots := 0, locals := 21 }) (va_Pc [.ref h0] (fun U => xB g [(h0, .inr (9, [m0, m1, m2, m3, m4, m5, m6, m7, m8, m9, m10, m11, m12, m13, m14, m15, m16, m17, m18, m19, m20, m21, m22, m23, m24, m25, m26, m27, m28, m29, m30, m31, m32, m33, m34, m35, m36, m37, m38, m39, .int 0, m41, m42, m43, m44, m45, m46, m47, m48, m49]))] sz U)) (va_Qi (fun (r : Int32) (u : Int32) => u = 0 ∧ r = 0) (fun (u : Int32) (t : State) => ∃ (w1 : Value) (w2 : Value) (w3 : Value) (w4 : Value) (w5 : Value) (w6 : Value) (w7 : Value) (w8 : Value) (w9 : Value) (w10 : Value) (w11 : Value) (w12 : Value) (w13 : Value) (w14 : Value) (w15 : Value) (w16 : Value) (w17 : Value) (w18 : Value) (w19 : Value) (w20 : Value) (w21 : Value) (w22 : Value) (w23 : Value) (w24 : Value) (w25 : Value) (w26 : Value) (w27 : Value) (w28 : Value) (w29 : Value) (w30 : Value) (w31 : Value) (w32 : Value) (w33 : Value) (w34 : Value) (w35 : Value) (w36 : Value) (w37 : Value) (w38 : Value) (w39 : Value) (w40 : Value) (w41 : Value) (w42 : Value) (w43 : Value) (w44 : Value) (w45 : Value) (w46 : Value) (w47 : Value) (w48 : Value) (w49 : Value), xE g [(h0, .inr (9, [.int u, w1, w2, w3, w4, w5, w6, w7, w8, w9, w10, w11, w12, w13, w14, w15, w16, w17, w18, w19, w20, w21, w22, w23, w24, w25, w26, w27, w28, w29, w30, w31, w32, w33, w34, w35, w36, w37, w38, w39, w40, w41, w42, w43, w44, w45, w46, w47, w48, w49]))] (va_A [(h0, .inr (9, [m0, m1, m2, m3, m4, m5, m6, m7, m8, m9, m10, m11, m12, m13, m14, m15, m16, m17, m18, m19, m20, m21, m22, m23, m24, m25, m26, m27, m28, m29, m30, m31, m32, m33, m34, m35, m36, m37, m38, m39, .int 0, m41, m42, m43, m44, m45, m46, m47, m48, m49]))] sz) t) (va_A [(h0, .inr (9, [m0, m1, m2, m3, m4, m5, m6, m7, m8, m9, m10, m11, m12, m13, m14, m15, m16, m17, m18, m19, m20, m21, m22, m23, m24, m25, m26, m27, m28, m29, m30, m31, m32, m33, m34, m35, m36, m37, m38, m39, .int 0, m41, m42, m43, m44, m45, m46, m47, m48, m49]))] sz)) 0 0 (va_A [(h0, .inr (9, [m0, m1, m2, m3, m4, m5, m6, m7, m8, m9, m10, m11, m12, m13, m14, m15, m16, m17, m18, m19, m20, m21, m22, m23, m24, m25, m26, m27, m28, m29, m30, m31, m32, m33, m34, m35, m36, m37, m38, m39, .int 0, m41, m42, m43, m44, m45, m46, m47, m48, m49]))] sz) := by
  refine Met.ofW (cc := cX9_events) (maxL := 1) (ret := (some .int)) (by decide) rfl ?_
  intro p e s m args below meth c s₁ B hml hv
  obtain ⟨rfl, ⟨hsz, hP, hK, hD0⟩⟩ := hv
  have hx := B.exec
  have hb := B.bytes
  have hr := B.returns
  have hts := atoms_spec (ws := wsX9_events) B.pre
  have hown : s.vm.findClass RX9 = some m.cls := findClass_of_methodNamed B.named
  have hlocks := B.notSynchronized
  subst hsz
  have hD := hD0.self (sz := s.heap.size)
  generalize hAe : va_A [(h0, .inr (9, [m0, m1, m2, m3, m4, m5, m6, m7, m8, m9, m10, m11, m12, m13, m14, m15, m16, m17, m18, m19, m20, m21, m22, m23, m24, m25, m26, m27, m28, m29, m30, m31, m32, m33, m34, m35, m36, m37, m38, m39, .int 0, m41, m42, m43, m44, m45, m46, m47, m48, m49]))] s.heap.size = A at hD ⊢
  have hA : ∀ q : Nat, s.heap.size ≤ q → A q := fun q h => by rw [← hAe]; exact Or.inr h
  have hS : va_S A s.heap s.heap [] := va_S.rf
  have hl := lv_entry ([.ref h0]) (n := 1) (Nat.le_of_ble_eq_true rfl)
  rw [lg_entry_eq]
  generalize (lg_sl ([.ref h0]) ++ List.replicate (1 - (lg_sl ([.ref h0])).length) Slot.unset).toArray = ls at hl ⊢
  have hl : lv_has ls 1 [(0, .ref h0)] := hl
  have hFX9 : ∀ w ∈ u_ws RX9 TX9 50, w ∈ wsX9_events := by decide +kernel
  refine lv_aload_n hx hb dX9_events_0 rfl (lv_at hl 0 rfl) ?_
  refine lv_aload_n hx hb dX9_events_1 rfl (lv_at hl 0 rfl) ?_
  refine va_get (D := xD g) (ci := 9) (v := .int 0) (C := RX9) (T := TX9) (N := 50) hx hb hts hFX9 hown hK hP 0 rfl rfl 40 (by decide) (hts (.fieldLink RX9 128 "StevedoreModel" "events" "I") (by decide +kernel)) (fun _ h9 => h9) rfl dX9_events_2 ?_
  have hPc := hP.sub (ws' := [(h0, .inr (9, [m0, m1, m2, m3, m4, m5, m6, m7, m8, m9, m10, m11, m12, m13, m14, m15, m16, m17, m18, m19, m20, m21, m22, m23, m24, m25, m26, m27, m28, m29, m30, m31, m32, m33, m34, m35, m36, m37, m38, m39, .int 0, m41, m42, m43, m44, m45, m46, m47, m48, m49]))]) [0] rfl
  have hDc := hD.sub (ws' := [(h0, .inr (9, [m0, m1, m2, m3, m4, m5, m6, m7, m8, m9, m10, m11, m12, m13, m14, m15, m16, m17, m18, m19, m20, m21, m22, m23, m24, m25, m26, m27, m28, m29, m30, m31, m32, m33, m34, m35, m36, m37, m38, m39, .int 0, m41, m42, m43, m44, m45, m46, m47, m48, m49]))]) [0] (by decide) rfl
  have hFc := va_free (wc := [(h0, .inr (9, [m0, m1, m2, m3, m4, m5, m6, m7, m8, m9, m10, m11, m12, m13, m14, m15, m16, m17, m18, m19, m20, m21, m22, m23, m24, m25, m26, m27, m28, m29, m30, m31, m32, m33, m34, m35, m36, m37, m38, m39, .int 0, m41, m42, m43, m44, m45, m46, m47, m48, m49]))]) hD hS hA [0] rfl
  refine va_calli (va_runV (As := [.int 0]) (rest := []) ⟨hx, hb, hml, hown, hts⟩ (m_plain l g s.heap.size h0 m0 m1 m2 m3 m4 m5 m6 m7 m8 m9 m10 m11 m12 m13 m14 m15 m16 m17 m18 m19 m20 m21 m22 m23 m24 m25 m26 m27 m28 m29 m30 m31 m32 m33 m34 m35 m36 m37 m38 m39 (.int 0) m41 m42 m43 m44 m45 m46 m47 m48 m49 0) (cwV 1 hts gX9_events_X9_plain rfl rfl rfl (by decide +kernel) ⟨Nat.le_of_ble_eq_true rfl, Nat.le_of_ble_eq_true rfl⟩) ⟨xB.blind, va_recv hK hPc (ci := 9) (q0 := 0) rfl rfl, fun U9 hU9 hW9 => ⟨rfl, xB.mk hPc hK hDc hU9 hW9⟩⟩ rfl rfl hl.1 rfl (lv_room (Nat.le_of_ble_eq_true rfl)) dX9_events_5 ⟨Nat.le_of_ble_eq_true rfl, Nat.le_of_ble_eq_true rfl⟩) hS (fun q _ h => hFc q h) hFc (fun r_1 u_2 t H1 locs ht hvm hw_3 hB hz1 hk1 hS => ?_)
  obtain ⟨hP1, hK1, hD1⟩ := hB
  rw [ht] at hP1
  obtain ⟨hP, hD⟩ := va_join (wr := []) (w1 := [(h0, .inr (9, [.int 0, m1, m2, m3, m4, m5, m6, m7, m8, m9, m10, m11, m12, m13, m14, m15, m16, m17, m18, m19, m20, m21, m22, m23, m24, m25, m26, m27, m28, m29, m30, m31, m32, m33, m34, m35, m36, m37, m38, m39, .int 0, m41, m42, m43, m44, m45, m46, m47, m48, m49]))]) hP hD [0] [] rfl rfl (by decide) (by decide) hk1 hFc hP1 hD1
  generalize H1 = H at hP hS ⊢
  have hP : va_P (xD g) vwCl [(h0, .inr (9, [.int 0, m1, m2, m3, m4, m5, m6, m7, m8, m9, m10, m11, m12, m13, m14, m15, m16, m17, m18, m19, m20, m21, m22, m23, m24, m25, m26, m27, m28, m29, m30, m31, m32, m33, m34, m35, m36, m37, m38, m39, .int 0, m41, m42, m43, m44, m45, m46, m47, m48, m49]))] H := hP
  have hD : va_D A [(h0, .inr (9, [.int 0, m1, m2, m3, m4, m5, m6, m7, m8, m9, m10, m11, m12, m13, m14, m15, m16, m17, m18, m19, m20, m21, m22, m23, m24, m25, m26, m27, m28, m29, m30, m31, m32, m33, m34, m35, m36, m37, m38, m39, .int 0, m41, m42, m43, m44, m45, m46, m47, m48, m49]))] := hD
  try dsimp only at hw_3
  obtain rfl := hw_3
  have hP9 := hP.sub (ws' := [(h0, .inr (9, [.int 0, m1, m2, m3, m4, m5, m6, m7, m8, m9, m10, m11, m12, m13, m14, m15, m16, m17, m18, m19, m20, m21, m22, m23, m24, m25, m26, m27, m28, m29, m30, m31, m32, m33, m34, m35, m36, m37, m38, m39, .int 0, m41, m42, m43, m44, m45, m46, m47, m48, m49]))]) [0] rfl
  have hD9 := hD.sub (ws' := [(h0, .inr (9, [.int 0, m1, m2, m3, m4, m5, m6, m7, m8, m9, m10, m11, m12, m13, m14, m15, m16, m17, m18, m19, m20, m21, m22, m23, m24, m25, m26, m27, m28, m29, m30, m31, m32, m33, m34, m35, m36, m37, m38, m39, .int 0, m41, m42, m43, m44, m45, m46, m47, m48, m49]))]) [0] (by decide) rfl
  exact W.iret (v := 0) hx hb hr (fun t ht hW => ⟨⟨0, 0, rfl, ⟨rfl, rfl⟩, ⟨m1, m2, m3, m4, m5, m6, m7, m8, m9, m10, m11, m12, m13, m14, m15, m16, m17, m18, m19, m20, m21, m22, m23, m24, m25, m26, m27, m28, m29, m30, m31, m32, m33, m34, m35, m36, m37, m38, m39, (.int 0), m41, m42, m43, m44, m45, m46, m47, m48, m49, by rw [ht]; exact hP9, va_K.moved hW.alike hK, hD9⟩⟩, hS.F ht⟩) hS.2.2 dX9_events_8
theorem dX9_reshuffles_0 : decode cX9_reshuffles 0 = .ok (.aload_n 0, 1) := by decide +kernel
theorem dX9_reshuffles_1 : decode cX9_reshuffles 1 = .ok (.aload_n 0, 1) := by decide +kernel
theorem dX9_reshuffles_2 : decode cX9_reshuffles 2 = .ok (.getfield 321, 3) := by decide +kernel
theorem dX9_reshuffles_5 : decode cX9_reshuffles 5 = .ok (.invokevirtual 164, 3) := by decide +kernel
set_option maxRecDepth 20000 in
theorem ggX9_reshuffles_X9_plain : GoodIn wsX9_reshuffles wsX9_plain := goodIn_r _ [6, 7, 8, 9, 10, 11, 12, 13, 14, 15, 16, 17, 18, 19, 20, 21, 22, 23, 24, 25, 26, 27, 28, 29, 30, 31, 32, 33, 34, 35, 36, 37, 38, 39, 40, 41, 42, 43, 44, 45, 46, 47, 48, 49, 50, 51, 52, 53, 54, 55, 56, 57] rfl (by decide +kernel)
set_option maxRecDepth 20000 in
theorem gX9_reshuffles_X9_plain : GoodIn wsX9_reshuffles (wsV RX9 164 RX9 yX9_plain wsX9_plain) := goodIn_app (goodIn_of _ (by decide +kernel)) ggX9_reshuffles_X9_plain
theorem dX9_reshuffles_8 : decode cX9_reshuffles 8 = .ok (.ireturn, 1) := by decide +kernel
set_option maxHeartbeats 4000000 in
set_option maxRecDepth 100000 in
theorem m0_reshuffles (l : Launch) (g : xG) (sz : Nat) (h0 : Nat) (m0 : Value) (m1 : Value) (m2 : Value) (m3 : Value) (m4 : Value) (m5 : Value) (m6 : Value) (m7 : Value) (m8 : Value) (m9 : Value) (m10 : Value) (m11 : Value) (m12 : Value) (m13 : Value) (m14 : Value) (m15 : Value) (m16 : Value) (m17 : Value) (m18 : Value) (m19 : Value) (m20 : Value) (m21 : Value) (m22 : Value) (m23 : Value) (m24 : Value) (m25 : Value) (m26 : Value) (m27 : Value) (m28 : Value) (m29 : Value) (m30 : Value) (m31 : Value) (m32 : Value) (m33 : Value) (m34 : Value) (m35 : Value) (m36 : Value) (m37 : Value) (m38 : Value) (m39 : Value) (m40 : Value) (m41 : Value) (m42 : Value) (m43 : Value) (m44 : Value) (m45 : Value) (m46 : Value) (m47 : Value) (m48 : Value)  : Met l yX9_reshuffles wsX9_reshuffles ({ frames := 1, cells := 0, slots := 0, locals := 21 }) (va_Pc [.ref h0] (fun U => xB g [(h0, .inr (9, [m0, m1, m2, m3, m4, m5, m6, m7, m8, m9, m10, m11, m12, m13, m14, m15, m16, m17, m18, m19, m20, m21, m22, m23, m24, m25, m26, m27, m28, m29, m30, m31, m32, m33, m34, m35, m36, m37, m38, m39, m40, m41, m42, m43, m44, m45, m46, m47, m48, .int 0]))] sz U)) (va_Qi (fun (r : Int32) (u : Int32) => u = 0 ∧ r = 0) (fun (u : Int32) (t : State) => ∃ (w1 : Value) (w2 : Value) (w3 : Value) (w4 : Value) (w5 : Value) (w6 : Value) (w7 : Value) (w8 : Value) (w9 : Value) (w10 : Value) (w11 : Value) (w12 : Value) (w13 : Value) (w14 : Value) (w15 : Value) (w16 : Value) (w17 : Value) (w18 : Value) (w19 : Value) (w20 : Value) (w21 : Value) (w22 : Value) (w23 : Value) (w24 : Value) (w25 : Value) (w26 : Value) (w27 : Value) (w28 : Value) (w29 : Value) (w30 : Value) (w31 : Value) (w32 : Value) (w33 : Value) (w34 : Value) (w35 : Value) (w36 : Value) (w37 : Value) (w38 : Value) (w39 : Value) (w40 : Value) (w41 : Value) (w42 : Value) (w43 : Value) (w44 : Value) (w45 : Value) (w46 : Value) (w47 : Value) (w48 : Value) (w49 : Value), xE g [(h0, .inr (9, [.int u, w1, w2, w3, w4, w5, w6, w7, w8, w9, w10, w11, w12, w13, w14, w15, w16, w17, w18, w19, w20, w21, w22, w23, w24, w25, w26, w27, w28, w29, w30, w31, w32, w33, w34, w35, w36, w37, w38, w39, w40, w41, w42, w43, w44, w45, w46, w47, w48, w49]))] (va_A [(h0, .inr (9, [m0, m1, m2, m3, m4, m5, m6, m7, m8, m9, m10, m11, m12, m13, m14, m15, m16, m17, m18, m19, m20, m21, m22, m23, m24, m25, m26, m27, m28, m29, m30, m31, m32, m33, m34, m35, m36, m37, m38, m39, m40, m41, m42, m43, m44, m45, m46, m47, m48, .int 0]))] sz) t) (va_A [(h0, .inr (9, [m0, m1, m2, m3, m4, m5, m6, m7, m8, m9, m10, m11, m12, m13, m14, m15, m16, m17, m18, m19, m20, m21, m22, m23, m24, m25, m26, m27, m28, m29, m30, m31, m32, m33, m34, m35, m36, m37, m38, m39, m40, m41, m42, m43, m44, m45, m46, m47, m48, .int 0]))] sz)) 0 0 (va_A [(h0, .inr (9, [m0, m1, m2, m3, m4, m5, m6, m7, m8, m9, m10, m11, m12, m13, m14, m15, m16, m17, m18, m19, m20, m21, m22, m23, m24, m25, m26, m27, m28, m29, m30, m31, m32, m33, m34, m35, m36, m37, m38, m39, m40, m41, m42, m43, m44, m45, m46, m47, m48, .int 0]))] sz) := by
  refine Met.ofW (cc := cX9_reshuffles) (maxL := 1) (ret := (some .int)) (by decide) rfl ?_
  intro p e s m args below meth c s₁ B hml hv
  obtain ⟨rfl, ⟨hsz, hP, hK, hD0⟩⟩ := hv
  have hx := B.exec
  have hb := B.bytes
  have hr := B.returns
  have hts := atoms_spec (ws := wsX9_reshuffles) B.pre
  have hown : s.vm.findClass RX9 = some m.cls := findClass_of_methodNamed B.named
  have hlocks := B.notSynchronized
  subst hsz
  have hD := hD0.self (sz := s.heap.size)
  generalize hAe : va_A [(h0, .inr (9, [m0, m1, m2, m3, m4, m5, m6, m7, m8, m9, m10, m11, m12, m13, m14, m15, m16, m17, m18, m19, m20, m21, m22, m23, m24, m25, m26, m27, m28, m29, m30, m31, m32, m33, m34, m35, m36, m37, m38, m39, m40, m41, m42, m43, m44, m45, m46, m47, m48, .int 0]))] s.heap.size = A at hD ⊢
  have hA : ∀ q : Nat, s.heap.size ≤ q → A q := fun q h => by rw [← hAe]; exact Or.inr h
  have hS : va_S A s.heap s.heap [] := va_S.rf
  have hl := lv_entry ([.ref h0]) (n := 1) (Nat.le_of_ble_eq_true rfl)
  rw [lg_entry_eq]
  generalize (lg_sl ([.ref h0]) ++ List.replicate (1 - (lg_sl ([.ref h0])).length) Slot.unset).toArray = ls at hl ⊢
  have hl : lv_has ls 1 [(0, .ref h0)] := hl
  have hFX9 : ∀ w ∈ u_ws RX9 TX9 50, w ∈ wsX9_reshuffles := by decide +kernel
  refine lv_aload_n hx hb dX9_reshuffles_0 rfl (lv_at hl 0 rfl) ?_
  refine lv_aload_n hx hb dX9_reshuffles_1 rfl (lv_at hl 0 rfl) ?_
  refine va_get (D := xD g) (ci := 9) (v := .int 0) (C := RX9) (T := TX9) (N := 50) hx hb hts hFX9 hown hK hP 0 rfl rfl 49 (by decide) (hts (.fieldLink RX9 321 "StevedoreModel" "reshuffles" "I") (by decide +kernel)) (fun _ h9 => h9) rfl dX9_reshuffles_2 ?_
  have hPc := hP.sub (ws' := [(h0, .inr (9, [m0, m1, m2, m3, m4, m5, m6, m7, m8, m9, m10, m11, m12, m13, m14, m15, m16, m17, m18, m19, m20, m21, m22, m23, m24, m25, m26, m27, m28, m29, m30, m31, m32, m33, m34, m35, m36, m37, m38, m39, m40, m41, m42, m43, m44, m45, m46, m47, m48, .int 0]))]) [0] rfl
  have hDc := hD.sub (ws' := [(h0, .inr (9, [m0, m1, m2, m3, m4, m5, m6, m7, m8, m9, m10, m11, m12, m13, m14, m15, m16, m17, m18, m19, m20, m21, m22, m23, m24, m25, m26, m27, m28, m29, m30, m31, m32, m33, m34, m35, m36, m37, m38, m39, m40, m41, m42, m43, m44, m45, m46, m47, m48, .int 0]))]) [0] (by decide) rfl
  have hFc := va_free (wc := [(h0, .inr (9, [m0, m1, m2, m3, m4, m5, m6, m7, m8, m9, m10, m11, m12, m13, m14, m15, m16, m17, m18, m19, m20, m21, m22, m23, m24, m25, m26, m27, m28, m29, m30, m31, m32, m33, m34, m35, m36, m37, m38, m39, m40, m41, m42, m43, m44, m45, m46, m47, m48, .int 0]))]) hD hS hA [0] rfl
  refine va_calli (va_runV (As := [.int 0]) (rest := []) ⟨hx, hb, hml, hown, hts⟩ (m_plain l g s.heap.size h0 m0 m1 m2 m3 m4 m5 m6 m7 m8 m9 m10 m11 m12 m13 m14 m15 m16 m17 m18 m19 m20 m21 m22 m23 m24 m25 m26 m27 m28 m29 m30 m31 m32 m33 m34 m35 m36 m37 m38 m39 m40 m41 m42 m43 m44 m45 m46 m47 m48 (.int 0) 0) (cwV 1 hts gX9_reshuffles_X9_plain rfl rfl rfl (by decide +kernel) ⟨Nat.le_of_ble_eq_true rfl, Nat.le_of_ble_eq_true rfl⟩) ⟨xB.blind, va_recv hK hPc (ci := 9) (q0 := 0) rfl rfl, fun U9 hU9 hW9 => ⟨rfl, xB.mk hPc hK hDc hU9 hW9⟩⟩ rfl rfl hl.1 rfl (lv_room (Nat.le_of_ble_eq_true rfl)) dX9_reshuffles_5 ⟨Nat.le_of_ble_eq_true rfl, Nat.le_of_ble_eq_true rfl⟩) hS (fun q _ h => hFc q h) hFc (fun r_1 u_2 t H1 locs ht hvm hw_3 hB hz1 hk1 hS => ?_)
  obtain ⟨hP1, hK1, hD1⟩ := hB
  rw [ht] at hP1
  obtain ⟨hP, hD⟩ := va_join (wr := []) (w1 := [(h0, .inr (9, [.int 0, m1, m2, m3, m4, m5, m6, m7, m8, m9, m10, m11, m12, m13, m14, m15, m16, m17, m18, m19, m20, m21, m22, m23, m24, m25, m26, m27, m28, m29, m30, m31, m32, m33, m34, m35, m36, m37, m38, m39, m40, m41, m42, m43, m44, m45, m46, m47, m48, .int 0]))]) hP hD [0] [] rfl rfl (by decide) (by decide) hk1 hFc hP1 hD1
  generalize H1 = H at hP hS ⊢
  have hP : va_P (xD g) vwCl [(h0, .inr (9, [.int 0, m1, m2, m3, m4, m5, m6, m7, m8, m9, m10, m11, m12, m13, m14, m15, m16, m17, m18, m19, m20, m21, m22, m23, m24, m25, m26, m27, m28, m29, m30, m31, m32, m33, m34, m35, m36, m37, m38, m39, m40, m41, m42, m43, m44, m45, m46, m47, m48, .int 0]))] H := hP
  have hD : va_D A [(h0, .inr (9, [.int 0, m1, m2, m3, m4, m5, m6, m7, m8, m9, m10, m11, m12, m13, m14, m15, m16, m17, m18, m19, m20, m21, m22, m23, m24, m25, m26, m27, m28, m29, m30, m31, m32, m33, m34, m35, m36, m37, m38, m39, m40, m41, m42, m43, m44, m45, m46, m47, m48, .int 0]))] := hD
  try dsimp only at hw_3
  obtain rfl := hw_3
  have hP9 := hP.sub (ws' := [(h0, .inr (9, [.int 0, m1, m2, m3, m4, m5, m6, m7, m8, m9, m10, m11, m12, m13, m14, m15, m16, m17, m18, m19, m20, m21, m22, m23, m24, m25, m26, m27, m28, m29, m30, m31, m32, m33, m34, m35, m36, m37, m38, m39, m40, m41, m42, m43, m44, m45, m46, m47, m48, .int 0]))]) [0] rfl
  have hD9 := hD.sub (ws' := [(h0, .inr (9, [.int 0, m1, m2, m3, m4, m5, m6, m7, m8, m9, m10, m11, m12, m13, m14, m15, m16, m17, m18, m19, m20, m21, m22, m23, m24, m25, m26, m27, m28, m29, m30, m31, m32, m33, m34, m35, m36, m37, m38, m39, m40, m41, m42, m43, m44, m45, m46, m47, m48, .int 0]))]) [0] (by decide) rfl
  exact W.iret (v := 0) hx hb hr (fun t ht hW => ⟨⟨0, 0, rfl, ⟨rfl, rfl⟩, ⟨m1, m2, m3, m4, m5, m6, m7, m8, m9, m10, m11, m12, m13, m14, m15, m16, m17, m18, m19, m20, m21, m22, m23, m24, m25, m26, m27, m28, m29, m30, m31, m32, m33, m34, m35, m36, m37, m38, m39, m40, m41, m42, m43, m44, m45, m46, m47, m48, (.int 0), by rw [ht]; exact hP9, va_K.moved hW.alike hK, hD9⟩⟩, hS.F ht⟩) hS.2.2 dX9_reshuffles_8
theorem dX9_blocking_0 : decode cX9_blocking 0 = .ok (.aload_n 0, 1) := by decide +kernel
theorem dX9_blocking_1 : decode cX9_blocking 1 = .ok (.aload_n 0, 1) := by decide +kernel
theorem dX9_blocking_2 : decode cX9_blocking 2 = .ok (.invokevirtual 356, 3) := by decide +kernel
set_option maxRecDepth 20000 in
theorem ggX9_blocking_X9_blockingNow : GoodIn wsX9_blocking wsX9_blockingNow := goodIn_r _ [5, 6, 7, 8, 9, 10, 11, 12, 13, 14, 20, 21, 22, 23, 24, 25, 26, 27, 28, 29, 30, 31, 32, 33, 34, 35, 36, 37, 38, 39, 40, 41, 42, 43, 44, 45, 46, 47, 48, 49, 50, 51, 52, 53, 54, 55, 56, 57, 58, 59, 60, 61, 62, 63, 64, 65, 66, 67, 68, 69] rfl (by decide +kernel)
set_option maxRecDepth 20000 in
theorem gX9_blocking_X9_blockingNow : GoodIn wsX9_blocking (wsV RX9 356 RX9 yX9_blockingNow wsX9_blockingNow) := goodIn_app (goodIn_of _ (by decide +kernel)) ggX9_blocking_X9_blockingNow
theorem dX9_blocking_5 : decode cX9_blocking 5 = .ok (.invokevirtual 164, 3) := by decide +kernel
set_option maxRecDepth 20000 in
theorem ggX9_blocking_X9_plain : GoodIn wsX9_blocking wsX9_plain := goodIn_r _ [18, 19, 20, 21, 22, 23, 24, 25, 26, 27, 28, 29, 30, 31, 32, 33, 34, 35, 36, 37, 38, 39, 40, 41, 42, 43, 44, 45, 46, 47, 48, 49, 50, 51, 52, 53, 54, 55, 56, 57, 58, 59, 60, 61, 62, 63, 64, 65, 66, 67, 68, 69] rfl (by decide +kernel)
set_option maxRecDepth 20000 in
theorem gX9_blocking_X9_plain : GoodIn wsX9_blocking (wsV RX9 164 RX9 yX9_plain wsX9_plain) := goodIn_app (goodIn_of _ (by decide +kernel)) ggX9_blocking_X9_plain
theorem dX9_blocking_8 : decode cX9_blocking 8 = .ok (.ireturn, 1) := by decide +kernel
set_option maxHeartbeats 4000000 in
set_option maxRecDepth 100000 in
theorem m0_blocking (l : Launch) (g : xG) (sz : Nat) (h0 : Nat) (m0 : Value) (m1 : Value) (m2 : Value) (m3 : Value) (m4 : Value) (m5 : Value) (m6 : Value) (m7 : Value) (m8 : Value) (m9 : Value) (m10 : Value) (m11 : Value) (m12 : Value) (m13 : Value) (m14 : Value) (m16 : Value) (m17 : Value) (m18 : Value) (m19 : Value) (m20 : Value) (m21 : Value) (m22 : Value) (m23 : Value) (m24 : Value) (m25 : Value) (m26 : Value) (m27 : Value) (m28 : Value) (m29 : Value) (m30 : Value) (m31 : Value) (m32 : Value) (m33 : Value) (m34 : Value) (m35 : Value) (m36 : Value) (m37 : Value) (m38 : Value) (m39 : Value) (m40 : Value) (m41 : Value) (m42 : Value) (m43 : Value) (m44 : Value) (m45 : Value) (m46 : Value) (m47 : Value) (m48 : Value) (m49 : Value)  : Met l yX9_blocking wsX9_blocking ({ frames := 1, cells := 0, slots := 0, locals := 24 }) (va_Pc [.ref h0] (fun U => xB g [(h0, .inr (9, [m0, m1, m2, m3, m4, m5, m6, m7, m8, m9, m10, m11, m12, m13, m14, .int 0, m16, m17, m18, m19, m20, m21, m22, m23, m24, m25, m26, m27, m28, m29, m30, m31, m32, m33, m34, m35, m36, m37, m38, m39, m40, m41, m42, m43, m44, m45, m46, m47, m48, m49]))] sz U)) (va_Qi (fun (r : Int32) (u : Int32) => u = 0 ∧ r = 0) (fun (u : Int32) (t : State) => ∃ (w1 : Value) (w2 : Value) (w3 : Value) (w4 : Value) (w5 : Value) (w6 : Value) (w7 : Value) (w8 : Value) (w9 : Value) (w10 : Value) (w11 : Value) (w12 : Value) (w13 : Value) (w14 : Value) (w15 : Value) (w16 : Value) (w17 : Value) (w18 : Value) (w19 : Value) (w20 : Value) (w21 : Value) (w22 : Value) (w23 : Value) (w24 : Value) (w25 : Value) (w26 : Value) (w27 : Value) (w28 : Value) (w29 : Value) (w30 : Value) (w31 : Value) (w32 : Value) (w33 : Value) (w34 : Value) (w35 : Value) (w36 : Value) (w37 : Value) (w38 : Value) (w39 : Value) (w40 : Value) (w41 : Value) (w42 : Value) (w43 : Value) (w44 : Value) (w45 : Value) (w46 : Value) (w47 : Value) (w48 : Value) (w49 : Value), xE g [(h0, .inr (9, [.int u, w1, w2, w3, w4, w5, w6, w7, w8, w9, w10, w11, w12, w13, w14, w15, w16, w17, w18, w19, w20, w21, w22, w23, w24, w25, w26, w27, w28, w29, w30, w31, w32, w33, w34, w35, w36, w37, w38, w39, w40, w41, w42, w43, w44, w45, w46, w47, w48, w49]))] (va_A [(h0, .inr (9, [m0, m1, m2, m3, m4, m5, m6, m7, m8, m9, m10, m11, m12, m13, m14, .int 0, m16, m17, m18, m19, m20, m21, m22, m23, m24, m25, m26, m27, m28, m29, m30, m31, m32, m33, m34, m35, m36, m37, m38, m39, m40, m41, m42, m43, m44, m45, m46, m47, m48, m49]))] sz) t) (va_A [(h0, .inr (9, [m0, m1, m2, m3, m4, m5, m6, m7, m8, m9, m10, m11, m12, m13, m14, .int 0, m16, m17, m18, m19, m20, m21, m22, m23, m24, m25, m26, m27, m28, m29, m30, m31, m32, m33, m34, m35, m36, m37, m38, m39, m40, m41, m42, m43, m44, m45, m46, m47, m48, m49]))] sz)) 0 0 (va_A [(h0, .inr (9, [m0, m1, m2, m3, m4, m5, m6, m7, m8, m9, m10, m11, m12, m13, m14, .int 0, m16, m17, m18, m19, m20, m21, m22, m23, m24, m25, m26, m27, m28, m29, m30, m31, m32, m33, m34, m35, m36, m37, m38, m39, m40, m41, m42, m43, m44, m45, m46, m47, m48, m49]))] sz) := by
  refine Met.ofW (cc := cX9_blocking) (maxL := 1) (ret := (some .int)) (by decide) rfl ?_
  intro p e s m args below meth c s₁ B hml hv
  obtain ⟨rfl, ⟨hsz, hP, hK, hD0⟩⟩ := hv
  have hx := B.exec
  have hb := B.bytes
  have hr := B.returns
  have hts := atoms_spec (ws := wsX9_blocking) B.pre
  have hown : s.vm.findClass RX9 = some m.cls := findClass_of_methodNamed B.named
  have hlocks := B.notSynchronized
  subst hsz
  have hD := hD0.self (sz := s.heap.size)
  generalize hAe : va_A [(h0, .inr (9, [m0, m1, m2, m3, m4, m5, m6, m7, m8, m9, m10, m11, m12, m13, m14, .int 0, m16, m17, m18, m19, m20, m21, m22, m23, m24, m25, m26, m27, m28, m29, m30, m31, m32, m33, m34, m35, m36, m37, m38, m39, m40, m41, m42, m43, m44, m45, m46, m47, m48, m49]))] s.heap.size = A at hD ⊢
  have hA : ∀ q : Nat, s.heap.size ≤ q → A q := fun q h => by rw [← hAe]; exact Or.inr h
  have hS : va_S A s.heap s.heap [] := va_S.rf
  have hl := lv_entry ([.ref h0]) (n := 1) (Nat.le_of_ble_eq_true rfl)
  rw [lg_entry_eq]
  generalize (lg_sl ([.ref h0]) ++ List.replicate (1 - (lg_sl ([.ref h0])).length) Slot.unset).toArray = ls at hl ⊢
  have hl : lv_has ls 1 [(0, .ref h0)] := hl
  refine lv_aload_n hx hb dX9_blocking_0 rfl (lv_at hl 0 rfl) ?_
  refine lv_aload_n hx hb dX9_blocking_1 rfl (lv_at hl 0 rfl) ?_
  have hPc := hP.sub (ws' := [(h0, .inr (9, [m0, m1, m2, m3, m4, m5, m6, m7, m8, m9, m10, m11, m12, m13, m14, .int 0, m16, m17, m18, m19, m20, m21, m22, m23, m24, m25, m26, m27, m28, m29, m30, m31, m32, m33, m34, m35, m36, m37, m38, m39, m40, m41, m42, m43, m44, m45, m46, m47, m48, m49]))]) [0] rfl
  have hDc := hD.sub (ws' := [(h0, .inr (9, [m0, m1, m2, m3, m4, m5, m6, m7, m8, m9, m10, m11, m12, m13, m14, .int 0, m16, m17, m18, m19, m20, m21, m22, m23, m24, m25, m26, m27, m28, m29, m30, m31, m32, m33, m34, m35, m36, m37, m38, m39, m40, m41, m42, m43, m44, m45, m46, m47, m48, m49]))]) [0] (by decide) rfl
  have hFc := xFree hS hA
  refine va_calli (va_runV (As := []) (rest := [.ref h0]) ⟨hx, hb, hml, hown, hts⟩ (m0_blockingNow l g s.heap.size h0 m0 m1 m2 m3 m4 m5 m6 m7 m8 m9 m10 m11 m12 m13 m14 m16 m17 m18 m19 m20 m21 m22 m23 m24 m25 m26 m27 m28 m29 m30 m31 m32 m33 m34 m35 m36 m37 m38 m39 m40 m41 m42 m43 m44 m45 m46 m47 m48 m49) (cwV 0 hts gX9_blocking_X9_blockingNow rfl rfl rfl (by decide +kernel) ⟨Nat.le_of_ble_eq_true rfl, Nat.le_of_ble_eq_true rfl⟩) ⟨xB.blind, va_recv hK hPc (ci := 9) (q0 := 0) rfl rfl, fun U9 hU9 hW9 => ⟨rfl, xB.mk hPc hK hDc hU9 hW9⟩⟩ rfl rfl hl.1 rfl (lv_room (Nat.le_of_ble_eq_true rfl)) dX9_blocking_2 ⟨Nat.le_of_ble_eq_true rfl, Nat.le_of_ble_eq_true rfl⟩) hS (fun q _ h => hFc q h) hFc (fun r_1 u_2 t H1 locs ht hvm hw_3 hB hz1 hk1 hS => ?_)
  have hP := xSame hP hk1
  generalize H1 = H at hP hS ⊢
  have hP : va_P (xD g) vwCl [(h0, .inr (9, [m0, m1, m2, m3, m4, m5, m6, m7, m8, m9, m10, m11, m12, m13, m14, .int 0, m16, m17, m18, m19, m20, m21, m22, m23, m24, m25, m26, m27, m28, m29, m30, m31, m32, m33, m34, m35, m36, m37, m38, m39, m40, m41, m42, m43, m44, m45, m46, m47, m48, m49]))] H := hP
  have hD : va_D A [(h0, .inr (9, [m0, m1, m2, m3, m4, m5, m6, m7, m8, m9, m10, m11, m12, m13, m14, .int 0, m16, m17, m18, m19, m20, m21, m22, m23, m24, m25, m26, m27, m28, m29, m30, m31, m32, m33, m34, m35, m36, m37, m38, m39, m40, m41, m42, m43, m44, m45, m46, m47, m48, m49]))] := hD
  try dsimp only at hw_3
  obtain rfl := hw_3
  have hPc := hP.sub (ws' := [(h0, .inr (9, [m0, m1, m2, m3, m4, m5, m6, m7, m8, m9, m10, m11, m12, m13, m14, .int 0, m16, m17, m18, m19, m20, m21, m22, m23, m24, m25, m26, m27, m28, m29, m30, m31, m32, m33, m34, m35, m36, m37, m38, m39, m40, m41, m42, m43, m44, m45, m46, m47, m48, m49]))]) [0] rfl
  have hDc := hD.sub (ws' := [(h0, .inr (9, [m0, m1, m2, m3, m4, m5, m6, m7, m8, m9, m10, m11, m12, m13, m14, .int 0, m16, m17, m18, m19, m20, m21, m22, m23, m24, m25, m26, m27, m28, m29, m30, m31, m32, m33, m34, m35, m36, m37, m38, m39, m40, m41, m42, m43, m44, m45, m46, m47, m48, m49]))]) [0] (by decide) rfl
  have hFc := va_free (wc := [(h0, .inr (9, [m0, m1, m2, m3, m4, m5, m6, m7, m8, m9, m10, m11, m12, m13, m14, .int 0, m16, m17, m18, m19, m20, m21, m22, m23, m24, m25, m26, m27, m28, m29, m30, m31, m32, m33, m34, m35, m36, m37, m38, m39, m40, m41, m42, m43, m44, m45, m46, m47, m48, m49]))]) hD hS hA [0] rfl
  refine va_calli (va_runV (As := [.int 0]) (rest := []) ⟨hx, hb, hml, hown, hts⟩ (m_plain l g H.size h0 m0 m1 m2 m3 m4 m5 m6 m7 m8 m9 m10 m11 m12 m13 m14 (.int 0) m16 m17 m18 m19 m20 m21 m22 m23 m24 m25 m26 m27 m28 m29 m30 m31 m32 m33 m34 m35 m36 m37 m38 m39 m40 m41 m42 m43 m44 m45 m46 m47 m48 m49 0) (cwV 1 hts gX9_blocking_X9_plain rfl rfl rfl (by decide +kernel) ⟨Nat.le_of_ble_eq_true rfl, Nat.le_of_ble_eq_true rfl⟩) ⟨xB.blind, va_recv hK hPc (ci := 9) (q0 := 0) rfl rfl, fun U9 hU9 hW9 => ⟨rfl, xB.mk hPc hK hDc hU9 hW9⟩⟩ rfl rfl hl.1 rfl (lv_room (Nat.le_of_ble_eq_true rfl)) dX9_blocking_5 ⟨Nat.le_of_ble_eq_true rfl, Nat.le_of_ble_eq_true rfl⟩) hS (fun q _ h => hFc q h) hFc (fun r_4 u_5 t H1 locs ht hvm hw_6 hB hz1 hk1 hS => ?_)
  obtain ⟨hP1, hK1, hD1⟩ := hB
  rw [ht] at hP1
  obtain ⟨hP, hD⟩ := va_join (wr := []) (w1 := [(h0, .inr (9, [.int 0, m1, m2, m3, m4, m5, m6, m7, m8, m9, m10, m11, m12, m13, m14, .int 0, m16, m17, m18, m19, m20, m21, m22, m23, m24, m25, m26, m27, m28, m29, m30, m31, m32, m33, m34, m35, m36, m37, m38, m39, m40, m41, m42, m43, m44, m45, m46, m47, m48, m49]))]) hP hD [0] [] rfl rfl (by decide) (by decide) hk1 hFc hP1 hD1
  generalize H1 = H at hP hS ⊢
  have hP : va_P (xD g) vwCl [(h0, .inr (9, [.int 0, m1, m2, m3, m4, m5, m6, m7, m8, m9, m10, m11, m12, m13, m14, .int 0, m16, m17, m18, m19, m20, m21, m22, m23, m24, m25, m26, m27, m28, m29, m30, m31, m32, m33, m34, m35, m36, m37, m38, m39, m40, m41, m42, m43, m44, m45, m46, m47, m48, m49]))] H := hP
  have hD : va_D A [(h0, .inr (9, [.int 0, m1, m2, m3, m4, m5, m6, m7, m8, m9, m10, m11, m12, m13, m14, .int 0, m16, m17, m18, m19, m20, m21, m22, m23, m24, m25, m26, m27, m28, m29, m30, m31, m32, m33, m34, m35, m36, m37, m38, m39, m40, m41, m42, m43, m44, m45, m46, m47, m48, m49]))] := hD
  try dsimp only at hw_6
  obtain rfl := hw_6
  have hP9 := hP.sub (ws' := [(h0, .inr (9, [.int 0, m1, m2, m3, m4, m5, m6, m7, m8, m9, m10, m11, m12, m13, m14, .int 0, m16, m17, m18, m19, m20, m21, m22, m23, m24, m25, m26, m27, m28, m29, m30, m31, m32, m33, m34, m35, m36, m37, m38, m39, m40, m41, m42, m43, m44, m45, m46, m47, m48, m49]))]) [0] rfl
  have hD9 := hD.sub (ws' := [(h0, .inr (9, [.int 0, m1, m2, m3, m4, m5, m6, m7, m8, m9, m10, m11, m12, m13, m14, .int 0, m16, m17, m18, m19, m20, m21, m22, m23, m24, m25, m26, m27, m28, m29, m30, m31, m32, m33, m34, m35, m36, m37, m38, m39, m40, m41, m42, m43, m44, m45, m46, m47, m48, m49]))]) [0] (by decide) rfl
  exact W.iret (v := 0) hx hb hr (fun t ht hW => ⟨⟨0, 0, rfl, ⟨rfl, rfl⟩, ⟨m1, m2, m3, m4, m5, m6, m7, m8, m9, m10, m11, m12, m13, m14, (.int 0), m16, m17, m18, m19, m20, m21, m22, m23, m24, m25, m26, m27, m28, m29, m30, m31, m32, m33, m34, m35, m36, m37, m38, m39, m40, m41, m42, m43, m44, m45, m46, m47, m48, m49, by rw [ht]; exact hP9, va_K.moved hW.alike hK, hD9⟩⟩, hS.F ht⟩) hS.2.2 dX9_blocking_8
theorem dX9_isPlanned_0 : decode cX9_isPlanned 0 = .ok (.aload_n 0, 1) := by decide +kernel
theorem dX9_isPlanned_1 : decode cX9_isPlanned 1 = .ok (.iconst 0, 1) := by decide +kernel
theorem dX9_isPlanned_2 : decode cX9_isPlanned 2 = .ok (.putfield 111, 3) := by decide +kernel
theorem dX9_isPlanned_5 : decode cX9_isPlanned 5 = .ok (.aload_n 0, 1) := by decide +kernel
theorem dX9_isPlanned_6 : decode cX9_isPlanned 6 = .ok (.getfield 118, 3) := by decide +kernel
theorem dX9_isPlanned_9 : decode cX9_isPlanned 9 = .ok (.ireturn, 1) := by decide +kernel
set_option maxHeartbeats 4000000 in
set_option maxRecDepth 100000 in
theorem m0_isPlanned (l : Launch) (g : xG) (sz : Nat) (h0 : Nat) (m0 : Value) (m1 : Value) (m2 : Value) (m3 : Value) (m4 : Value) (m5 : Value) (m6 : Value) (m7 : Value) (m8 : Value) (m9 : Value) (m10 : Value) (m11 : Value) (m12 : Value) (m13 : Value) (m14 : Value) (m15 : Value) (m16 : Value) (m17 : Value) (m18 : Value) (m19 : Value) (m20 : Value) (m21 : Value) (m22 : Value) (m23 : Value) (m25 : Value) (m26 : Value) (m27 : Value) (m28 : Value) (m29 : Value) (m30 : Value) (m31 : Value) (m32 : Value) (m33 : Value) (m34 : Value) (m35 : Value) (m36 : Value) (m37 : Value) (m38 : Value) (m39 : Value) (m40 : Value) (m41 : Value) (m42 : Value) (m43 : Value) (m44 : Value) (m45 : Value) (m46 : Value) (m47 : Value) (m48 : Value) (m49 : Value)  : Met l yX9_isPlanned wsX9_isPlanned ({ frames := 0, cells := 0, slots := 0, locals := 0 }) (va_Pc [.ref h0] (fun U => xB g [(h0, .inr (9, [m0, m1, m2, m3, m4, m5, m6, m7, m8, m9, m10, m11, m12, m13, m14, m15, m16, m17, m18, m19, m20, m21, m22, m23, .int 0, m25, m26, m27, m28, m29, m30, m31, m32, m33, m34, m35, m36, m37, m38, m39, m40, m41, m42, m43, m44, m45, m46, m47, m48, m49]))] sz U)) (va_Qi (fun (r : Int32) (u : Int32) => u = 0 ∧ r = 0) (fun (u : Int32) (t : State) => ∃ (w1 : Value) (w2 : Value) (w3 : Value) (w4 : Value) (w5 : Value) (w6 : Value) (w7 : Value) (w8 : Value) (w9 : Value) (w10 : Value) (w11 : Value) (w12 : Value) (w13 : Value) (w14 : Value) (w15 : Value) (w16 : Value) (w17 : Value) (w18 : Value) (w19 : Value) (w20 : Value) (w21 : Value) (w22 : Value) (w23 : Value) (w24 : Value) (w25 : Value) (w26 : Value) (w27 : Value) (w28 : Value) (w29 : Value) (w30 : Value) (w31 : Value) (w32 : Value) (w33 : Value) (w34 : Value) (w35 : Value) (w36 : Value) (w37 : Value) (w38 : Value) (w39 : Value) (w40 : Value) (w41 : Value) (w42 : Value) (w43 : Value) (w44 : Value) (w45 : Value) (w46 : Value) (w47 : Value) (w48 : Value) (w49 : Value), xE g [(h0, .inr (9, [.int u, w1, w2, w3, w4, w5, w6, w7, w8, w9, w10, w11, w12, w13, w14, w15, w16, w17, w18, w19, w20, w21, w22, w23, w24, w25, w26, w27, w28, w29, w30, w31, w32, w33, w34, w35, w36, w37, w38, w39, w40, w41, w42, w43, w44, w45, w46, w47, w48, w49]))] (va_A [(h0, .inr (9, [m0, m1, m2, m3, m4, m5, m6, m7, m8, m9, m10, m11, m12, m13, m14, m15, m16, m17, m18, m19, m20, m21, m22, m23, .int 0, m25, m26, m27, m28, m29, m30, m31, m32, m33, m34, m35, m36, m37, m38, m39, m40, m41, m42, m43, m44, m45, m46, m47, m48, m49]))] sz) t) (va_A [(h0, .inr (9, [m0, m1, m2, m3, m4, m5, m6, m7, m8, m9, m10, m11, m12, m13, m14, m15, m16, m17, m18, m19, m20, m21, m22, m23, .int 0, m25, m26, m27, m28, m29, m30, m31, m32, m33, m34, m35, m36, m37, m38, m39, m40, m41, m42, m43, m44, m45, m46, m47, m48, m49]))] sz)) 0 0 (va_A [(h0, .inr (9, [m0, m1, m2, m3, m4, m5, m6, m7, m8, m9, m10, m11, m12, m13, m14, m15, m16, m17, m18, m19, m20, m21, m22, m23, .int 0, m25, m26, m27, m28, m29, m30, m31, m32, m33, m34, m35, m36, m37, m38, m39, m40, m41, m42, m43, m44, m45, m46, m47, m48, m49]))] sz) := by
  refine Met.ofW (cc := cX9_isPlanned) (maxL := 1) (ret := (some .boolean)) (by decide) rfl ?_
  intro p e s m args below meth c s₁ B hml hv
  obtain ⟨rfl, ⟨hsz, hP, hK, hD0⟩⟩ := hv
  have hx := B.exec
  have hb := B.bytes
  have hr := B.returns
  have hts := atoms_spec (ws := wsX9_isPlanned) B.pre
  have hown : s.vm.findClass RX9 = some m.cls := findClass_of_methodNamed B.named
  have hlocks := B.notSynchronized
  subst hsz
  have hD := hD0.self (sz := s.heap.size)
  generalize hAe : va_A [(h0, .inr (9, [m0, m1, m2, m3, m4, m5, m6, m7, m8, m9, m10, m11, m12, m13, m14, m15, m16, m17, m18, m19, m20, m21, m22, m23, .int 0, m25, m26, m27, m28, m29, m30, m31, m32, m33, m34, m35, m36, m37, m38, m39, m40, m41, m42, m43, m44, m45, m46, m47, m48, m49]))] s.heap.size = A at hD ⊢
  have hA : ∀ q : Nat, s.heap.size ≤ q → A q := fun q h => by rw [← hAe]; exact Or.inr h
  have hS : va_S A s.heap s.heap [] := va_S.rf
  have hl := lv_entry ([.ref h0]) (n := 1) (Nat.le_of_ble_eq_true rfl)
  rw [lg_entry_eq]
  generalize (lg_sl ([.ref h0]) ++ List.replicate (1 - (lg_sl ([.ref h0])).length) Slot.unset).toArray = ls at hl ⊢
  have hl : lv_has ls 1 [(0, .ref h0)] := hl
  have hFX9 : ∀ w ∈ u_ws RX9 TX9 50, w ∈ wsX9_isPlanned := by decide +kernel
  refine lv_aload_n hx hb dX9_isPlanned_0 rfl (lv_at hl 0 rfl) ?_
  refine lv_iconst (v := 0) hx hb dX9_isPlanned_1 (by decide) ?_
  refine va_put (D := xD g) (ci := 9) (v := .int 0) (ty := .int) (C := RX9) (T := TX9) (N := 50) hx hb hts hFX9 tyX9 tyX9_ok nmX9 hown hK hP hD hS 0 rfl rfl 0 (by decide) (hts (.fieldLink RX9 111 "StevedoreModel" "thrown" "I") (by decide +kernel)) (fun _ h9 => h9) rfl (by decide +kernel) rfl rfl (Nat.le_of_ble_eq_true rfl) dX9_isPlanned_2 (fun H locs hP hD hS => ?_)
  have hP : va_P (xD g) vwCl [(h0, .inr (9, [.int 0, m1, m2, m3, m4, m5, m6, m7, m8, m9, m10, m11, m12, m13, m14, m15, m16, m17, m18, m19, m20, m21, m22, m23, .int 0, m25, m26, m27, m28, m29, m30, m31, m32, m33, m34, m35, m36, m37, m38, m39, m40, m41, m42, m43, m44, m45, m46, m47, m48, m49]))] H := hP
  have hD : va_D A [(h0, .inr (9, [.int 0, m1, m2, m3, m4, m5, m6, m7, m8, m9, m10, m11, m12, m13, m14, m15, m16, m17, m18, m19, m20, m21, m22, m23, .int 0, m25, m26, m27, m28, m29, m30, m31, m32, m33, m34, m35, m36, m37, m38, m39, m40, m41, m42, m43, m44, m45, m46, m47, m48, m49]))] := hD
  refine lv_aload_n hx hb dX9_isPlanned_5 rfl (lv_at hl 0 rfl) ?_
  refine va_get (D := xD g) (ci := 9) (v := .int 0) (C := RX9) (T := TX9) (N := 50) hx hb hts hFX9 hown hK hP 0 rfl rfl 24 (by decide) (hts (.fieldLink RX9 118 "StevedoreModel" "isPlanned" "Z") (by decide +kernel)) (fun _ h9 => h9) rfl dX9_isPlanned_6 ?_
  have hP9 := hP.sub (ws' := [(h0, .inr (9, [.int 0, m1, m2, m3, m4, m5, m6, m7, m8, m9, m10, m11, m12, m13, m14, m15, m16, m17, m18, m19, m20, m21, m22, m23, .int 0, m25, m26, m27, m28, m29, m30, m31, m32, m33, m34, m35, m36, m37, m38, m39, m40, m41, m42, m43, m44, m45, m46, m47, m48, m49]))]) [0] rfl
  have hD9 := hD.sub (ws' := [(h0, .inr (9, [.int 0, m1, m2, m3, m4, m5, m6, m7, m8, m9, m10, m11, m12, m13, m14, m15, m16, m17, m18, m19, m20, m21, m22, m23, .int 0, m25, m26, m27, m28, m29, m30, m31, m32, m33, m34, m35, m36, m37, m38, m39, m40, m41, m42, m43, m44, m45, m46, m47, m48, m49]))]) [0] (by decide) rfl
  exact W.zret (v := 0) hx hb hr (by rfl) (fun t ht hW => ⟨⟨0, 0, rfl, ⟨rfl, rfl⟩, ⟨m1, m2, m3, m4, m5, m6, m7, m8, m9, m10, m11, m12, m13, m14, m15, m16, m17, m18, m19, m20, m21, m22, m23, (.int 0), m25, m26, m27, m28, m29, m30, m31, m32, m33, m34, m35, m36, m37, m38, m39, m40, m41, m42, m43, m44, m45, m46, m47, m48, m49, by rw [ht]; exact hP9, va_K.moved hW.alike hK, hD9⟩⟩, hS.F ht⟩) hS.2.2 dX9_isPlanned_9
theorem dX9_setQuay_0 : decode cX9_setQuay 0 = .ok (.aload_n 0, 1) := by decide +kernel
theorem dX9_setQuay_1 : decode cX9_setQuay 1 = .ok (.iload_n 1, 1) := by decide +kernel
theorem dX9_setQuay_2 : decode cX9_setQuay 2 = .ok (.iconst 4, 1) := by decide +kernel
theorem dX9_setQuay_3 : decode cX9_setQuay 3 = .ok (.bipush 60, 2) := by decide +kernel
theorem dX9_setQuay_5 : decode cX9_setQuay 5 = .ok (.invokestatic 134, 3) := by decide +kernel
set_option maxRecDepth 20000 in
theorem ggX9_setQuay_X9_isIn : GoodIn wsX9_setQuay wsX9_isIn := goodIn_r _ [5] rfl (by decide +kernel)
set_option maxRecDepth 20000 in
theorem gX9_setQuay_X9_isIn : GoodIn wsX9_setQuay (va_wsS RX9 134 yX9_isIn wsX9_isIn) := goodIn_app (goodIn_of _ (by decide +kernel)) ggX9_setQuay_X9_isIn
theorem dX9_setQuay_8 : decode cX9_setQuay 8 = .ok (.ifCond .ne 7, 3) := by decide +kernel
theorem dX9_setQuay_15 : decode cX9_setQuay 15 = .ok (.iconst 0, 1) := by decide +kernel
theorem dX9_setQuay_16 : decode cX9_setQuay 16 = .ok (.iconst 1, 1) := by decide +kernel
theorem dX9_setQuay_17 : decode cX9_setQuay 17 = .ok (.invokevirtual 138, 3) := by decide +kernel
set_option maxRecDepth 20000 in
theorem ggX9_setQuay_X9_start : GoodIn wsX9_setQuay wsX9_start := goodIn_r _ [9, 10, 11, 12, 13, 4, 14, 36, 37, 38, 39, 40, 41, 42, 43, 44, 45, 46, 47, 48, 49, 50, 51, 52, 53, 54, 55, 56, 57, 58, 59, 60, 61, 62, 63, 64, 65, 66, 67, 68, 69, 70, 71, 72, 73, 74, 75, 76, 77, 78, 79, 80, 81, 82, 83, 84, 85] rfl (by decide +kernel)
set_option maxRecDepth 20000 in
theorem gX9_setQuay_X9_start : GoodIn wsX9_setQuay (wsV RX9 138 RX9 yX9_start wsX9_start) := goodIn_app (goodIn_of _ (by decide +kernel)) ggX9_setQuay_X9_start
theorem dX9_setQuay_20 : decode cX9_setQuay 20 = .ok (.ifCond .eq 5, 3) := by decide +kernel
theorem dX9_setQuay_25 : decode cX9_setQuay 25 = .ok (.aload_n 0, 1) := by decide +kernel
theorem dX9_setQuay_26 : decode cX9_setQuay 26 = .ok (.getfield 7, 3) := by decide +kernel
theorem dX9_setQuay_29 : decode cX9_setQuay 29 = .ok (.istore_n 2, 1) := by decide +kernel
theorem dX9_setQuay_30 : decode cX9_setQuay 30 = .ok (.aload_n 0, 1) := by decide +kernel
theorem dX9_setQuay_31 : decode cX9_setQuay 31 = .ok (.iload_n 1, 1) := by decide +kernel
theorem dX9_setQuay_32 : decode cX9_setQuay 32 = .ok (.putfield 7, 3) := by decide +kernel
theorem dX9_setQuay_35 : decode cX9_setQuay 35 = .ok (.aload_n 0, 1) := by decide +kernel
theorem dX9_setQuay_36 : decode cX9_setQuay 36 = .ok (.invokevirtual 141, 3) := by decide +kernel
set_option maxRecDepth 20000 in
theorem ggX9_setQuay_X9_noPlan : GoodIn wsX9_setQuay wsX9_noPlan := goodIn_r _ [18, 19, 20, 21, 22, 4, 23, 24, 25, 26, 27, 28, 29, 30, 31, 32, 33, 34, 35, 36, 37, 38, 39, 40, 41, 42, 43, 44, 45, 46, 47, 48, 49, 50, 51, 52, 53, 54, 55, 56, 57, 58, 59, 60, 61, 62, 63, 64, 65, 66, 67, 68, 69, 70, 71, 72, 73, 74, 75, 76, 77, 78, 79, 80, 81, 82, 83, 84, 85] rfl (by decide +kernel)
set_option maxRecDepth 20000 in
theorem gX9_setQuay_X9_noPlan : GoodIn wsX9_setQuay (wsV RX9 141 RX9 yX9_noPlan wsX9_noPlan) := goodIn_app (goodIn_of _ (by decide +kernel)) ggX9_setQuay_X9_noPlan
theorem dX9_setQuay_39 : decode cX9_setQuay 39 = .ok (.iload_n 2, 1) := by decide +kernel
theorem dX9_setQuay_40 : decode cX9_setQuay 40 = .ok (.ireturn, 1) := by decide +kernel
theorem dX9_setQuay_11 : decode cX9_setQuay 11 = .ok (.iconst 1, 1) := by decide +kernel
theorem dX9_setQuay_12 : decode cX9_setQuay 12 = .ok (.goto 4, 3) := by decide +kernel
theorem dX9_setQuay_23 : decode cX9_setQuay 23 = .ok (.iconst 0, 1) := by decide +kernel
theorem dX9_setQuay_24 : decode cX9_setQuay 24 = .ok (.ireturn, 1) := by decide +kernel
set_option maxHeartbeats 4000000 in
set_option maxRecDepth 100000 in
theorem m0_setQuay (l : Launch) (g : xG) (sz : Nat) (h0 : Nat) (was : Int32) (m0 : Value) (m2 : Value) (m3 : Value) (m4 : Value) (m5 : Value) (m6 : Value) (m7 : Value) (m8 : Value) (m9 : Value) (m10 : Value) (m11 : Value) (m12 : Value) (m13 : Value) (m14 : Value) (m15 : Value) (m16 : Value) (m17 : Value) (m18 : Value) (m19 : Value) (m20 : Value) (m21 : Value) (m22 : Value) (m23 : Value) (m24 : Value) (m25 : Value) (m26 : Value) (m27 : Value) (m28 : Value) (m29 : Value) (m30 : Value) (m31 : Value) (m32 : Value) (m33 : Value) (m34 : Value) (m35 : Value) (m36 : Value) (m37 : Value) (m38 : Value) (m39 : Value) (m40 : Value) (m41 : Value) (m42 : Value) (m43 : Value) (m44 : Value) (m45 : Value) (m46 : Value) (m47 : Value) (m48 : Value) (m49 : Value) (p0 : Int32)  : Met l yX9_setQuay wsX9_setQuay ({ frames := 3, cells := 3, slots := 96, locals := 60 }) (va_Pc [.ref h0, .int p0] (fun U => xB g [(h0, .inr (9, [m0, .int was, m2, m3, m4, m5, m6, m7, m8, m9, m10, m11, m12, m13, m14, m15, m16, m17, m18, m19, m20, m21, m22, m23, m24, m25, m26, m27, m28, m29, m30, m31, m32, m33, m34, m35, m36, m37, m38, m39, m40, m41, m42, m43, m44, m45, m46, m47, m48, m49]))] sz U)) (va_Qi (fun (r : Int32) (u : Int32) => (u = 1 ∧ r = 0 ∧ (p0 < 4 ∨ 60 < p0)) ∨ (u = 0 ∧ r = was ∧ (¬ p0 < 4 ∧ ¬ 60 < p0))) (fun (u : Int32) (t : State) => ∃ (w1 : Value) (w2 : Value) (w3 : Value) (w4 : Value) (w5 : Value) (w6 : Value) (w7 : Value) (w8 : Value) (w9 : Value) (w10 : Value) (w11 : Value) (w12 : Value) (w13 : Value) (w14 : Value) (w15 : Value) (w16 : Value) (w17 : Value) (w18 : Value) (w19 : Value) (w20 : Value) (w21 : Value) (w22 : Value) (w23 : Value) (w24 : Value) (w25 : Value) (w26 : Value) (w27 : Value) (w28 : Value) (w29 : Value) (w30 : Value) (w31 : Value) (w32 : Value) (w33 : Value) (w34 : Value) (w35 : Value) (w36 : Value) (w37 : Value) (w38 : Value) (w39 : Value) (w40 : Value) (w41 : Value) (w42 : Value) (w43 : Value) (w44 : Value) (w45 : Value) (w46 : Value) (w47 : Value) (w48 : Value) (w49 : Value), xE g [(h0, .inr (9, [.int u, w1, w2, w3, w4, w5, w6, w7, w8, w9, w10, w11, w12, w13, w14, w15, w16, w17, w18, w19, w20, w21, w22, w23, w24, w25, w26, w27, w28, w29, w30, w31, w32, w33, w34, w35, w36, w37, w38, w39, w40, w41, w42, w43, w44, w45, w46, w47, w48, w49]))] (va_A [(h0, .inr (9, [m0, .int was, m2, m3, m4, m5, m6, m7, m8, m9, m10, m11, m12, m13, m14, m15, m16, m17, m18, m19, m20, m21, m22, m23, m24, m25, m26, m27, m28, m29, m30, m31, m32, m33, m34, m35, m36, m37, m38, m39, m40, m41, m42, m43, m44, m45, m46, m47, m48, m49]))] sz) t) (va_A [(h0, .inr (9, [m0, .int was, m2, m3, m4, m5, m6, m7, m8, m9, m10, m11, m12, m13, m14, m15, m16, m17, m18, m19, m20, m21, m22, m23, m24, m25, m26, m27, m28, m29, m30, m31, m32, m33, m34, m35, m36, m37, m38, m39, m40, m41, m42, m43, m44, m45, m46, m47, m48, m49]))] sz)) 3 96 (va_A [(h0, .inr (9, [m0, .int was, m2, m3, m4, m5, m6, m7, m8, m9, m10, m11, m12, m13, m14, m15, m16, m17, m18, m19, m20, m21, m22, m23, m24, m25, m26, m27, m28, m29, m30, m31, m32, m33, m34, m35, m36, m37, m38, m39, m40, m41, m42, m43, m44, m45, m46, m47, m48, m49]))] sz) := by
  refine Met.ofW (cc := cX9_setQuay) (maxL := 3) (ret := (some .int)) (by decide) rfl ?_
  intro p e s m args below meth c s₁ B hml hv
  obtain ⟨rfl, ⟨hsz, hP, hK, hD0⟩⟩ := hv
  have hx := B.exec
  have hb := B.bytes
  have hr := B.returns
  have hts := atoms_spec (ws := wsX9_setQuay) B.pre
  have hown : s.vm.findClass RX9 = some m.cls := findClass_of_methodNamed B.named
  have hlocks := B.notSynchronized
  subst hsz
  have hD := hD0.self (sz := s.heap.size)
  generalize hAe : va_A [(h0, .inr (9, [m0, .int was, m2, m3, m4, m5, m6, m7, m8, m9, m10, m11, m12, m13, m14, m15, m16, m17, m18, m19, m20, m21, m22, m23, m24, m25, m26, m27, m28, m29, m30, m31, m32, m33, m34, m35, m36, m37, m38, m39, m40, m41, m42, m43, m44, m45, m46, m47, m48, m49]))] s.heap.size = A at hD ⊢
  have hA : ∀ q : Nat, s.heap.size ≤ q → A q := fun q h => by rw [← hAe]; exact Or.inr h
  have hS : va_S A s.heap s.heap [] := va_S.rf
  have hl := lv_entry ([.ref h0, .int p0]) (n := 3) (Nat.le_of_ble_eq_true rfl)
  rw [lg_entry_eq]
  generalize (lg_sl ([.ref h0, .int p0]) ++ List.replicate (3 - (lg_sl ([.ref h0, .int p0])).length) Slot.unset).toArray = ls at hl ⊢
  have hl : lv_has ls 3 [(0, .ref h0), (1, .int p0)] := hl
  have hFX9 : ∀ w ∈ u_ws RX9 TX9 50, w ∈ wsX9_setQuay := by decide +kernel
  refine lv_aload_n hx hb dX9_setQuay_0 rfl (lv_at hl 0 rfl) ?_
  refine lv_iload_n hx hb dX9_setQuay_1 rfl (lv_at hl 1 rfl) ?_
  refine lv_iconst (v := 4) hx hb dX9_setQuay_2 (by decide) ?_
  refine lv_bipush (v := 60) hx hb dX9_setQuay_3 (by decide) ?_
  have hPc := hP.sub (ws' := []) [] rfl
  have hDc := hD.sub (ws' := []) [] (by decide) rfl
  have hFc := xFree hS hA
  refine va_calli (va_runS (As := [.int p0, .int 4, .int 60]) (rest := [.ref h0]) ⟨hx, hb, hml, hown, hts⟩ (m_isIn l g s.heap.size p0 4 60) (va_cwS 3 hts gX9_setQuay_X9_isIn rfl rfl rfl (by decide +kernel) ⟨Nat.le_of_ble_eq_true rfl, Nat.le_of_ble_eq_true rfl⟩) ⟨xB.blind, fun U9 hU9 hW9 => ⟨rfl, xB.mk hPc hK hDc hU9 hW9⟩⟩ rfl rfl hl.1 rfl (lv_room (Nat.le_of_ble_eq_true rfl)) dX9_setQuay_5 ⟨Nat.le_of_ble_eq_true rfl, Nat.le_of_ble_eq_true rfl⟩) hS (fun q _ h => hFc q h) hFc (fun r_1 u_2 t H1 locs ht hvm hw_3 hB hz1 hk1 hS => ?_)
  have hP := xSame hP hk1
  generalize H1 = H at hP hS ⊢
  have hP : va_P (xD g) vwCl [(h0, .inr (9, [m0, .int was, m2, m3, m4, m5, m6, m7, m8, m9, m10, m11, m12, m13, m14, m15, m16, m17, m18, m19, m20, m21, m22, m23, m24, m25, m26, m27, m28, m29, m30, m31, m32, m33, m34, m35, m36, m37, m38, m39, m40, m41, m42, m43, m44, m45, m46, m47, m48, m49]))] H := hP
  have hD : va_D A [(h0, .inr (9, [m0, .int was, m2, m3, m4, m5, m6, m7, m8, m9, m10, m11, m12, m13, m14, m15, m16, m17, m18, m19, m20, m21, m22, m23, m24, m25, m26, m27, m28, m29, m30, m31, m32, m33, m34, m35, m36, m37, m38, m39, m40, m41, m42, m43, m44, m45, m46, m47, m48, m49]))] := hD
  try dsimp only at hw_3
  rcases hw_3 with ⟨rfl, c_4⟩ | ⟨rfl, c_5⟩
  · refine lv_if_ne (tgt := 15) hx hb dX9_setQuay_8 (by decide) (fun _ => ?_) (fun c0 => absurd c0 (by decide))
    refine lv_iconst (v := 0) hx hb dX9_setQuay_15 (by decide) ?_
    refine lv_iconst (v := 1) hx hb dX9_setQuay_16 (by decide) ?_
    have hPc := hP.sub (ws' := [(h0, .inr (9, [m0, .int was, m2, m3, m4, m5, m6, m7, m8, m9, m10, m11, m12, m13, m14, m15, m16, m17, m18, m19, m20, m21, m22, m23, m24, m25, m26, m27, m28, m29, m30, m31, m32, m33, m34, m35, m36, m37, m38, m39, m40, m41, m42, m43, m44, m45, m46, m47, m48, m49]))]) [0] rfl
    have hDc := hD.sub (ws' := [(h0, .inr (9, [m0, .int was, m2, m3, m4, m5, m6, m7, m8, m9, m10, m11, m12, m13, m14, m15, m16, m17, m18, m19, m20, m21, m22, m23, m24, m25, m26, m27, m28, m29, m30, m31, m32, m33, m34, m35, m36, m37, m38, m39, m40, m41, m42, m43, m44, m45, m46, m47, m48, m49]))]) [0] (by decide) rfl
    have hFc := va_free (wc := [(h0, .inr (9, [m0, .int was, m2, m3, m4, m5, m6, m7, m8, m9, m10, m11, m12, m13, m14, m15, m16, m17, m18, m19, m20, m21, m22, m23, m24, m25, m26, m27, m28, m29, m30, m31, m32, m33, m34, m35, m36, m37, m38, m39, m40, m41, m42, m43, m44, m45, m46, m47, m48, m49]))]) hD hS hA [0] rfl
    refine va_calli (va_runV (As := [.int 0, .int 1]) (rest := []) ⟨hx, hb, hml, hown, hts⟩ (m_start0 l g H.size h0 m0 (.int was) m2 m3 m4 m5 m6 m7 m8 m9 m10 m11 m12 m13 m14 m15 m16 m17 m18 m19 m20 m21 m22 m23 m24 m25 m26 m27 m28 m29 m30 m31 m32 m33 m34 m35 m36 m37 m38 m39 m40 m41 m42 m43 m44 m45 m46 m47 m48 m49 1) (cwV 2 hts gX9_setQuay_X9_start rfl rfl rfl (by decide +kernel) ⟨Nat.le_of_ble_eq_true rfl, Nat.le_of_ble_eq_true rfl⟩) ⟨xB.blind, va_recv hK hPc (ci := 9) (q0 := 0) rfl rfl, fun U9 hU9 hW9 => ⟨rfl, xB.mk hPc hK hDc hU9 hW9⟩⟩ rfl rfl hl.1 rfl (lv_room (Nat.le_of_ble_eq_true rfl)) dX9_setQuay_17 ⟨Nat.le_of_ble_eq_true rfl, Nat.le_of_ble_eq_true rfl⟩) hS (fun q _ h => hFc q h) hFc (fun r_6 u_7 t H1 locs ht hvm hw_8 hB hz1 hk1 hS => ?_)
    obtain ⟨hP1, hK1, hD1⟩ := hB
    rw [ht] at hP1
    obtain ⟨hP, hD⟩ := va_join (wr := []) (w1 := [(h0, .inr (9, [.int 0, .int was, m2, m3, m4, m5, m6, m7, m8, m9, m10, m11, m12, m13, m14, m15, m16, m17, m18, m19, m20, m21, m22, m23, m24, m25, m26, m27, m28, m29, m30, m31, m32, m33, m34, m35, m36, m37, m38, m39, m40, m41, m42, m43, m44, m45, m46, m47, m48, m49]))]) hP hD [0] [] rfl rfl (by decide) (by decide) hk1 hFc hP1 hD1
    generalize H1 = H at hP hS ⊢
    have hP : va_P (xD g) vwCl [(h0, .inr (9, [.int 0, .int was, m2, m3, m4, m5, m6, m7, m8, m9, m10, m11, m12, m13, m14, m15, m16, m17, m18, m19, m20, m21, m22, m23, m24, m25, m26, m27, m28, m29, m30, m31, m32, m33, m34, m35, m36, m37, m38, m39, m40, m41, m42, m43, m44, m45, m46, m47, m48, m49]))] H := hP
    have hD : va_D A [(h0, .inr (9, [.int 0, .int was, m2, m3, m4, m5, m6, m7, m8, m9, m10, m11, m12, m13, m14, m15, m16, m17, m18, m19, m20, m21, m22, m23, m24, m25, m26, m27, m28, m29, m30, m31, m32, m33, m34, m35, m36, m37, m38, m39, m40, m41, m42, m43, m44, m45, m46, m47, m48, m49]))] := hD
    try dsimp only at hw_8
    obtain rfl := hw_8
    refine lv_if_eq (tgt := 25) hx hb dX9_setQuay_20 (by decide) (fun _ => ?_) (fun c0 => absurd (by decide) c0)
    refine lv_aload_n hx hb dX9_setQuay_25 rfl (lv_at hl 0 rfl) ?_
    refine va_get (D := xD g) (ci := 9) (v := .int was) (C := RX9) (T := TX9) (N := 50) hx hb hts hFX9 hown hK hP 0 rfl rfl 1 (by decide) (hts (.fieldLink RX9 7 "StevedoreModel" "berths" "I") (by decide +kernel)) (fun _ h9 => h9) rfl dX9_setQuay_26 ?_
    refine lv_istore_n (lv' := [(2, .int was), (0, .ref h0), (1, .int p0)]) hx hb dX9_setQuay_29 rfl hl (by decide) rfl (fun ls hl => ?_)
    refine lv_aload_n hx hb dX9_setQuay_30 rfl (lv_at hl 1 rfl) ?_
    refine lv_iload_n hx hb dX9_setQuay_31 rfl (lv_at hl 2 rfl) ?_
    refine va_put (D := xD g) (ci := 9) (v := .int p0) (ty := .int) (C := RX9) (T := TX9) (N := 50) hx hb hts hFX9 tyX9 tyX9_ok nmX9 hown hK hP hD hS 0 rfl rfl 1 (by decide) (hts (.fieldLink RX9 7 "StevedoreModel" "berths" "I") (by decide +kernel)) (fun _ h9 => h9) rfl (by decide +kernel) rfl rfl (Nat.le_of_ble_eq_true rfl) dX9_setQuay_32 (fun H locs hP hD hS => ?_)
    have hP : va_P (xD g) vwCl [(h0, .inr (9, [.int 0, .int p0, m2, m3, m4, m5, m6, m7, m8, m9, m10, m11, m12, m13, m14, m15, m16, m17, m18, m19, m20, m21, m22, m23, m24, m25, m26, m27, m28, m29, m30, m31, m32, m33, m34, m35, m36, m37, m38, m39, m40, m41, m42, m43, m44, m45, m46, m47, m48, m49]))] H := hP
    have hD : va_D A [(h0, .inr (9, [.int 0, .int p0, m2, m3, m4, m5, m6, m7, m8, m9, m10, m11, m12, m13, m14, m15, m16, m17, m18, m19, m20, m21, m22, m23, m24, m25, m26, m27, m28, m29, m30, m31, m32, m33, m34, m35, m36, m37, m38, m39, m40, m41, m42, m43, m44, m45, m46, m47, m48, m49]))] := hD
    refine lv_aload_n hx hb dX9_setQuay_35 rfl (lv_at hl 1 rfl) ?_
    have hPc := hP.sub (ws' := [(h0, .inr (9, [.int 0, .int p0, m2, m3, m4, m5, m6, m7, m8, m9, m10, m11, m12, m13, m14, m15, m16, m17, m18, m19, m20, m21, m22, m23, m24, m25, m26, m27, m28, m29, m30, m31, m32, m33, m34, m35, m36, m37, m38, m39, m40, m41, m42, m43, m44, m45, m46, m47, m48, m49]))]) [0] rfl
    have hDc := hD.sub (ws' := [(h0, .inr (9, [.int 0, .int p0, m2, m3, m4, m5, m6, m7, m8, m9, m10, m11, m12, m13, m14, m15, m16, m17, m18, m19, m20, m21, m22, m23, m24, m25, m26, m27, m28, m29, m30, m31, m32, m33, m34, m35, m36, m37, m38, m39, m40, m41, m42, m43, m44, m45, m46, m47, m48, m49]))]) [0] (by decide) rfl
    have hFc := va_free (wc := [(h0, .inr (9, [.int 0, .int p0, m2, m3, m4, m5, m6, m7, m8, m9, m10, m11, m12, m13, m14, m15, m16, m17, m18, m19, m20, m21, m22, m23, m24, m25, m26, m27, m28, m29, m30, m31, m32, m33, m34, m35, m36, m37, m38, m39, m40, m41, m42, m43, m44, m45, m46, m47, m48, m49]))]) hD hS hA [0] rfl
    refine va_callv (va_runV (As := []) (rest := []) ⟨hx, hb, hml, hown, hts⟩ (m_noPlan l g H.size h0 (.int 0) (.int p0) m2 m3 m4 m5 m6 m7 m8 m9 m10 m11 m12 m13 m14 m15 m16 m17 m18 m19 m20 m21 m22 m23 m24 m25 m26 m27 m28 m29 m30 m31 m32 m33 m34 m35 m36 m37 m38 m39 m40 m41 m42 m43 m44 m45 m46 m47 m48 m49) (cwV 0 hts gX9_setQuay_X9_noPlan rfl rfl rfl (by decide +kernel) ⟨Nat.le_of_ble_eq_true rfl, Nat.le_of_ble_eq_true rfl⟩) ⟨xB.blind, va_recv hK hPc (ci := 9) (q0 := 0) rfl rfl, fun U9 hU9 hW9 => ⟨rfl, xB.mk hPc hK hDc hU9 hW9⟩⟩ rfl rfl hl.1 rfl (lv_room (Nat.le_of_ble_eq_true rfl)) dX9_setQuay_36 ⟨Nat.le_of_ble_eq_true rfl, Nat.le_of_ble_eq_true rfl⟩) hS (fun q _ h => hFc q h) hFc (fun u_10 t H1 locs ht hvm hw_11 hB hz1 hk1 hS => ?_)
    obtain ⟨w46_12, w47_13, w48_14, hP1, hK1, hD1⟩ := hB
    rw [ht] at hP1
    obtain ⟨hP, hD⟩ := va_join (wr := []) (w1 := [(h0, .inr (9, [.int 0, .int p0, m2, m3, m4, m5, m6, m7, m8, m9, m10, m11, m12, m13, m14, m15, m16, m17, m18, m19, m20, m21, m22, m23, .int 0, m25, m26, m27, m28, m29, m30, m31, m32, m33, m34, m35, m36, m37, .int 0, m39, .int 0, m41, m42, m43, m44, .int 0, .ref w46_12, .ref w47_13, .ref w48_14, .int 0]))]) hP hD [0] [] rfl rfl (by decide) (by decide) hk1 hFc hP1 hD1
    generalize H1 = H at hP hS ⊢
    have hP : va_P (xD g) vwCl [(h0, .inr (9, [.int 0, .int p0, m2, m3, m4, m5, m6, m7, m8, m9, m10, m11, m12, m13, m14, m15, m16, m17, m18, m19, m20, m21, m22, m23, .int 0, m25, m26, m27, m28, m29, m30, m31, m32, m33, m34, m35, m36, m37, .int 0, m39, .int 0, m41, m42, m43, m44, .int 0, .ref w46_12, .ref w47_13, .ref w48_14, .int 0]))] H := hP
    have hD : va_D A [(h0, .inr (9, [.int 0, .int p0, m2, m3, m4, m5, m6, m7, m8, m9, m10, m11, m12, m13, m14, m15, m16, m17, m18, m19, m20, m21, m22, m23, .int 0, m25, m26, m27, m28, m29, m30, m31, m32, m33, m34, m35, m36, m37, .int 0, m39, .int 0, m41, m42, m43, m44, .int 0, .ref w46_12, .ref w47_13, .ref w48_14, .int 0]))] := hD
    refine W.widen (k := 3) (n := 96) (by omega) (by omega) ?_
    try dsimp only at hw_11
    refine lv_iload_n hx hb dX9_setQuay_39 rfl (lv_at hl 0 rfl) ?_
    have hP9 := hP.sub (ws' := [(h0, .inr (9, [.int 0, .int p0, m2, m3, m4, m5, m6, m7, m8, m9, m10, m11, m12, m13, m14, m15, m16, m17, m18, m19, m20, m21, m22, m23, .int 0, m25, m26, m27, m28, m29, m30, m31, m32, m33, m34, m35, m36, m37, .int 0, m39, .int 0, m41, m42, m43, m44, .int 0, .ref w46_12, .ref w47_13, .ref w48_14, .int 0]))]) [0] rfl
    have hD9 := hD.sub (ws' := [(h0, .inr (9, [.int 0, .int p0, m2, m3, m4, m5, m6, m7, m8, m9, m10, m11, m12, m13, m14, m15, m16, m17, m18, m19, m20, m21, m22, m23, .int 0, m25, m26, m27, m28, m29, m30, m31, m32, m33, m34, m35, m36, m37, .int 0, m39, .int 0, m41, m42, m43, m44, .int 0, .ref w46_12, .ref w47_13, .ref w48_14, .int 0]))]) [0] (by decide) rfl
    exact W.iret (v := was) hx hb hr (fun t ht hW => ⟨⟨was, 0, rfl, Or.inr (⟨rfl, rfl, (by first | trivial | assumption | (refine ⟨?_, ?_⟩ <;> assumption) | (simp only [Int32.lt_iff_toInt_lt, Int32.le_iff_toInt_le, Int32.reduceToInt] at *; omega))⟩), ⟨(.int p0), m2, m3, m4, m5, m6, m7, m8, m9, m10, m11, m12, m13, m14, m15, m16, m17, m18, m19, m20, m21, m22, m23, (.int 0), m25, m26, m27, m28, m29, m30, m31, m32, m33, m34, m35, m36, m37, (.int 0), m39, (.int 0), m41, m42, m43, m44, (.int 0), (.ref w46_12), (.ref w47_13), (.ref w48_14), (.int 0), by rw [ht]; exact hP9, va_K.moved hW.alike hK, hD9⟩⟩, hS.F ht⟩) hS.2.2 dX9_setQuay_40
  · refine lv_if_ne (tgt := 15) hx hb dX9_setQuay_8 (by decide) (fun c0 => absurd (by decide) c0) (fun _ => ?_)
    refine lv_iconst (v := 1) hx hb dX9_setQuay_11 (by decide) ?_
    refine lv_goto (tgt := 16) hx hb dX9_setQuay_12 (by decide) ?_
    refine lv_iconst (v := 1) hx hb dX9_setQuay_16 (by decide) ?_
    have hPc := hP.sub (ws' := [(h0, .inr (9, [m0, .int was, m2, m3, m4, m5, m6, m7, m8, m9, m10, m11, m12, m13, m14, m15, m16, m17, m18, m19, m20, m21, m22, m23, m24, m25, m26, m27, m28, m29, m30, m31, m32, m33, m34, m35, m36, m37, m38, m39, m40, m41, m42, m43, m44, m45, m46, m47, m48, m49]))]) [0] rfl
    have hDc := hD.sub (ws' := [(h0, .inr (9, [m0, .int was, m2, m3, m4, m5, m6, m7, m8, m9, m10, m11, m12, m13, m14, m15, m16, m17, m18, m19, m20, m21, m22, m23, m24, m25, m26, m27, m28, m29, m30, m31, m32, m33, m34, m35, m36, m37, m38, m39, m40, m41, m42, m43, m44, m45, m46, m47, m48, m49]))]) [0] (by decide) rfl
    have hFc := va_free (wc := [(h0, .inr (9, [m0, .int was, m2, m3, m4, m5, m6, m7, m8, m9, m10, m11, m12, m13, m14, m15, m16, m17, m18, m19, m20, m21, m22, m23, m24, m25, m26, m27, m28, m29, m30, m31, m32, m33, m34, m35, m36, m37, m38, m39, m40, m41, m42, m43, m44, m45, m46, m47, m48, m49]))]) hD hS hA [0] rfl
    refine va_calli (va_runV (As := [.int 1, .int 1]) (rest := []) ⟨hx, hb, hml, hown, hts⟩ (m_start1 l g H.size h0 m0 (.int was) m2 m3 m4 m5 m6 m7 m8 m9 m10 m11 m12 m13 m14 m15 m16 m17 m18 m19 m20 m21 m22 m23 m24 m25 m26 m27 m28 m29 m30 m31 m32 m33 m34 m35 m36 m37 m38 m39 m40 m41 m42 m43 m44 m45 m46 m47 m48 m49 1 (by first | assumption | decide | omega | simp_all)) (cwV 2 hts gX9_setQuay_X9_start rfl rfl rfl (by decide +kernel) ⟨Nat.le_of_ble_eq_true rfl, Nat.le_of_ble_eq_true rfl⟩) ⟨xB.blind, va_recv hK hPc (ci := 9) (q0 := 0) rfl rfl, fun U9 hU9 hW9 => ⟨rfl, xB.mk hPc hK hDc hU9 hW9⟩⟩ rfl rfl hl.1 rfl (lv_room (Nat.le_of_ble_eq_true rfl)) dX9_setQuay_17 ⟨Nat.le_of_ble_eq_true rfl, Nat.le_of_ble_eq_true rfl⟩) hS (fun q _ h => hFc q h) hFc (fun r_15 u_16 t H1 locs ht hvm hw_17 hB hz1 hk1 hS => ?_)
    obtain ⟨hP1, hK1, hD1⟩ := hB
    rw [ht] at hP1
    obtain ⟨hP, hD⟩ := va_join (wr := []) (w1 := [(h0, .inr (9, [.int 1, .int was, m2, m3, m4, m5, m6, m7, m8, m9, m10, m11, m12, m13, m14, m15, m16, m17, m18, m19, m20, m21, m22, m23, m24, m25, m26, m27, m28, m29, m30, m31, m32, m33, m34, m35, m36, m37, m38, m39, m40, m41, m42, m43, m44, m45, m46, m47, m48, m49]))]) hP hD [0] [] rfl rfl (by decide) (by decide) hk1 hFc hP1 hD1
    generalize H1 = H at hP hS ⊢
    have hP : va_P (xD g) vwCl [(h0, .inr (9, [.int 1, .int was, m2, m3, m4, m5, m6, m7, m8, m9, m10, m11, m12, m13, m14, m15, m16, m17, m18, m19, m20, m21, m22, m23, m24, m25, m26, m27, m28, m29, m30, m31, m32, m33, m34, m35, m36, m37, m38, m39, m40, m41, m42, m43, m44, m45, m46, m47, m48, m49]))] H := hP
    have hD : va_D A [(h0, .inr (9, [.int 1, .int was, m2, m3, m4, m5, m6, m7, m8, m9, m10, m11, m12, m13, m14, m15, m16, m17, m18, m19, m20, m21, m22, m23, m24, m25, m26, m27, m28, m29, m30, m31, m32, m33, m34, m35, m36, m37, m38, m39, m40, m41, m42, m43, m44, m45, m46, m47, m48, m49]))] := hD
    try dsimp only at hw_17
    obtain rfl := hw_17
    refine lv_if_eq (tgt := 25) hx hb dX9_setQuay_20 (by decide) (fun c0 => absurd c0 (by decide)) (fun _ => ?_)
    refine lv_iconst (v := 0) hx hb dX9_setQuay_23 (by decide) ?_
    refine W.widen (k := 3) (n := 96) (by omega) (by omega) ?_
    have hP9 := hP.sub (ws' := [(h0, .inr (9, [.int 1, .int was, m2, m3, m4, m5, m6, m7, m8, m9, m10, m11, m12, m13, m14, m15, m16, m17, m18, m19, m20, m21, m22, m23, m24, m25, m26, m27, m28, m29, m30, m31, m32, m33, m34, m35, m36, m37, m38, m39, m40, m41, m42, m43, m44, m45, m46, m47, m48, m49]))]) [0] rfl
    have hD9 := hD.sub (ws' := [(h0, .inr (9, [.int 1, .int was, m2, m3, m4, m5, m6, m7, m8, m9, m10, m11, m12, m13, m14, m15, m16, m17, m18, m19, m20, m21, m22, m23, m24, m25, m26, m27, m28, m29, m30, m31, m32, m33, m34, m35, m36, m37, m38, m39, m40, m41, m42, m43, m44, m45, m46, m47, m48, m49]))]) [0] (by decide) rfl
    exact W.iret (v := 0) hx hb hr (fun t ht hW => ⟨⟨0, 1, rfl, Or.inl (⟨rfl, rfl, (by first | trivial | assumption | (refine ⟨?_, ?_⟩ <;> assumption) | (simp only [Int32.lt_iff_toInt_lt, Int32.le_iff_toInt_le, Int32.reduceToInt] at *; omega))⟩), ⟨(.int was), m2, m3, m4, m5, m6, m7, m8, m9, m10, m11, m12, m13, m14, m15, m16, m17, m18, m19, m20, m21, m22, m23, m24, m25, m26, m27, m28, m29, m30, m31, m32, m33, m34, m35, m36, m37, m38, m39, m40, m41, m42, m43, m44, m45, m46, m47, m48, m49, by rw [ht]; exact hP9, va_K.moved hW.alike hK, hD9⟩⟩, hS.F ht⟩) hS.2.2 dX9_setQuay_24
theorem dX9_setCranes_0 : decode cX9_setCranes 0 = .ok (.aload_n 0, 1) := by decide +kernel
theorem dX9_setCranes_1 : decode cX9_setCranes 1 = .ok (.iload_n 1, 1) := by decide +kernel
theorem dX9_setCranes_2 : decode cX9_setCranes 2 = .ok (.iconst 1, 1) := by decide +kernel
theorem dX9_setCranes_3 : decode cX9_setCranes 3 = .ok (.bipush 6, 2) := by decide +kernel
theorem dX9_setCranes_5 : decode cX9_setCranes 5 = .ok (.invokestatic 134, 3) := by decide +kernel
set_option maxRecDepth 20000 in
theorem ggX9_setCranes_X9_isIn : GoodIn wsX9_setCranes wsX9_isIn := goodIn_r _ [5] rfl (by decide +kernel)
set_option maxRecDepth 20000 in
theorem gX9_setCranes_X9_isIn : GoodIn wsX9_setCranes (va_wsS RX9 134 yX9_isIn wsX9_isIn) := goodIn_app (goodIn_of _ (by decide +kernel)) ggX9_setCranes_X9_isIn
theorem dX9_setCranes_8 : decode cX9_setCranes 8 = .ok (.ifCond .ne 7, 3) := by decide +kernel
theorem dX9_setCranes_15 : decode cX9_setCranes 15 = .ok (.iconst 0, 1) := by decide +kernel
theorem dX9_setCranes_16 : decode cX9_setCranes 16 = .ok (.iconst 1, 1) := by decide +kernel
theorem dX9_setCranes_17 : decode cX9_setCranes 17 = .ok (.invokevirtual 138, 3) := by decide +kernel
set_option maxRecDepth 20000 in
theorem ggX9_setCranes_X9_start : GoodIn wsX9_setCranes wsX9_start := goodIn_r _ [9, 10, 11, 12, 13, 4, 14, 36, 37, 38, 39, 40, 41, 42, 43, 44, 45, 46, 47, 48, 49, 50, 51, 52, 53, 54, 55, 56, 57, 58, 59, 60, 61, 62, 63, 64, 65, 66, 67, 68, 69, 70, 71, 72, 73, 74, 75, 76, 77, 78, 79, 80, 81, 82, 83, 84, 85] rfl (by decide +kernel)
set_option maxRecDepth 20000 in
theorem gX9_setCranes_X9_start : GoodIn wsX9_setCranes (wsV RX9 138 RX9 yX9_start wsX9_start) := goodIn_app (goodIn_of _ (by decide +kernel)) ggX9_setCranes_X9_start
theorem dX9_setCranes_20 : decode cX9_setCranes 20 = .ok (.ifCond .eq 5, 3) := by decide +kernel
theorem dX9_setCranes_25 : decode cX9_setCranes 25 = .ok (.aload_n 0, 1) := by decide +kernel
theorem dX9_setCranes_26 : decode cX9_setCranes 26 = .ok (.getfield 13, 3) := by decide +kernel
theorem dX9_setCranes_29 : decode cX9_setCranes 29 = .ok (.istore_n 2, 1) := by decide +kernel
theorem dX9_setCranes_30 : decode cX9_setCranes 30 = .ok (.aload_n 0, 1) := by decide +kernel
theorem dX9_setCranes_31 : decode cX9_setCranes 31 = .ok (.iload_n 1, 1) := by decide +kernel
theorem dX9_setCranes_32 : decode cX9_setCranes 32 = .ok (.putfield 13, 3) := by decide +kernel
theorem dX9_setCranes_35 : decode cX9_setCranes 35 = .ok (.aload_n 0, 1) := by decide +kernel
theorem dX9_setCranes_36 : decode cX9_setCranes 36 = .ok (.invokevirtual 141, 3) := by decide +kernel
set_option maxRecDepth 20000 in
theorem ggX9_setCranes_X9_noPlan : GoodIn wsX9_setCranes wsX9_noPlan := goodIn_r _ [18, 19, 20, 21, 22, 4, 23, 24, 25, 26, 27, 28, 29, 30, 31, 32, 33, 34, 35, 36, 37, 38, 39, 40, 41, 42, 43, 44, 45, 46, 47, 48, 49, 50, 51, 52, 53, 54, 55, 56, 57, 58, 59, 60, 61, 62, 63, 64, 65, 66, 67, 68, 69, 70, 71, 72, 73, 74, 75, 76, 77, 78, 79, 80, 81, 82, 83, 84, 85] rfl (by decide +kernel)
set_option maxRecDepth 20000 in
theorem gX9_setCranes_X9_noPlan : GoodIn wsX9_setCranes (wsV RX9 141 RX9 yX9_noPlan wsX9_noPlan) := goodIn_app (goodIn_of _ (by decide +kernel)) ggX9_setCranes_X9_noPlan
theorem dX9_setCranes_39 : decode cX9_setCranes 39 = .ok (.iload_n 2, 1) := by decide +kernel
theorem dX9_setCranes_40 : decode cX9_setCranes 40 = .ok (.ireturn, 1) := by decide +kernel
theorem dX9_setCranes_11 : decode cX9_setCranes 11 = .ok (.iconst 1, 1) := by decide +kernel
theorem dX9_setCranes_12 : decode cX9_setCranes 12 = .ok (.goto 4, 3) := by decide +kernel
theorem dX9_setCranes_23 : decode cX9_setCranes 23 = .ok (.iconst 0, 1) := by decide +kernel
theorem dX9_setCranes_24 : decode cX9_setCranes 24 = .ok (.ireturn, 1) := by decide +kernel
set_option maxHeartbeats 4000000 in
set_option maxRecDepth 100000 in
theorem m0_setCranes (l : Launch) (g : xG) (sz : Nat) (h0 : Nat) (was : Int32) (m0 : Value) (m1 : Value) (m3 : Value) (m4 : Value) (m5 : Value) (m6 : Value) (m7 : Value) (m8 : Value) (m9 : Value) (m10 : Value) (m11 : Value) (m12 : Value) (m13 : Value) (m14 : Value) (m15 : Value) (m16 : Value) (m17 : Value) (m18 : Value) (m19 : Value) (m20 : Value) (m21 : Value) (m22 : Value) (m23 : Value) (m24 : Value) (m25 : Value) (m26 : Value) (m27 : Value) (m28 : Value) (m29 : Value) (m30 : Value) (m31 : Value) (m32 : Value) (m33 : Value) (m34 : Value) (m35 : Value) (m36 : Value) (m37 : Value) (m38 : Value) (m39 : Value) (m40 : Value) (m41 : Value) (m42 : Value) (m43 : Value) (m44 : Value) (m45 : Value) (m46 : Value) (m47 : Value) (m48 : Value) (m49 : Value) (p0 : Int32)  : Met l yX9_setCranes wsX9_setCranes ({ frames := 3, cells := 3, slots := 96, locals := 60 }) (va_Pc [.ref h0, .int p0] (fun U => xB g [(h0, .inr (9, [m0, m1, .int was, m3, m4, m5, m6, m7, m8, m9, m10, m11, m12, m13, m14, m15, m16, m17, m18, m19, m20, m21, m22, m23, m24, m25, m26, m27, m28, m29, m30, m31, m32, m33, m34, m35, m36, m37, m38, m39, m40, m41, m42, m43, m44, m45, m46, m47, m48, m49]))] sz U)) (va_Qi (fun (r : Int32) (u : Int32) => (u = 1 ∧ r = 0 ∧ (p0 < 1 ∨ 6 < p0)) ∨ (u = 0 ∧ r = was ∧ (¬ p0 < 1 ∧ ¬ 6 < p0))) (fun (u : Int32) (t : State) => ∃ (w1 : Value) (w2 : Value) (w3 : Value) (w4 : Value) (w5 : Value) (w6 : Value) (w7 : Value) (w8 : Value) (w9 : Value) (w10 : Value) (w11 : Value) (w12 : Value) (w13 : Value) (w14 : Value) (w15 : Value) (w16 : Value) (w17 : Value) (w18 : Value) (w19 : Value) (w20 : Value) (w21 : Value) (w22 : Value) (w23 : Value) (w24 : Value) (w25 : Value) (w26 : Value) (w27 : Value) (w28 : Value) (w29 : Value) (w30 : Value) (w31 : Value) (w32 : Value) (w33 : Value) (w34 : Value) (w35 : Value) (w36 : Value) (w37 : Value) (w38 : Value) (w39 : Value) (w40 : Value) (w41 : Value) (w42 : Value) (w43 : Value) (w44 : Value) (w45 : Value) (w46 : Value) (w47 : Value) (w48 : Value) (w49 : Value), xE g [(h0, .inr (9, [.int u, w1, w2, w3, w4, w5, w6, w7, w8, w9, w10, w11, w12, w13, w14, w15, w16, w17, w18, w19, w20, w21, w22, w23, w24, w25, w26, w27, w28, w29, w30, w31, w32, w33, w34, w35, w36, w37, w38, w39, w40, w41, w42, w43, w44, w45, w46, w47, w48, w49]))] (va_A [(h0, .inr (9, [m0, m1, .int was, m3, m4, m5, m6, m7, m8, m9, m10, m11, m12, m13, m14, m15, m16, m17, m18, m19, m20, m21, m22, m23, m24, m25, m26, m27, m28, m29, m30, m31, m32, m33, m34, m35, m36, m37, m38, m39, m40, m41, m42, m43, m44, m45, m46, m47, m48, m49]))] sz) t) (va_A [(h0, .inr (9, [m0, m1, .int was, m3, m4, m5, m6, m7, m8, m9, m10, m11, m12, m13, m14, m15, m16, m17, m18, m19, m20, m21, m22, m23, m24, m25, m26, m27, m28, m29, m30, m31, m32, m33, m34, m35, m36, m37, m38, m39, m40, m41, m42, m43, m44, m45, m46, m47, m48, m49]))] sz)) 3 96 (va_A [(h0, .inr (9, [m0, m1, .int was, m3, m4, m5, m6, m7, m8, m9, m10, m11, m12, m13, m14, m15, m16, m17, m18, m19, m20, m21, m22, m23, m24, m25, m26, m27, m28, m29, m30, m31, m32, m33, m34, m35, m36, m37, m38, m39, m40, m41, m42, m43, m44, m45, m46, m47, m48, m49]))] sz) := by
  refine Met.ofW (cc := cX9_setCranes) (maxL := 3) (ret := (some .int)) (by decide) rfl ?_
  intro p e s m args below meth c s₁ B hml hv
  obtain ⟨rfl, ⟨hsz, hP, hK, hD0⟩⟩ := hv
  have hx := B.exec
  have hb := B.bytes
  have hr := B.returns
  have hts := atoms_spec (ws := wsX9_setCranes) B.pre
  have hown : s.vm.findClass RX9 = some m.cls := findClass_of_methodNamed B.named
  have hlocks := B.notSynchronized
  subst hsz
  have hD := hD0.self (sz := s.heap.size)
  generalize hAe : va_A [(h0, .inr (9, [m0, m1, .int was, m3, m4, m5, m6, m7, m8, m9, m10, m11, m12, m13, m14, m15, m16, m17, m18, m19, m20, m21, m22, m23, m24, m25, m26, m27, m28, m29, m30, m31, m32, m33, m34, m35, m36, m37, m38, m39, m40, m41, m42, m43, m44, m45, m46, m47, m48, m49]))] s.heap.size = A at hD ⊢
  have hA : ∀ q : Nat, s.heap.size ≤ q → A q := fun q h => by rw [← hAe]; exact Or.inr h
  have hS : va_S A s.heap s.heap [] := va_S.rf
  have hl := lv_entry ([.ref h0, .int p0]) (n := 3) (Nat.le_of_ble_eq_true rfl)
  rw [lg_entry_eq]
  generalize (lg_sl ([.ref h0, .int p0]) ++ List.replicate (3 - (lg_sl ([.ref h0, .int p0])).length) Slot.unset).toArray = ls at hl ⊢
  have hl : lv_has ls 3 [(0, .ref h0), (1, .int p0)] := hl
  have hFX9 : ∀ w ∈ u_ws RX9 TX9 50, w ∈ wsX9_setCranes := by decide +kernel
  refine lv_aload_n hx hb dX9_setCranes_0 rfl (lv_at hl 0 rfl) ?_
  refine lv_iload_n hx hb dX9_setCranes_1 rfl (lv_at hl 1 rfl) ?_
  refine lv_iconst (v := 1) hx hb dX9_setCranes_2 (by decide) ?_
  refine lv_bipush (v := 6) hx hb dX9_setCranes_3 (by decide) ?_
  have hPc := hP.sub (ws' := []) [] rfl
  have hDc := hD.sub (ws' := []) [] (by decide) rfl
  have hFc := xFree hS hA
  refine va_calli (va_runS (As := [.int p0, .int 1, .int 6]) (rest := [.ref h0]) ⟨hx, hb, hml, hown, hts⟩ (m_isIn l g s.heap.size p0 1 6) (va_cwS 3 hts gX9_setCranes_X9_isIn rfl rfl rfl (by decide +kernel) ⟨Nat.le_of_ble_eq_true rfl, Nat.le_of_ble_eq_true rfl⟩) ⟨xB.blind, fun U9 hU9 hW9 => ⟨rfl, xB.mk hPc hK hDc hU9 hW9⟩⟩ rfl rfl hl.1 rfl (lv_room (Nat.le_of_ble_eq_true rfl)) dX9_setCranes_5 ⟨Nat.le_of_ble_eq_true rfl, Nat.le_of_ble_eq_true rfl⟩) hS (fun q _ h => hFc q h) hFc (fun r_1 u_2 t H1 locs ht hvm hw_3 hB hz1 hk1 hS => ?_)
  have hP := xSame hP hk1
  generalize H1 = H at hP hS ⊢
  have hP : va_P (xD g) vwCl [(h0, .inr (9, [m0, m1, .int was, m3, m4, m5, m6, m7, m8, m9, m10, m11, m12, m13, m14, m15, m16, m17, m18, m19, m20, m21, m22, m23, m24, m25, m26, m27, m28, m29, m30, m31, m32, m33, m34, m35, m36, m37, m38, m39, m40, m41, m42, m43, m44, m45, m46, m47, m48, m49]))] H := hP
  have hD : va_D A [(h0, .inr (9, [m0, m1, .int was, m3, m4, m5, m6, m7, m8, m9, m10, m11, m12, m13, m14, m15, m16, m17, m18, m19, m20, m21, m22, m23, m24, m25, m26, m27, m28, m29, m30, m31, m32, m33, m34, m35, m36, m37, m38, m39, m40, m41, m42, m43, m44, m45, m46, m47, m48, m49]))] := hD
  try dsimp only at hw_3
  rcases hw_3 with ⟨rfl, c_4⟩ | ⟨rfl, c_5⟩
  · refine lv_if_ne (tgt := 15) hx hb dX9_setCranes_8 (by decide) (fun _ => ?_) (fun c0 => absurd c0 (by decide))
    refine lv_iconst (v := 0) hx hb dX9_setCranes_15 (by decide) ?_
    refine lv_iconst (v := 1) hx hb dX9_setCranes_16 (by decide) ?_
    have hPc := hP.sub (ws' := [(h0, .inr (9, [m0, m1, .int was, m3, m4, m5, m6, m7, m8, m9, m10, m11, m12, m13, m14, m15, m16, m17, m18, m19, m20, m21, m22, m23, m24, m25, m26, m27, m28, m29, m30, m31, m32, m33, m34, m35, m36, m37, m38, m39, m40, m41, m42, m43, m44, m45, m46, m47, m48, m49]))]) [0] rfl
    have hDc := hD.sub (ws' := [(h0, .inr (9, [m0, m1, .int was, m3, m4, m5, m6, m7, m8, m9, m10, m11, m12, m13, m14, m15, m16, m17, m18, m19, m20, m21, m22, m23, m24, m25, m26, m27, m28, m29, m30, m31, m32, m33, m34, m35, m36, m37, m38, m39, m40, m41, m42, m43, m44, m45, m46, m47, m48, m49]))]) [0] (by decide) rfl
    have hFc := va_free (wc := [(h0, .inr (9, [m0, m1, .int was, m3, m4, m5, m6, m7, m8, m9, m10, m11, m12, m13, m14, m15, m16, m17, m18, m19, m20, m21, m22, m23, m24, m25, m26, m27, m28, m29, m30, m31, m32, m33, m34, m35, m36, m37, m38, m39, m40, m41, m42, m43, m44, m45, m46, m47, m48, m49]))]) hD hS hA [0] rfl
    refine va_calli (va_runV (As := [.int 0, .int 1]) (rest := []) ⟨hx, hb, hml, hown, hts⟩ (m_start0 l g H.size h0 m0 m1 (.int was) m3 m4 m5 m6 m7 m8 m9 m10 m11 m12 m13 m14 m15 m16 m17 m18 m19 m20 m21 m22 m23 m24 m25 m26 m27 m28 m29 m30 m31 m32 m33 m34 m35 m36 m37 m38 m39 m40 m41 m42 m43 m44 m45 m46 m47 m48 m49 1) (cwV 2 hts gX9_setCranes_X9_start rfl rfl rfl (by decide +kernel) ⟨Nat.le_of_ble_eq_true rfl, Nat.le_of_ble_eq_true rfl⟩) ⟨xB.blind, va_recv hK hPc (ci := 9) (q0 := 0) rfl rfl, fun U9 hU9 hW9 => ⟨rfl, xB.mk hPc hK hDc hU9 hW9⟩⟩ rfl rfl hl.1 rfl (lv_room (Nat.le_of_ble_eq_true rfl)) dX9_setCranes_17 ⟨Nat.le_of_ble_eq_true rfl, Nat.le_of_ble_eq_true rfl⟩) hS (fun q _ h => hFc q h) hFc (fun r_6 u_7 t H1 locs ht hvm hw_8 hB hz1 hk1 hS => ?_)
    obtain ⟨hP1, hK1, hD1⟩ := hB
    rw [ht] at hP1
    obtain ⟨hP, hD⟩ := va_join (wr := []) (w1 := [(h0, .inr (9, [.int 0, m1, .int was, m3, m4, m5, m6, m7, m8, m9, m10, m11, m12, m13, m14, m15, m16, m17, m18, m19, m20, m21, m22, m23, m24, m25, m26, m27, m28, m29, m30, m31, m32, m33, m34, m35, m36, m37, m38, m39, m40, m41, m42, m43, m44, m45, m46, m47, m48, m49]))]) hP hD [0] [] rfl rfl (by decide) (by decide) hk1 hFc hP1 hD1
    generalize H1 = H at hP hS ⊢
    have hP : va_P (xD g) vwCl [(h0, .inr (9, [.int 0, m1, .int was, m3, m4, m5, m6, m7, m8, m9, m10, m11, m12, m13, m14, m15, m16, m17, m18, m19, m20, m21, m22, m23, m24, m25, m26, m27, m28, m29, m30, m31, m32, m33, m34, m35, m36, m37, m38, m39, m40, m41, m42, m43, m44, m45, m46, m47, m48, m49]))] H := hP
    have hD : va_D A [(h0, .inr (9, [.int 0, m1, .int was, m3, m4, m5, m6, m7, m8, m9, m10, m11, m12, m13, m14, m15, m16, m17, m18, m19, m20, m21, m22, m23, m24, m25, m26, m27, m28, m29, m30, m31, m32, m33, m34, m35, m36, m37, m38, m39, m40, m41, m42, m43, m44, m45, m46, m47, m48, m49]))] := hD
    try dsimp only at hw_8
    obtain rfl := hw_8
    refine lv_if_eq (tgt := 25) hx hb dX9_setCranes_20 (by decide) (fun _ => ?_) (fun c0 => absurd (by decide) c0)
    refine lv_aload_n hx hb dX9_setCranes_25 rfl (lv_at hl 0 rfl) ?_
    refine va_get (D := xD g) (ci := 9) (v := .int was) (C := RX9) (T := TX9) (N := 50) hx hb hts hFX9 hown hK hP 0 rfl rfl 2 (by decide) (hts (.fieldLink RX9 13 "StevedoreModel" "cranes" "I") (by decide +kernel)) (fun _ h9 => h9) rfl dX9_setCranes_26 ?_
    refine lv_istore_n (lv' := [(2, .int was), (0, .ref h0), (1, .int p0)]) hx hb dX9_setCranes_29 rfl hl (by decide) rfl (fun ls hl => ?_)
    refine lv_aload_n hx hb dX9_setCranes_30 rfl (lv_at hl 1 rfl) ?_
    refine lv_iload_n hx hb dX9_setCranes_31 rfl (lv_at hl 2 rfl) ?_
    refine va_put (D := xD g) (ci := 9) (v := .int p0) (ty := .int) (C := RX9) (T := TX9) (N := 50) hx hb hts hFX9 tyX9 tyX9_ok nmX9 hown hK hP hD hS 0 rfl rfl 2 (by decide) (hts (.fieldLink RX9 13 "StevedoreModel" "cranes" "I") (by decide +kernel)) (fun _ h9 => h9) rfl (by decide +kernel) rfl rfl (Nat.le_of_ble_eq_true rfl) dX9_setCranes_32 (fun H locs hP hD hS => ?_)
    have hP : va_P (xD g) vwCl [(h0, .inr (9, [.int 0, m1, .int p0, m3, m4, m5, m6, m7, m8, m9, m10, m11, m12, m13, m14, m15, m16, m17, m18, m19, m20, m21, m22, m23, m24, m25, m26, m27, m28, m29, m30, m31, m32, m33, m34, m35, m36, m37, m38, m39, m40, m41, m42, m43, m44, m45, m46, m47, m48, m49]))] H := hP
    have hD : va_D A [(h0, .inr (9, [.int 0, m1, .int p0, m3, m4, m5, m6, m7, m8, m9, m10, m11, m12, m13, m14, m15, m16, m17, m18, m19, m20, m21, m22, m23, m24, m25, m26, m27, m28, m29, m30, m31, m32, m33, m34, m35, m36, m37, m38, m39, m40, m41, m42, m43, m44, m45, m46, m47, m48, m49]))] := hD
    refine lv_aload_n hx hb dX9_setCranes_35 rfl (lv_at hl 1 rfl) ?_
    have hPc := hP.sub (ws' := [(h0, .inr (9, [.int 0, m1, .int p0, m3, m4, m5, m6, m7, m8, m9, m10, m11, m12, m13, m14, m15, m16, m17, m18, m19, m20, m21, m22, m23, m24, m25, m26, m27, m28, m29, m30, m31, m32, m33, m34, m35, m36, m37, m38, m39, m40, m41, m42, m43, m44, m45, m46, m47, m48, m49]))]) [0] rfl
    have hDc := hD.sub (ws' := [(h0, .inr (9, [.int 0, m1, .int p0, m3, m4, m5, m6, m7, m8, m9, m10, m11, m12, m13, m14, m15, m16, m17, m18, m19, m20, m21, m22, m23, m24, m25, m26, m27, m28, m29, m30, m31, m32, m33, m34, m35, m36, m37, m38, m39, m40, m41, m42, m43, m44, m45, m46, m47, m48, m49]))]) [0] (by decide) rfl
    have hFc := va_free (wc := [(h0, .inr (9, [.int 0, m1, .int p0, m3, m4, m5, m6, m7, m8, m9, m10, m11, m12, m13, m14, m15, m16, m17, m18, m19, m20, m21, m22, m23, m24, m25, m26, m27, m28, m29, m30, m31, m32, m33, m34, m35, m36, m37, m38, m39, m40, m41, m42, m43, m44, m45, m46, m47, m48, m49]))]) hD hS hA [0] rfl
    refine va_callv (va_runV (As := []) (rest := []) ⟨hx, hb, hml, hown, hts⟩ (m_noPlan l g H.size h0 (.int 0) m1 (.int p0) m3 m4 m5 m6 m7 m8 m9 m10 m11 m12 m13 m14 m15 m16 m17 m18 m19 m20 m21 m22 m23 m24 m25 m26 m27 m28 m29 m30 m31 m32 m33 m34 m35 m36 m37 m38 m39 m40 m41 m42 m43 m44 m45 m46 m47 m48 m49) (cwV 0 hts gX9_setCranes_X9_noPlan rfl rfl rfl (by decide +kernel) ⟨Nat.le_of_ble_eq_true rfl, Nat.le_of_ble_eq_true rfl⟩) ⟨xB.blind, va_recv hK hPc (ci := 9) (q0 := 0) rfl rfl, fun U9 hU9 hW9 => ⟨rfl, xB.mk hPc hK hDc hU9 hW9⟩⟩ rfl rfl hl.1 rfl (lv_room (Nat.le_of_ble_eq_true rfl)) dX9_setCranes_36 ⟨Nat.le_of_ble_eq_true rfl, Nat.le_of_ble_eq_true rfl⟩) hS (fun q _ h => hFc q h) hFc (fun u_10 t H1 locs ht hvm hw_11 hB hz1 hk1 hS => ?_)
    obtain ⟨w46_12, w47_13, w48_14, hP1, hK1, hD1⟩ := hB
    rw [ht] at hP1
    obtain ⟨hP, hD⟩ := va_join (wr := []) (w1 := [(h0, .inr (9, [.int 0, m1, .int p0, m3, m4, m5, m6, m7, m8, m9, m10, m11, m12, m13, m14, m15, m16, m17, m18, m19, m20, m21, m22, m23, .int 0, m25, m26, m27, m28, m29, m30, m31, m32, m33, m34, m35, m36, m37, .int 0, m39, .int 0, m41, m42, m43, m44, .int 0, .ref w46_12, .ref w47_13, .ref w48_14, .int 0]))]) hP hD [0] [] rfl rfl (by decide) (by decide) hk1 hFc hP1 hD1
    generalize H1 = H at hP hS ⊢
    have hP : va_P (xD g) vwCl [(h0, .inr (9, [.int 0, m1, .int p0, m3, m4, m5, m6, m7, m8, m9, m10, m11, m12, m13, m14, m15, m16, m17, m18, m19, m20, m21, m22, m23, .int 0, m25, m26, m27, m28, m29, m30, m31, m32, m33, m34, m35, m36, m37, .int 0, m39, .int 0, m41, m42, m43, m44, .int 0, .ref w46_12, .ref w47_13, .ref w48_14, .int 0]))] H := hP
    have hD : va_D A [(h0, .inr (9, [.int 0, m1, .int p0, m3, m4, m5, m6, m7, m8, m9, m10, m11, m12, m13, m14, m15, m16, m17, m18, m19, m20, m21, m22, m23, .int 0, m25, m26, m27, m28, m29, m30, m31, m32, m33, m34, m35, m36, m37, .int 0, m39, .int 0, m41, m42, m43, m44, .int 0, .ref w46_12, .ref w47_13, .ref w48_14, .int 0]))] := hD
    refine W.widen (k := 3) (n := 96) (by omega) (by omega) ?_
    try dsimp only at hw_11
    refine lv_iload_n hx hb dX9_setCranes_39 rfl (lv_at hl 0 rfl) ?_
    have hP9 := hP.sub (ws' := [(h0, .inr (9, [.int 0, m1, .int p0, m3, m4, m5, m6, m7, m8, m9, m10, m11, m12, m13, m14, m15, m16, m17, m18, m19, m20, m21, m22, m23, .int 0, m25, m26, m27, m28, m29, m30, m31, m32, m33, m34, m35, m36, m37, .int 0, m39, .int 0, m41, m42, m43, m44, .int 0, .ref w46_12, .ref w47_13, .ref w48_14, .int 0]))]) [0] rfl
    have hD9 := hD.sub (ws' := [(h0, .inr (9, [.int 0, m1, .int p0, m3, m4, m5, m6, m7, m8, m9, m10, m11, m12, m13, m14, m15, m16, m17, m18, m19, m20, m21, m22, m23, .int 0, m25, m26, m27, m28, m29, m30, m31, m32, m33, m34, m35, m36, m37, .int 0, m39, .int 0, m41, m42, m43, m44, .int 0, .ref w46_12, .ref w47_13, .ref w48_14, .int 0]))]) [0] (by decide) rfl
    exact W.iret (v := was) hx hb hr (fun t ht hW => ⟨⟨was, 0, rfl, Or.inr (⟨rfl, rfl, (by first | trivial | assumption | (refine ⟨?_, ?_⟩ <;> assumption) | (simp only [Int32.lt_iff_toInt_lt, Int32.le_iff_toInt_le, Int32.reduceToInt] at *; omega))⟩), ⟨m1, (.int p0), m3, m4, m5, m6, m7, m8, m9, m10, m11, m12, m13, m14, m15, m16, m17, m18, m19, m20, m21, m22, m23, (.int 0), m25, m26, m27, m28, m29, m30, m31, m32, m33, m34, m35, m36, m37, (.int 0), m39, (.int 0), m41, m42, m43, m44, (.int 0), (.ref w46_12), (.ref w47_13), (.ref w48_14), (.int 0), by rw [ht]; exact hP9, va_K.moved hW.alike hK, hD9⟩⟩, hS.F ht⟩) hS.2.2 dX9_setCranes_40
  · refine lv_if_ne (tgt := 15) hx hb dX9_setCranes_8 (by decide) (fun c0 => absurd (by decide) c0) (fun _ => ?_)
    refine lv_iconst (v := 1) hx hb dX9_setCranes_11 (by decide) ?_
    refine lv_goto (tgt := 16) hx hb dX9_setCranes_12 (by decide) ?_
    refine lv_iconst (v := 1) hx hb dX9_setCranes_16 (by decide) ?_
    have hPc := hP.sub (ws' := [(h0, .inr (9, [m0, m1, .int was, m3, m4, m5, m6, m7, m8, m9, m10, m11, m12, m13, m14, m15, m16, m17, m18, m19, m20, m21, m22, m23, m24, m25, m26, m27, m28, m29, m30, m31, m32, m33, m34, m35, m36, m37, m38, m39, m40, m41, m42, m43, m44, m45, m46, m47, m48, m49]))]) [0] rfl
    have hDc := hD.sub (ws' := [(h0, .inr (9, [m0, m1, .int was, m3, m4, m5, m6, m7, m8, m9, m10, m11, m12, m13, m14, m15, m16, m17, m18, m19, m20, m21, m22, m23, m24, m25, m26, m27, m28, m29, m30, m31, m32, m33, m34, m35, m36, m37, m38, m39, m40, m41, m42, m43, m44, m45, m46, m47, m48, m49]))]) [0] (by decide) rfl
    have hFc := va_free (wc := [(h0, .inr (9, [m0, m1, .int was, m3, m4, m5, m6, m7, m8, m9, m10, m11, m12, m13, m14, m15, m16, m17, m18, m19, m20, m21, m22, m23, m24, m25, m26, m27, m28, m29, m30, m31, m32, m33, m34, m35, m36, m37, m38, m39, m40, m41, m42, m43, m44, m45, m46, m47, m48, m49]))]) hD hS hA [0] rfl
    refine va_calli (va_runV (As := [.int 1, .int 1]) (rest := []) ⟨hx, hb, hml, hown, hts⟩ (m_start1 l g H.size h0 m0 m1 (.int was) m3 m4 m5 m6 m7 m8 m9 m10 m11 m12 m13 m14 m15 m16 m17 m18 m19 m20 m21 m22 m23 m24 m25 m26 m27 m28 m29 m30 m31 m32 m33 m34 m35 m36 m37 m38 m39 m40 m41 m42 m43 m44 m45 m46 m47 m48 m49 1 (by first | assumption | decide | omega | simp_all)) (cwV 2 hts gX9_setCranes_X9_start rfl rfl rfl (by decide +kernel) ⟨Nat.le_of_ble_eq_true rfl, Nat.le_of_ble_eq_true rfl⟩) ⟨xB.blind, va_recv hK hPc (ci := 9) (q0 := 0) rfl rfl, fun U9 hU9 hW9 => ⟨rfl, xB.mk hPc hK hDc hU9 hW9⟩⟩ rfl rfl hl.1 rfl (lv_room (Nat.le_of_ble_eq_true rfl)) dX9_setCranes_17 ⟨Nat.le_of_ble_eq_true rfl, Nat.le_of_ble_eq_true rfl⟩) hS (fun q _ h => hFc q h) hFc (fun r_15 u_16 t H1 locs ht hvm hw_17 hB hz1 hk1 hS => ?_)
    obtain ⟨hP1, hK1, hD1⟩ := hB
    rw [ht] at hP1
    obtain ⟨hP, hD⟩ := va_join (wr := []) (w1 := [(h0, .inr (9, [.int 1, m1, .int was, m3, m4, m5, m6, m7, m8, m9, m10, m11, m12, m13, m14, m15, m16, m17, m18, m19, m20, m21, m22, m23, m24, m25, m26, m27, m28, m29, m30, m31, m32, m33, m34, m35, m36, m37, m38, m39, m40, m41, m42, m43, m44, m45, m46, m47, m48, m49]))]) hP hD [0] [] rfl rfl (by decide) (by decide) hk1 hFc hP1 hD1
    generalize H1 = H at hP hS ⊢
    have hP : va_P (xD g) vwCl [(h0, .inr (9, [.int 1, m1, .int was, m3, m4, m5, m6, m7, m8, m9, m10, m11, m12, m13, m14, m15, m16, m17, m18, m19, m20, m21, m22, m23, m24, m25, m26, m27, m28, m29, m30, m31, m32, m33, m34, m35, m36, m37, m38, m39, m40, m41, m42, m43, m44, m45, m46, m47, m48, m49]))] H := hP
    have hD : va_D A [(h0, .inr (9, [.int 1, m1, .int was, m3, m4, m5, m6, m7, m8, m9, m10, m11, m12, m13, m14, m15, m16, m17, m18, m19, m20, m21, m22, m23, m24, m25, m26, m27, m28, m29, m30, m31, m32, m33, m34, m35, m36, m37, m38, m39, m40, m41, m42, m43, m44, m45, m46, m47, m48, m49]))] := hD
    try dsimp only at hw_17
    obtain rfl := hw_17
    refine lv_if_eq (tgt := 25) hx hb dX9_setCranes_20 (by decide) (fun c0 => absurd c0 (by decide)) (fun _ => ?_)
    refine lv_iconst (v := 0) hx hb dX9_setCranes_23 (by decide) ?_
    refine W.widen (k := 3) (n := 96) (by omega) (by omega) ?_
    have hP9 := hP.sub (ws' := [(h0, .inr (9, [.int 1, m1, .int was, m3, m4, m5, m6, m7, m8, m9, m10, m11, m12, m13, m14, m15, m16, m17, m18, m19, m20, m21, m22, m23, m24, m25, m26, m27, m28, m29, m30, m31, m32, m33, m34, m35, m36, m37, m38, m39, m40, m41, m42, m43, m44, m45, m46, m47, m48, m49]))]) [0] rfl
    have hD9 := hD.sub (ws' := [(h0, .inr (9, [.int 1, m1, .int was, m3, m4, m5, m6, m7, m8, m9, m10, m11, m12, m13, m14, m15, m16, m17, m18, m19, m20, m21, m22, m23, m24, m25, m26, m27, m28, m29, m30, m31, m32, m33, m34, m35, m36, m37, m38, m39, m40, m41, m42, m43, m44, m45, m46, m47, m48, m49]))]) [0] (by decide) rfl
    exact W.iret (v := 0) hx hb hr (fun t ht hW => ⟨⟨0, 1, rfl, Or.inl (⟨rfl, rfl, (by first | trivial | assumption | (refine ⟨?_, ?_⟩ <;> assumption) | (simp only [Int32.lt_iff_toInt_lt, Int32.le_iff_toInt_le, Int32.reduceToInt] at *; omega))⟩), ⟨m1, (.int was), m3, m4, m5, m6, m7, m8, m9, m10, m11, m12, m13, m14, m15, m16, m17, m18, m19, m20, m21, m22, m23, m24, m25, m26, m27, m28, m29, m30, m31, m32, m33, m34, m35, m36, m37, m38, m39, m40, m41, m42, m43, m44, m45, m46, m47, m48, m49, by rw [ht]; exact hP9, va_K.moved hW.alike hK, hD9⟩⟩, hS.F ht⟩) hS.2.2 dX9_setCranes_24
theorem dX9_setRoom_0 : decode cX9_setRoom 0 = .ok (.aload_n 0, 1) := by decide +kernel
theorem dX9_setRoom_1 : decode cX9_setRoom 1 = .ok (.iload_n 1, 1) := by decide +kernel
theorem dX9_setRoom_2 : decode cX9_setRoom 2 = .ok (.iconst 0, 1) := by decide +kernel
theorem dX9_setRoom_3 : decode cX9_setRoom 3 = .ok (.bipush 15, 2) := by decide +kernel
theorem dX9_setRoom_5 : decode cX9_setRoom 5 = .ok (.invokestatic 134, 3) := by decide +kernel
set_option maxRecDepth 20000 in
theorem ggX9_setRoom_X9_isIn : GoodIn wsX9_setRoom wsX9_isIn := goodIn_r _ [5] rfl (by decide +kernel)
set_option maxRecDepth 20000 in
theorem gX9_setRoom_X9_isIn : GoodIn wsX9_setRoom (va_wsS RX9 134 yX9_isIn wsX9_isIn) := goodIn_app (goodIn_of _ (by decide +kernel)) ggX9_setRoom_X9_isIn
theorem dX9_setRoom_8 : decode cX9_setRoom 8 = .ok (.ifCond .ne 7, 3) := by decide +kernel
theorem dX9_setRoom_15 : decode cX9_setRoom 15 = .ok (.iconst 0, 1) := by decide +kernel
theorem dX9_setRoom_16 : decode cX9_setRoom 16 = .ok (.iconst 1, 1) := by decide +kernel
theorem dX9_setRoom_17 : decode cX9_setRoom 17 = .ok (.invokevirtual 138, 3) := by decide +kernel
set_option maxRecDepth 20000 in
theorem ggX9_setRoom_X9_start : GoodIn wsX9_setRoom wsX9_start := goodIn_r _ [9, 10, 11, 12, 13, 4, 14, 31, 32, 33, 34, 35, 36, 37, 38, 39, 40, 41, 42, 43, 44, 45, 46, 47, 48, 49, 50, 51, 52, 53, 54, 55, 56, 57, 58, 59, 60, 61, 62, 63, 64, 65, 66, 67, 68, 69, 70, 71, 72, 73, 74, 75, 76, 77, 78, 79, 80] rfl (by decide +kernel)
set_option maxRecDepth 20000 in
theorem gX9_setRoom_X9_start : GoodIn wsX9_setRoom (wsV RX9 138 RX9 yX9_start wsX9_start) := goodIn_app (goodIn_of _ (by decide +kernel)) ggX9_setRoom_X9_start
theorem dX9_setRoom_20 : decode cX9_setRoom 20 = .ok (.ifCond .ne 26, 3) := by decide +kernel
theorem dX9_setRoom_23 : decode cX9_setRoom 23 = .ok (.aload_n 0, 1) := by decide +kernel
theorem dX9_setRoom_24 : decode cX9_setRoom 24 = .ok (.iload_n 2, 1) := by decide +kernel
theorem dX9_setRoom_25 : decode cX9_setRoom 25 = .ok (.iconst 0, 1) := by decide +kernel
theorem dX9_setRoom_26 : decode cX9_setRoom 26 = .ok (.bipush 6, 2) := by decide +kernel
theorem dX9_setRoom_28 : decode cX9_setRoom 28 = .ok (.invokestatic 134, 3) := by decide +kernel
theorem dX9_setRoom_31 : decode cX9_setRoom 31 = .ok (.ifCond .ne 7, 3) := by decide +kernel
theorem dX9_setRoom_38 : decode cX9_setRoom 38 = .ok (.iconst 0, 1) := by decide +kernel
theorem dX9_setRoom_39 : decode cX9_setRoom 39 = .ok (.iconst 2, 1) := by decide +kernel
theorem dX9_setRoom_40 : decode cX9_setRoom 40 = .ok (.invokevirtual 114, 3) := by decide +kernel
set_option maxRecDepth 20000 in
theorem ggX9_setRoom_X9_refuse : GoodIn wsX9_setRoom wsX9_refuse := goodIn_r _ [14, 10, 31, 32, 33, 34, 35, 36, 37, 38, 39, 40, 41, 42, 43, 44, 45, 46, 47, 48, 49, 50, 51, 52, 53, 54, 55, 56, 57, 58, 59, 60, 61, 62, 63, 64, 65, 66, 67, 68, 69, 70, 71, 72, 73, 74, 75, 76, 77, 78, 79, 80] rfl (by decide +kernel)
set_option maxRecDepth 20000 in
theorem gX9_setRoom_X9_refuse : GoodIn wsX9_setRoom (wsV RX9 114 RX9 yX9_refuse wsX9_refuse) := goodIn_app (goodIn_of _ (by decide +kernel)) ggX9_setRoom_X9_refuse
theorem dX9_setRoom_43 : decode cX9_setRoom 43 = .ok (.ifCond .eq 5, 3) := by decide +kernel
theorem dX9_setRoom_48 : decode cX9_setRoom 48 = .ok (.aload_n 0, 1) := by decide +kernel
theorem dX9_setRoom_49 : decode cX9_setRoom 49 = .ok (.getfield 45, 3) := by decide +kernel
theorem dX9_setRoom_52 : decode cX9_setRoom 52 = .ok (.iload_n 1, 1) := by decide +kernel
theorem dX9_setRoom_53 : decode cX9_setRoom 53 = .ok (.iaload, 1) := by decide +kernel
theorem dX9_setRoom_54 : decode cX9_setRoom 54 = .ok (.istore_n 3, 1) := by decide +kernel
theorem dX9_setRoom_55 : decode cX9_setRoom 55 = .ok (.aload_n 0, 1) := by decide +kernel
theorem dX9_setRoom_56 : decode cX9_setRoom 56 = .ok (.getfield 45, 3) := by decide +kernel
theorem dX9_setRoom_59 : decode cX9_setRoom 59 = .ok (.iload_n 1, 1) := by decide +kernel
theorem dX9_setRoom_60 : decode cX9_setRoom 60 = .ok (.iload_n 2, 1) := by decide +kernel
theorem dX9_setRoom_61 : decode cX9_setRoom 61 = .ok (.iastore, 1) := by decide +kernel
theorem dX9_setRoom_62 : decode cX9_setRoom 62 = .ok (.aload_n 0, 1) := by decide +kernel
theorem dX9_setRoom_63 : decode cX9_setRoom 63 = .ok (.invokevirtual 122, 3) := by decide +kernel
set_option maxRecDepth 20000 in
theorem ggX9_setRoom_X9_noSlots : GoodIn wsX9_setRoom wsX9_noSlots := goodIn_r _ [18, 19, 20, 21, 22, 23, 4, 24, 25, 26, 27, 28, 29, 30, 31, 32, 33, 34, 35, 36, 37, 38, 39, 40, 41, 42, 43, 44, 45, 46, 47, 48, 49, 50, 51, 52, 53, 54, 55, 56, 57, 58, 59, 60, 61, 62, 63, 64, 65, 66, 67, 68, 69, 70, 71, 72, 73, 74, 75, 76, 77, 78, 79, 80] rfl (by decide +kernel)
set_option maxRecDepth 20000 in
theorem gX9_setRoom_X9_noSlots : GoodIn wsX9_setRoom (wsV RX9 122 RX9 yX9_noSlots wsX9_noSlots) := goodIn_app (goodIn_of _ (by decide +kernel)) ggX9_setRoom_X9_noSlots
theorem dX9_setRoom_66 : decode cX9_setRoom 66 = .ok (.iload_n 3, 1) := by decide +kernel
theorem dX9_setRoom_67 : decode cX9_setRoom 67 = .ok (.ireturn, 1) := by decide +kernel
theorem dX9_setRoom_34 : decode cX9_setRoom 34 = .ok (.iconst 1, 1) := by decide +kernel
theorem dX9_setRoom_35 : decode cX9_setRoom 35 = .ok (.goto 4, 3) := by decide +kernel
theorem dX9_setRoom_46 : decode cX9_setRoom 46 = .ok (.iconst 0, 1) := by decide +kernel
theorem dX9_setRoom_47 : decode cX9_setRoom 47 = .ok (.ireturn, 1) := by decide +kernel
theorem dX9_setRoom_11 : decode cX9_setRoom 11 = .ok (.iconst 1, 1) := by decide +kernel
theorem dX9_setRoom_12 : decode cX9_setRoom 12 = .ok (.goto 4, 3) := by decide +kernel
set_option maxHeartbeats 4000000 in
set_option maxRecDepth 100000 in
theorem m0_setRoom (l : Launch) (g : xG) (sz : Nat) (h0 : Nat) (rm : Nat) (rf : Nat → Int32) (m0 : Value) (m1 : Value) (m2 : Value) (m3 : Value) (m4 : Value) (m5 : Value) (m6 : Value) (m7 : Value) (m8 : Value) (m9 : Value) (m10 : Value) (m11 : Value) (m12 : Value) (m13 : Value) (m15 : Value) (m16 : Value) (m17 : Value) (m18 : Value) (m19 : Value) (m20 : Value) (m21 : Value) (m22 : Value) (m23 : Value) (m24 : Value) (m25 : Value) (m26 : Value) (m27 : Value) (m28 : Value) (m29 : Value) (m30 : Value) (m31 : Value) (m32 : Value) (m33 : Value) (m34 : Value) (m35 : Value) (m36 : Value) (m37 : Value) (m38 : Value) (m39 : Value) (m40 : Value) (m41 : Value) (m42 : Value) (m43 : Value) (m44 : Value) (m45 : Value) (m46 : Value) (m47 : Value) (m48 : Value) (m49 : Value) (p0 : Int32) (p1 : Int32)  (hrf : ∀ j : Nat, j < 16 → rf j = 2) : Met l yX9_setRoom wsX9_setRoom ({ frames := 2, cells := 3, slots := 96, locals := 44 }) (va_Pc [.ref h0, .int p0, .int p1] (fun U => xB g [(h0, .inr (9, [m0, m1, m2, m3, m4, m5, m6, m7, m8, m9, m10, m11, m12, m13, .ref rm, m15, m16, m17, m18, m19, m20, m21, m22, m23, m24, m25, m26, m27, m28, m29, m30, m31, m32, m33, m34, m35, m36, m37, m38, m39, m40, m41, m42, m43, m44, m45, m46, m47, m48, m49])), (rm, .inl (xI g, 16, .inl rf))] sz U)) (va_Qi (fun (r : Int32) (u : Int32) => (u = 1 ∧ (p0 < 0 ∨ 15 < p0)) ∨ (u = 2 ∧ (¬ p0 < 0 ∧ ¬ 15 < p0) ∧ (p1 < 0 ∨ 6 < p1)) ∨ (u = 0 ∧ r = 2 ∧ (¬ p0 < 0 ∧ ¬ 15 < p0) ∧ ¬ p1 < 0 ∧ ¬ 6 < p1)) (fun (u : Int32) (t : State) => ∃ (w1 : Value) (w2 : Value) (w3 : Value) (w4 : Value) (w5 : Value) (w6 : Value) (w7 : Value) (w8 : Value) (w9 : Value) (w10 : Value) (w11 : Value) (w12 : Value) (w13 : Value) (w14 : Value) (w15 : Value) (w16 : Value) (w17 : Value) (w18 : Value) (w19 : Value) (w20 : Value) (w21 : Value) (w22 : Value) (w23 : Value) (w24 : Value) (w25 : Value) (w26 : Value) (w27 : Value) (w28 : Value) (w29 : Value) (w30 : Value) (w31 : Value) (w32 : Value) (w33 : Value) (w34 : Value) (w35 : Value) (w36 : Value) (w37 : Value) (w38 : Value) (w39 : Value) (w40 : Value) (w41 : Value) (w42 : Value) (w43 : Value) (w44 : Value) (w45 : Value) (w46 : Value) (w47 : Value) (w48 : Value) (w49 : Value), xE g [(h0, .inr (9, [.int u, w1, w2, w3, w4, w5, w6, w7, w8, w9, w10, w11, w12, w13, w14, w15, w16, w17, w18, w19, w20, w21, w22, w23, w24, w25, w26, w27, w28, w29, w30, w31, w32, w33, w34, w35, w36, w37, w38, w39, w40, w41, w42, w43, w44, w45, w46, w47, w48, w49]))] (va_A [(h0, .inr (9, [m0, m1, m2, m3, m4, m5, m6, m7, m8, m9, m10, m11, m12, m13, .ref rm, m15, m16, m17, m18, m19, m20, m21, m22, m23, m24, m25, m26, m27, m28, m29, m30, m31, m32, m33, m34, m35, m36, m37, m38, m39, m40, m41, m42, m43, m44, m45, m46, m47, m48, m49])), (rm, .inl (xI g, 16, .inl rf))] sz) t) (va_A [(h0, .inr (9, [m0, m1, m2, m3, m4, m5, m6, m7, m8, m9, m10, m11, m12, m13, .ref rm, m15, m16, m17, m18, m19, m20, m21, m22, m23, m24, m25, m26, m27, m28, m29, m30, m31, m32, m33, m34, m35, m36, m37, m38, m39, m40, m41, m42, m43, m44, m45, m46, m47, m48, m49])), (rm, .inl (xI g, 16, .inl rf))] sz)) 3 96 (va_A [(h0, .inr (9, [m0, m1, m2, m3, m4, m5, m6, m7, m8, m9, m10, m11, m12, m13, .ref rm, m15, m16, m17, m18, m19, m20, m21, m22, m23, m24, m25, m26, m27, m28, m29, m30, m31, m32, m33, m34, m35, m36, m37, m38, m39, m40, m41, m42, m43, m44, m45, m46, m47, m48, m49])), (rm, .inl (xI g, 16, .inl rf))] sz) := by
  refine Met.ofW (cc := cX9_setRoom) (maxL := 4) (ret := (some .int)) (by decide) rfl ?_
  intro p e s m args below meth c s₁ B hml hv
  obtain ⟨rfl, ⟨hsz, hP, hK, hD0⟩⟩ := hv
  have hx := B.exec
  have hb := B.bytes
  have hr := B.returns
  have hts := atoms_spec (ws := wsX9_setRoom) B.pre
  have hown : s.vm.findClass RX9 = some m.cls := findClass_of_methodNamed B.named
  have hlocks := B.notSynchronized
  subst hsz
  have hD := hD0.self (sz := s.heap.size)
  generalize hAe : va_A [(h0, .inr (9, [m0, m1, m2, m3, m4, m5, m6, m7, m8, m9, m10, m11, m12, m13, .ref rm, m15, m16, m17, m18, m19, m20, m21, m22, m23, m24, m25, m26, m27, m28, m29, m30, m31, m32, m33, m34, m35, m36, m37, m38, m39, m40, m41, m42, m43, m44, m45, m46, m47, m48, m49])), (rm, .inl (xI g, 16, .inl rf))] s.heap.size = A at hD ⊢
  have hA : ∀ q : Nat, s.heap.size ≤ q → A q := fun q h => by rw [← hAe]; exact Or.inr h
  have hS : va_S A s.heap s.heap [] := va_S.rf
  have hl := lv_entry ([.ref h0, .int p0, .int p1]) (n := 4) (Nat.le_of_ble_eq_true rfl)
  rw [lg_entry_eq]
  generalize (lg_sl ([.ref h0, .int p0, .int p1]) ++ List.replicate (4 - (lg_sl ([.ref h0, .int p0, .int p1])).length) Slot.unset).toArray = ls at hl ⊢
  have hl : lv_has ls 4 [(0, .ref h0), (1, .int p0), (2, .int p1)] := hl
  have hFX9 : ∀ w ∈ u_ws RX9 TX9 50, w ∈ wsX9_setRoom := by decide +kernel
  refine lv_aload_n hx hb dX9_setRoom_0 rfl (lv_at hl 0 rfl) ?_
  refine lv_iload_n hx hb dX9_setRoom_1 rfl (lv_at hl 1 rfl) ?_
  refine lv_iconst (v := 0) hx hb dX9_setRoom_2 (by decide) ?_
  refine lv_bipush (v := 15) hx hb dX9_setRoom_3 (by decide) ?_
  have hPc := hP.sub (ws' := []) [] rfl
  have hDc := hD.sub (ws' := []) [] (by decide) rfl
  have hFc := xFree hS hA
  refine va_calli (va_runS (As := [.int p0, .int 0, .int 15]) (rest := [.ref h0]) ⟨hx, hb, hml, hown, hts⟩ (m_isIn l g s.heap.size p0 0 15) (va_cwS 3 hts gX9_setRoom_X9_isIn rfl rfl rfl (by decide +kernel) ⟨Nat.le_of_ble_eq_true rfl, Nat.le_of_ble_eq_true rfl⟩) ⟨xB.blind, fun U9 hU9 hW9 => ⟨rfl, xB.mk hPc hK hDc hU9 hW9⟩⟩ rfl rfl hl.1 rfl (lv_room (Nat.le_of_ble_eq_true rfl)) dX9_setRoom_5 ⟨Nat.le_of_ble_eq_true rfl, Nat.le_of_ble_eq_true rfl⟩) hS (fun q _ h => hFc q h) hFc (fun r_1 u_2 t H1 locs ht hvm hw_3 hB hz1 hk1 hS => ?_)
  have hP := xSame hP hk1
  generalize H1 = H at hP hS ⊢
  have hP : va_P (xD g) vwCl [(h0, .inr (9, [m0, m1, m2, m3, m4, m5, m6, m7, m8, m9, m10, m11, m12, m13, .ref rm, m15, m16, m17, m18, m19, m20, m21, m22, m23, m24, m25, m26, m27, m28, m29, m30, m31, m32, m33, m34, m35, m36, m37, m38, m39, m40, m41, m42, m43, m44, m45, m46, m47, m48, m49])), (rm, .inl (xI g, 16, .inl rf))] H := hP
  have hD : va_D A [(h0, .inr (9, [m0, m1, m2, m3, m4, m5, m6, m7, m8, m9, m10, m11, m12, m13, .ref rm, m15, m16, m17, m18, m19, m20, m21, m22, m23, m24, m25, m26, m27, m28, m29, m30, m31, m32, m33, m34, m35, m36, m37, m38, m39, m40, m41, m42, m43, m44, m45, m46, m47, m48, m49])), (rm, .inl (xI g, 16, .inl rf))] := hD
  try dsimp only at hw_3
  rcases hw_3 with ⟨rfl, c_4⟩ | ⟨rfl, c_5⟩
  · refine lv_if_ne (tgt := 15) hx hb dX9_setRoom_8 (by decide) (fun _ => ?_) (fun c0 => absurd c0 (by decide))
    refine lv_iconst (v := 0) hx hb dX9_setRoom_15 (by decide) ?_
    refine lv_iconst (v := 1) hx hb dX9_setRoom_16 (by decide) ?_
    have hPc := hP.sub (ws' := [(h0, .inr (9, [m0, m1, m2, m3, m4, m5, m6, m7, m8, m9, m10, m11, m12, m13, .ref rm, m15, m16, m17, m18, m19, m20, m21, m22, m23, m24, m25, m26, m27, m28, m29, m30, m31, m32, m33, m34, m35, m36, m37, m38, m39, m40, m41, m42, m43, m44, m45, m46, m47, m48, m49]))]) [0] rfl
    have hDc := hD.sub (ws' := [(h0, .inr (9, [m0, m1, m2, m3, m4, m5, m6, m7, m8, m9, m10, m11, m12, m13, .ref rm, m15, m16, m17, m18, m19, m20, m21, m22, m23, m24, m25, m26, m27, m28, m29, m30, m31, m32, m33, m34, m35, m36, m37, m38, m39, m40, m41, m42, m43, m44, m45, m46, m47, m48, m49]))]) [0] (by decide) rfl
    have hFc := va_free (wc := [(h0, .inr (9, [m0, m1, m2, m3, m4, m5, m6, m7, m8, m9, m10, m11, m12, m13, .ref rm, m15, m16, m17, m18, m19, m20, m21, m22, m23, m24, m25, m26, m27, m28, m29, m30, m31, m32, m33, m34, m35, m36, m37, m38, m39, m40, m41, m42, m43, m44, m45, m46, m47, m48, m49]))]) hD hS hA [0] rfl
    refine va_calli (va_runV (As := [.int 0, .int 1]) (rest := []) ⟨hx, hb, hml, hown, hts⟩ (m_start0 l g H.size h0 m0 m1 m2 m3 m4 m5 m6 m7 m8 m9 m10 m11 m12 m13 (.ref rm) m15 m16 m17 m18 m19 m20 m21 m22 m23 m24 m25 m26 m27 m28 m29 m30 m31 m32 m33 m34 m35 m36 m37 m38 m39 m40 m41 m42 m43 m44 m45 m46 m47 m48 m49 1) (cwV 2 hts gX9_setRoom_X9_start rfl rfl rfl (by decide +kernel) ⟨Nat.le_of_ble_eq_true rfl, Nat.le_of_ble_eq_true rfl⟩) ⟨xB.blind, va_recv hK hPc (ci := 9) (q0 := 0) rfl rfl, fun U9 hU9 hW9 => ⟨rfl, xB.mk hPc hK hDc hU9 hW9⟩⟩ rfl rfl hl.1 rfl (lv_room (Nat.le_of_ble_eq_true rfl)) dX9_setRoom_17 ⟨Nat.le_of_ble_eq_true rfl, Nat.le_of_ble_eq_true rfl⟩) hS (fun q _ h => hFc q h) hFc (fun r_6 u_7 t H1 locs ht hvm hw_8 hB hz1 hk1 hS => ?_)
    obtain ⟨hP1, hK1, hD1⟩ := hB
    rw [ht] at hP1
    obtain ⟨hP, hD⟩ := va_join (wr := [(rm, .inl (xI g, 16, .inl rf))]) (w1 := [(h0, .inr (9, [.int 0, m1, m2, m3, m4, m5, m6, m7, m8, m9, m10, m11, m12, m13, .ref rm, m15, m16, m17, m18, m19, m20, m21, m22, m23, m24, m25, m26, m27, m28, m29, m30, m31, m32, m33, m34, m35, m36, m37, m38, m39, m40, m41, m42, m43, m44, m45, m46, m47, m48, m49]))]) hP hD [0] [1] rfl rfl (by decide) (by decide) hk1 hFc hP1 hD1
    generalize H1 = H at hP hS ⊢
    have hP : va_P (xD g) vwCl [(rm, .inl (xI g, 16, .inl rf)), (h0, .inr (9, [.int 0, m1, m2, m3, m4, m5, m6, m7, m8, m9, m10, m11, m12, m13, .ref rm, m15, m16, m17, m18, m19, m20, m21, m22, m23, m24, m25, m26, m27, m28, m29, m30, m31, m32, m33, m34, m35, m36, m37, m38, m39, m40, m41, m42, m43, m44, m45, m46, m47, m48, m49]))] H := hP
    have hD : va_D A [(rm, .inl (xI g, 16, .inl rf)), (h0, .inr (9, [.int 0, m1, m2, m3, m4, m5, m6, m7, m8, m9, m10, m11, m12, m13, .ref rm, m15, m16, m17, m18, m19, m20, m21, m22, m23, m24, m25, m26, m27, m28, m29, m30, m31, m32, m33, m34, m35, m36, m37, m38, m39, m40, m41, m42, m43, m44, m45, m46, m47, m48, m49]))] := hD
    try dsimp only at hw_8
    obtain rfl := hw_8
    refine lv_if_ne (tgt := 46) hx hb dX9_setRoom_20 (by decide) (fun c0 => absurd (by decide) c0) (fun _ => ?_)
    refine lv_aload_n hx hb dX9_setRoom_23 rfl (lv_at hl 0 rfl) ?_
    refine lv_iload_n hx hb dX9_setRoom_24 rfl (lv_at hl 2 rfl) ?_
    refine lv_iconst (v := 0) hx hb dX9_setRoom_25 (by decide) ?_
    refine lv_bipush (v := 6) hx hb dX9_setRoom_26 (by decide) ?_
    have hPc := hP.sub (ws' := []) [] rfl
    have hDc := hD.sub (ws' := []) [] (by decide) rfl
    have hFc := xFree hS hA
    refine va_calli (va_runS (As := [.int p1, .int 0, .int 6]) (rest := [.ref h0]) ⟨hx, hb, hml, hown, hts⟩ (m_isIn l g H.size p1 0 6) (va_cwS 3 hts gX9_setRoom_X9_isIn rfl rfl rfl (by decide +kernel) ⟨Nat.le_of_ble_eq_true rfl, Nat.le_of_ble_eq_true rfl⟩) ⟨xB.blind, fun U9 hU9 hW9 => ⟨rfl, xB.mk hPc hK hDc hU9 hW9⟩⟩ rfl rfl hl.1 rfl (lv_room (Nat.le_of_ble_eq_true rfl)) dX9_setRoom_28 ⟨Nat.le_of_ble_eq_true rfl, Nat.le_of_ble_eq_true rfl⟩) hS (fun q _ h => hFc q h) hFc (fun r_9 u_10 t H1 locs ht hvm hw_11 hB hz1 hk1 hS => ?_)
    have hP := xSame hP hk1
    generalize H1 = H at hP hS ⊢
    have hP : va_P (xD g) vwCl [(rm, .inl (xI g, 16, .inl rf)), (h0, .inr (9, [.int 0, m1, m2, m3, m4, m5, m6, m7, m8, m9, m10, m11, m12, m13, .ref rm, m15, m16, m17, m18, m19, m20, m21, m22, m23, m24, m25, m26, m27, m28, m29, m30, m31, m32, m33, m34, m35, m36, m37, m38, m39, m40, m41, m42, m43, m44, m45, m46, m47, m48, m49]))] H := hP
    have hD : va_D A [(rm, .inl (xI g, 16, .inl rf)), (h0, .inr (9, [.int 0, m1, m2, m3, m4, m5, m6, m7, m8, m9, m10, m11, m12, m13, .ref rm, m15, m16, m17, m18, m19, m20, m21, m22, m23, m24, m25, m26, m27, m28, m29, m30, m31, m32, m33, m34, m35, m36, m37, m38, m39, m40, m41, m42, m43, m44, m45, m46, m47, m48, m49]))] := hD
    try dsimp only at hw_11
    rcases hw_11 with ⟨rfl, c_12⟩ | ⟨rfl, c_13⟩
    · refine lv_if_ne (tgt := 38) hx hb dX9_setRoom_31 (by decide) (fun _ => ?_) (fun c0 => absurd c0 (by decide))
      refine lv_iconst (v := 0) hx hb dX9_setRoom_38 (by decide) ?_
      refine lv_iconst (v := 2) hx hb dX9_setRoom_39 (by decide) ?_
      have hPc := hP.sub (ws' := [(h0, .inr (9, [.int 0, m1, m2, m3, m4, m5, m6, m7, m8, m9, m10, m11, m12, m13, .ref rm, m15, m16, m17, m18, m19, m20, m21, m22, m23, m24, m25, m26, m27, m28, m29, m30, m31, m32, m33, m34, m35, m36, m37, m38, m39, m40, m41, m42, m43, m44, m45, m46, m47, m48, m49]))]) [1] rfl
      have hDc := hD.sub (ws' := [(h0, .inr (9, [.int 0, m1, m2, m3, m4, m5, m6, m7, m8, m9, m10, m11, m12, m13, .ref rm, m15, m16, m17, m18, m19, m20, m21, m22, m23, m24, m25, m26, m27, m28, m29, m30, m31, m32, m33, m34, m35, m36, m37, m38, m39, m40, m41, m42, m43, m44, m45, m46, m47, m48, m49]))]) [1] (by decide) rfl
      have hFc := xFree hS hA
      refine va_calli (va_runV (As := [.int 0, .int 2]) (rest := []) ⟨hx, hb, hml, hown, hts⟩ (m_refuse0 l g H.size h0 m1 m2 m3 m4 m5 m6 m7 m8 m9 m10 m11 m12 m13 (.ref rm) m15 m16 m17 m18 m19 m20 m21 m22 m23 m24 m25 m26 m27 m28 m29 m30 m31 m32 m33 m34 m35 m36 m37 m38 m39 m40 m41 m42 m43 m44 m45 m46 m47 m48 m49 2) (cwV 2 hts gX9_setRoom_X9_refuse rfl rfl rfl (by decide +kernel) ⟨Nat.le_of_ble_eq_true rfl, Nat.le_of_ble_eq_true rfl⟩) ⟨xB.blind, va_recv hK hPc (ci := 9) (q0 := 0) rfl rfl, fun U9 hU9 hW9 => ⟨rfl, xB.mk hPc hK hDc hU9 hW9⟩⟩ rfl rfl hl.1 rfl (lv_room (Nat.le_of_ble_eq_true rfl)) dX9_setRoom_40 ⟨Nat.le_of_ble_eq_true rfl, Nat.le_of_ble_eq_true rfl⟩) hS (fun q _ h => hFc q h) hFc (fun r_14 u_15 t H1 locs ht hvm hw_16 hB hz1 hk1 hS => ?_)
      have hP := xSame hP hk1
      generalize H1 = H at hP hS ⊢
      have hP : va_P (xD g) vwCl [(rm, .inl (xI g, 16, .inl rf)), (h0, .inr (9, [.int 0, m1, m2, m3, m4, m5, m6, m7, m8, m9, m10, m11, m12, m13, .ref rm, m15, m16, m17, m18, m19, m20, m21, m22, m23, m24, m25, m26, m27, m28, m29, m30, m31, m32, m33, m34, m35, m36, m37, m38, m39, m40, m41, m42, m43, m44, m45, m46, m47, m48, m49]))] H := hP
      have hD : va_D A [(rm, .inl (xI g, 16, .inl rf)), (h0, .inr (9, [.int 0, m1, m2, m3, m4, m5, m6, m7, m8, m9, m10, m11, m12, m13, .ref rm, m15, m16, m17, m18, m19, m20, m21, m22, m23, m24, m25, m26, m27, m28, m29, m30, m31, m32, m33, m34, m35, m36, m37, m38, m39, m40, m41, m42, m43, m44, m45, m46, m47, m48, m49]))] := hD
      try dsimp only at hw_16
      obtain rfl := hw_16
      refine lv_if_eq (tgt := 48) hx hb dX9_setRoom_43 (by decide) (fun _ => ?_) (fun c0 => absurd (by decide) c0)
      refine lv_aload_n hx hb dX9_setRoom_48 rfl (lv_at hl 0 rfl) ?_
      refine va_get (D := xD g) (ci := 9) (v := .ref rm) (C := RX9) (T := TX9) (N := 50) hx hb hts hFX9 hown hK hP 1 rfl rfl 14 (by decide) (hts (.fieldLink RX9 45 "StevedoreModel" "room" "[I") (by decide +kernel)) (fun _ h9 => h9) rfl dX9_setRoom_49 ?_
      refine lv_iload_n hx hb dX9_setRoom_52 rfl (lv_at hl 1 rfl) ?_
      refine va_iald hx hb hK hP 0 0 rfl rfl (vp_in_iff.mpr (by simp only [Int32.lt_iff_toInt_lt, Int32.reduceToInt] at *; omega)) dX9_setRoom_53 ?_
      refine lv_topi (fun v_17 ev_17 => ?_)
      refine lv_istore_n (lv' := [(3, .int v_17), (0, .ref h0), (1, .int p0), (2, .int p1)]) hx hb dX9_setRoom_54 rfl hl (by decide) rfl (fun ls hl => ?_)
      refine lv_aload_n hx hb dX9_setRoom_55 rfl (lv_at hl 1 rfl) ?_
      refine va_get (D := xD g) (ci := 9) (v := .ref rm) (C := RX9) (T := TX9) (N := 50) hx hb hts hFX9 hown hK hP 1 rfl rfl 14 (by decide) (hts (.fieldLink RX9 45 "StevedoreModel" "room" "[I") (by decide +kernel)) (fun _ h9 => h9) rfl dX9_setRoom_56 ?_
      refine lv_iload_n hx hb dX9_setRoom_59 rfl (lv_at hl 2 rfl) ?_
      refine lv_iload_n hx hb dX9_setRoom_60 rfl (lv_at hl 3 rfl) ?_
      refine va_iast (x := p1) hx hb hK hP hD hS 0 0 rfl rfl (vp_in_iff.mpr (by simp only [Int32.lt_iff_toInt_lt, Int32.reduceToInt] at *; omega)) dX9_setRoom_61 (fun H locs hP hD hS => ?_)
      have hP : va_P (xD g) vwCl [(rm, .inl (xI g, 16, .inl (upd rf p0.toNatClampNeg p1))), (h0, .inr (9, [.int 0, m1, m2, m3, m4, m5, m6, m7, m8, m9, m10, m11, m12, m13, .ref rm, m15, m16, m17, m18, m19, m20, m21, m22, m23, m24, m25, m26, m27, m28, m29, m30, m31, m32, m33, m34, m35, m36, m37, m38, m39, m40, m41, m42, m43, m44, m45, m46, m47, m48, m49]))] H := hP
      have hD : va_D A [(rm, .inl (xI g, 16, .inl (upd rf p0.toNatClampNeg p1))), (h0, .inr (9, [.int 0, m1, m2, m3, m4, m5, m6, m7, m8, m9, m10, m11, m12, m13, .ref rm, m15, m16, m17, m18, m19, m20, m21, m22, m23, m24, m25, m26, m27, m28, m29, m30, m31, m32, m33, m34, m35, m36, m37, m38, m39, m40, m41, m42, m43, m44, m45, m46, m47, m48, m49]))] := hD
      obtain ⟨g_18, eg_18⟩ : ∃ y : Nat → Int32, y = upd rf p0.toNatClampNeg p1 := ⟨_, rfl⟩
      rw [← eg_18] at hP hD
      refine lv_aload_n hx hb dX9_setRoom_62 rfl (lv_at hl 1 rfl) ?_
      have hPc := hP.sub (ws' := [(h0, .inr (9, [.int 0, m1, m2, m3, m4, m5, m6, m7, m8, m9, m10, m11, m12, m13, .ref rm, m15, m16, m17, m18, m19, m20, m21, m22, m23, m24, m25, m26, m27, m28, m29, m30, m31, m32, m33, m34, m35, m36, m37, m38, m39, m40, m41, m42, m43, m44, m45, m46, m47, m48, m49]))]) [1] rfl
      have hDc := hD.sub (ws' := [(h0, .inr (9, [.int 0, m1, m2, m3, m4, m5, m6, m7, m8, m9, m10, m11, m12, m13, .ref rm, m15, m16, m17, m18, m19, m20, m21, m22, m23, m24, m25, m26, m27, m28, m29, m30, m31, m32, m33, m34, m35, m36, m37, m38, m39, m40, m41, m42, m43, m44, m45, m46, m47, m48, m49]))]) [1] (by decide) rfl
      have hFc := va_free (wc := [(h0, .inr (9, [.int 0, m1, m2, m3, m4, m5, m6, m7, m8, m9, m10, m11, m12, m13, .ref rm, m15, m16, m17, m18, m19, m20, m21, m22, m23, m24, m25, m26, m27, m28, m29, m30, m31, m32, m33, m34, m35, m36, m37, m38, m39, m40, m41, m42, m43, m44, m45, m46, m47, m48, m49]))]) hD hS hA [1] rfl
      refine va_callv (va_runV (As := []) (rest := []) ⟨hx, hb, hml, hown, hts⟩ (m_noSlots l g H.size h0 (.int 0) m1 m2 m3 m4 m5 m6 m7 m8 m9 m10 m11 m12 m13 (.ref rm) m15 m16 m17 m18 m19 m20 m21 m22 m23 m24 m25 m26 m27 m28 m29 m30 m31 m32 m33 m34 m35 m36 m37 m38 m39 m40 m41 m42 m43 m44 m45 m46 m47 m48 m49) (cwV 0 hts gX9_setRoom_X9_noSlots rfl rfl rfl (by decide +kernel) ⟨Nat.le_of_ble_eq_true rfl, Nat.le_of_ble_eq_true rfl⟩) ⟨xB.blind, va_recv hK hPc (ci := 9) (q0 := 0) rfl rfl, fun U9 hU9 hW9 => ⟨rfl, xB.mk hPc hK hDc hU9 hW9⟩⟩ rfl rfl hl.1 rfl (lv_room (Nat.le_of_ble_eq_true rfl)) dX9_setRoom_63 ⟨Nat.le_of_ble_eq_true rfl, Nat.le_of_ble_eq_true rfl⟩) hS (fun q _ h => hFc q h) hFc (fun u_20 t H1 locs ht hvm hw_21 hB hz1 hk1 hS => ?_)
      obtain ⟨w46_22, w47_23, w48_24, hP1, hK1, hD1⟩ := hB
      rw [ht] at hP1
      obtain ⟨hP, hD⟩ := va_join (wr := [(rm, .inl (xI g, 16, .inl g_18))]) (w1 := [(h0, .inr (9, [.int 0, m1, m2, m3, m4, m5, m6, m7, m8, m9, m10, m11, m12, m13, .ref rm, m15, m16, m17, m18, m19, m20, m21, m22, m23, m24, m25, m26, m27, m28, m29, m30, m31, m32, m33, m34, m35, m36, m37, .int 0, m39, .int 0, m41, m42, m43, m44, .int 0, .ref w46_22, .ref w47_23, .ref w48_24, .int 0]))]) hP hD [1] [0] rfl rfl (by decide) (by decide) hk1 hFc hP1 hD1
      generalize H1 = H at hP hS ⊢
      have hP : va_P (xD g) vwCl [(rm, .inl (xI g, 16, .inl g_18)), (h0, .inr (9, [.int 0, m1, m2, m3, m4, m5, m6, m7, m8, m9, m10, m11, m12, m13, .ref rm, m15, m16, m17, m18, m19, m20, m21, m22, m23, m24, m25, m26, m27, m28, m29, m30, m31, m32, m33, m34, m35, m36, m37, .int 0, m39, .int 0, m41, m42, m43, m44, .int 0, .ref w46_22, .ref w47_23, .ref w48_24, .int 0]))] H := hP
      have hD : va_D A [(rm, .inl (xI g, 16, .inl g_18)), (h0, .inr (9, [.int 0, m1, m2, m3, m4, m5, m6, m7, m8, m9, m10, m11, m12, m13, .ref rm, m15, m16, m17, m18, m19, m20, m21, m22, m23, m24, m25, m26, m27, m28, m29, m30, m31, m32, m33, m34, m35, m36, m37, .int 0, m39, .int 0, m41, m42, m43, m44, .int 0, .ref w46_22, .ref w47_23, .ref w48_24, .int 0]))] := hD
      refine W.widen (k := 3) (n := 96) (by omega) (by omega) ?_
      try dsimp only at hw_21
      refine lv_iload_n hx hb dX9_setRoom_66 rfl (lv_at hl 0 rfl) ?_
      have hP9 := hP.sub (ws' := [(h0, .inr (9, [.int 0, m1, m2, m3, m4, m5, m6, m7, m8, m9, m10, m11, m12, m13, .ref rm, m15, m16, m17, m18, m19, m20, m21, m22, m23, m24, m25, m26, m27, m28, m29, m30, m31, m32, m33, m34, m35, m36, m37, .int 0, m39, .int 0, m41, m42, m43, m44, .int 0, .ref w46_22, .ref w47_23, .ref w48_24, .int 0]))]) [1] rfl
      have hD9 := hD.sub (ws' := [(h0, .inr (9, [.int 0, m1, m2, m3, m4, m5, m6, m7, m8, m9, m10, m11, m12, m13, .ref rm, m15, m16, m17, m18, m19, m20, m21, m22, m23, m24, m25, m26, m27, m28, m29, m30, m31, m32, m33, m34, m35, m36, m37, .int 0, m39, .int 0, m41, m42, m43, m44, .int 0, .ref w46_22, .ref w47_23, .ref w48_24, .int 0]))]) [1] (by decide) rfl
      exact W.iret (v := v_17) hx hb hr (fun t ht hW => ⟨⟨v_17, 0, rfl, Or.inr (Or.inr ⟨rfl, by rw [ev_17]; exact hrf _ (Nat.not_le.mp fun q => ((vp_in_iff.mpr (by simp only [Int32.lt_iff_toInt_lt, Int32.reduceToInt] at *; omega)) : vp_in p0 16) (Or.inr q)), (by first | trivial | assumption | (refine ⟨?_, ?_⟩ <;> assumption) | (simp only [Int32.lt_iff_toInt_lt, Int32.le_iff_toInt_le, Int32.reduceToInt] at *; omega))⟩), ⟨m1, m2, m3, m4, m5, m6, m7, m8, m9, m10, m11, m12, m13, (.ref rm), m15, m16, m17, m18, m19, m20, m21, m22, m23, m24, m25, m26, m27, m28, m29, m30, m31, m32, m33, m34, m35, m36, m37, (.int 0), m39, (.int 0), m41, m42, m43, m44, (.int 0), (.ref w46_22), (.ref w47_23), (.ref w48_24), (.int 0), by rw [ht]; exact hP9, va_K.moved hW.alike hK, hD9⟩⟩, hS.F ht⟩) hS.2.2 dX9_setRoom_67
    · refine lv_if_ne (tgt := 38) hx hb dX9_setRoom_31 (by decide) (fun c0 => absurd (by decide) c0) (fun _ => ?_)
      refine lv_iconst (v := 1) hx hb dX9_setRoom_34 (by decide) ?_
      refine lv_goto (tgt := 39) hx hb dX9_setRoom_35 (by decide) ?_
      refine lv_iconst (v := 2) hx hb dX9_setRoom_39 (by decide) ?_
      have hPc := hP.sub (ws' := [(h0, .inr (9, [.int 0, m1, m2, m3, m4, m5, m6, m7, m8, m9, m10, m11, m12, m13, .ref rm, m15, m16, m17, m18, m19, m20, m21, m22, m23, m24, m25, m26, m27, m28, m29, m30, m31, m32, m33, m34, m35, m36, m37, m38, m39, m40, m41, m42, m43, m44, m45, m46, m47, m48, m49]))]) [1] rfl
      have hDc := hD.sub (ws' := [(h0, .inr (9, [.int 0, m1, m2, m3, m4, m5, m6, m7, m8, m9, m10, m11, m12, m13, .ref rm, m15, m16, m17, m18, m19, m20, m21, m22, m23, m24, m25, m26, m27, m28, m29, m30, m31, m32, m33, m34, m35, m36, m37, m38, m39, m40, m41, m42, m43, m44, m45, m46, m47, m48, m49]))]) [1] (by decide) rfl
      have hFc := va_free (wc := [(h0, .inr (9, [.int 0, m1, m2, m3, m4, m5, m6, m7, m8, m9, m10, m11, m12, m13, .ref rm, m15, m16, m17, m18, m19, m20, m21, m22, m23, m24, m25, m26, m27, m28, m29, m30, m31, m32, m33, m34, m35, m36, m37, m38, m39, m40, m41, m42, m43, m44, m45, m46, m47, m48, m49]))]) hD hS hA [1] rfl
      refine va_calli (va_runV (As := [.int 1, .int 2]) (rest := []) ⟨hx, hb, hml, hown, hts⟩ (m_refuse1 l g H.size h0 m1 m2 m3 m4 m5 m6 m7 m8 m9 m10 m11 m12 m13 (.ref rm) m15 m16 m17 m18 m19 m20 m21 m22 m23 m24 m25 m26 m27 m28 m29 m30 m31 m32 m33 m34 m35 m36 m37 m38 m39 m40 m41 m42 m43 m44 m45 m46 m47 m48 m49 2 (by first | assumption | decide | omega | simp_all)) (cwV 2 hts gX9_setRoom_X9_refuse rfl rfl rfl (by decide +kernel) ⟨Nat.le_of_ble_eq_true rfl, Nat.le_of_ble_eq_true rfl⟩) ⟨xB.blind, va_recv hK hPc (ci := 9) (q0 := 0) rfl rfl, fun U9 hU9 hW9 => ⟨rfl, xB.mk hPc hK hDc hU9 hW9⟩⟩ rfl rfl hl.1 rfl (lv_room (Nat.le_of_ble_eq_true rfl)) dX9_setRoom_40 ⟨Nat.le_of_ble_eq_true rfl, Nat.le_of_ble_eq_true rfl⟩) hS (fun q _ h => hFc q h) hFc (fun r_25 u_26 t H1 locs ht hvm hw_27 hB hz1 hk1 hS => ?_)
      obtain ⟨hP1, hK1, hD1⟩ := hB
      rw [ht] at hP1
      obtain ⟨hP, hD⟩ := va_join (wr := [(rm, .inl (xI g, 16, .inl rf))]) (w1 := [(h0, .inr (9, [.int 2, m1, m2, m3, m4, m5, m6, m7, m8, m9, m10, m11, m12, m13, .ref rm, m15, m16, m17, m18, m19, m20, m21, m22, m23, m24, m25, m26, m27, m28, m29, m30, m31, m32, m33, m34, m35, m36, m37, m38, m39, m40, m41, m42, m43, m44, m45, m46, m47, m48, m49]))]) hP hD [1] [0] rfl rfl (by decide) (by decide) hk1 hFc hP1 hD1
      generalize H1 = H at hP hS ⊢
      have hP : va_P (xD g) vwCl [(rm, .inl (xI g, 16, .inl rf)), (h0, .inr (9, [.int 2, m1, m2, m3, m4, m5, m6, m7, m8, m9, m10, m11, m12, m13, .ref rm, m15, m16, m17, m18, m19, m20, m21, m22, m23, m24, m25, m26, m27, m28, m29, m30, m31, m32, m33, m34, m35, m36, m37, m38, m39, m40, m41, m42, m43, m44, m45, m46, m47, m48, m49]))] H := hP
      have hD : va_D A [(rm, .inl (xI g, 16, .inl rf)), (h0, .inr (9, [.int 2, m1, m2, m3, m4, m5, m6, m7, m8, m9, m10, m11, m12, m13, .ref rm, m15, m16, m17, m18, m19, m20, m21, m22, m23, m24, m25, m26, m27, m28, m29, m30, m31, m32, m33, m34, m35, m36, m37, m38, m39, m40, m41, m42, m43, m44, m45, m46, m47, m48, m49]))] := hD
      try dsimp only at hw_27
      obtain rfl := hw_27
      refine lv_if_eq (tgt := 48) hx hb dX9_setRoom_43 (by decide) (fun c0 => absurd c0 (by decide)) (fun _ => ?_)
      refine lv_iconst (v := 0) hx hb dX9_setRoom_46 (by decide) ?_
      refine W.widen (k := 3) (n := 96) (by omega) (by omega) ?_
      have hP9 := hP.sub (ws' := [(h0, .inr (9, [.int 2, m1, m2, m3, m4, m5, m6, m7, m8, m9, m10, m11, m12, m13, .ref rm, m15, m16, m17, m18, m19, m20, m21, m22, m23, m24, m25, m26, m27, m28, m29, m30, m31, m32, m33, m34, m35, m36, m37, m38, m39, m40, m41, m42, m43, m44, m45, m46, m47, m48, m49]))]) [1] rfl
      have hD9 := hD.sub (ws' := [(h0, .inr (9, [.int 2, m1, m2, m3, m4, m5, m6, m7, m8, m9, m10, m11, m12, m13, .ref rm, m15, m16, m17, m18, m19, m20, m21, m22, m23, m24, m25, m26, m27, m28, m29, m30, m31, m32, m33, m34, m35, m36, m37, m38, m39, m40, m41, m42, m43, m44, m45, m46, m47, m48, m49]))]) [1] (by decide) rfl
      exact W.iret (v := 0) hx hb hr (fun t ht hW => ⟨⟨0, 2, rfl, Or.inr (Or.inl (⟨rfl, (by first | trivial | assumption | (refine ⟨?_, ?_⟩ <;> assumption) | (simp only [Int32.lt_iff_toInt_lt, Int32.le_iff_toInt_le, Int32.reduceToInt] at *; omega))⟩)), ⟨m1, m2, m3, m4, m5, m6, m7, m8, m9, m10, m11, m12, m13, (.ref rm), m15, m16, m17, m18, m19, m20, m21, m22, m23, m24, m25, m26, m27, m28, m29, m30, m31, m32, m33, m34, m35, m36, m37, m38, m39, m40, m41, m42, m43, m44, m45, m46, m47, m48, m49, by rw [ht]; exact hP9, va_K.moved hW.alike hK, hD9⟩⟩, hS.F ht⟩) hS.2.2 dX9_setRoom_47
  · refine lv_if_ne (tgt := 15) hx hb dX9_setRoom_8 (by decide) (fun c0 => absurd (by decide) c0) (fun _ => ?_)
    refine lv_iconst (v := 1) hx hb dX9_setRoom_11 (by decide) ?_
    refine lv_goto (tgt := 16) hx hb dX9_setRoom_12 (by decide) ?_
    refine lv_iconst (v := 1) hx hb dX9_setRoom_16 (by decide) ?_
    have hPc := hP.sub (ws' := [(h0, .inr (9, [m0, m1, m2, m3, m4, m5, m6, m7, m8, m9, m10, m11, m12, m13, .ref rm, m15, m16, m17, m18, m19, m20, m21, m22, m23, m24, m25, m26, m27, m28, m29, m30, m31, m32, m33, m34, m35, m36, m37, m38, m39, m40, m41, m42, m43, m44, m45, m46, m47, m48, m49]))]) [0] rfl
    have hDc := hD.sub (ws' := [(h0, .inr (9, [m0, m1, m2, m3, m4, m5, m6, m7, m8, m9, m10, m11, m12, m13, .ref rm, m15, m16, m17, m18, m19, m20, m21, m22, m23, m24, m25, m26, m27, m28, m29, m30, m31, m32, m33, m34, m35, m36, m37, m38, m39, m40, m41, m42, m43, m44, m45, m46, m47, m48, m49]))]) [0] (by decide) rfl
    have hFc := va_free (wc := [(h0, .inr (9, [m0, m1, m2, m3, m4, m5, m6, m7, m8, m9, m10, m11, m12, m13, .ref rm, m15, m16, m17, m18, m19, m20, m21, m22, m23, m24, m25, m26, m27, m28, m29, m30, m31, m32, m33, m34, m35, m36, m37, m38, m39, m40, m41, m42, m43, m44, m45, m46, m47, m48, m49]))]) hD hS hA [0] rfl
    refine va_calli (va_runV (As := [.int 1, .int 1]) (rest := []) ⟨hx, hb, hml, hown, hts⟩ (m_start1 l g H.size h0 m0 m1 m2 m3 m4 m5 m6 m7 m8 m9 m10 m11 m12 m13 (.ref rm) m15 m16 m17 m18 m19 m20 m21 m22 m23 m24 m25 m26 m27 m28 m29 m30 m31 m32 m33 m34 m35 m36 m37 m38 m39 m40 m41 m42 m43 m44 m45 m46 m47 m48 m49 1 (by first | assumption | decide | omega | simp_all)) (cwV 2 hts gX9_setRoom_X9_start rfl rfl rfl (by decide +kernel) ⟨Nat.le_of_ble_eq_true rfl, Nat.le_of_ble_eq_true rfl⟩) ⟨xB.blind, va_recv hK hPc (ci := 9) (q0 := 0) rfl rfl, fun U9 hU9 hW9 => ⟨rfl, xB.mk hPc hK hDc hU9 hW9⟩⟩ rfl rfl hl.1 rfl (lv_room (Nat.le_of_ble_eq_true rfl)) dX9_setRoom_17 ⟨Nat.le_of_ble_eq_true rfl, Nat.le_of_ble_eq_true rfl⟩) hS (fun q _ h => hFc q h) hFc (fun r_28 u_29 t H1 locs ht hvm hw_30 hB hz1 hk1 hS => ?_)
    obtain ⟨hP1, hK1, hD1⟩ := hB
    rw [ht] at hP1
    obtain ⟨hP, hD⟩ := va_join (wr := [(rm, .inl (xI g, 16, .inl rf))]) (w1 := [(h0, .inr (9, [.int 1, m1, m2, m3, m4, m5, m6, m7, m8, m9, m10, m11, m12, m13, .ref rm, m15, m16, m17, m18, m19, m20, m21, m22, m23, m24, m25, m26, m27, m28, m29, m30, m31, m32, m33, m34, m35, m36, m37, m38, m39, m40, m41, m42, m43, m44, m45, m46, m47, m48, m49]))]) hP hD [0] [1] rfl rfl (by decide) (by decide) hk1 hFc hP1 hD1
    generalize H1 = H at hP hS ⊢
    have hP : va_P (xD g) vwCl [(rm, .inl (xI g, 16, .inl rf)), (h0, .inr (9, [.int 1, m1, m2, m3, m4, m5, m6, m7, m8, m9, m10, m11, m12, m13, .ref rm, m15, m16, m17, m18, m19, m20, m21, m22, m23, m24, m25, m26, m27, m28, m29, m30, m31, m32, m33, m34, m35, m36, m37, m38, m39, m40, m41, m42, m43, m44, m45, m46, m47, m48, m49]))] H := hP
    have hD : va_D A [(rm, .inl (xI g, 16, .inl rf)), (h0, .inr (9, [.int 1, m1, m2, m3, m4, m5, m6, m7, m8, m9, m10, m11, m12, m13, .ref rm, m15, m16, m17, m18, m19, m20, m21, m22, m23, m24, m25, m26, m27, m28, m29, m30, m31, m32, m33, m34, m35, m36, m37, m38, m39, m40, m41, m42, m43, m44, m45, m46, m47, m48, m49]))] := hD
    try dsimp only at hw_30
    obtain rfl := hw_30
    refine lv_if_ne (tgt := 46) hx hb dX9_setRoom_20 (by decide) (fun _ => ?_) (fun c0 => absurd c0 (by decide))
    refine lv_iconst (v := 0) hx hb dX9_setRoom_46 (by decide) ?_
    refine W.widen (k := 3) (n := 96) (by omega) (by omega) ?_
    have hP9 := hP.sub (ws' := [(h0, .inr (9, [.int 1, m1, m2, m3, m4, m5, m6, m7, m8, m9, m10, m11, m12, m13, .ref rm, m15, m16, m17, m18, m19, m20, m21, m22, m23, m24, m25, m26, m27, m28, m29, m30, m31, m32, m33, m34, m35, m36, m37, m38, m39, m40, m41, m42, m43, m44, m45, m46, m47, m48, m49]))]) [1] rfl
    have hD9 := hD.sub (ws' := [(h0, .inr (9, [.int 1, m1, m2, m3, m4, m5, m6, m7, m8, m9, m10, m11, m12, m13, .ref rm, m15, m16, m17, m18, m19, m20, m21, m22, m23, m24, m25, m26, m27, m28, m29, m30, m31, m32, m33, m34, m35, m36, m37, m38, m39, m40, m41, m42, m43, m44, m45, m46, m47, m48, m49]))]) [1] (by decide) rfl
    exact W.iret (v := 0) hx hb hr (fun t ht hW => ⟨⟨0, 1, rfl, Or.inl (⟨rfl, (by first | trivial | assumption | (refine ⟨?_, ?_⟩ <;> assumption) | (simp only [Int32.lt_iff_toInt_lt, Int32.le_iff_toInt_le, Int32.reduceToInt] at *; omega))⟩), ⟨m1, m2, m3, m4, m5, m6, m7, m8, m9, m10, m11, m12, m13, (.ref rm), m15, m16, m17, m18, m19, m20, m21, m22, m23, m24, m25, m26, m27, m28, m29, m30, m31, m32, m33, m34, m35, m36, m37, m38, m39, m40, m41, m42, m43, m44, m45, m46, m47, m48, m49, by rw [ht]; exact hP9, va_K.moved hW.alike hK, hD9⟩⟩, hS.F ht⟩) hS.2.2 dX9_setRoom_47
