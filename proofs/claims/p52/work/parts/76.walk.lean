/-! A vessel's ranges, as numbers alone. -/
theorem zU2_at {f : Nat → Nat → Int} {i k : Nat} {v : Int} (j : Nat) : zU2 f i k v i j = zU (f i) k v j := by simp only [zU2, if_true]
theorem zU2_ne {f : Nat → Nat → Int} {i k a : Nat} {v : Int} (h : a ≠ i) (j : Nat) : zU2 f i k v a j = f a j := by simp only [zU2, if_neg h]
def vTk (w : Nat → Int) (x : Nat) : Int := if 1 < w x then w x else 1
theorem vTk_bd {w : Nat → Int} (h : ∀ j, 0 ≤ w j ∧ w j ≤ 100) (x : Nat) : 1 ≤ vTk w x ∧ vTk w x ≤ 100 := by
  have h1 := h x
  unfold vTk; split <;> omega
/-- the table of least loads, its rows below r -/
def vTb (z : Nat → Nat → Int) (n r : Nat) : Prop :=
  (∀ x, x < n → z 0 x = 1000000) ∧ z 0 n = 0 ∧ (∀ q, 1 ≤ q → q < r → z q n = 1000000) ∧
  (∀ q y, 1 ≤ q → q < r → y < n → z q y < 1000000 → ∃ x, y < x ∧ x ≤ n ∧ z (q - 1) x ≤ z q y) ∧ (1 < r → z 1 0 ≤ 20000)
/-- and k of row r -/
def vTi (z : Nat → Nat → Int) (n r k : Nat) : Prop :=
  vTb z n r ∧ z r n = 1000000 ∧ (∀ y, y < k → z r y < 1000000 → ∃ x, y < x ∧ x ≤ n ∧ z (r - 1) x ≤ z r y) ∧ (r = 1 → 0 < k → z 1 0 ≤ 20000)
/-- the first bays of the ranges -/
def vRg (f : Nat → Nat) (R n : Nat) : Prop := f 0 = 0 ∧ (∀ i, i < R → f i < n) ∧ ∀ i, i + 1 < R → f i < f (i + 1)
def vSt (f : Nat → Nat) (n R : Nat) (hd wt : Int) : Prop := 1 ≤ R ∧ R ≤ 4 ∧ vRg f R n ∧ 1 ≤ hd ∧ hd ≤ 10100 ∧ 0 ≤ wt ∧ wt ≤ 40000
/-- a load that can come about has its end -/
def vEx (z : Nat → Nat → Int) (r F b : Nat) (u : Int) : Prop := u < 1000000 → ∃ x, F < x ∧ x ≤ b ∧ z (r - 1) x ≤ u
theorem vEx_step {z : Nat → Nat → Int} {r F b : Nat} {u u1 u2 : Int} (h : vEx z r F b u) (hb : F ≤ b) (h1 : u2 = u ∨ u2 = u1) (h2 : z (r - 1) (b + 1) ≤ u1) : vEx z r F (b + 1) u2 := fun q => by
  rcases h1 with h1 | h1
  · obtain ⟨x, x1, x2, x3⟩ := h (by omega)
    exact ⟨x, x1, by omega, by omega⟩
  · exact ⟨b + 1, by omega, Nat.le_refl _, by omega⟩
section VT
variable {z : Nat → Nat → Int} {n r k : Nat}
theorem vTb_up {v : Int} (h : vTb z n r) (hr : 1 ≤ r) : vTb (zU2 z r k v) n r := by
  obtain ⟨h1, h2, h3, h4, h5⟩ := h
  refine ⟨fun x hx => by rw [zU2_ne (by omega)]; exact h1 x hx, by rw [zU2_ne (by omega)]; exact h2, fun q hq hq2 => by rw [zU2_ne (by omega)]; exact h3 q hq hq2, fun q y hq hq2 hy hz => ?_, fun q => by rw [zU2_ne (by omega)]; exact h5 q⟩
  rw [zU2_ne (show q ≠ r by omega)] at hz
  obtain ⟨x, x1, x2, x3⟩ := h4 q y hq hq2 hy hz
  exact ⟨x, x1, x2, by rw [zU2_ne (show q - 1 ≠ r by omega), zU2_ne (show q ≠ r by omega)]; exact x3⟩
theorem vTi_start (h : vTb z n r) (hr : 1 ≤ r) : vTi (zU2 z r n 1000000) n r 0 :=
  ⟨vTb_up h hr, by rw [zU2_at, zU_at], fun y hy => absurd hy (Nat.not_lt_zero _), fun _ q => absurd q (Nat.lt_irrefl _)⟩
theorem vTi_step {u : Int} (h : vTi z n r k) (hr : 1 ≤ r) (hk : k < n) (h1 : u < 1000000 → ∃ x, k < x ∧ x ≤ n ∧ z (r - 1) x ≤ u) (h2 : u ≤ 20000 ∨ u ≤ z (r - 1) n) : vTi (zU2 z r k u) n r (k + 1) := by
  obtain ⟨a1, a2, a3, a4⟩ := h
  refine ⟨vTb_up a1 hr, by rw [zU2_at, zU_ne (show n ≠ k by omega)]; exact a2, fun y hy hz => ?_, fun q _ => ?_⟩
  · rw [zU2_at] at hz ⊢
    by_cases q : y = k
    · rw [q, zU_at] at hz
      obtain ⟨x, x1, x2, x3⟩ := h1 hz
      exact ⟨x, by omega, x2, by rw [q, zU_at, zU2_ne (show r - 1 ≠ r by omega)]; exact x3⟩
    · rw [zU_ne q] at hz
      obtain ⟨x, x1, x2, x3⟩ := a3 y (by omega) hz
      exact ⟨x, x1, x2, by rw [zU_ne q, zU2_ne (show r - 1 ≠ r by omega)]; exact x3⟩
  · subst q
    rw [zU2_at]
    by_cases q : k = 0
    · rw [← q, zU_at]
      rcases h2 with h2 | h2
      · exact h2
      · have z2 := a1.2.1
        rw [show (1 : Nat) - 1 = 0 from rfl, z2] at h2
        omega
    · rw [zU_ne (fun e => q e.symm)]; exact a4 rfl (by omega)
theorem vTi_end (h : vTi z n r n) (hr : 1 ≤ r) (hn : 0 < n) : vTb z n (r + 1) := by
  obtain ⟨⟨h1, h2, h3, h4, h5⟩, a2, a3, a4⟩ := h
  refine ⟨h1, h2, fun q hq hq2 => ?_, fun q y hq hq2 hy hz => ?_, fun _ => ?_⟩
  · by_cases e : q = r
    · rw [e]; exact a2
    · exact h3 q hq (by omega)
  · by_cases e : q = r
    · rw [e] at hz ⊢; exact a3 y hy hz
    · exact h4 q y hq (by omega) hy hz
  · by_cases e : r = 1
    · exact a4 e hn
    · exact h5 (by omega)
theorem vTb_next {f W q : Nat} {gl : Int} (h : vTb z n (W + 1)) (hq : 2 ≤ q) (hW : q ≤ W) (hf : f < n) (hl : z q f ≤ gl) (hg : gl < 1000000) : ∃ y, f < y ∧ y < n ∧ z (q - 1) y ≤ gl := by
  obtain ⟨x, x1, x2, x3⟩ := h.2.2.2.1 q f (by omega) (by omega) hf (by omega)
  have h3 := h.2.2.1 (q - 1) (by omega) (by omega)
  refine ⟨x, x1, ?_, by omega⟩
  rcases Nat.lt_or_ge x n with a | a
  · exact a
  · have : x = n := by omega
    rw [this] at x3
    omega
end VT
theorem dX6_ticksIn_0 : decode cX6_ticksIn 0 = .ok (.iconst 1, 1) := by decide +kernel
theorem dX6_ticksIn_1 : decode cX6_ticksIn 1 = .ok (.aload_n 0, 1) := by decide +kernel
theorem dX6_ticksIn_2 : decode cX6_ticksIn 2 = .ok (.getfield 9, 3) := by decide +kernel
theorem dX6_ticksIn_5 : decode cX6_ticksIn 5 = .ok (.iload_n 1, 1) := by decide +kernel
theorem dX6_ticksIn_6 : decode cX6_ticksIn 6 = .ok (.iaload, 1) := by decide +kernel
theorem dX6_ticksIn_7 : decode cX6_ticksIn 7 = .ok (.invokestatic 21, 3) := by decide +kernel
theorem dX6_ticksIn_10 : decode cX6_ticksIn 10 = .ok (.ireturn, 1) := by decide +kernel
set_option maxHeartbeats 4000000 in
set_option maxRecDepth 100000 in
theorem s_ticksIn (l : Launch) (g : xG) (sz : Nat) (ve : Nat) (wb : Nat) (x : Nat) (v0 : Value) (v1 : Value) (v2 : Value) (v3 : Value) (v4 : Value) (v5 : Value) (v6 : Value) (v7 : Value) (v9 : Value) (v10 : Value) (wbz : Nat → Int)  (hx10 : x < 10) (b_wbz : ∀ j, 0 ≤ wbz j ∧ wbz j ≤ 100) : Met l yX6_ticksIn wsX6_ticksIn ({ frames := 1, cells := 0, slots := 0, locals := 24 }) (va_Pc [.ref ve, .int (nI x)] (fun U => xB g [(ve, .inr (6, [v0, v1, v2, v3, v4, v5, v6, v7, .ref wb, v9, v10])), (wb, .inl (xI g, 10, .inl (fun j => iI (wbz j))))] sz U)) (va_Qi (fun (r : Int32) (_ : Unit) => r = iI (vTk wbz x)) (fun (_ : Unit) (_ : State) => True) (va_A [] sz)) 0 0 (va_A [] sz) := by
  refine Met.ofW (cc := cX6_ticksIn) (maxL := 2) (ret := (some .int)) (by decide) rfl ?_
  intro p e s m args below meth c s₁ B hml hv
  obtain ⟨rfl, hsz, hP, hK, hD0⟩ := hv
  have hx := B.exec
  have hb := B.bytes
  have hr := B.returns
  have hts := atoms_spec (ws := wsX6_ticksIn) B.pre
  have hown : s.vm.findClass RX6 = some m.cls := findClass_of_methodNamed B.named
  have hlocks := B.notSynchronized
  subst hsz
  have hD := hD0
  generalize hAe : va_A [] s.heap.size = A
  have hA : ∀ q : Nat, s.heap.size ≤ q → A q := fun q h => by rw [← hAe]; exact Or.inr h
  have hS : va_S A s.heap s.heap [] := va_S.rf
  have hl := lv_entry ([.ref ve, .int (nI x)]) (n := 2) (Nat.le_of_ble_eq_true rfl)
  rw [lg_entry_eq]
  generalize (lg_sl ([.ref ve, .int (nI x)]) ++ List.replicate (2 - (lg_sl ([.ref ve, .int (nI x)])).length) Slot.unset).toArray = ls at hl ⊢
  have hl : lv_has ls 2 [(0, .ref ve), (1, .int (nI x))] := hl
  have hFX6 : ∀ w ∈ u_ws RX6 TX6 11, w ∈ wsX6_ticksIn := by decide +kernel
  refine lv_iconst (v := 1) hx hb dX6_ticksIn_0 (by decide) ?_
  refine lv_aload_n hx hb dX6_ticksIn_1 rfl (lv_at hl 0 rfl) ?_
  refine va_get (D := xD g) (ci := 6) (v := .ref wb) (C := RX6) (T := TX6) (N := 11) hx hb hts hFX6 hown hK hP 0 rfl rfl 8 (by decide) (hts (.fieldLink RX6 9 "Stevedore$Vessel" "workOfBay" "[I") (by decide +kernel)) (fun _ h9 => h9) rfl dX6_ticksIn_2 ?_
  refine lv_iload_n hx hb dX6_ticksIn_5 rfl (lv_at hl 1 rfl) ?_
  refine va_iald hx hb hK hP 1 0 rfl rfl (vp_in_nI (by omega) (by omega)) dX6_ticksIn_6 ?_
  refine lv_topi (fun v_1 ev => ?_)
  obtain rfl : v_1 = iI (wbz x) := ev.trans (congrArg (fun q9 => iI (wbz q9)) (nI_clamp (by omega)))
  have b_2 := b_wbz x
  refine va_mmax hx hb (by rw [hml]; exact hl.1.symm) hown (hts (.methodLink RX6 21 Lib.Math.max.name) (by decide +kernel)) (hts (.static Lib.Math.max.name) (by decide +kernel)) (hts (.initialized "java/lang/Math") (by decide +kernel)) (hts (.code Lib.Math.max.name Lib.Math.max.code 2 (some .int)) (by decide +kernel)) (Nat.le_of_ble_eq_true rfl) (Nat.le_of_ble_eq_true rfl) (Nat.le_of_ble_eq_true rfl) (Nat.le_of_ble_eq_true rfl) dX6_ticksIn_7 ?_
  refine lv_topi (fun v_4 ev => ?_)
  obtain rfl : v_4 = iI (if 1 < wbz x then wbz x else 1) := ev.trans (iI_max (by decide) rfl (by omega))
  obtain ⟨z_3, ez_3⟩ : ∃ y : Int, y = if 1 < wbz x then wbz x else 1 := ⟨_, rfl⟩
  rw [← ez_3]
  have fz_3 : 1 ≤ z_3 ∧ wbz x ≤ z_3 ∧ (z_3 = 1 ∨ z_3 = wbz x) := by rw [ez_3]; split <;> omega
  exact W.iret (v := iI z_3) hx hb hr (fun t ht hW => ⟨⟨iI z_3, (), rfl, (by rw [ez_3]; rfl), trivial⟩, hS.F ht⟩) hS.2.2 dX6_ticksIn_10
theorem dX6_end_0 : decode cX6_end 0 = .ok (.aload_n 0, 1) := by decide +kernel
theorem dX6_end_1 : decode cX6_end 1 = .ok (.getfield 18, 3) := by decide +kernel
theorem dX6_end_4 : decode cX6_end 4 = .ok (.iload_n 1, 1) := by decide +kernel
theorem dX6_end_5 : decode cX6_end 5 = .ok (.iaload, 1) := by decide +kernel
theorem dX6_end_6 : decode cX6_end 6 = .ok (.aload_n 0, 1) := by decide +kernel
theorem dX6_end_7 : decode cX6_end 7 = .ok (.iload_n 1, 1) := by decide +kernel
theorem dX6_end_8 : decode cX6_end 8 = .ok (.invokevirtual 27, 3) := by decide +kernel
set_option maxRecDepth 20000 in
theorem ggX6_end_X6_ticksIn : GoodIn wsX6_end wsX6_ticksIn := goodIn_r _ [6, 7, 8, 9, 10, 11, 12, 13, 14, 15, 16, 17, 18, 19, 20, 21, 22] rfl (by decide +kernel)
set_option maxRecDepth 20000 in
theorem gX6_end_X6_ticksIn : GoodIn wsX6_end (wsV RX6 27 RX6 yX6_ticksIn wsX6_ticksIn) := goodIn_app (goodIn_of _ (by decide +kernel)) ggX6_end_X6_ticksIn
theorem dX6_end_11 : decode cX6_end 11 = .ok (.iadd, 1) := by decide +kernel
theorem dX6_end_12 : decode cX6_end 12 = .ok (.ireturn, 1) := by decide +kernel
set_option maxHeartbeats 4000000 in
set_option maxRecDepth 100000 in
theorem s_end (l : Launch) (g : xG) (sz : Nat) (ve : Nat) (wb : Nat) (bg : Nat) (x : Nat) (v0 : Value) (v1 : Value) (v2 : Value) (v3 : Value) (v4 : Value) (v5 : Value) (v6 : Value) (v7 : Value) (v9 : Value) (wbz : Nat → Int) (bgz : Nat → Int)  (hx10 : x < 10) (b_wbz : ∀ j, 0 ≤ wbz j ∧ wbz j ≤ 100) (b_bgz : ∀ j, 0 ≤ bgz j ∧ bgz j ≤ 10000) : Met l yX6_end wsX6_end ({ frames := 2, cells := 0, slots := 0, locals := 45 }) (va_Pc [.ref ve, .int (nI x)] (fun U => xB g [(ve, .inr (6, [v0, v1, v2, v3, v4, v5, v6, v7, .ref wb, v9, .ref bg])), (wb, .inl (xI g, 10, .inl (fun j => iI (wbz j)))), (bg, .inl (xI g, 10, .inl (fun j => iI (bgz j))))] sz U)) (va_Qi (fun (r : Int32) (_ : Unit) => r = iI (bgz x + vTk wbz x)) (fun (_ : Unit) (_ : State) => True) (va_A [] sz)) 0 0 (va_A [] sz) := by
  refine Met.ofW (cc := cX6_end) (maxL := 2) (ret := (some .int)) (by decide) rfl ?_
  intro p e s m args below meth c s₁ B hml hv
  obtain ⟨rfl, hsz, hP, hK, hD0⟩ := hv
  have hx := B.exec
  have hb := B.bytes
  have hr := B.returns
  have hts := atoms_spec (ws := wsX6_end) B.pre
  have hown : s.vm.findClass RX6 = some m.cls := findClass_of_methodNamed B.named
  have hlocks := B.notSynchronized
  subst hsz
  have hD := hD0
  generalize hAe : va_A [] s.heap.size = A
  have hA : ∀ q : Nat, s.heap.size ≤ q → A q := fun q h => by rw [← hAe]; exact Or.inr h
  have hS : va_S A s.heap s.heap [] := va_S.rf
  have hl := lv_entry ([.ref ve, .int (nI x)]) (n := 2) (Nat.le_of_ble_eq_true rfl)
  rw [lg_entry_eq]
  generalize (lg_sl ([.ref ve, .int (nI x)]) ++ List.replicate (2 - (lg_sl ([.ref ve, .int (nI x)])).length) Slot.unset).toArray = ls at hl ⊢
  have hl : lv_has ls 2 [(0, .ref ve), (1, .int (nI x))] := hl
  have hFX6 : ∀ w ∈ u_ws RX6 TX6 11, w ∈ wsX6_end := by decide +kernel
  refine lv_aload_n hx hb dX6_end_0 rfl (lv_at hl 0 rfl) ?_
  refine va_get (D := xD g) (ci := 6) (v := .ref bg) (C := RX6) (T := TX6) (N := 11) hx hb hts hFX6 hown hK hP 0 rfl rfl 10 (by decide) (hts (.fieldLink RX6 18 "Stevedore$Vessel" "begin" "[I") (by decide +kernel)) (fun _ h9 => h9) rfl dX6_end_1 ?_
  refine lv_iload_n hx hb dX6_end_4 rfl (lv_at hl 1 rfl) ?_
  refine va_iald hx hb hK hP 2 0 rfl rfl (vp_in_nI (by omega) (by omega)) dX6_end_5 ?_
  refine lv_topi (fun v_1 ev => ?_)
  obtain rfl : v_1 = iI (bgz x) := ev.trans (congrArg (fun q9 => iI (bgz q9)) (nI_clamp (by omega)))
  have b_2 := b_bgz x
  refine lv_aload_n hx hb dX6_end_6 rfl (lv_at hl 0 rfl) ?_
  refine lv_iload_n hx hb dX6_end_7 rfl (lv_at hl 1 rfl) ?_
  have hPc := hP.sub (ws' := [(ve, .inr (6, [v0, v1, v2, v3, v4, v5, v6, v7, .ref wb, v9, .ref bg])), (wb, .inl (xI g, 10, .inl (fun j => iI (wbz j))))]) [0, 1] rfl
  have hDc := hD.sub (ws' := [(ve, .inr (6, [v0, v1, v2, v3, v4, v5, v6, v7, .ref wb, v9, .ref bg])), (wb, .inl (xI g, 10, .inl (fun j => iI (wbz j))))]) [0, 1] (by decide) rfl
  have hFc := xFree hS hA
  refine va_calli (va_runV (As := [.int (nI x)]) (rest := [.int (iI (bgz x))]) ⟨hx, hb, hml, hown, hts⟩ (s_ticksIn l g s.heap.size ve wb x v0 v1 v2 v3 v4 v5 v6 v7 v9 (.ref bg) wbz (by first | assumption | omega) b_wbz) (cwV 1 hts gX6_end_X6_ticksIn rfl rfl rfl (by decide +kernel) ⟨Nat.le_of_ble_eq_true rfl, Nat.le_of_ble_eq_true rfl⟩) ⟨xB.blind, va_recv hK hPc (ci := 6) (q0 := 0) rfl rfl, fun U9 hU9 hW9 => ⟨rfl, xB.mk hPc hK hDc hU9 hW9⟩⟩ rfl rfl hl.1 rfl (lv_room (Nat.le_of_ble_eq_true rfl)) dX6_end_8 ⟨Nat.le_of_ble_eq_true rfl, Nat.le_of_ble_eq_true rfl⟩) hS (fun q _ h => hFc q h) hFc (fun r_3 _ t H1 locs ht hvm hw_4 hB hz1 hk1 hS => ?_)
  have hP := xSame hP hk1
  generalize H1 = H at hP hS ⊢
  have hP : va_P (xD g) vwCl [(ve, .inr (6, [v0, v1, v2, v3, v4, v5, v6, v7, .ref wb, v9, .ref bg])), (wb, .inl (xI g, 10, .inl (fun j => iI (wbz j)))), (bg, .inl (xI g, 10, .inl (fun j => iI (bgz j))))] H := hP
  have hD : va_D (fun _ => True) [(ve, .inr (6, [v0, v1, v2, v3, v4, v5, v6, v7, .ref wb, v9, .ref bg])), (wb, .inl (xI g, 10, .inl (fun j => iI (wbz j)))), (bg, .inl (xI g, 10, .inl (fun j => iI (bgz j))))] := hD
  try dsimp only at hw_4
  obtain rfl : r_3 = iI (vTk wbz x) := hw_4
  refine lv_iadd hx hb dX6_end_11 ?_
  refine lv_topi (fun v_5 ev => ?_)
  obtain rfl : v_5 = iI (bgz x + (vTk wbz x)) := ev.trans (iA rfl rfl)
  exact W.iret (v := iI (bgz x + (vTk wbz x))) hx hb hr (fun t ht hW => ⟨⟨iI (bgz x + (vTk wbz x)), (), rfl, (by first | trivial | rfl | assumption | omega), trivial⟩, hS.F ht⟩) hS.2.2 dX6_end_12
theorem dX6_endOfRange_0 : decode cX6_endOfRange 0 = .ok (.iload_n 1, 1) := by decide +kernel
theorem dX6_endOfRange_1 : decode cX6_endOfRange 1 = .ok (.iconst 1, 1) := by decide +kernel
theorem dX6_endOfRange_2 : decode cX6_endOfRange 2 = .ok (.iadd, 1) := by decide +kernel
theorem dX6_endOfRange_3 : decode cX6_endOfRange 3 = .ok (.aload_n 0, 1) := by decide +kernel
theorem dX6_endOfRange_4 : decode cX6_endOfRange 4 = .ok (.getfield 31, 3) := by decide +kernel
theorem dX6_endOfRange_7 : decode cX6_endOfRange 7 = .ok (.if_icmp .ge 14, 3) := by decide +kernel
theorem dX6_endOfRange_21 : decode cX6_endOfRange 21 = .ok (.aload_n 0, 1) := by decide +kernel
theorem dX6_endOfRange_22 : decode cX6_endOfRange 22 = .ok (.getfield 35, 3) := by decide +kernel
theorem dX6_endOfRange_25 : decode cX6_endOfRange 25 = .ok (.ireturn, 1) := by decide +kernel
theorem dX6_endOfRange_10 : decode cX6_endOfRange 10 = .ok (.aload_n 0, 1) := by decide +kernel
theorem dX6_endOfRange_11 : decode cX6_endOfRange 11 = .ok (.getfield 15, 3) := by decide +kernel
theorem dX6_endOfRange_14 : decode cX6_endOfRange 14 = .ok (.iload_n 1, 1) := by decide +kernel
theorem dX6_endOfRange_15 : decode cX6_endOfRange 15 = .ok (.iconst 1, 1) := by decide +kernel
theorem dX6_endOfRange_16 : decode cX6_endOfRange 16 = .ok (.iadd, 1) := by decide +kernel
theorem dX6_endOfRange_17 : decode cX6_endOfRange 17 = .ok (.iaload, 1) := by decide +kernel
theorem dX6_endOfRange_18 : decode cX6_endOfRange 18 = .ok (.goto 7, 3) := by decide +kernel
set_option maxHeartbeats 4000000 in
set_option maxRecDepth 100000 in
theorem s_endOfRange (l : Launch) (g : xG) (sz : Nat) (ve : Nat) (fr : Nat) (Nb : Nat) (R : Nat) (x : Nat) (v0 : Value) (v2 : Value) (v3 : Value) (v5 : Value) (v6 : Value) (v7 : Value) (v8 : Value) (v10 : Value) (frh : Nat → Nat)  (hx4 : x < 4) (hR4 : R ≤ 4) (b_frh : ∀ j, frh j ≤ 10) : Met l yX6_endOfRange wsX6_endOfRange ({ frames := 0, cells := 0, slots := 0, locals := 0 }) (va_Pc [.ref ve, .int (nI x)] (fun U => xB g [(ve, .inr (6, [v0, .int (nI Nb), v2, v3, .int (nI R), v5, v6, v7, v8, .ref fr, v10])), (fr, .inl (xI g, 4, .inl (fun j => nI (frh j))))] sz U)) (va_Qi (fun (r : Int32) (_ : Unit) => r = nI (if x + 1 < R then frh (x + 1) else Nb)) (fun (_ : Unit) (_ : State) => True) (va_A [] sz)) 0 0 (va_A [] sz) := by
  refine Met.ofW (cc := cX6_endOfRange) (maxL := 2) (ret := (some .int)) (by decide) rfl ?_
  intro p e s m args below meth c s₁ B hml hv
  obtain ⟨rfl, hsz, hP, hK, hD0⟩ := hv
  have hx := B.exec
  have hb := B.bytes
  have hr := B.returns
  have hts := atoms_spec (ws := wsX6_endOfRange) B.pre
  have hown : s.vm.findClass RX6 = some m.cls := findClass_of_methodNamed B.named
  have hlocks := B.notSynchronized
  subst hsz
  have hD := hD0
  generalize hAe : va_A [] s.heap.size = A
  have hA : ∀ q : Nat, s.heap.size ≤ q → A q := fun q h => by rw [← hAe]; exact Or.inr h
  have hS : va_S A s.heap s.heap [] := va_S.rf
  have hl := lv_entry ([.ref ve, .int (nI x)]) (n := 2) (Nat.le_of_ble_eq_true rfl)
  rw [lg_entry_eq]
  generalize (lg_sl ([.ref ve, .int (nI x)]) ++ List.replicate (2 - (lg_sl ([.ref ve, .int (nI x)])).length) Slot.unset).toArray = ls at hl ⊢
  have hl : lv_has ls 2 [(0, .ref ve), (1, .int (nI x))] := hl
  have hFX6 : ∀ w ∈ u_ws RX6 TX6 11, w ∈ wsX6_endOfRange := by decide +kernel
  refine lv_iload_n hx hb dX6_endOfRange_0 rfl (lv_at hl 1 rfl) ?_
  refine lv_iconst (v := 1) hx hb dX6_endOfRange_1 (by decide) ?_
  refine lv_iadd hx hb dX6_endOfRange_2 ?_
  refine lv_topi (fun v_1 ev => ?_)
  obtain rfl : v_1 = nI (x + 1) := ev.trans (nI_add x 1)
  refine lv_aload_n hx hb dX6_endOfRange_3 rfl (lv_at hl 0 rfl) ?_
  refine va_get (D := xD g) (ci := 6) (v := .int (nI R)) (C := RX6) (T := TX6) (N := 11) hx hb hts hFX6 hown hK hP 0 rfl rfl 4 (by decide) (hts (.fieldLink RX6 31 "Stevedore$Vessel" "rangeCount" "I") (by decide +kernel)) (fun _ h9 => h9) rfl dX6_endOfRange_4 ?_
  refine lv_icmp_ge (tgt := 21) hx hb dX6_endOfRange_7 (by decide) (fun c_2 => ?_) (fun c_2 => ?_)
  · have nc_2 := (nI_leI (a := R) (b := x + 1) (by omega) (by omega)).mp c_2
    refine lv_aload_n hx hb dX6_endOfRange_21 rfl (lv_at hl 0 rfl) ?_
    refine va_get (D := xD g) (ci := 6) (v := .int (nI Nb)) (C := RX6) (T := TX6) (N := 11) hx hb hts hFX6 hown hK hP 0 rfl rfl 1 (by decide) (hts (.fieldLink RX6 35 "Stevedore$Vessel" "bays" "I") (by decide +kernel)) (fun _ h9 => h9) rfl dX6_endOfRange_22 ?_
    exact W.iret (v := nI Nb) hx hb hr (fun t ht hW => ⟨⟨nI Nb, (), rfl, (by first | (rw [if_pos (by omega)]) | (rw [if_neg (by omega)])), trivial⟩, hS.F ht⟩) hS.2.2 dX6_endOfRange_25
  · have nc_2 := mt (nI_leI (a := R) (b := x + 1) (by omega) (by omega)).mpr c_2
    refine lv_aload_n hx hb dX6_endOfRange_10 rfl (lv_at hl 0 rfl) ?_
    refine va_get (D := xD g) (ci := 6) (v := .ref fr) (C := RX6) (T := TX6) (N := 11) hx hb hts hFX6 hown hK hP 0 rfl rfl 9 (by decide) (hts (.fieldLink RX6 15 "Stevedore$Vessel" "firstOfRange" "[I") (by decide +kernel)) (fun _ h9 => h9) rfl dX6_endOfRange_11 ?_
    refine lv_iload_n hx hb dX6_endOfRange_14 rfl (lv_at hl 1 rfl) ?_
    refine lv_iconst (v := 1) hx hb dX6_endOfRange_15 (by decide) ?_
    refine lv_iadd hx hb dX6_endOfRange_16 ?_
    refine lv_topi (fun v_3 ev => ?_)
    obtain rfl : v_3 = nI (x + 1) := ev.trans (nI_add x 1)
    refine va_iald hx hb hK hP 1 0 rfl rfl (vp_in_nI (by omega) (by omega)) dX6_endOfRange_17 ?_
    refine lv_topi (fun v_4 ev => ?_)
    obtain rfl : v_4 = nI (frh (x + 1)) := ev.trans (congrArg (fun q9 => nI (frh q9)) (nI_clamp (by omega)))
    have b_5 := b_frh (x + 1)
    refine lv_goto (tgt := 25) hx hb dX6_endOfRange_18 (by decide) ?_
    exact W.iret (v := nI (frh (x + 1))) hx hb hr (fun t ht hW => ⟨⟨nI (frh (x + 1)), (), rfl, (by first | (rw [if_pos (by omega)]) | (rw [if_neg (by omega)])), trivial⟩, hS.F ht⟩) hS.2.2 dX6_endOfRange_25
theorem dX3_leastLoad_0 : decode cX3_leastLoad 0 = .ok (.ldc 46, 2) := by decide +kernel
theorem dX3_leastLoad_2 : decode cX3_leastLoad 2 = .ok (.istore 4, 2) := by decide +kernel
theorem dX3_leastLoad_4 : decode cX3_leastLoad 4 = .ok (.iconst (-1), 1) := by decide +kernel
theorem dX3_leastLoad_5 : decode cX3_leastLoad 5 = .ok (.istore 5, 2) := by decide +kernel
theorem dX3_leastLoad_7 : decode cX3_leastLoad 7 = .ok (.iload_n 3, 1) := by decide +kernel
theorem dX3_leastLoad_8 : decode cX3_leastLoad 8 = .ok (.istore 6, 2) := by decide +kernel
theorem dX3_leastLoad_10 : decode cX3_leastLoad 10 = .ok (.iload 6, 2) := by decide +kernel
theorem dX3_leastLoad_12 : decode cX3_leastLoad 12 = .ok (.aload_n 1, 1) := by decide +kernel
theorem dX3_leastLoad_13 : decode cX3_leastLoad 13 = .ok (.getfield 40, 3) := by decide +kernel
theorem dX3_leastLoad_16 : decode cX3_leastLoad 16 = .ok (.if_icmp .ge 47, 3) := by decide +kernel
theorem dX3_leastLoad_63 : decode cX3_leastLoad 63 = .ok (.iload 4, 2) := by decide +kernel
theorem dX3_leastLoad_65 : decode cX3_leastLoad 65 = .ok (.ireturn, 1) := by decide +kernel
theorem dX3_leastLoad_19 : decode cX3_leastLoad 19 = .ok (.iload 5, 2) := by decide +kernel
theorem dX3_leastLoad_21 : decode cX3_leastLoad 21 = .ok (.aload_n 1, 1) := by decide +kernel
theorem dX3_leastLoad_22 : decode cX3_leastLoad 22 = .ok (.iload 6, 2) := by decide +kernel
theorem dX3_leastLoad_24 : decode cX3_leastLoad 24 = .ok (.invokevirtual 54, 3) := by decide +kernel
set_option maxRecDepth 20000 in
theorem ggX3_leastLoad_X6_ticksIn : GoodIn wsX3_leastLoad wsX6_ticksIn := goodIn_r _ [15, 16, 17, 5, 6, 7, 18, 19, 20, 21, 22, 23, 24, 25, 26, 27, 28] rfl (by decide +kernel)
set_option maxRecDepth 20000 in
theorem gX3_leastLoad_X6_ticksIn : GoodIn wsX3_leastLoad (wsV RX3 54 RX6 yX6_ticksIn wsX6_ticksIn) := goodIn_app (goodIn_of _ (by decide +kernel)) ggX3_leastLoad_X6_ticksIn
theorem dX3_leastLoad_27 : decode cX3_leastLoad 27 = .ok (.iconst 1, 1) := by decide +kernel
theorem dX3_leastLoad_28 : decode cX3_leastLoad 28 = .ok (.iadd, 1) := by decide +kernel
theorem dX3_leastLoad_29 : decode cX3_leastLoad 29 = .ok (.iadd, 1) := by decide +kernel
theorem dX3_leastLoad_30 : decode cX3_leastLoad 30 = .ok (.istore 5, 2) := by decide +kernel
theorem dX3_leastLoad_32 : decode cX3_leastLoad 32 = .ok (.iload 4, 2) := by decide +kernel
theorem dX3_leastLoad_34 : decode cX3_leastLoad 34 = .ok (.iload 5, 2) := by decide +kernel
theorem dX3_leastLoad_36 : decode cX3_leastLoad 36 = .ok (.aload_n 0, 1) := by decide +kernel
theorem dX3_leastLoad_37 : decode cX3_leastLoad 37 = .ok (.getfield 11, 3) := by decide +kernel
theorem dX3_leastLoad_40 : decode cX3_leastLoad 40 = .ok (.iload_n 2, 1) := by decide +kernel
theorem dX3_leastLoad_41 : decode cX3_leastLoad 41 = .ok (.iconst 1, 1) := by decide +kernel
theorem dX3_leastLoad_42 : decode cX3_leastLoad 42 = .ok (.isub, 1) := by decide +kernel
theorem dX3_leastLoad_43 : decode cX3_leastLoad 43 = .ok (.aaload, 1) := by decide +kernel
theorem dX3_leastLoad_44 : decode cX3_leastLoad 44 = .ok (.iload 6, 2) := by decide +kernel
theorem dX3_leastLoad_46 : decode cX3_leastLoad 46 = .ok (.iconst 1, 1) := by decide +kernel
theorem dX3_leastLoad_47 : decode cX3_leastLoad 47 = .ok (.iadd, 1) := by decide +kernel
theorem dX3_leastLoad_48 : decode cX3_leastLoad 48 = .ok (.iaload, 1) := by decide +kernel
theorem dX3_leastLoad_49 : decode cX3_leastLoad 49 = .ok (.invokestatic 58, 3) := by decide +kernel
theorem dX3_leastLoad_52 : decode cX3_leastLoad 52 = .ok (.invokestatic 64, 3) := by decide +kernel
theorem dX3_leastLoad_55 : decode cX3_leastLoad 55 = .ok (.istore 4, 2) := by decide +kernel
theorem dX3_leastLoad_57 : decode cX3_leastLoad 57 = .ok (.iinc 6 1, 3) := by decide +kernel
theorem dX3_leastLoad_60 : decode cX3_leastLoad 60 = .ok (.goto (-50), 3) := by decide +kernel
set_option maxHeartbeats 4000000 in
set_option maxRecDepth 100000 in
theorem s_leastLoad (l : Launch) (g : xG) (sz : Nat) (cw : Nat) (lo_ : Nat) (ve : Nat) (wb : Nat) (Nb : Nat) (K : Nat) (F : Nat) (lr : Nat → Nat) (w1 : Value) (w2 : Value) (w3 : Value) (v0 : Value) (v2 : Value) (v3 : Value) (v4 : Value) (v5 : Value) (v6 : Value) (v7 : Value) (v9 : Value) (v10 : Value) (lz : Nat → Nat → Int) (wbz : Nat → Int)  (hN : Nb ≤ 10) (hK1 : 1 ≤ K) (hK4 : K ≤ 4) (hF : F ≤ Nb) (b_lz : ∀ i j, 0 ≤ lz i j ∧ lz i j ≤ 1000000) (b_wbz : ∀ j, 0 ≤ wbz j ∧ wbz j ≤ 100) : Met l yX3_leastLoad wsX3_leastLoad ({ frames := 2, cells := 0, slots := 0, locals := 45 }) (va_Pc [.ref cw, .ref ve, .int (nI K), .int (nI F)] (fun U => xB g ([(cw, .inr (3, [.ref lo_, w1, w2, w3])), (lo_, .inl (xM g, 5, .inr (.inr (.inr (.inr (fun i => if i < 5 then some (lr i) else none))))))] ++ (xRI (xI g) 5 11 lr lz ++ [(ve, .inr (6, [v0, .int (nI Nb), v2, v3, v4, v5, v6, v7, .ref wb, v9, v10])), (wb, .inl (xI g, 10, .inl (fun j => iI (wbz j))))])) sz U)) (va_Qi (fun (r : Int32) (_ : Unit) => ∃ u9 : Int, r = iI u9 ∧ 0 ≤ u9 ∧ u9 ≤ 1000000 ∧ vEx lz K F Nb u9 ∧ (F < Nb → u9 ≤ 20000 ∨ u9 ≤ lz (K - 1) Nb)) (fun (_ : Unit) (_ : State) => True) (va_A [] sz)) 0 0 (va_A [] sz) := by
  refine Met.ofW (cc := cX3_leastLoad) (maxL := 7) (ret := (some .int)) (by decide) rfl ?_
  intro p e s m args below meth c s₁ B hml hv
  obtain ⟨rfl, hsz, hP, hK, hD0⟩ := hv
  have hx := B.exec
  have hb := B.bytes
  have hr := B.returns
  have hts := atoms_spec (ws := wsX3_leastLoad) B.pre
  have hown : s.vm.findClass RX3 = some m.cls := findClass_of_methodNamed B.named
  have hlocks := B.notSynchronized
  subst hsz
  have hD := hD0
  generalize hAe : va_A [] s.heap.size = A
  have hA : ∀ q : Nat, s.heap.size ≤ q → A q := fun q h => by rw [← hAe]; exact Or.inr h
  have hS : va_S A s.heap s.heap [] := va_S.rf
  have hl := lv_entry ([.ref cw, .ref ve, .int (nI K), .int (nI F)]) (n := 7) (Nat.le_of_ble_eq_true rfl)
  rw [lg_entry_eq]
  generalize (lg_sl ([.ref cw, .ref ve, .int (nI K), .int (nI F)]) ++ List.replicate (7 - (lg_sl ([.ref cw, .ref ve, .int (nI K), .int (nI F)])).length) Slot.unset).toArray = ls at hl ⊢
  have hl : lv_has ls 7 [(0, .ref cw), (1, .ref ve), (2, .int (nI K)), (3, .int (nI F))] := hl
  have hFX3 : ∀ w ∈ u_ws RX3 TX3 4, w ∈ wsX3_leastLoad := by decide +kernel
  have hFX6 : ∀ w ∈ u_ws RX6 TX6 11, w ∈ wsX3_leastLoad := by decide +kernel
  refine lv_ldc (v := 1000000) hx hb hown (hts (.constant RX3 46 (1000000)) (by decide +kernel)) dX3_leastLoad_0 ?_
  refine lv_istore (lv' := [(4, .int 1000000), (0, .ref cw), (1, .ref ve), (2, .int (nI K)), (3, .int (nI F))]) hx hb dX3_leastLoad_2 hl (by decide) rfl (fun ls hl => ?_)
  refine lv_iconst (v := (-1)) hx hb dX3_leastLoad_4 (by decide) ?_
  refine lv_istore (lv' := [(5, .int (-1)), (4, .int 1000000), (0, .ref cw), (1, .ref ve), (2, .int (nI K)), (3, .int (nI F))]) hx hb dX3_leastLoad_5 hl (by decide) rfl (fun ls hl => ?_)
  refine lv_iload_n hx hb dX3_leastLoad_7 rfl (lv_at hl 5 rfl) ?_
  refine lv_istore (lv' := [(6, .int (nI F)), (5, .int (-1)), (4, .int 1000000), (0, .ref cw), (1, .ref ve), (2, .int (nI K)), (3, .int (nI F))]) hx hb dX3_leastLoad_8 hl (by decide) rfl (fun ls hl => ?_)
  have hloop10 : ∀ (n9 : Nat) (b : Nat) (fo : Int) (ld : Int) (H : Heap) (locs : List Loc) (ls : Array Slot), Nb - b < n9 → (F ≤ b) → (b ≤ Nb) → (0 ≤ fo ∧ fo ≤ 1000000) → (-1 ≤ ld ∧ ld ≤ 102 * ((b : Nat) : Int)) → (vEx lz K F b fo) → (F < b → fo ≤ 20000 ∨ fo ≤ lz (K - 1) b) → va_P (xD g) vwCl ([(cw, .inr (3, [.ref lo_, w1, w2, w3])), (lo_, .inl (xM g, 5, .inr (.inr (.inr (.inr (fun i => if i < 5 then some (lr i) else none))))))] ++ (xRI (xI g) 5 11 lr lz ++ [(ve, .inr (6, [v0, .int (nI Nb), v2, v3, v4, v5, v6, v7, .ref wb, v9, v10])), (wb, .inl (xI g, 10, .inl (fun j => iI (wbz j))))])) H → va_D (fun _ => True) ([(cw, .inr (3, [.ref lo_, w1, w2, w3])), (lo_, .inl (xM g, 5, .inr (.inr (.inr (.inr (fun i => if i < 5 then some (lr i) else none))))))] ++ (xRI (xI g) 5 11 lr lz ++ [(ve, .inr (6, [v0, .int (nI Nb), v2, v3, v4, v5, v6, v7, .ref wb, v9, v10])), (wb, .inl (xI g, 10, .inl (fun j => iI (wbz j))))])) → va_S A s.heap H locs → lv_has ls 7 [(6, .int (nI b)), (0, .ref cw), (1, .ref ve), (2, .int (nI K)), (4, .int (iI fo)), (5, .int (iI ld))] → W p l e (headSpec wsX3_leastLoad ({ frames := 2, cells := 0, slots := 0, locals := 45 })).room s m ([.ref cw, .ref ve, .int (nI K), .int (nI F)] : List Value).toArray below meth c H locs 0 0 (MQ below (va_Qi (fun (r : Int32) (_ : Unit) => ∃ u9 : Int, r = iI u9 ∧ 0 ≤ u9 ∧ u9 ≤ 1000000 ∧ vEx lz K F Nb u9 ∧ (F < Nb → u9 ≤ 20000 ∨ u9 ≤ lz (K - 1) Nb)) (fun (_ : Unit) (_ : State) => True) (A)) ([.ref cw, .ref ve, .int (nI K), .int (nI F)] : List Value).toArray s 0 0 A) (F0 m 10 ls []) := by
    intro n9
    induction n9 with
    | zero =>
      intro b fo ld H locs ls hm hb1 hb2 hfo hld hex hlo hP hD hS hl
      exact absurd hm (Nat.not_lt_zero _)
    | succ n9 ih10 =>
      intro b fo ld H locs ls hm hb1 hb2 hfo hld hex hlo hP hD hS hl
      refine lv_iload hx hb dX3_leastLoad_10 (lv_at hl 0 rfl) ?_
      refine lv_aload_n hx hb dX3_leastLoad_12 rfl (lv_at hl 2 rfl) ?_
      refine va_get (D := xD g) (ci := 6) (v := .int (nI Nb)) (C := RX6) (T := TX6) (N := 11) hx hb hts hFX6 hown hK hP 7 rfl rfl 1 (by decide) (hts (.fieldLink RX3 40 "Stevedore$Vessel" "bays" "I") (by decide +kernel)) (fun _ h9 => h9) rfl dX3_leastLoad_13 ?_
      refine lv_icmp_ge (tgt := 63) hx hb dX3_leastLoad_16 (by decide) (fun c_1 => ?_) (fun c_1 => ?_)
      · have nc_1 := (nI_leI (a := Nb) (b := b) (by omega) (by omega)).mp c_1
        refine lv_iload hx hb dX3_leastLoad_63 (lv_at hl 4 rfl) ?_
        exact W.iret (v := iI fo) hx hb hr (fun t ht hW => ⟨⟨iI fo, (), rfl, (by obtain rfl : b = Nb := (by omega); exact ⟨fo, rfl, hfo.1, hfo.2, hex, hlo⟩), trivial⟩, hS.F ht⟩) hS.2.2 dX3_leastLoad_65
      · have nc_1 := mt (nI_leI (a := Nb) (b := b) (by omega) (by omega)).mpr c_1
        refine lv_iload hx hb dX3_leastLoad_19 (lv_at hl 5 rfl) ?_
        refine lv_aload_n hx hb dX3_leastLoad_21 rfl (lv_at hl 2 rfl) ?_
        refine lv_iload hx hb dX3_leastLoad_22 (lv_at hl 0 rfl) ?_
        have hPc := hP.sub (ws' := [(ve, .inr (6, [v0, .int (nI Nb), v2, v3, v4, v5, v6, v7, .ref wb, v9, v10])), (wb, .inl (xI g, 10, .inl (fun j => iI (wbz j))))]) [7, 8] rfl
        have hDc := hD.sub (ws' := [(ve, .inr (6, [v0, .int (nI Nb), v2, v3, v4, v5, v6, v7, .ref wb, v9, v10])), (wb, .inl (xI g, 10, .inl (fun j => iI (wbz j))))]) [7, 8] (by decide) rfl
        have hFc := xFree hS hA
        refine va_calli (va_runV (As := [.int (nI b)]) (rest := [.int (iI ld)]) ⟨hx, hb, hml, hown, hts⟩ (s_ticksIn l g H.size ve wb b v0 (.int (nI Nb)) v2 v3 v4 v5 v6 v7 v9 v10 wbz (by first | assumption | omega) b_wbz) (cwV 1 hts gX3_leastLoad_X6_ticksIn rfl rfl rfl (by decide +kernel) ⟨Nat.le_of_ble_eq_true rfl, Nat.le_of_ble_eq_true rfl⟩) ⟨xB.blind, va_recv hK hPc (ci := 6) (q0 := 0) rfl rfl, fun U9 hU9 hW9 => ⟨rfl, xB.mk hPc hK hDc hU9 hW9⟩⟩ rfl rfl hl.1 rfl (lv_room (Nat.le_of_ble_eq_true rfl)) dX3_leastLoad_24 ⟨Nat.le_of_ble_eq_true rfl, Nat.le_of_ble_eq_true rfl⟩) hS (fun q _ h => hFc q h) hFc (fun r_2 _ t H1 locs ht hvm hw_3 hB hz1 hk1 hS => ?_)
        have hP := xSame hP hk1
        generalize H1 = H at hP hS ⊢
        have hP : va_P (xD g) vwCl ([(cw, .inr (3, [.ref lo_, w1, w2, w3])), (lo_, .inl (xM g, 5, .inr (.inr (.inr (.inr (fun i => if i < 5 then some (lr i) else none))))))] ++ (xRI (xI g) 5 11 lr lz ++ [(ve, .inr (6, [v0, .int (nI Nb), v2, v3, v4, v5, v6, v7, .ref wb, v9, v10])), (wb, .inl (xI g, 10, .inl (fun j => iI (wbz j))))])) H := hP
        have hD : va_D (fun _ => True) ([(cw, .inr (3, [.ref lo_, w1, w2, w3])), (lo_, .inl (xM g, 5, .inr (.inr (.inr (.inr (fun i => if i < 5 then some (lr i) else none))))))] ++ (xRI (xI g) 5 11 lr lz ++ [(ve, .inr (6, [v0, .int (nI Nb), v2, v3, v4, v5, v6, v7, .ref wb, v9, v10])), (wb, .inl (xI g, 10, .inl (fun j => iI (wbz j))))])) := hD
        try dsimp only at hw_3
        obtain rfl : r_2 = iI (vTk wbz b) := hw_3
        have hvt := vTk_bd b_wbz b
        refine lv_iconst (v := 1) hx hb dX3_leastLoad_27 (by decide) ?_
        refine lv_iadd hx hb dX3_leastLoad_28 ?_
        refine lv_topi (fun v_4 ev => ?_)
        obtain rfl : v_4 = iI (vTk wbz b + 1) := ev.trans (iA rfl (by decide))
        refine lv_iadd hx hb dX3_leastLoad_29 ?_
        refine lv_topi (fun v_5 ev => ?_)
        obtain rfl : v_5 = iI (ld + (vTk wbz b + 1)) := ev.trans (iA rfl rfl)
        refine lv_istore (lv' := [(5, .int (iI (ld + (vTk wbz b + 1)))), (6, .int (nI b)), (0, .ref cw), (1, .ref ve), (2, .int (nI K)), (4, .int (iI fo))]) hx hb dX3_leastLoad_30 hl (by decide) rfl (fun ls hl => ?_)
        refine lv_iload hx hb dX3_leastLoad_32 (lv_at hl 5 rfl) ?_
        refine lv_iload hx hb dX3_leastLoad_34 (lv_at hl 0 rfl) ?_
        refine lv_aload_n hx hb dX3_leastLoad_36 rfl (lv_at hl 2 rfl) ?_
        refine va_get (D := xD g) (ci := 3) (v := .ref lo_) (C := RX3) (T := TX3) (N := 4) hx hb hts hFX3 hown hK hP 0 rfl rfl 0 (by decide) (hts (.fieldLink RX3 11 "Stevedore$CraneWalk" "least" "[[I") (by decide +kernel)) (fun _ h9 => h9) rfl dX3_leastLoad_37 ?_
        refine lv_iload_n hx hb dX3_leastLoad_40 rfl (lv_at hl 4 rfl) ?_
        refine lv_iconst (v := 1) hx hb dX3_leastLoad_41 (by decide) ?_
        refine lv_isub hx hb dX3_leastLoad_42 ?_
        refine lv_topi (fun v_6 ev => ?_)
        obtain rfl : v_6 = nI (K - 1) := ev.trans (pk_sub (a := K) (b := 1) (by omega))
        refine xAldM hx hb hK hP 1 3 rfl rfl (vp_in_nI (by omega) (by omega)) dX3_leastLoad_43 ?_
        refine W.eq (g2 := F0 m 44 ls (.ref (lr (K - 1)) :: .int (iI (ld + (vTk wbz b + 1))) :: .int (iI fo) :: [])) (congrArg (fun q9 => F0 m 44 ls (q9 :: .int (iI (ld + (vTk wbz b + 1))) :: .int (iI fo) :: [])) (xRow (n := 5) (k := K - 1) (nI_clamp (by omega)) (by omega))) ?_
        refine lv_iload hx hb dX3_leastLoad_44 (lv_at hl 1 rfl) ?_
        refine lv_iconst (v := 1) hx hb dX3_leastLoad_46 (by decide) ?_
        refine lv_iadd hx hb dX3_leastLoad_47 ?_
        refine lv_topi (fun v_7 ev => ?_)
        obtain rfl : v_7 = nI (b + 1) := ev.trans (nI_add b 1)
        refine va_iald hx hb hK hP _ 0 (xR_ap (X := [(cw, .inr (3, [.ref lo_, w1, w2, w3])), (lo_, .inl (xM g, 5, .inr (.inr (.inr (.inr (fun i => if i < 5 then some (lr i) else none))))))]) (xR_get0 (i := (K - 1)) (by omega))) rfl (vp_in_nI (by omega) (by omega)) dX3_leastLoad_48 ?_
        refine lv_topi (fun v_8 ev => ?_)
        obtain rfl : v_8 = iI (lz (K - 1) (b + 1)) := ev.trans (congrArg (fun q9 => iI (lz (K - 1) q9)) (nI_clamp (by omega)))
        have b_9 := b_lz (K - 1) (b + 1)
        refine va_mmax hx hb (by rw [hml]; exact hl.1.symm) hown (hts (.methodLink RX3 58 Lib.Math.max.name) (by decide +kernel)) (hts (.static Lib.Math.max.name) (by decide +kernel)) (hts (.initialized "java/lang/Math") (by decide +kernel)) (hts (.code Lib.Math.max.name Lib.Math.max.code 2 (some .int)) (by decide +kernel)) (Nat.le_of_ble_eq_true rfl) (Nat.le_of_ble_eq_true rfl) (Nat.le_of_ble_eq_true rfl) (Nat.le_of_ble_eq_true rfl) dX3_leastLoad_49 ?_
        refine lv_topi (fun v_11 ev => ?_)
        obtain rfl : v_11 = iI (if ld + (vTk wbz b + 1) < lz (K - 1) (b + 1) then lz (K - 1) (b + 1) else ld + (vTk wbz b + 1)) := ev.trans (iI_max rfl rfl (by omega))
        obtain ⟨z_10, ez_10⟩ : ∃ y : Int, y = if ld + (vTk wbz b + 1) < lz (K - 1) (b + 1) then lz (K - 1) (b + 1) else ld + (vTk wbz b + 1) := ⟨_, rfl⟩
        rw [← ez_10]
        have fz_10 : ld + (vTk wbz b + 1) ≤ z_10 ∧ lz (K - 1) (b + 1) ≤ z_10 ∧ (z_10 = ld + (vTk wbz b + 1) ∨ z_10 = lz (K - 1) (b + 1)) := by rw [ez_10]; split <;> omega
        refine va_mmin hx hb (by rw [hml]; exact hl.1.symm) hown (hts (.methodLink RX3 64 Lib.Math.min.name) (by decide +kernel)) (hts (.static Lib.Math.min.name) (by decide +kernel)) (hts (.initialized "java/lang/Math") (by decide +kernel)) (hts (.code Lib.Math.min.name Lib.Math.min.code 2 (some .int)) (by decide +kernel)) (Nat.le_of_ble_eq_true rfl) (Nat.le_of_ble_eq_true rfl) (Nat.le_of_ble_eq_true rfl) (Nat.le_of_ble_eq_true rfl) dX3_leastLoad_52 ?_
        refine lv_topi (fun v_13 ev => ?_)
        obtain rfl : v_13 = iI (if z_10 < fo then z_10 else fo) := ev.trans (iI_min rfl rfl (by omega))
        obtain ⟨z_12, ez_12⟩ : ∃ y : Int, y = if z_10 < fo then z_10 else fo := ⟨_, rfl⟩
        rw [← ez_12]
        have fz_12 : z_12 ≤ fo ∧ z_12 ≤ z_10 ∧ (z_12 = fo ∨ z_12 = z_10) := by rw [ez_12]; split <;> omega
        refine lv_istore (lv' := [(4, .int (iI z_12)), (5, .int (iI (ld + (vTk wbz b + 1)))), (6, .int (nI b)), (0, .ref cw), (1, .ref ve), (2, .int (nI K))]) hx hb dX3_leastLoad_55 hl (by decide) rfl (fun ls hl => ?_)
        refine lv_iinc (v := nI (b + 1)) (lv' := [(6, .int (nI (b + 1))), (4, .int (iI z_12)), (5, .int (iI (ld + (vTk wbz b + 1)))), (0, .ref cw), (1, .ref ve), (2, .int (nI K))]) hx hb dX3_leastLoad_57 hl (k := 2) rfl (nI_add b 1) (by decide) rfl (fun ls hl => ?_)
        refine lv_goto (tgt := 10) hx hb dX3_leastLoad_60 (by decide) ?_
        exact ih10 (b + 1) z_12 (ld + (vTk wbz b + 1)) _ _ _ (by omega) (by omega) (by omega) (by omega) (by omega) (vEx_step (u1 := z_10) hex hb1 (by omega) (by omega)) (by intro _; rcases fz_10.2.2 with q | q; (left; omega); (right; omega)) hP hD hS (lv_sub hl [0, 3, 4, 5, 1, 2] rfl)
  exact hloop10 (Nb + 1) F 1000000 (-1) _ _ _ (by omega) (Nat.le_refl _) hF (by omega) (by omega) (fun q => absurd q (by omega)) (fun q => absurd q (Nat.lt_irrefl _)) hP hD hS (by rw [(show iI 1000000 = (1000000 : Int32) from by decide), (show iI (-1) = ((-1) : Int32) from by decide)]; exact lv_sub hl [0, 3, 4, 5, 2, 1] rfl)
theorem dX3_findLeastLoads_0 : decode cX3_findLeastLoads 0 = .ok (.iconst 0, 1) := by decide +kernel
theorem dX3_findLeastLoads_1 : decode cX3_findLeastLoads 1 = .ok (.istore_n 2, 1) := by decide +kernel
theorem dX3_findLeastLoads_2 : decode cX3_findLeastLoads 2 = .ok (.iload_n 2, 1) := by decide +kernel
theorem dX3_findLeastLoads_3 : decode cX3_findLeastLoads 3 = .ok (.aload_n 1, 1) := by decide +kernel
theorem dX3_findLeastLoads_4 : decode cX3_findLeastLoads 4 = .ok (.getfield 40, 3) := by decide +kernel
theorem dX3_findLeastLoads_7 : decode cX3_findLeastLoads 7 = .ok (.if_icmp .gt 31, 3) := by decide +kernel
theorem dX3_findLeastLoads_38 : decode cX3_findLeastLoads 38 = .ok (.iconst 1, 1) := by decide +kernel
theorem dX3_findLeastLoads_39 : decode cX3_findLeastLoads 39 = .ok (.istore_n 2, 1) := by decide +kernel
theorem dX3_findLeastLoads_40 : decode cX3_findLeastLoads 40 = .ok (.iload_n 2, 1) := by decide +kernel
theorem dX3_findLeastLoads_41 : decode cX3_findLeastLoads 41 = .ok (.aload_n 1, 1) := by decide +kernel
theorem dX3_findLeastLoads_42 : decode cX3_findLeastLoads 42 = .ok (.getfield 47, 3) := by decide +kernel
theorem dX3_findLeastLoads_45 : decode cX3_findLeastLoads 45 = .ok (.if_icmp .gt 53, 3) := by decide +kernel
theorem dX3_findLeastLoads_98 : decode cX3_findLeastLoads 98 = .ok (.return_, 1) := by decide +kernel
theorem dX3_findLeastLoads_48 : decode cX3_findLeastLoads 48 = .ok (.aload_n 0, 1) := by decide +kernel
theorem dX3_findLeastLoads_49 : decode cX3_findLeastLoads 49 = .ok (.getfield 11, 3) := by decide +kernel
theorem dX3_findLeastLoads_52 : decode cX3_findLeastLoads 52 = .ok (.iload_n 2, 1) := by decide +kernel
theorem dX3_findLeastLoads_53 : decode cX3_findLeastLoads 53 = .ok (.aaload, 1) := by decide +kernel
theorem dX3_findLeastLoads_54 : decode cX3_findLeastLoads 54 = .ok (.aload_n 1, 1) := by decide +kernel
theorem dX3_findLeastLoads_55 : decode cX3_findLeastLoads 55 = .ok (.getfield 40, 3) := by decide +kernel
theorem dX3_findLeastLoads_58 : decode cX3_findLeastLoads 58 = .ok (.ldc 46, 2) := by decide +kernel
theorem dX3_findLeastLoads_60 : decode cX3_findLeastLoads 60 = .ok (.iastore, 1) := by decide +kernel
theorem dX3_findLeastLoads_61 : decode cX3_findLeastLoads 61 = .ok (.iconst 0, 1) := by decide +kernel
theorem dX3_findLeastLoads_62 : decode cX3_findLeastLoads 62 = .ok (.istore_n 3, 1) := by decide +kernel
theorem dX3_findLeastLoads_63 : decode cX3_findLeastLoads 63 = .ok (.iload_n 3, 1) := by decide +kernel
theorem dX3_findLeastLoads_64 : decode cX3_findLeastLoads 64 = .ok (.aload_n 1, 1) := by decide +kernel
theorem dX3_findLeastLoads_65 : decode cX3_findLeastLoads 65 = .ok (.getfield 40, 3) := by decide +kernel
theorem dX3_findLeastLoads_68 : decode cX3_findLeastLoads 68 = .ok (.if_icmp .ge 24, 3) := by decide +kernel
theorem dX3_findLeastLoads_92 : decode cX3_findLeastLoads 92 = .ok (.iinc 2 1, 3) := by decide +kernel
theorem dX3_findLeastLoads_95 : decode cX3_findLeastLoads 95 = .ok (.goto (-55), 3) := by decide +kernel
theorem dX3_findLeastLoads_71 : decode cX3_findLeastLoads 71 = .ok (.aload_n 0, 1) := by decide +kernel
theorem dX3_findLeastLoads_72 : decode cX3_findLeastLoads 72 = .ok (.getfield 11, 3) := by decide +kernel
theorem dX3_findLeastLoads_75 : decode cX3_findLeastLoads 75 = .ok (.iload_n 2, 1) := by decide +kernel
theorem dX3_findLeastLoads_76 : decode cX3_findLeastLoads 76 = .ok (.aaload, 1) := by decide +kernel
theorem dX3_findLeastLoads_77 : decode cX3_findLeastLoads 77 = .ok (.iload_n 3, 1) := by decide +kernel
theorem dX3_findLeastLoads_78 : decode cX3_findLeastLoads 78 = .ok (.aload_n 0, 1) := by decide +kernel
theorem dX3_findLeastLoads_79 : decode cX3_findLeastLoads 79 = .ok (.aload_n 1, 1) := by decide +kernel
theorem dX3_findLeastLoads_80 : decode cX3_findLeastLoads 80 = .ok (.iload_n 2, 1) := by decide +kernel
theorem dX3_findLeastLoads_81 : decode cX3_findLeastLoads 81 = .ok (.iload_n 3, 1) := by decide +kernel
theorem dX3_findLeastLoads_82 : decode cX3_findLeastLoads 82 = .ok (.invokevirtual 50, 3) := by decide +kernel
set_option maxRecDepth 20000 in
theorem ggX3_findLeastLoads_X3_leastLoad : GoodIn wsX3_findLeastLoads wsX3_leastLoad := goodIn_r _ [9, 3, 1, 2, 10, 11, 12, 13, 14, 15, 16, 17, 18, 19, 20, 21, 22, 23, 24, 25, 26, 27, 28, 29, 30, 31, 32, 33, 34, 35, 36, 37, 38] rfl (by decide +kernel)
set_option maxRecDepth 20000 in
theorem gX3_findLeastLoads_X3_leastLoad : GoodIn wsX3_findLeastLoads (wsV RX3 50 RX3 yX3_leastLoad wsX3_leastLoad) := goodIn_app (goodIn_of _ (by decide +kernel)) ggX3_findLeastLoads_X3_leastLoad
theorem dX3_findLeastLoads_85 : decode cX3_findLeastLoads 85 = .ok (.iastore, 1) := by decide +kernel
theorem dX3_findLeastLoads_86 : decode cX3_findLeastLoads 86 = .ok (.iinc 3 1, 3) := by decide +kernel
theorem dX3_findLeastLoads_89 : decode cX3_findLeastLoads 89 = .ok (.goto (-26), 3) := by decide +kernel
theorem dX3_findLeastLoads_10 : decode cX3_findLeastLoads 10 = .ok (.aload_n 0, 1) := by decide +kernel
theorem dX3_findLeastLoads_11 : decode cX3_findLeastLoads 11 = .ok (.getfield 11, 3) := by decide +kernel
theorem dX3_findLeastLoads_14 : decode cX3_findLeastLoads 14 = .ok (.iconst 0, 1) := by decide +kernel
theorem dX3_findLeastLoads_15 : decode cX3_findLeastLoads 15 = .ok (.aaload, 1) := by decide +kernel
theorem dX3_findLeastLoads_16 : decode cX3_findLeastLoads 16 = .ok (.iload_n 2, 1) := by decide +kernel
theorem dX3_findLeastLoads_17 : decode cX3_findLeastLoads 17 = .ok (.iload_n 2, 1) := by decide +kernel
theorem dX3_findLeastLoads_18 : decode cX3_findLeastLoads 18 = .ok (.aload_n 1, 1) := by decide +kernel
theorem dX3_findLeastLoads_19 : decode cX3_findLeastLoads 19 = .ok (.getfield 40, 3) := by decide +kernel
theorem dX3_findLeastLoads_22 : decode cX3_findLeastLoads 22 = .ok (.if_icmp .ne 7, 3) := by decide +kernel
theorem dX3_findLeastLoads_29 : decode cX3_findLeastLoads 29 = .ok (.ldc 46, 2) := by decide +kernel
theorem dX3_findLeastLoads_31 : decode cX3_findLeastLoads 31 = .ok (.iastore, 1) := by decide +kernel
theorem dX3_findLeastLoads_32 : decode cX3_findLeastLoads 32 = .ok (.iinc 2 1, 3) := by decide +kernel
theorem dX3_findLeastLoads_35 : decode cX3_findLeastLoads 35 = .ok (.goto (-33), 3) := by decide +kernel
theorem dX3_findLeastLoads_25 : decode cX3_findLeastLoads 25 = .ok (.iconst 0, 1) := by decide +kernel
theorem dX3_findLeastLoads_26 : decode cX3_findLeastLoads 26 = .ok (.goto 5, 3) := by decide +kernel
set_option maxHeartbeats 4000000 in
set_option maxRecDepth 100000 in
theorem s_findLeastLoads (l : Launch) (g : xG) (sz : Nat) (cw : Nat) (lo_ : Nat) (ve : Nat) (wb : Nat) (Nb : Nat) (Wn : Nat) (lr : Nat → Nat) (w1 : Value) (w2 : Value) (w3 : Value) (v0 : Value) (v2 : Value) (v4 : Value) (v5 : Value) (v6 : Value) (v7 : Value) (v9 : Value) (v10 : Value) (lz : Nat → Nat → Int) (wbz : Nat → Int)  (hN1 : 1 ≤ Nb) (hN : Nb ≤ 10) (hW4 : Wn ≤ 4) (b_lz : ∀ i j, 0 ≤ lz i j ∧ lz i j ≤ 1000000) (b_wbz : ∀ j, 0 ≤ wbz j ∧ wbz j ≤ 100) : Met l yX3_findLeastLoads wsX3_findLeastLoads ({ frames := 3, cells := 0, slots := 0, locals := 71 }) (va_Pc [.ref cw, .ref ve] (fun U => xB g ([(cw, .inr (3, [.ref lo_, w1, w2, w3])), (lo_, .inl (xM g, 5, .inr (.inr (.inr (.inr (fun i => if i < 5 then some (lr i) else none))))))] ++ (xRI (xI g) 5 11 lr lz ++ [(ve, .inr (6, [v0, .int (nI Nb), v2, .int (nI Wn), v4, v5, v6, v7, .ref wb, v9, v10])), (wb, .inl (xI g, 10, .inl (fun j => iI (wbz j))))])) sz U)) (va_Qv (fun (_ : Unit) => True) (fun (_ : Unit) (t : State) => ∃ (lz2 : Nat → Nat → Int), (vTb lz2 Nb (Wn + 1)) ∧ (∀ i j, 0 ≤ lz2 i j ∧ lz2 i j ≤ 1000000) ∧ xE g ([(cw, .inr (3, [.ref lo_, w1, w2, w3])), (lo_, .inl (xM g, 5, .inr (.inr (.inr (.inr (fun i => if i < 5 then some (lr i) else none))))))] ++ (xRI (xI g) 5 11 lr lz2 ++ [(ve, .inr (6, [v0, .int (nI Nb), v2, .int (nI Wn), v4, v5, v6, v7, .ref wb, v9, v10])), (wb, .inl (xI g, 10, .inl (fun j => iI (wbz j))))])) (va_A ([(cw, .inr (3, [.ref lo_, w1, w2, w3])), (lo_, .inl (xM g, 5, .inr (.inr (.inr (.inr (fun i => if i < 5 then some (lr i) else none))))))] ++ (xRI (xI g) 5 11 lr lz ++ [(ve, .inr (6, [v0, .int (nI Nb), v2, .int (nI Wn), v4, v5, v6, v7, .ref wb, v9, v10])), (wb, .inl (xI g, 10, .inl (fun j => iI (wbz j))))])) sz) t) (va_A ([(cw, .inr (3, [.ref lo_, w1, w2, w3])), (lo_, .inl (xM g, 5, .inr (.inr (.inr (.inr (fun i => if i < 5 then some (lr i) else none))))))] ++ (xRI (xI g) 5 11 lr lz ++ [(ve, .inr (6, [v0, .int (nI Nb), v2, .int (nI Wn), v4, v5, v6, v7, .ref wb, v9, v10])), (wb, .inl (xI g, 10, .inl (fun j => iI (wbz j))))])) sz)) 0 0 (va_A ([(cw, .inr (3, [.ref lo_, w1, w2, w3])), (lo_, .inl (xM g, 5, .inr (.inr (.inr (.inr (fun i => if i < 5 then some (lr i) else none))))))] ++ (xRI (xI g) 5 11 lr lz ++ [(ve, .inr (6, [v0, .int (nI Nb), v2, .int (nI Wn), v4, v5, v6, v7, .ref wb, v9, v10])), (wb, .inl (xI g, 10, .inl (fun j => iI (wbz j))))])) sz) := by
  refine Met.ofW (cc := cX3_findLeastLoads) (maxL := 4) (ret := none) (by decide) rfl ?_
  intro p e s m args below meth c s₁ B hml hv
  obtain ⟨rfl, hsz, hP, hK, hD0⟩ := hv
  have hx := B.exec
  have hb := B.bytes
  have hr := B.returns
  have hts := atoms_spec (ws := wsX3_findLeastLoads) B.pre
  have hown : s.vm.findClass RX3 = some m.cls := findClass_of_methodNamed B.named
  have hlocks := B.notSynchronized
  subst hsz
  have hD := hD0.self (sz := s.heap.size)
  generalize hAe : va_A ([(cw, .inr (3, [.ref lo_, w1, w2, w3])), (lo_, .inl (xM g, 5, .inr (.inr (.inr (.inr (fun i => if i < 5 then some (lr i) else none))))))] ++ (xRI (xI g) 5 11 lr lz ++ [(ve, .inr (6, [v0, .int (nI Nb), v2, .int (nI Wn), v4, v5, v6, v7, .ref wb, v9, v10])), (wb, .inl (xI g, 10, .inl (fun j => iI (wbz j))))])) s.heap.size = A at hD ⊢
  have hA : ∀ q : Nat, s.heap.size ≤ q → A q := fun q h => by rw [← hAe]; exact Or.inr h
  have hS : va_S A s.heap s.heap [] := va_S.rf
  have hl := lv_entry ([.ref cw, .ref ve]) (n := 4) (Nat.le_of_ble_eq_true rfl)
  rw [lg_entry_eq]
  generalize (lg_sl ([.ref cw, .ref ve]) ++ List.replicate (4 - (lg_sl ([.ref cw, .ref ve])).length) Slot.unset).toArray = ls at hl ⊢
  have hl : lv_has ls 4 [(0, .ref cw), (1, .ref ve)] := hl
  have hFX3 : ∀ w ∈ u_ws RX3 TX3 4, w ∈ wsX3_findLeastLoads := by decide +kernel
  have hFX6 : ∀ w ∈ u_ws RX6 TX6 11, w ∈ wsX3_findLeastLoads := by decide +kernel
  refine lv_iconst (v := 0) hx hb dX3_findLeastLoads_0 (by decide) ?_
  refine lv_istore_n (lv' := [(2, .int 0), (0, .ref cw), (1, .ref ve)]) hx hb dX3_findLeastLoads_1 rfl hl (by decide) rfl (fun ls hl => ?_)
  have hloop2 : ∀ (n9 : Nat) (b : Nat) (zk : Nat → Nat → Int) (H : Heap) (locs : List Loc) (ls : Array Slot), 11 - b < n9 → (b ≤ Nb + 1) → (∀ x, x < b → zk 0 x = if x = Nb then 0 else 1000000) → (∀ i j, 0 ≤ zk i j ∧ zk i j ≤ 1000000) → va_P (xD g) vwCl ([(cw, .inr (3, [.ref lo_, w1, w2, w3])), (lo_, .inl (xM g, 5, .inr (.inr (.inr (.inr (fun i => if i < 5 then some (lr i) else none))))))] ++ (xRI (xI g) 5 11 lr zk ++ [(ve, .inr (6, [v0, .int (nI Nb), v2, .int (nI Wn), v4, v5, v6, v7, .ref wb, v9, v10])), (wb, .inl (xI g, 10, .inl (fun j => iI (wbz j))))])) H → va_D A ([(cw, .inr (3, [.ref lo_, w1, w2, w3])), (lo_, .inl (xM g, 5, .inr (.inr (.inr (.inr (fun i => if i < 5 then some (lr i) else none))))))] ++ (xRI (xI g) 5 11 lr zk ++ [(ve, .inr (6, [v0, .int (nI Nb), v2, .int (nI Wn), v4, v5, v6, v7, .ref wb, v9, v10])), (wb, .inl (xI g, 10, .inl (fun j => iI (wbz j))))])) → va_S A s.heap H locs → lv_has ls 4 [(2, .int (nI b)), (0, .ref cw), (1, .ref ve)] → W p l e (headSpec wsX3_findLeastLoads ({ frames := 3, cells := 0, slots := 0, locals := 71 })).room s m ([.ref cw, .ref ve] : List Value).toArray below meth c H locs 0 0 (MQ below (va_Qv (fun (_ : Unit) => True) (fun (_ : Unit) (t : State) => ∃ (lz2 : Nat → Nat → Int), (vTb lz2 Nb (Wn + 1)) ∧ (∀ i j, 0 ≤ lz2 i j ∧ lz2 i j ≤ 1000000) ∧ xE g ([(cw, .inr (3, [.ref lo_, w1, w2, w3])), (lo_, .inl (xM g, 5, .inr (.inr (.inr (.inr (fun i => if i < 5 then some (lr i) else none))))))] ++ (xRI (xI g) 5 11 lr lz2 ++ [(ve, .inr (6, [v0, .int (nI Nb), v2, .int (nI Wn), v4, v5, v6, v7, .ref wb, v9, v10])), (wb, .inl (xI g, 10, .inl (fun j => iI (wbz j))))])) (A) t) (A)) ([.ref cw, .ref ve] : List Value).toArray s 0 0 A) (F0 m 2 ls []) := by
    intro n9
    induction n9 with
    | zero =>
      intro b zk H locs ls hm hb1 hz0 bb_zk hP hD hS hl
      exact absurd hm (Nat.not_lt_zero _)
    | succ n9 ih2 =>
      intro b zk H locs ls hm hb1 hz0 bb_zk hP hD hS hl
      refine lv_iload_n hx hb dX3_findLeastLoads_2 rfl (lv_at hl 0 rfl) ?_
      refine lv_aload_n hx hb dX3_findLeastLoads_3 rfl (lv_at hl 2 rfl) ?_
      refine va_get (D := xD g) (ci := 6) (v := .int (nI Nb)) (C := RX6) (T := TX6) (N := 11) hx hb hts hFX6 hown hK hP 7 rfl rfl 1 (by decide) (hts (.fieldLink RX3 40 "Stevedore$Vessel" "bays" "I") (by decide +kernel)) (fun _ h9 => h9) rfl dX3_findLeastLoads_4 ?_
      refine lv_icmp_gt (tgt := 38) hx hb dX3_findLeastLoads_7 (by decide) (fun c_1 => ?_) (fun c_1 => ?_)
      · have nc_1 := (nI_ltI (a := Nb) (b := b) (by omega) (by omega)).mp c_1
        refine lv_iconst (v := 1) hx hb dX3_findLeastLoads_38 (by decide) ?_
        refine lv_istore_n (lv' := [(2, .int 1), (0, .ref cw), (1, .ref ve)]) hx hb dX3_findLeastLoads_39 rfl hl (by decide) rfl (fun ls hl => ?_)
        have hloop40 : ∀ (n9 : Nat) (r : Nat) (zr : Nat → Nat → Int) (H : Heap) (locs : List Loc) (ls : Array Slot), 6 - r < n9 → (1 ≤ r) → (r ≤ Wn + 1) → (vTb zr Nb r) → (∀ i j, 0 ≤ zr i j ∧ zr i j ≤ 1000000) → va_P (xD g) vwCl ([(cw, .inr (3, [.ref lo_, w1, w2, w3])), (lo_, .inl (xM g, 5, .inr (.inr (.inr (.inr (fun i => if i < 5 then some (lr i) else none))))))] ++ (xRI (xI g) 5 11 lr zr ++ [(ve, .inr (6, [v0, .int (nI Nb), v2, .int (nI Wn), v4, v5, v6, v7, .ref wb, v9, v10])), (wb, .inl (xI g, 10, .inl (fun j => iI (wbz j))))])) H → va_D A ([(cw, .inr (3, [.ref lo_, w1, w2, w3])), (lo_, .inl (xM g, 5, .inr (.inr (.inr (.inr (fun i => if i < 5 then some (lr i) else none))))))] ++ (xRI (xI g) 5 11 lr zr ++ [(ve, .inr (6, [v0, .int (nI Nb), v2, .int (nI Wn), v4, v5, v6, v7, .ref wb, v9, v10])), (wb, .inl (xI g, 10, .inl (fun j => iI (wbz j))))])) → va_S A s.heap H locs → lv_has ls 4 [(2, .int (nI r)), (0, .ref cw), (1, .ref ve)] → W p l e (headSpec wsX3_findLeastLoads ({ frames := 3, cells := 0, slots := 0, locals := 71 })).room s m ([.ref cw, .ref ve] : List Value).toArray below meth c H locs 0 0 (MQ below (va_Qv (fun (_ : Unit) => True) (fun (_ : Unit) (t : State) => ∃ (lz2 : Nat → Nat → Int), (vTb lz2 Nb (Wn + 1)) ∧ (∀ i j, 0 ≤ lz2 i j ∧ lz2 i j ≤ 1000000) ∧ xE g ([(cw, .inr (3, [.ref lo_, w1, w2, w3])), (lo_, .inl (xM g, 5, .inr (.inr (.inr (.inr (fun i => if i < 5 then some (lr i) else none))))))] ++ (xRI (xI g) 5 11 lr lz2 ++ [(ve, .inr (6, [v0, .int (nI Nb), v2, .int (nI Wn), v4, v5, v6, v7, .ref wb, v9, v10])), (wb, .inl (xI g, 10, .inl (fun j => iI (wbz j))))])) (A) t) (A)) ([.ref cw, .ref ve] : List Value).toArray s 0 0 A) (F0 m 40 ls []) := by
          intro n9
          induction n9 with
          | zero =>
            intro r zr H locs ls hm hr1 hr2 htb bb_zr hP hD hS hl
            exact absurd hm (Nat.not_lt_zero _)
          | succ n9 ih40 =>
            intro r zr H locs ls hm hr1 hr2 htb bb_zr hP hD hS hl
            refine lv_iload_n hx hb dX3_findLeastLoads_40 rfl (lv_at hl 0 rfl) ?_
            refine lv_aload_n hx hb dX3_findLeastLoads_41 rfl (lv_at hl 2 rfl) ?_
            refine va_get (D := xD g) (ci := 6) (v := .int (nI Wn)) (C := RX6) (T := TX6) (N := 11) hx hb hts hFX6 hown hK hP 7 rfl rfl 3 (by decide) (hts (.fieldLink RX3 47 "Stevedore$Vessel" "wanted" "I") (by decide +kernel)) (fun _ h9 => h9) rfl dX3_findLeastLoads_42 ?_
            refine lv_icmp_gt (tgt := 98) hx hb dX3_findLeastLoads_45 (by decide) (fun c_2 => ?_) (fun c_2 => ?_)
            · have nc_2 := (nI_ltI (a := Wn) (b := r) (by omega) (by omega)).mp c_2
              have hP9 := hP
              have hD9 := hD
              exact W.vret hx hb hr (fun t ht hW => ⟨⟨(), rfl, (by first | trivial | rfl | assumption | omega), ⟨zr, (by rw [show Wn + 1 = r by omega]; exact htb), bb_zr, by rw [ht]; exact hP9, va_K.moved hW.alike hK, hD9⟩⟩, hS.F ht⟩) hS.2.2 dX3_findLeastLoads_98
            · have nc_2 := mt (nI_ltI (a := Wn) (b := r) (by omega) (by omega)).mpr c_2
              refine lv_aload_n hx hb dX3_findLeastLoads_48 rfl (lv_at hl 1 rfl) ?_
              refine va_get (D := xD g) (ci := 3) (v := .ref lo_) (C := RX3) (T := TX3) (N := 4) hx hb hts hFX3 hown hK hP 0 rfl rfl 0 (by decide) (hts (.fieldLink RX3 11 "Stevedore$CraneWalk" "least" "[[I") (by decide +kernel)) (fun _ h9 => h9) rfl dX3_findLeastLoads_49 ?_
              refine lv_iload_n hx hb dX3_findLeastLoads_52 rfl (lv_at hl 0 rfl) ?_
              refine xAldM hx hb hK hP 1 3 rfl rfl (vp_in_nI (by omega) (by omega)) dX3_findLeastLoads_53 ?_
              refine W.eq (g2 := F0 m 54 ls (.ref (lr r) :: [])) (congrArg (fun q9 => F0 m 54 ls (q9 :: [])) (xRow (n := 5) (k := r) (nI_clamp (by omega)) (by omega))) ?_
              refine lv_aload_n hx hb dX3_findLeastLoads_54 rfl (lv_at hl 2 rfl) ?_
              refine va_get (D := xD g) (ci := 6) (v := .int (nI Nb)) (C := RX6) (T := TX6) (N := 11) hx hb hts hFX6 hown hK hP 7 rfl rfl 1 (by decide) (hts (.fieldLink RX3 40 "Stevedore$Vessel" "bays" "I") (by decide +kernel)) (fun _ h9 => h9) rfl dX3_findLeastLoads_55 ?_
              refine lv_ldc (v := 1000000) hx hb hown (hts (.constant RX3 46 (1000000)) (by decide +kernel)) dX3_findLeastLoads_58 ?_
              refine va_iast (x := 1000000) hx hb hK hP hD hS _ 0 (xR_ap (X := [(cw, .inr (3, [.ref lo_, w1, w2, w3])), (lo_, .inl (xM g, 5, .inr (.inr (.inr (.inr (fun i => if i < 5 then some (lr i) else none))))))]) (xR_get0 (i := r) (by omega))) rfl (vp_in_nI (by omega) (by omega)) dX3_findLeastLoads_60 (fun H locs hP hD hS => ?_)
              rw [(xR_sap (X := [(cw, .inr (3, [.ref lo_, w1, w2, w3])), (lo_, .inl (xM g, 5, .inr (.inr (.inr (.inr (fun i => if i < 5 then some (lr i) else none))))))]) (xRI_set0 (v := 1000000) (by omega) (nI_clamp (by omega)) (by decide)))] at hP hD
              have hb_3 : ∀ i j, 0 ≤ (zU2 zr r Nb 1000000) i j ∧ (zU2 zr r Nb 1000000) i j ≤ 1000000 := zU2_all bb_zr (by omega)
              have hP : va_P (xD g) vwCl ([(cw, .inr (3, [.ref lo_, w1, w2, w3])), (lo_, .inl (xM g, 5, .inr (.inr (.inr (.inr (fun i => if i < 5 then some (lr i) else none))))))] ++ (xRI (xI g) 5 11 lr (zU2 zr r Nb 1000000) ++ [(ve, .inr (6, [v0, .int (nI Nb), v2, .int (nI Wn), v4, v5, v6, v7, .ref wb, v9, v10])), (wb, .inl (xI g, 10, .inl (fun j => iI (wbz j))))])) H := hP
              have hD : va_D A ([(cw, .inr (3, [.ref lo_, w1, w2, w3])), (lo_, .inl (xM g, 5, .inr (.inr (.inr (.inr (fun i => if i < 5 then some (lr i) else none))))))] ++ (xRI (xI g) 5 11 lr (zU2 zr r Nb 1000000) ++ [(ve, .inr (6, [v0, .int (nI Nb), v2, .int (nI Wn), v4, v5, v6, v7, .ref wb, v9, v10])), (wb, .inl (xI g, 10, .inl (fun j => iI (wbz j))))])) := hD
              refine lv_iconst (v := 0) hx hb dX3_findLeastLoads_61 (by decide) ?_
              refine lv_istore_n (lv' := [(3, .int 0), (2, .int (nI r)), (0, .ref cw), (1, .ref ve)]) hx hb dX3_findLeastLoads_62 rfl hl (by decide) rfl (fun ls hl => ?_)
              have hloop63 : ∀ (n9 : Nat) (b2 : Nat) (zi : Nat → Nat → Int) (H : Heap) (locs : List Loc) (ls : Array Slot), 11 - b2 < n9 → (b2 ≤ Nb) → (vTi zi Nb r b2) → (∀ i j, 0 ≤ zi i j ∧ zi i j ≤ 1000000) → va_P (xD g) vwCl ([(cw, .inr (3, [.ref lo_, w1, w2, w3])), (lo_, .inl (xM g, 5, .inr (.inr (.inr (.inr (fun i => if i < 5 then some (lr i) else none))))))] ++ (xRI (xI g) 5 11 lr zi ++ [(ve, .inr (6, [v0, .int (nI Nb), v2, .int (nI Wn), v4, v5, v6, v7, .ref wb, v9, v10])), (wb, .inl (xI g, 10, .inl (fun j => iI (wbz j))))])) H → va_D A ([(cw, .inr (3, [.ref lo_, w1, w2, w3])), (lo_, .inl (xM g, 5, .inr (.inr (.inr (.inr (fun i => if i < 5 then some (lr i) else none))))))] ++ (xRI (xI g) 5 11 lr zi ++ [(ve, .inr (6, [v0, .int (nI Nb), v2, .int (nI Wn), v4, v5, v6, v7, .ref wb, v9, v10])), (wb, .inl (xI g, 10, .inl (fun j => iI (wbz j))))])) → va_S A s.heap H locs → lv_has ls 4 [(3, .int (nI b2)), (0, .ref cw), (1, .ref ve), (2, .int (nI r))] → W p l e (headSpec wsX3_findLeastLoads ({ frames := 3, cells := 0, slots := 0, locals := 71 })).room s m ([.ref cw, .ref ve] : List Value).toArray below meth c H locs 0 0 (MQ below (va_Qv (fun (_ : Unit) => True) (fun (_ : Unit) (t : State) => ∃ (lz2 : Nat → Nat → Int), (vTb lz2 Nb (Wn + 1)) ∧ (∀ i j, 0 ≤ lz2 i j ∧ lz2 i j ≤ 1000000) ∧ xE g ([(cw, .inr (3, [.ref lo_, w1, w2, w3])), (lo_, .inl (xM g, 5, .inr (.inr (.inr (.inr (fun i => if i < 5 then some (lr i) else none))))))] ++ (xRI (xI g) 5 11 lr lz2 ++ [(ve, .inr (6, [v0, .int (nI Nb), v2, .int (nI Wn), v4, v5, v6, v7, .ref wb, v9, v10])), (wb, .inl (xI g, 10, .inl (fun j => iI (wbz j))))])) (A) t) (A)) ([.ref cw, .ref ve] : List Value).toArray s 0 0 A) (F0 m 63 ls []) := by
                intro n9
                induction n9 with
                | zero =>
                  intro b2 zi H locs ls hm hb2 hti bb_zi hP hD hS hl
                  exact absurd hm (Nat.not_lt_zero _)
                | succ n9 ih63 =>
                  intro b2 zi H locs ls hm hb2 hti bb_zi hP hD hS hl
                  refine lv_iload_n hx hb dX3_findLeastLoads_63 rfl (lv_at hl 0 rfl) ?_
                  refine lv_aload_n hx hb dX3_findLeastLoads_64 rfl (lv_at hl 2 rfl) ?_
                  refine va_get (D := xD g) (ci := 6) (v := .int (nI Nb)) (C := RX6) (T := TX6) (N := 11) hx hb hts hFX6 hown hK hP 7 rfl rfl 1 (by decide) (hts (.fieldLink RX3 40 "Stevedore$Vessel" "bays" "I") (by decide +kernel)) (fun _ h9 => h9) rfl dX3_findLeastLoads_65 ?_
                  refine lv_icmp_ge (tgt := 92) hx hb dX3_findLeastLoads_68 (by decide) (fun c_4 => ?_) (fun c_4 => ?_)
                  · have nc_4 := (nI_leI (a := Nb) (b := b2) (by omega) (by omega)).mp c_4
                    refine lv_iinc (v := nI (r + 1)) (lv' := [(2, .int (nI (r + 1))), (3, .int (nI b2)), (0, .ref cw), (1, .ref ve)]) hx hb dX3_findLeastLoads_92 hl (k := 3) rfl (nI_add r 1) (by decide) rfl (fun ls hl => ?_)
                    refine lv_goto (tgt := 40) hx hb dX3_findLeastLoads_95 (by decide) ?_
                    exact ih40 (r + 1) zi _ _ _ (by omega) (by omega) (by omega) (vTi_end (by rw [show Nb = b2 by omega] at hti ⊢; exact hti) hr1 (by omega)) bb_zi hP hD hS (lv_sub hl [0, 2, 3] rfl)
                  · have nc_4 := mt (nI_leI (a := Nb) (b := b2) (by omega) (by omega)).mpr c_4
                    refine lv_aload_n hx hb dX3_findLeastLoads_71 rfl (lv_at hl 1 rfl) ?_
                    refine va_get (D := xD g) (ci := 3) (v := .ref lo_) (C := RX3) (T := TX3) (N := 4) hx hb hts hFX3 hown hK hP 0 rfl rfl 0 (by decide) (hts (.fieldLink RX3 11 "Stevedore$CraneWalk" "least" "[[I") (by decide +kernel)) (fun _ h9 => h9) rfl dX3_findLeastLoads_72 ?_
                    refine lv_iload_n hx hb dX3_findLeastLoads_75 rfl (lv_at hl 3 rfl) ?_
                    refine xAldM hx hb hK hP 1 3 rfl rfl (vp_in_nI (by omega) (by omega)) dX3_findLeastLoads_76 ?_
                    refine W.eq (g2 := F0 m 77 ls (.ref (lr r) :: [])) (congrArg (fun q9 => F0 m 77 ls (q9 :: [])) (xRow (n := 5) (k := r) (nI_clamp (by omega)) (by omega))) ?_
                    refine lv_iload_n hx hb dX3_findLeastLoads_77 rfl (lv_at hl 0 rfl) ?_
                    refine lv_aload_n hx hb dX3_findLeastLoads_78 rfl (lv_at hl 1 rfl) ?_
                    refine lv_aload_n hx hb dX3_findLeastLoads_79 rfl (lv_at hl 2 rfl) ?_
                    refine lv_iload_n hx hb dX3_findLeastLoads_80 rfl (lv_at hl 3 rfl) ?_
                    refine lv_iload_n hx hb dX3_findLeastLoads_81 rfl (lv_at hl 0 rfl) ?_
                    have hPc := hP.sub (ws' := ([(cw, .inr (3, [.ref lo_, w1, w2, w3])), (lo_, .inl (xM g, 5, .inr (.inr (.inr (.inr (fun i => if i < 5 then some (lr i) else none))))))] ++ (xRI (xI g) 5 11 lr zi ++ [(ve, .inr (6, [v0, .int (nI Nb), v2, .int (nI Wn), v4, v5, v6, v7, .ref wb, v9, v10])), (wb, .inl (xI g, 10, .inl (fun j => iI (wbz j))))]))) [0, 1, 2, 3, 4, 5, 6, 7, 8] rfl
                    have hDc := hD.sub (ws' := ([(cw, .inr (3, [.ref lo_, w1, w2, w3])), (lo_, .inl (xM g, 5, .inr (.inr (.inr (.inr (fun i => if i < 5 then some (lr i) else none))))))] ++ (xRI (xI g) 5 11 lr zi ++ [(ve, .inr (6, [v0, .int (nI Nb), v2, .int (nI Wn), v4, v5, v6, v7, .ref wb, v9, v10])), (wb, .inl (xI g, 10, .inl (fun j => iI (wbz j))))]))) [0, 1, 2, 3, 4, 5, 6, 7, 8] (by decide) rfl
                    have hFc := xFree hS hA
                    refine va_calli (va_runV (As := [.ref ve, .int (nI r), .int (nI b2)]) (rest := [.int (nI b2), .ref (lr r)]) ⟨hx, hb, hml, hown, hts⟩ (s_leastLoad l g H.size cw lo_ ve wb Nb r b2 lr w1 w2 w3 v0 v2 (.int (nI Wn)) v4 v5 v6 v7 v9 v10 zi wbz (by first | assumption | omega) (by first | assumption | omega) (by first | assumption | omega) (by first | assumption | omega) bb_zi b_wbz) (cwV 3 hts gX3_findLeastLoads_X3_leastLoad rfl rfl rfl (by decide +kernel) ⟨Nat.le_of_ble_eq_true rfl, Nat.le_of_ble_eq_true rfl⟩) ⟨xB.blind, va_recv hK hPc (ci := 3) (q0 := 0) rfl rfl, fun U9 hU9 hW9 => ⟨rfl, xB.mk hPc hK hDc hU9 hW9⟩⟩ rfl rfl hl.1 rfl (lv_room (Nat.le_of_ble_eq_true rfl)) dX3_findLeastLoads_82 ⟨Nat.le_of_ble_eq_true rfl, Nat.le_of_ble_eq_true rfl⟩) hS (fun q _ h => hFc q h) hFc (fun r_5 _ t H1 locs ht hvm hw_6 hB hz1 hk1 hS => ?_)
                    have hP := xSame hP hk1
                    generalize H1 = H at hP hS ⊢
                    have hP : va_P (xD g) vwCl ([(cw, .inr (3, [.ref lo_, w1, w2, w3])), (lo_, .inl (xM g, 5, .inr (.inr (.inr (.inr (fun i => if i < 5 then some (lr i) else none))))))] ++ (xRI (xI g) 5 11 lr zi ++ [(ve, .inr (6, [v0, .int (nI Nb), v2, .int (nI Wn), v4, v5, v6, v7, .ref wb, v9, v10])), (wb, .inl (xI g, 10, .inl (fun j => iI (wbz j))))])) H := hP
                    have hD : va_D A ([(cw, .inr (3, [.ref lo_, w1, w2, w3])), (lo_, .inl (xM g, 5, .inr (.inr (.inr (.inr (fun i => if i < 5 then some (lr i) else none))))))] ++ (xRI (xI g) 5 11 lr zi ++ [(ve, .inr (6, [v0, .int (nI Nb), v2, .int (nI Wn), v4, v5, v6, v7, .ref wb, v9, v10])), (wb, .inl (xI g, 10, .inl (fun j => iI (wbz j))))])) := hD
                    try dsimp only at hw_6
                    obtain ⟨u9, rfl, hu1, hu2, hu3, hu4⟩ := hw_6
                    refine va_iast (x := iI u9) hx hb hK hP hD hS _ 0 (xR_ap (X := [(cw, .inr (3, [.ref lo_, w1, w2, w3])), (lo_, .inl (xM g, 5, .inr (.inr (.inr (.inr (fun i => if i < 5 then some (lr i) else none))))))]) (xR_get0 (i := r) (by omega))) rfl (vp_in_nI (by omega) (by omega)) dX3_findLeastLoads_85 (fun H locs hP hD hS => ?_)
                    rw [(xR_sap (X := [(cw, .inr (3, [.ref lo_, w1, w2, w3])), (lo_, .inl (xM g, 5, .inr (.inr (.inr (.inr (fun i => if i < 5 then some (lr i) else none))))))]) (xRI_set0 (v := u9) (by omega) (nI_clamp (by omega)) rfl))] at hP hD
                    have hb_7 : ∀ i j, 0 ≤ (zU2 zi r b2 u9) i j ∧ (zU2 zi r b2 u9) i j ≤ 1000000 := zU2_all bb_zi (by omega)
                    have hP : va_P (xD g) vwCl ([(cw, .inr (3, [.ref lo_, w1, w2, w3])), (lo_, .inl (xM g, 5, .inr (.inr (.inr (.inr (fun i => if i < 5 then some (lr i) else none))))))] ++ (xRI (xI g) 5 11 lr (zU2 zi r b2 u9) ++ [(ve, .inr (6, [v0, .int (nI Nb), v2, .int (nI Wn), v4, v5, v6, v7, .ref wb, v9, v10])), (wb, .inl (xI g, 10, .inl (fun j => iI (wbz j))))])) H := hP
                    have hD : va_D A ([(cw, .inr (3, [.ref lo_, w1, w2, w3])), (lo_, .inl (xM g, 5, .inr (.inr (.inr (.inr (fun i => if i < 5 then some (lr i) else none))))))] ++ (xRI (xI g) 5 11 lr (zU2 zi r b2 u9) ++ [(ve, .inr (6, [v0, .int (nI Nb), v2, .int (nI Wn), v4, v5, v6, v7, .ref wb, v9, v10])), (wb, .inl (xI g, 10, .inl (fun j => iI (wbz j))))])) := hD
                    refine lv_iinc (v := nI (b2 + 1)) (lv' := [(3, .int (nI (b2 + 1))), (0, .ref cw), (1, .ref ve), (2, .int (nI r))]) hx hb dX3_findLeastLoads_86 hl (k := 0) rfl (nI_add b2 1) (by decide) rfl (fun ls hl => ?_)
                    refine lv_goto (tgt := 63) hx hb dX3_findLeastLoads_89 (by decide) ?_
                    exact ih63 (b2 + 1) (zU2 zi r b2 u9) _ _ _ (by omega) (by omega) (vTi_step hti hr1 (by omega) hu3 (hu4 (by omega))) hb_7 hP hD hS (lv_sub hl [0, 1, 2, 3] rfl)
              exact hloop63 (12) 0 (zU2 zr r Nb 1000000) _ _ _ (by omega) (by omega) (vTi_start htb hr1) hb_3 hP hD hS (by rw [(show nI 0 = (0 : Int32) from by decide)]; exact lv_sub hl [0, 2, 3, 1] rfl)
        exact hloop40 (7) 1 zk _ _ _ (by omega) (by omega) (by omega) ⟨fun x hx => by rw [hz0 x (by omega), if_neg (by omega)], by rw [hz0 Nb (by omega), if_pos rfl], fun q h1 h2 => absurd h1 (by omega), fun q y h1 h2 => absurd h1 (by omega), fun q => absurd q (by omega)⟩ bb_zk hP hD hS (by rw [(show nI 1 = (1 : Int32) from by decide)]; exact lv_sub hl [0, 1, 2] rfl)
      · have nc_1 := mt (nI_ltI (a := Nb) (b := b) (by omega) (by omega)).mpr c_1
        refine lv_aload_n hx hb dX3_findLeastLoads_10 rfl (lv_at hl 1 rfl) ?_
        refine va_get (D := xD g) (ci := 3) (v := .ref lo_) (C := RX3) (T := TX3) (N := 4) hx hb hts hFX3 hown hK hP 0 rfl rfl 0 (by decide) (hts (.fieldLink RX3 11 "Stevedore$CraneWalk" "least" "[[I") (by decide +kernel)) (fun _ h9 => h9) rfl dX3_findLeastLoads_11 ?_
        refine lv_iconst (v := 0) hx hb dX3_findLeastLoads_14 (by decide) ?_
        refine xAldM hx hb hK hP 1 3 rfl rfl (by unfold vp_in; decide) dX3_findLeastLoads_15 ?_
        refine W.eq (g2 := F0 m 16 ls (.ref (lr 0) :: [])) (congrArg (fun q9 => F0 m 16 ls (q9 :: [])) (xRow (n := 5) (k := 0) (by decide) (by omega))) ?_
        refine lv_iload_n hx hb dX3_findLeastLoads_16 rfl (lv_at hl 0 rfl) ?_
        refine lv_iload_n hx hb dX3_findLeastLoads_17 rfl (lv_at hl 0 rfl) ?_
        refine lv_aload_n hx hb dX3_findLeastLoads_18 rfl (lv_at hl 2 rfl) ?_
        refine va_get (D := xD g) (ci := 6) (v := .int (nI Nb)) (C := RX6) (T := TX6) (N := 11) hx hb hts hFX6 hown hK hP 7 rfl rfl 1 (by decide) (hts (.fieldLink RX3 40 "Stevedore$Vessel" "bays" "I") (by decide +kernel)) (fun _ h9 => h9) rfl dX3_findLeastLoads_19 ?_
        refine lv_icmp_ne (tgt := 29) hx hb dX3_findLeastLoads_22 (by decide) (fun c_8 => ?_) (fun c_8 => ?_)
        · have nc_8 := mt (nI_eq (a := b) (b := Nb) (by omega) (by omega)).mpr c_8
          refine lv_ldc (v := 1000000) hx hb hown (hts (.constant RX3 46 (1000000)) (by decide +kernel)) dX3_findLeastLoads_29 ?_
          refine va_iast (x := 1000000) hx hb hK hP hD hS _ 0 (xR_ap (X := [(cw, .inr (3, [.ref lo_, w1, w2, w3])), (lo_, .inl (xM g, 5, .inr (.inr (.inr (.inr (fun i => if i < 5 then some (lr i) else none))))))]) (xR_get0 (i := 0) (by omega))) rfl (vp_in_nI (by omega) (by omega)) dX3_findLeastLoads_31 (fun H locs hP hD hS => ?_)
          rw [(xR_sap (X := [(cw, .inr (3, [.ref lo_, w1, w2, w3])), (lo_, .inl (xM g, 5, .inr (.inr (.inr (.inr (fun i => if i < 5 then some (lr i) else none))))))]) (xRI_set0 (v := 1000000) (by omega) (nI_clamp (by omega)) (by decide)))] at hP hD
          have hb_9 : ∀ i j, 0 ≤ (zU2 zk 0 b 1000000) i j ∧ (zU2 zk 0 b 1000000) i j ≤ 1000000 := zU2_all bb_zk (by omega)
          have hP : va_P (xD g) vwCl ([(cw, .inr (3, [.ref lo_, w1, w2, w3])), (lo_, .inl (xM g, 5, .inr (.inr (.inr (.inr (fun i => if i < 5 then some (lr i) else none))))))] ++ (xRI (xI g) 5 11 lr (zU2 zk 0 b 1000000) ++ [(ve, .inr (6, [v0, .int (nI Nb), v2, .int (nI Wn), v4, v5, v6, v7, .ref wb, v9, v10])), (wb, .inl (xI g, 10, .inl (fun j => iI (wbz j))))])) H := hP
          have hD : va_D A ([(cw, .inr (3, [.ref lo_, w1, w2, w3])), (lo_, .inl (xM g, 5, .inr (.inr (.inr (.inr (fun i => if i < 5 then some (lr i) else none))))))] ++ (xRI (xI g) 5 11 lr (zU2 zk 0 b 1000000) ++ [(ve, .inr (6, [v0, .int (nI Nb), v2, .int (nI Wn), v4, v5, v6, v7, .ref wb, v9, v10])), (wb, .inl (xI g, 10, .inl (fun j => iI (wbz j))))])) := hD
          refine lv_iinc (v := nI (b + 1)) (lv' := [(2, .int (nI (b + 1))), (0, .ref cw), (1, .ref ve)]) hx hb dX3_findLeastLoads_32 hl (k := 0) rfl (nI_add b 1) (by decide) rfl (fun ls hl => ?_)
          refine lv_goto (tgt := 2) hx hb dX3_findLeastLoads_35 (by decide) ?_
          exact ih2 (b + 1) (zU2 zk 0 b 1000000) _ _ _ (by omega) (by omega) (by intro x hx; rw [zU2_at]; by_cases q : x = b; (rw [q, zU_at]; first | (rw [if_pos (by omega)]) | (rw [if_neg (by omega)])); (rw [zU_ne q]; exact hz0 x (by omega))) hb_9 hP hD hS (lv_sub hl [0, 1, 2] rfl)
        · have nc_8 := (nI_eq (a := b) (b := Nb) (by omega) (by omega)).mp c_8
          refine lv_iconst (v := 0) hx hb dX3_findLeastLoads_25 (by decide) ?_
          refine lv_goto (tgt := 31) hx hb dX3_findLeastLoads_26 (by decide) ?_
          refine va_iast (x := 0) hx hb hK hP hD hS _ 0 (xR_ap (X := [(cw, .inr (3, [.ref lo_, w1, w2, w3])), (lo_, .inl (xM g, 5, .inr (.inr (.inr (.inr (fun i => if i < 5 then some (lr i) else none))))))]) (xR_get0 (i := 0) (by omega))) rfl (vp_in_nI (by omega) (by omega)) dX3_findLeastLoads_31 (fun H locs hP hD hS => ?_)
          rw [(xR_sap (X := [(cw, .inr (3, [.ref lo_, w1, w2, w3])), (lo_, .inl (xM g, 5, .inr (.inr (.inr (.inr (fun i => if i < 5 then some (lr i) else none))))))]) (xRI_set0 (v := 0) (by omega) (nI_clamp (by omega)) (by decide)))] at hP hD
          have hb_10 : ∀ i j, 0 ≤ (zU2 zk 0 b 0) i j ∧ (zU2 zk 0 b 0) i j ≤ 1000000 := zU2_all bb_zk (by omega)
          have hP : va_P (xD g) vwCl ([(cw, .inr (3, [.ref lo_, w1, w2, w3])), (lo_, .inl (xM g, 5, .inr (.inr (.inr (.inr (fun i => if i < 5 then some (lr i) else none))))))] ++ (xRI (xI g) 5 11 lr (zU2 zk 0 b 0) ++ [(ve, .inr (6, [v0, .int (nI Nb), v2, .int (nI Wn), v4, v5, v6, v7, .ref wb, v9, v10])), (wb, .inl (xI g, 10, .inl (fun j => iI (wbz j))))])) H := hP
          have hD : va_D A ([(cw, .inr (3, [.ref lo_, w1, w2, w3])), (lo_, .inl (xM g, 5, .inr (.inr (.inr (.inr (fun i => if i < 5 then some (lr i) else none))))))] ++ (xRI (xI g) 5 11 lr (zU2 zk 0 b 0) ++ [(ve, .inr (6, [v0, .int (nI Nb), v2, .int (nI Wn), v4, v5, v6, v7, .ref wb, v9, v10])), (wb, .inl (xI g, 10, .inl (fun j => iI (wbz j))))])) := hD
          refine lv_iinc (v := nI (b + 1)) (lv' := [(2, .int (nI (b + 1))), (0, .ref cw), (1, .ref ve)]) hx hb dX3_findLeastLoads_32 hl (k := 0) rfl (nI_add b 1) (by decide) rfl (fun ls hl => ?_)
          refine lv_goto (tgt := 2) hx hb dX3_findLeastLoads_35 (by decide) ?_
          exact ih2 (b + 1) (zU2 zk 0 b 0) _ _ _ (by omega) (by omega) (by intro x hx; rw [zU2_at]; by_cases q : x = b; (rw [q, zU_at]; first | (rw [if_pos (by omega)]) | (rw [if_neg (by omega)])); (rw [zU_ne q]; exact hz0 x (by omega))) hb_10 hP hD hS (lv_sub hl [0, 1, 2] rfl)
  exact hloop2 (12) 0 lz _ _ _ (by omega) (by omega) (fun x hx => absurd hx (Nat.not_lt_zero _)) b_lz hP hD hS (by rw [(show nI 0 = (0 : Int32) from by decide)]; exact lv_sub hl [0, 1, 2] rfl)
theorem dX3_chooseRangeCount_0 : decode cX3_chooseRangeCount 0 = .ok (.aload_n 1, 1) := by decide +kernel
theorem dX3_chooseRangeCount_1 : decode cX3_chooseRangeCount 1 = .ok (.iconst 1, 1) := by decide +kernel
theorem dX3_chooseRangeCount_2 : decode cX3_chooseRangeCount 2 = .ok (.putfield 67, 3) := by decide +kernel
theorem dX3_chooseRangeCount_5 : decode cX3_chooseRangeCount 5 = .ok (.iconst 2, 1) := by decide +kernel
theorem dX3_chooseRangeCount_6 : decode cX3_chooseRangeCount 6 = .ok (.istore_n 2, 1) := by decide +kernel
theorem dX3_chooseRangeCount_7 : decode cX3_chooseRangeCount 7 = .ok (.iload_n 2, 1) := by decide +kernel
theorem dX3_chooseRangeCount_8 : decode cX3_chooseRangeCount 8 = .ok (.aload_n 1, 1) := by decide +kernel
theorem dX3_chooseRangeCount_9 : decode cX3_chooseRangeCount 9 = .ok (.getfield 47, 3) := by decide +kernel
theorem dX3_chooseRangeCount_12 : decode cX3_chooseRangeCount 12 = .ok (.if_icmp .gt 36, 3) := by decide +kernel
theorem dX3_chooseRangeCount_48 : decode cX3_chooseRangeCount 48 = .ok (.aload_n 1, 1) := by decide +kernel
theorem dX3_chooseRangeCount_49 : decode cX3_chooseRangeCount 49 = .ok (.aload_n 0, 1) := by decide +kernel
theorem dX3_chooseRangeCount_50 : decode cX3_chooseRangeCount 50 = .ok (.getfield 11, 3) := by decide +kernel
theorem dX3_chooseRangeCount_53 : decode cX3_chooseRangeCount 53 = .ok (.aload_n 1, 1) := by decide +kernel
theorem dX3_chooseRangeCount_54 : decode cX3_chooseRangeCount 54 = .ok (.getfield 67, 3) := by decide +kernel
theorem dX3_chooseRangeCount_57 : decode cX3_chooseRangeCount 57 = .ok (.aaload, 1) := by decide +kernel
theorem dX3_chooseRangeCount_58 : decode cX3_chooseRangeCount 58 = .ok (.iconst 0, 1) := by decide +kernel
theorem dX3_chooseRangeCount_59 : decode cX3_chooseRangeCount 59 = .ok (.iaload, 1) := by decide +kernel
theorem dX3_chooseRangeCount_60 : decode cX3_chooseRangeCount 60 = .ok (.putfield 70, 3) := by decide +kernel
theorem dX3_chooseRangeCount_63 : decode cX3_chooseRangeCount 63 = .ok (.return_, 1) := by decide +kernel
theorem dX3_chooseRangeCount_15 : decode cX3_chooseRangeCount 15 = .ok (.aload_n 0, 1) := by decide +kernel
theorem dX3_chooseRangeCount_16 : decode cX3_chooseRangeCount 16 = .ok (.getfield 11, 3) := by decide +kernel
theorem dX3_chooseRangeCount_19 : decode cX3_chooseRangeCount 19 = .ok (.iload_n 2, 1) := by decide +kernel
theorem dX3_chooseRangeCount_20 : decode cX3_chooseRangeCount 20 = .ok (.aaload, 1) := by decide +kernel
theorem dX3_chooseRangeCount_21 : decode cX3_chooseRangeCount 21 = .ok (.iconst 0, 1) := by decide +kernel
theorem dX3_chooseRangeCount_22 : decode cX3_chooseRangeCount 22 = .ok (.iaload, 1) := by decide +kernel
theorem dX3_chooseRangeCount_23 : decode cX3_chooseRangeCount 23 = .ok (.aload_n 0, 1) := by decide +kernel
theorem dX3_chooseRangeCount_24 : decode cX3_chooseRangeCount 24 = .ok (.getfield 11, 3) := by decide +kernel
theorem dX3_chooseRangeCount_27 : decode cX3_chooseRangeCount 27 = .ok (.aload_n 1, 1) := by decide +kernel
theorem dX3_chooseRangeCount_28 : decode cX3_chooseRangeCount 28 = .ok (.getfield 67, 3) := by decide +kernel
theorem dX3_chooseRangeCount_31 : decode cX3_chooseRangeCount 31 = .ok (.aaload, 1) := by decide +kernel
theorem dX3_chooseRangeCount_32 : decode cX3_chooseRangeCount 32 = .ok (.iconst 0, 1) := by decide +kernel
theorem dX3_chooseRangeCount_33 : decode cX3_chooseRangeCount 33 = .ok (.iaload, 1) := by decide +kernel
theorem dX3_chooseRangeCount_34 : decode cX3_chooseRangeCount 34 = .ok (.if_icmp .ge 8, 3) := by decide +kernel
theorem dX3_chooseRangeCount_42 : decode cX3_chooseRangeCount 42 = .ok (.iinc 2 1, 3) := by decide +kernel
theorem dX3_chooseRangeCount_45 : decode cX3_chooseRangeCount 45 = .ok (.goto (-38), 3) := by decide +kernel
theorem dX3_chooseRangeCount_37 : decode cX3_chooseRangeCount 37 = .ok (.aload_n 1, 1) := by decide +kernel
theorem dX3_chooseRangeCount_38 : decode cX3_chooseRangeCount 38 = .ok (.iload_n 2, 1) := by decide +kernel
theorem dX3_chooseRangeCount_39 : decode cX3_chooseRangeCount 39 = .ok (.putfield 67, 3) := by decide +kernel
set_option maxHeartbeats 4000000 in
set_option maxRecDepth 100000 in
theorem s_chooseRangeCount (l : Launch) (g : xG) (sz : Nat) (cw : Nat) (lo_ : Nat) (ve : Nat) (Wn : Nat) (lr : Nat → Nat) (w1 : Value) (w2 : Value) (w3 : Value) (v0 : Value) (v1 : Value) (v2 : Value) (v4 : Value) (v5 : Value) (v6 : Value) (v7 : Value) (v8 : Value) (v9 : Value) (v10 : Value) (lz : Nat → Nat → Int)  (hW1 : 1 ≤ Wn) (hW4 : Wn ≤ 4) (b_lz : ∀ i j, 0 ≤ lz i j ∧ lz i j ≤ 1000000) : Met l yX3_chooseRangeCount wsX3_chooseRangeCount ({ frames := 0, cells := 0, slots := 0, locals := 0 }) (va_Pc [.ref cw, .ref ve] (fun U => xB g ([(cw, .inr (3, [.ref lo_, w1, w2, w3])), (lo_, .inl (xM g, 5, .inr (.inr (.inr (.inr (fun i => if i < 5 then some (lr i) else none))))))] ++ (xRI (xI g) 5 11 lr lz ++ [(ve, .inr (6, [v0, v1, v2, .int (nI Wn), v4, v5, v6, v7, v8, v9, v10]))])) sz U)) (va_Qv (fun (_ : Unit) => True) (fun (_ : Unit) (t : State) => ∃ (R2 : Nat) (gl2 : Int), (1 ≤ R2 ∧ R2 ≤ Wn ∧ gl2 = lz R2 0 ∧ gl2 ≤ lz 1 0) ∧ xE g ([(cw, .inr (3, [.ref lo_, w1, w2, w3])), (lo_, .inl (xM g, 5, .inr (.inr (.inr (.inr (fun i => if i < 5 then some (lr i) else none))))))] ++ (xRI (xI g) 5 11 lr lz ++ [(ve, .inr (6, [v0, v1, v2, .int (nI Wn), .int (nI R2), .int (iI gl2), v6, v7, v8, v9, v10]))])) (va_A ([(cw, .inr (3, [.ref lo_, w1, w2, w3])), (lo_, .inl (xM g, 5, .inr (.inr (.inr (.inr (fun i => if i < 5 then some (lr i) else none))))))] ++ (xRI (xI g) 5 11 lr lz ++ [(ve, .inr (6, [v0, v1, v2, .int (nI Wn), v4, v5, v6, v7, v8, v9, v10]))])) sz) t) (va_A ([(cw, .inr (3, [.ref lo_, w1, w2, w3])), (lo_, .inl (xM g, 5, .inr (.inr (.inr (.inr (fun i => if i < 5 then some (lr i) else none))))))] ++ (xRI (xI g) 5 11 lr lz ++ [(ve, .inr (6, [v0, v1, v2, .int (nI Wn), v4, v5, v6, v7, v8, v9, v10]))])) sz)) 0 0 (va_A ([(cw, .inr (3, [.ref lo_, w1, w2, w3])), (lo_, .inl (xM g, 5, .inr (.inr (.inr (.inr (fun i => if i < 5 then some (lr i) else none))))))] ++ (xRI (xI g) 5 11 lr lz ++ [(ve, .inr (6, [v0, v1, v2, .int (nI Wn), v4, v5, v6, v7, v8, v9, v10]))])) sz) := by
  refine Met.ofW (cc := cX3_chooseRangeCount) (maxL := 3) (ret := none) (by decide) rfl ?_
  intro p e s m args below meth c s₁ B hml hv
  obtain ⟨rfl, hsz, hP, hK, hD0⟩ := hv
  have hx := B.exec
  have hb := B.bytes
  have hr := B.returns
  have hts := atoms_spec (ws := wsX3_chooseRangeCount) B.pre
  have hown : s.vm.findClass RX3 = some m.cls := findClass_of_methodNamed B.named
  have hlocks := B.notSynchronized
  subst hsz
  have hD := hD0.self (sz := s.heap.size)
  generalize hAe : va_A ([(cw, .inr (3, [.ref lo_, w1, w2, w3])), (lo_, .inl (xM g, 5, .inr (.inr (.inr (.inr (fun i => if i < 5 then some (lr i) else none))))))] ++ (xRI (xI g) 5 11 lr lz ++ [(ve, .inr (6, [v0, v1, v2, .int (nI Wn), v4, v5, v6, v7, v8, v9, v10]))])) s.heap.size = A at hD ⊢
  have hA : ∀ q : Nat, s.heap.size ≤ q → A q := fun q h => by rw [← hAe]; exact Or.inr h
  have hS : va_S A s.heap s.heap [] := va_S.rf
  have hl := lv_entry ([.ref cw, .ref ve]) (n := 3) (Nat.le_of_ble_eq_true rfl)
  rw [lg_entry_eq]
  generalize (lg_sl ([.ref cw, .ref ve]) ++ List.replicate (3 - (lg_sl ([.ref cw, .ref ve])).length) Slot.unset).toArray = ls at hl ⊢
  have hl : lv_has ls 3 [(0, .ref cw), (1, .ref ve)] := hl
  have hFX3 : ∀ w ∈ u_ws RX3 TX3 4, w ∈ wsX3_chooseRangeCount := by decide +kernel
  have hFX6 : ∀ w ∈ u_ws RX6 TX6 11, w ∈ wsX3_chooseRangeCount := by decide +kernel
  refine lv_aload_n hx hb dX3_chooseRangeCount_0 rfl (lv_at hl 1 rfl) ?_
  refine lv_iconst (v := 1) hx hb dX3_chooseRangeCount_1 (by decide) ?_
  refine va_put (D := xD g) (ci := 6) (v := .int 1) (ty := .int) (C := RX6) (T := TX6) (N := 11) hx hb hts hFX6 tyX6 tyX6_ok nmX6 hown hK hP hD hS 7 rfl rfl 4 (by decide) (hts (.fieldLink RX3 67 "Stevedore$Vessel" "rangeCount" "I") (by decide +kernel)) (fun _ h9 => h9) rfl (by decide +kernel) rfl rfl (Nat.le_of_ble_eq_true rfl) dX3_chooseRangeCount_2 (fun H locs hP hD hS => ?_)
  have hP : va_P (xD g) vwCl ([(cw, .inr (3, [.ref lo_, w1, w2, w3])), (lo_, .inl (xM g, 5, .inr (.inr (.inr (.inr (fun i => if i < 5 then some (lr i) else none))))))] ++ (xRI (xI g) 5 11 lr lz ++ [(ve, .inr (6, [v0, v1, v2, .int (nI Wn), .int 1, v5, v6, v7, v8, v9, v10]))])) H := hP
  have hD : va_D A ([(cw, .inr (3, [.ref lo_, w1, w2, w3])), (lo_, .inl (xM g, 5, .inr (.inr (.inr (.inr (fun i => if i < 5 then some (lr i) else none))))))] ++ (xRI (xI g) 5 11 lr lz ++ [(ve, .inr (6, [v0, v1, v2, .int (nI Wn), .int 1, v5, v6, v7, v8, v9, v10]))])) := hD
  refine lv_iconst (v := 2) hx hb dX3_chooseRangeCount_5 (by decide) ?_
  refine lv_istore_n (lv' := [(2, .int 2), (0, .ref cw), (1, .ref ve)]) hx hb dX3_chooseRangeCount_6 rfl hl (by decide) rfl (fun ls hl => ?_)
  have hloop7 : ∀ (n9 : Nat) (r : Nat) (rc : Nat) (H : Heap) (locs : List Loc) (ls : Array Slot), 6 - r < n9 → (2 ≤ r) → (r ≤ Wn + 1) → (1 ≤ rc ∧ rc ≤ Wn) → (lz rc 0 ≤ lz 1 0) → va_P (xD g) vwCl ([(cw, .inr (3, [.ref lo_, w1, w2, w3])), (lo_, .inl (xM g, 5, .inr (.inr (.inr (.inr (fun i => if i < 5 then some (lr i) else none))))))] ++ (xRI (xI g) 5 11 lr lz ++ [(ve, .inr (6, [v0, v1, v2, .int (nI Wn), .int (nI rc), v5, v6, v7, v8, v9, v10]))])) H → va_D A ([(cw, .inr (3, [.ref lo_, w1, w2, w3])), (lo_, .inl (xM g, 5, .inr (.inr (.inr (.inr (fun i => if i < 5 then some (lr i) else none))))))] ++ (xRI (xI g) 5 11 lr lz ++ [(ve, .inr (6, [v0, v1, v2, .int (nI Wn), .int (nI rc), v5, v6, v7, v8, v9, v10]))])) → va_S A s.heap H locs → lv_has ls 3 [(2, .int (nI r)), (0, .ref cw), (1, .ref ve)] → W p l e (headSpec wsX3_chooseRangeCount ({ frames := 0, cells := 0, slots := 0, locals := 0 })).room s m ([.ref cw, .ref ve] : List Value).toArray below meth c H locs 0 0 (MQ below (va_Qv (fun (_ : Unit) => True) (fun (_ : Unit) (t : State) => ∃ (R2 : Nat) (gl2 : Int), (1 ≤ R2 ∧ R2 ≤ Wn ∧ gl2 = lz R2 0 ∧ gl2 ≤ lz 1 0) ∧ xE g ([(cw, .inr (3, [.ref lo_, w1, w2, w3])), (lo_, .inl (xM g, 5, .inr (.inr (.inr (.inr (fun i => if i < 5 then some (lr i) else none))))))] ++ (xRI (xI g) 5 11 lr lz ++ [(ve, .inr (6, [v0, v1, v2, .int (nI Wn), .int (nI R2), .int (iI gl2), v6, v7, v8, v9, v10]))])) (A) t) (A)) ([.ref cw, .ref ve] : List Value).toArray s 0 0 A) (F0 m 7 ls []) := by
    intro n9
    induction n9 with
    | zero =>
      intro r rc H locs ls hm hi1 hi2 hi3 hi4 hP hD hS hl
      exact absurd hm (Nat.not_lt_zero _)
    | succ n9 ih7 =>
      intro r rc H locs ls hm hi1 hi2 hi3 hi4 hP hD hS hl
      refine lv_iload_n hx hb dX3_chooseRangeCount_7 rfl (lv_at hl 0 rfl) ?_
      refine lv_aload_n hx hb dX3_chooseRangeCount_8 rfl (lv_at hl 2 rfl) ?_
      refine va_get (D := xD g) (ci := 6) (v := .int (nI Wn)) (C := RX6) (T := TX6) (N := 11) hx hb hts hFX6 hown hK hP 7 rfl rfl 3 (by decide) (hts (.fieldLink RX3 47 "Stevedore$Vessel" "wanted" "I") (by decide +kernel)) (fun _ h9 => h9) rfl dX3_chooseRangeCount_9 ?_
      refine lv_icmp_gt (tgt := 48) hx hb dX3_chooseRangeCount_12 (by decide) (fun c_1 => ?_) (fun c_1 => ?_)
      · have nc_1 := (nI_ltI (a := Wn) (b := r) (by omega) (by omega)).mp c_1
        refine lv_aload_n hx hb dX3_chooseRangeCount_48 rfl (lv_at hl 2 rfl) ?_
        refine lv_aload_n hx hb dX3_chooseRangeCount_49 rfl (lv_at hl 1 rfl) ?_
        refine va_get (D := xD g) (ci := 3) (v := .ref lo_) (C := RX3) (T := TX3) (N := 4) hx hb hts hFX3 hown hK hP 0 rfl rfl 0 (by decide) (hts (.fieldLink RX3 11 "Stevedore$CraneWalk" "least" "[[I") (by decide +kernel)) (fun _ h9 => h9) rfl dX3_chooseRangeCount_50 ?_
        refine lv_aload_n hx hb dX3_chooseRangeCount_53 rfl (lv_at hl 2 rfl) ?_
        refine va_get (D := xD g) (ci := 6) (v := .int (nI rc)) (C := RX6) (T := TX6) (N := 11) hx hb hts hFX6 hown hK hP 7 rfl rfl 4 (by decide) (hts (.fieldLink RX3 67 "Stevedore$Vessel" "rangeCount" "I") (by decide +kernel)) (fun _ h9 => h9) rfl dX3_chooseRangeCount_54 ?_
        refine xAldM hx hb hK hP 1 3 rfl rfl (vp_in_nI (by omega) (by omega)) dX3_chooseRangeCount_57 ?_
        refine W.eq (g2 := F0 m 58 ls (.ref (lr rc) :: .ref ve :: [])) (congrArg (fun q9 => F0 m 58 ls (q9 :: .ref ve :: [])) (xRow (n := 5) (k := rc) (nI_clamp (by omega)) (by omega))) ?_
        refine lv_iconst (v := 0) hx hb dX3_chooseRangeCount_58 (by decide) ?_
        refine va_iald hx hb hK hP _ 0 (xR_ap (X := [(cw, .inr (3, [.ref lo_, w1, w2, w3])), (lo_, .inl (xM g, 5, .inr (.inr (.inr (.inr (fun i => if i < 5 then some (lr i) else none))))))]) (xR_get0 (i := rc) (by omega))) rfl (by unfold vp_in; decide) dX3_chooseRangeCount_59 ?_
        refine lv_topi (fun v_2 ev => ?_)
        obtain rfl : v_2 = iI (lz rc 0) := ev.trans (congrArg (fun q9 => iI (lz rc q9)) (by decide))
        have b_3 := b_lz rc 0
        refine va_put (D := xD g) (ci := 6) (v := .int (iI (lz rc 0))) (ty := .int) (C := RX6) (T := TX6) (N := 11) hx hb hts hFX6 tyX6 tyX6_ok nmX6 hown hK hP hD hS 7 rfl rfl 5 (by decide) (hts (.fieldLink RX3 70 "Stevedore$Vessel" "greatestLoad" "I") (by decide +kernel)) (fun _ h9 => h9) rfl (by decide +kernel) rfl rfl (Nat.le_of_ble_eq_true rfl) dX3_chooseRangeCount_60 (fun H locs hP hD hS => ?_)
        have hP : va_P (xD g) vwCl ([(cw, .inr (3, [.ref lo_, w1, w2, w3])), (lo_, .inl (xM g, 5, .inr (.inr (.inr (.inr (fun i => if i < 5 then some (lr i) else none))))))] ++ (xRI (xI g) 5 11 lr lz ++ [(ve, .inr (6, [v0, v1, v2, .int (nI Wn), .int (nI rc), .int (iI (lz rc 0)), v6, v7, v8, v9, v10]))])) H := hP
        have hD : va_D A ([(cw, .inr (3, [.ref lo_, w1, w2, w3])), (lo_, .inl (xM g, 5, .inr (.inr (.inr (.inr (fun i => if i < 5 then some (lr i) else none))))))] ++ (xRI (xI g) 5 11 lr lz ++ [(ve, .inr (6, [v0, v1, v2, .int (nI Wn), .int (nI rc), .int (iI (lz rc 0)), v6, v7, v8, v9, v10]))])) := hD
        have hP9 := hP
        have hD9 := hD
        exact W.vret hx hb hr (fun t ht hW => ⟨⟨(), rfl, (by first | trivial | rfl | assumption | omega), ⟨rc, (lz rc 0), ⟨hi3.1, hi3.2, rfl, hi4⟩, by rw [ht]; exact hP9, va_K.moved hW.alike hK, hD9⟩⟩, hS.F ht⟩) hS.2.2 dX3_chooseRangeCount_63
      · have nc_1 := mt (nI_ltI (a := Wn) (b := r) (by omega) (by omega)).mpr c_1
        refine lv_aload_n hx hb dX3_chooseRangeCount_15 rfl (lv_at hl 1 rfl) ?_
        refine va_get (D := xD g) (ci := 3) (v := .ref lo_) (C := RX3) (T := TX3) (N := 4) hx hb hts hFX3 hown hK hP 0 rfl rfl 0 (by decide) (hts (.fieldLink RX3 11 "Stevedore$CraneWalk" "least" "[[I") (by decide +kernel)) (fun _ h9 => h9) rfl dX3_chooseRangeCount_16 ?_
        refine lv_iload_n hx hb dX3_chooseRangeCount_19 rfl (lv_at hl 0 rfl) ?_
        refine xAldM hx hb hK hP 1 3 rfl rfl (vp_in_nI (by omega) (by omega)) dX3_chooseRangeCount_20 ?_
        refine W.eq (g2 := F0 m 21 ls (.ref (lr r) :: [])) (congrArg (fun q9 => F0 m 21 ls (q9 :: [])) (xRow (n := 5) (k := r) (nI_clamp (by omega)) (by omega))) ?_
        refine lv_iconst (v := 0) hx hb dX3_chooseRangeCount_21 (by decide) ?_
        refine va_iald hx hb hK hP _ 0 (xR_ap (X := [(cw, .inr (3, [.ref lo_, w1, w2, w3])), (lo_, .inl (xM g, 5, .inr (.inr (.inr (.inr (fun i => if i < 5 then some (lr i) else none))))))]) (xR_get0 (i := r) (by omega))) rfl (by unfold vp_in; decide) dX3_chooseRangeCount_22 ?_
        refine lv_topi (fun v_4 ev => ?_)
        obtain rfl : v_4 = iI (lz r 0) := ev.trans (congrArg (fun q9 => iI (lz r q9)) (by decide))
        have b_5 := b_lz r 0
        refine lv_aload_n hx hb dX3_chooseRangeCount_23 rfl (lv_at hl 1 rfl) ?_
        refine va_get (D := xD g) (ci := 3) (v := .ref lo_) (C := RX3) (T := TX3) (N := 4) hx hb hts hFX3 hown hK hP 0 rfl rfl 0 (by decide) (hts (.fieldLink RX3 11 "Stevedore$CraneWalk" "least" "[[I") (by decide +kernel)) (fun _ h9 => h9) rfl dX3_chooseRangeCount_24 ?_
        refine lv_aload_n hx hb dX3_chooseRangeCount_27 rfl (lv_at hl 2 rfl) ?_
        refine va_get (D := xD g) (ci := 6) (v := .int (nI rc)) (C := RX6) (T := TX6) (N := 11) hx hb hts hFX6 hown hK hP 7 rfl rfl 4 (by decide) (hts (.fieldLink RX3 67 "Stevedore$Vessel" "rangeCount" "I") (by decide +kernel)) (fun _ h9 => h9) rfl dX3_chooseRangeCount_28 ?_
        refine xAldM hx hb hK hP 1 3 rfl rfl (vp_in_nI (by omega) (by omega)) dX3_chooseRangeCount_31 ?_
        refine W.eq (g2 := F0 m 32 ls (.ref (lr rc) :: .int (iI (lz r 0)) :: [])) (congrArg (fun q9 => F0 m 32 ls (q9 :: .int (iI (lz r 0)) :: [])) (xRow (n := 5) (k := rc) (nI_clamp (by omega)) (by omega))) ?_
        refine lv_iconst (v := 0) hx hb dX3_chooseRangeCount_32 (by decide) ?_
        refine va_iald hx hb hK hP _ 0 (xR_ap (X := [(cw, .inr (3, [.ref lo_, w1, w2, w3])), (lo_, .inl (xM g, 5, .inr (.inr (.inr (.inr (fun i => if i < 5 then some (lr i) else none))))))]) (xR_get0 (i := rc) (by omega))) rfl (by unfold vp_in; decide) dX3_chooseRangeCount_33 ?_
        refine lv_topi (fun v_6 ev => ?_)
        obtain rfl : v_6 = iI (lz rc 0) := ev.trans (congrArg (fun q9 => iI (lz rc q9)) (by decide))
        have b_7 := b_lz rc 0
        refine lv_icmp_ge (tgt := 42) hx hb dX3_chooseRangeCount_34 (by decide) (fun c_8 => ?_) (fun c_8 => ?_)
        · have nc_8 := (iLe (a := lz rc 0) (b := lz r 0) rfl rfl (by omega)).mp c_8
          refine lv_iinc (v := nI (r + 1)) (lv' := [(2, .int (nI (r + 1))), (0, .ref cw), (1, .ref ve)]) hx hb dX3_chooseRangeCount_42 hl (k := 0) rfl (nI_add r 1) (by decide) rfl (fun ls hl => ?_)
          refine lv_goto (tgt := 7) hx hb dX3_chooseRangeCount_45 (by decide) ?_
          exact ih7 (r + 1) rc _ _ _ (by omega) (by omega) (by omega) (by omega) (by omega) hP hD hS (lv_sub hl [0, 1, 2] rfl)
        · have nc_8 := mt (iLe (a := lz rc 0) (b := lz r 0) rfl rfl (by omega)).mpr c_8
          refine lv_aload_n hx hb dX3_chooseRangeCount_37 rfl (lv_at hl 2 rfl) ?_
          refine lv_iload_n hx hb dX3_chooseRangeCount_38 rfl (lv_at hl 0 rfl) ?_
          refine va_put (D := xD g) (ci := 6) (v := .int (nI r)) (ty := .int) (C := RX6) (T := TX6) (N := 11) hx hb hts hFX6 tyX6 tyX6_ok nmX6 hown hK hP hD hS 7 rfl rfl 4 (by decide) (hts (.fieldLink RX3 67 "Stevedore$Vessel" "rangeCount" "I") (by decide +kernel)) (fun _ h9 => h9) rfl (by decide +kernel) rfl rfl (Nat.le_of_ble_eq_true rfl) dX3_chooseRangeCount_39 (fun H locs hP hD hS => ?_)
          have hP : va_P (xD g) vwCl ([(cw, .inr (3, [.ref lo_, w1, w2, w3])), (lo_, .inl (xM g, 5, .inr (.inr (.inr (.inr (fun i => if i < 5 then some (lr i) else none))))))] ++ (xRI (xI g) 5 11 lr lz ++ [(ve, .inr (6, [v0, v1, v2, .int (nI Wn), .int (nI r), v5, v6, v7, v8, v9, v10]))])) H := hP
          have hD : va_D A ([(cw, .inr (3, [.ref lo_, w1, w2, w3])), (lo_, .inl (xM g, 5, .inr (.inr (.inr (.inr (fun i => if i < 5 then some (lr i) else none))))))] ++ (xRI (xI g) 5 11 lr lz ++ [(ve, .inr (6, [v0, v1, v2, .int (nI Wn), .int (nI r), v5, v6, v7, v8, v9, v10]))])) := hD
          refine lv_iinc (v := nI (r + 1)) (lv' := [(2, .int (nI (r + 1))), (0, .ref cw), (1, .ref ve)]) hx hb dX3_chooseRangeCount_42 hl (k := 0) rfl (nI_add r 1) (by decide) rfl (fun ls hl => ?_)
          refine lv_goto (tgt := 7) hx hb dX3_chooseRangeCount_45 (by decide) ?_
          exact ih7 (r + 1) r _ _ _ (by omega) (by omega) (by omega) (by omega) (by omega) hP hD hS (lv_sub hl [0, 1, 2] rfl)
  exact hloop7 (7) 2 1 _ _ _ (by omega) (by omega) (by omega) (by omega) (Int.le_refl _) hP hD hS (by rw [(show nI 2 = (2 : Int32) from by decide)]; exact lv_sub hl [0, 1, 2] rfl)
theorem dX3_endOfShortest_0 : decode cX3_endOfShortest 0 = .ok (.iload_n 2, 1) := by decide +kernel
theorem dX3_endOfShortest_1 : decode cX3_endOfShortest 1 = .ok (.iconst 1, 1) := by decide +kernel
theorem dX3_endOfShortest_2 : decode cX3_endOfShortest 2 = .ok (.iadd, 1) := by decide +kernel
theorem dX3_endOfShortest_3 : decode cX3_endOfShortest 3 = .ok (.istore 4, 2) := by decide +kernel
theorem dX3_endOfShortest_5 : decode cX3_endOfShortest 5 = .ok (.iload 4, 2) := by decide +kernel
theorem dX3_endOfShortest_7 : decode cX3_endOfShortest 7 = .ok (.aload_n 1, 1) := by decide +kernel
theorem dX3_endOfShortest_8 : decode cX3_endOfShortest 8 = .ok (.getfield 40, 3) := by decide +kernel
theorem dX3_endOfShortest_11 : decode cX3_endOfShortest 11 = .ok (.if_icmp .ge 28, 3) := by decide +kernel
theorem dX3_endOfShortest_39 : decode cX3_endOfShortest 39 = .ok (.aload_n 1, 1) := by decide +kernel
theorem dX3_endOfShortest_40 : decode cX3_endOfShortest 40 = .ok (.getfield 40, 3) := by decide +kernel
theorem dX3_endOfShortest_43 : decode cX3_endOfShortest 43 = .ok (.ireturn, 1) := by decide +kernel
theorem dX3_endOfShortest_14 : decode cX3_endOfShortest 14 = .ok (.aload_n 0, 1) := by decide +kernel
theorem dX3_endOfShortest_15 : decode cX3_endOfShortest 15 = .ok (.getfield 11, 3) := by decide +kernel
theorem dX3_endOfShortest_18 : decode cX3_endOfShortest 18 = .ok (.iload_n 3, 1) := by decide +kernel
theorem dX3_endOfShortest_19 : decode cX3_endOfShortest 19 = .ok (.aaload, 1) := by decide +kernel
theorem dX3_endOfShortest_20 : decode cX3_endOfShortest 20 = .ok (.iload 4, 2) := by decide +kernel
theorem dX3_endOfShortest_22 : decode cX3_endOfShortest 22 = .ok (.iaload, 1) := by decide +kernel
theorem dX3_endOfShortest_23 : decode cX3_endOfShortest 23 = .ok (.aload_n 1, 1) := by decide +kernel
theorem dX3_endOfShortest_24 : decode cX3_endOfShortest 24 = .ok (.getfield 70, 3) := by decide +kernel
theorem dX3_endOfShortest_27 : decode cX3_endOfShortest 27 = .ok (.if_icmp .gt 6, 3) := by decide +kernel
theorem dX3_endOfShortest_33 : decode cX3_endOfShortest 33 = .ok (.iinc 4 1, 3) := by decide +kernel
theorem dX3_endOfShortest_36 : decode cX3_endOfShortest 36 = .ok (.goto (-31), 3) := by decide +kernel
theorem dX3_endOfShortest_30 : decode cX3_endOfShortest 30 = .ok (.iload 4, 2) := by decide +kernel
theorem dX3_endOfShortest_32 : decode cX3_endOfShortest 32 = .ok (.ireturn, 1) := by decide +kernel
set_option maxHeartbeats 4000000 in
set_option maxRecDepth 100000 in
theorem s_endOfShortest (l : Launch) (g : xG) (sz : Nat) (cw : Nat) (lo_ : Nat) (ve : Nat) (Nb : Nat) (F : Nat) (x : Nat) (gl : Int) (lr : Nat → Nat) (w1 : Value) (w2 : Value) (w3 : Value) (v0 : Value) (v2 : Value) (v3 : Value) (v4 : Value) (v6 : Value) (v7 : Value) (v8 : Value) (v9 : Value) (v10 : Value) (lz : Nat → Nat → Int)  (hN : Nb ≤ 10) (hF : F < Nb) (hx4 : x ≤ 4) (hgl : 0 ≤ gl ∧ gl ≤ 1000000) (b_lz : ∀ i j, 0 ≤ lz i j ∧ lz i j ≤ 1000000) : Met l yX3_endOfShortest wsX3_endOfShortest ({ frames := 0, cells := 0, slots := 0, locals := 0 }) (va_Pc [.ref cw, .ref ve, .int (nI F), .int (nI x)] (fun U => xB g ([(cw, .inr (3, [.ref lo_, w1, w2, w3])), (lo_, .inl (xM g, 5, .inr (.inr (.inr (.inr (fun i => if i < 5 then some (lr i) else none))))))] ++ (xRI (xI g) 5 11 lr lz ++ [(ve, .inr (6, [v0, .int (nI Nb), v2, v3, v4, .int (iI gl), v6, v7, v8, v9, v10]))])) sz U)) (va_Qi (fun (r : Int32) (_ : Unit) => ∃ E9 : Nat, r = nI E9 ∧ F < E9 ∧ E9 ≤ Nb ∧ (E9 < Nb → lz x E9 ≤ gl) ∧ ((∃ y, F < y ∧ y < Nb ∧ lz x y ≤ gl) → E9 < Nb)) (fun (_ : Unit) (_ : State) => True) (va_A [] sz)) 0 0 (va_A [] sz) := by
  refine Met.ofW (cc := cX3_endOfShortest) (maxL := 5) (ret := (some .int)) (by decide) rfl ?_
  intro p e s m args below meth c s₁ B hml hv
  obtain ⟨rfl, hsz, hP, hK, hD0⟩ := hv
  have hx := B.exec
  have hb := B.bytes
  have hr := B.returns
  have hts := atoms_spec (ws := wsX3_endOfShortest) B.pre
  have hown : s.vm.findClass RX3 = some m.cls := findClass_of_methodNamed B.named
  have hlocks := B.notSynchronized
  subst hsz
  have hD := hD0
  generalize hAe : va_A [] s.heap.size = A
  have hA : ∀ q : Nat, s.heap.size ≤ q → A q := fun q h => by rw [← hAe]; exact Or.inr h
  have hS : va_S A s.heap s.heap [] := va_S.rf
  have hl := lv_entry ([.ref cw, .ref ve, .int (nI F), .int (nI x)]) (n := 5) (Nat.le_of_ble_eq_true rfl)
  rw [lg_entry_eq]
  generalize (lg_sl ([.ref cw, .ref ve, .int (nI F), .int (nI x)]) ++ List.replicate (5 - (lg_sl ([.ref cw, .ref ve, .int (nI F), .int (nI x)])).length) Slot.unset).toArray = ls at hl ⊢
  have hl : lv_has ls 5 [(0, .ref cw), (1, .ref ve), (2, .int (nI F)), (3, .int (nI x))] := hl
  have hFX3 : ∀ w ∈ u_ws RX3 TX3 4, w ∈ wsX3_endOfShortest := by decide +kernel
  have hFX6 : ∀ w ∈ u_ws RX6 TX6 11, w ∈ wsX3_endOfShortest := by decide +kernel
  refine lv_iload_n hx hb dX3_endOfShortest_0 rfl (lv_at hl 2 rfl) ?_
  refine lv_iconst (v := 1) hx hb dX3_endOfShortest_1 (by decide) ?_
  refine lv_iadd hx hb dX3_endOfShortest_2 ?_
  refine lv_topi (fun v_1 ev => ?_)
  obtain rfl : v_1 = nI (F + 1) := ev.trans (nI_add F 1)
  refine lv_istore (lv' := [(4, .int (nI (F + 1))), (0, .ref cw), (1, .ref ve), (2, .int (nI F)), (3, .int (nI x))]) hx hb dX3_endOfShortest_3 hl (by decide) rfl (fun ls hl => ?_)
  have hloop5 : ∀ (n9 : Nat) (e9 : Nat) (H : Heap) (locs : List Loc) (ls : Array Slot), 11 - e9 < n9 → (F < e9) → (e9 ≤ Nb) → (∀ y, F < y → y < e9 → gl < lz x y) → va_P (xD g) vwCl ([(cw, .inr (3, [.ref lo_, w1, w2, w3])), (lo_, .inl (xM g, 5, .inr (.inr (.inr (.inr (fun i => if i < 5 then some (lr i) else none))))))] ++ (xRI (xI g) 5 11 lr lz ++ [(ve, .inr (6, [v0, .int (nI Nb), v2, v3, v4, .int (iI gl), v6, v7, v8, v9, v10]))])) H → va_D (fun _ => True) ([(cw, .inr (3, [.ref lo_, w1, w2, w3])), (lo_, .inl (xM g, 5, .inr (.inr (.inr (.inr (fun i => if i < 5 then some (lr i) else none))))))] ++ (xRI (xI g) 5 11 lr lz ++ [(ve, .inr (6, [v0, .int (nI Nb), v2, v3, v4, .int (iI gl), v6, v7, v8, v9, v10]))])) → va_S A s.heap H locs → lv_has ls 5 [(4, .int (nI e9)), (0, .ref cw), (1, .ref ve), (3, .int (nI x))] → W p l e (headSpec wsX3_endOfShortest ({ frames := 0, cells := 0, slots := 0, locals := 0 })).room s m ([.ref cw, .ref ve, .int (nI F), .int (nI x)] : List Value).toArray below meth c H locs 0 0 (MQ below (va_Qi (fun (r : Int32) (_ : Unit) => ∃ E9 : Nat, r = nI E9 ∧ F < E9 ∧ E9 ≤ Nb ∧ (E9 < Nb → lz x E9 ≤ gl) ∧ ((∃ y, F < y ∧ y < Nb ∧ lz x y ≤ gl) → E9 < Nb)) (fun (_ : Unit) (_ : State) => True) (A)) ([.ref cw, .ref ve, .int (nI F), .int (nI x)] : List Value).toArray s 0 0 A) (F0 m 5 ls []) := by
    intro n9
    induction n9 with
    | zero =>
      intro e9 H locs ls hm he1 he2 hno hP hD hS hl
      exact absurd hm (Nat.not_lt_zero _)
    | succ n9 ih5 =>
      intro e9 H locs ls hm he1 he2 hno hP hD hS hl
      refine lv_iload hx hb dX3_endOfShortest_5 (lv_at hl 0 rfl) ?_
      refine lv_aload_n hx hb dX3_endOfShortest_7 rfl (lv_at hl 2 rfl) ?_
      refine va_get (D := xD g) (ci := 6) (v := .int (nI Nb)) (C := RX6) (T := TX6) (N := 11) hx hb hts hFX6 hown hK hP 7 rfl rfl 1 (by decide) (hts (.fieldLink RX3 40 "Stevedore$Vessel" "bays" "I") (by decide +kernel)) (fun _ h9 => h9) rfl dX3_endOfShortest_8 ?_
      refine lv_icmp_ge (tgt := 39) hx hb dX3_endOfShortest_11 (by decide) (fun c_2 => ?_) (fun c_2 => ?_)
      · have nc_2 := (nI_leI (a := Nb) (b := e9) (by omega) (by omega)).mp c_2
        refine lv_aload_n hx hb dX3_endOfShortest_39 rfl (lv_at hl 2 rfl) ?_
        refine va_get (D := xD g) (ci := 6) (v := .int (nI Nb)) (C := RX6) (T := TX6) (N := 11) hx hb hts hFX6 hown hK hP 7 rfl rfl 1 (by decide) (hts (.fieldLink RX3 40 "Stevedore$Vessel" "bays" "I") (by decide +kernel)) (fun _ h9 => h9) rfl dX3_endOfShortest_40 ?_
        exact W.iret (v := nI Nb) hx hb hr (fun t ht hW => ⟨⟨nI Nb, (), rfl, ⟨Nb, rfl, by omega, Nat.le_refl _, fun q => absurd q (Nat.lt_irrefl _), fun ⟨y, y1, y2, y3⟩ => by have z := hno y y1 (by omega); omega⟩, trivial⟩, hS.F ht⟩) hS.2.2 dX3_endOfShortest_43
      · have nc_2 := mt (nI_leI (a := Nb) (b := e9) (by omega) (by omega)).mpr c_2
        refine lv_aload_n hx hb dX3_endOfShortest_14 rfl (lv_at hl 1 rfl) ?_
        refine va_get (D := xD g) (ci := 3) (v := .ref lo_) (C := RX3) (T := TX3) (N := 4) hx hb hts hFX3 hown hK hP 0 rfl rfl 0 (by decide) (hts (.fieldLink RX3 11 "Stevedore$CraneWalk" "least" "[[I") (by decide +kernel)) (fun _ h9 => h9) rfl dX3_endOfShortest_15 ?_
        refine lv_iload_n hx hb dX3_endOfShortest_18 rfl (lv_at hl 3 rfl) ?_
        refine xAldM hx hb hK hP 1 3 rfl rfl (vp_in_nI (by omega) (by omega)) dX3_endOfShortest_19 ?_
        refine W.eq (g2 := F0 m 20 ls (.ref (lr x) :: [])) (congrArg (fun q9 => F0 m 20 ls (q9 :: [])) (xRow (n := 5) (k := x) (nI_clamp (by omega)) (by omega))) ?_
        refine lv_iload hx hb dX3_endOfShortest_20 (lv_at hl 0 rfl) ?_
        refine va_iald hx hb hK hP _ 0 (xR_ap (X := [(cw, .inr (3, [.ref lo_, w1, w2, w3])), (lo_, .inl (xM g, 5, .inr (.inr (.inr (.inr (fun i => if i < 5 then some (lr i) else none))))))]) (xR_get0 (i := x) (by omega))) rfl (vp_in_nI (by omega) (by omega)) dX3_endOfShortest_22 ?_
        refine lv_topi (fun v_3 ev => ?_)
        obtain rfl : v_3 = iI (lz x e9) := ev.trans (congrArg (fun q9 => iI (lz x q9)) (nI_clamp (by omega)))
        have b_4 := b_lz x e9
        refine lv_aload_n hx hb dX3_endOfShortest_23 rfl (lv_at hl 2 rfl) ?_
        refine va_get (D := xD g) (ci := 6) (v := .int (iI gl)) (C := RX6) (T := TX6) (N := 11) hx hb hts hFX6 hown hK hP 7 rfl rfl 5 (by decide) (hts (.fieldLink RX3 70 "Stevedore$Vessel" "greatestLoad" "I") (by decide +kernel)) (fun _ h9 => h9) rfl dX3_endOfShortest_24 ?_
        refine lv_icmp_gt (tgt := 33) hx hb dX3_endOfShortest_27 (by decide) (fun c_5 => ?_) (fun c_5 => ?_)
        · have nc_5 := (iLt (a := gl) (b := lz x e9) rfl rfl (by omega)).mp c_5
          refine lv_iinc (v := nI (e9 + 1)) (lv' := [(4, .int (nI (e9 + 1))), (0, .ref cw), (1, .ref ve), (3, .int (nI x))]) hx hb dX3_endOfShortest_33 hl (k := 0) rfl (nI_add e9 1) (by decide) rfl (fun ls hl => ?_)
          refine lv_goto (tgt := 5) hx hb dX3_endOfShortest_36 (by decide) ?_
          exact ih5 (e9 + 1) _ _ _ (by omega) (by omega) (by omega) (by intro y h1 h2; by_cases q : y = e9; (rw [q]; omega); (exact hno y h1 (by omega))) hP hD hS (lv_sub hl [0, 1, 2, 3] rfl)
        · have nc_5 := mt (iLt (a := gl) (b := lz x e9) rfl rfl (by omega)).mpr c_5
          refine lv_iload hx hb dX3_endOfShortest_30 (lv_at hl 0 rfl) ?_
          exact W.iret (v := nI e9) hx hb hr (fun t ht hW => ⟨⟨nI e9, (), rfl, ⟨e9, rfl, by omega, by omega, fun _ => by omega, fun _ => by omega⟩, trivial⟩, hS.F ht⟩) hS.2.2 dX3_endOfShortest_32
  exact hloop5 (12) (F + 1) _ _ _ (by omega) (by omega) (by omega) (fun y h1 h2 => absurd h1 (by omega)) hP hD hS (lv_sub hl [0, 1, 2, 4] rfl)
