/-! When a container is moved; where it can come or go; the events, as numbers alone. -/
def mT (qta : Nat → Int) (bgz : Nat → Nat → Int) (cve cba : Nat → Nat) (cex : Nat → Int) (n c : Nat) : Nat := (qta (cve c) + bgz (cve c) (cba c)).toNat + 2 * cTn cve cba cex c n
theorem mT_2 {qta : Nat → Int} {bgz : Nat → Nat → Int} {cve cba : Nat → Nat} {cex : Nat → Int} {n c : Nat} : 2 ≤ mT qta bgz cve cba cex n c := by
  have h := (cTn_bd (ve := cve) (ba := cba) (ex := cex) (c := c) n).1
  unfold mT; omega
def aCan (ex : Nat → Int) (mt : Nat → Nat) (c s : Nat) : Prop := (¬ ex c = 0 ∧ 20 * s + 22 ≤ mt c) ∨ (ex c = 0 ∧ mt c ≤ 20 * s)
def aRow (ex : Nat → Int) (mt : Nat → Nat) (z : Nat → Nat → Int) (c m : Nat) : Prop := ∀ s, s < m → 0 ≤ z c s ∧ ((z c s ≤ 40 ∧ aCan ex mt c s) ∨ z c s = 1000000)
def aTab (ex : Nat → Int) (mt : Nat → Nat) (z : Nat → Nat → Int) (k : Nat) : Prop := ∀ c, c < k → z c 16 = 40 ∧ aRow ex mt z c 16
theorem aTab_in {ex : Nat → Int} {mt : Nat → Nat} {z : Nat → Nat → Int} {k c j : Nat} {v : Int} (h : aTab ex mt z k) (hc : k ≤ c) : aTab ex mt (zU2 z c j v) k := fun x hx => by
  obtain ⟨h1, h2⟩ := h x hx
  exact ⟨by rw [zU2_ne (by omega)]; exact h1, fun s hs => by rw [zU2_ne (by omega)]; exact h2 s hs⟩
theorem aRow_in {ex : Nat → Int} {mt : Nat → Nat} {z : Nat → Nat → Int} {c m : Nat} {v : Int} (h : aRow ex mt z c m) (hv : 0 ≤ v ∧ ((v ≤ 40 ∧ aCan ex mt c m) ∨ v = 1000000)) : aRow ex mt (zU2 z c m v) c (m + 1) := fun s hs => by
  rw [zU2_at]
  by_cases q : s = m
  · rw [q, zU_at]; exact hv
  · rw [zU_ne q]; exact h s (by omega)
theorem aTab_up {ex : Nat → Int} {mt : Nat → Nat} {z : Nat → Nat → Int} {k : Nat} (h : aTab ex mt z k) (hr : aRow ex mt z k 16) : aTab ex mt (zU2 z k 16 40) (k + 1) := fun x hx => by
  by_cases q : x = k
  · subst q
    exact ⟨by rw [zU2_at, zU_at], fun s hs => by rw [zU2_at, zU_ne (by omega)]; exact hr s hs⟩
  · exact aTab_in h (Nat.le_refl k) x (by omega)
theorem aTab_cs {ex : Nat → Int} {mt : Nat → Nat} {z : Nat → Nat → Int} {n : Nat} (h : aTab ex mt z n) : sCs z n := fun c hc => by
  obtain ⟨h1, h2⟩ := h c hc
  refine ⟨h1, fun s hs => ?_⟩
  by_cases q : s = 16
  · rw [q, h1]; omega
  · have z2 := h2 s (by omega)
    refine ⟨z2.1, ?_⟩
    rcases z2.2 with y | y
    · exact Or.inl y.1
    · exact Or.inr y
/-- an event as one number -/
def aKe (t k c : Nat) : Nat := (t * 4 + k) * 32 + c
/-- the events of one container -/
def aEv (ex : Nat → Int) (gs mt : Nat → Nat) (c y : Nat) : Prop :=
  (ex c = 0 ∧ (y = aKe (mt c) 0 c ∨ (¬ gs c = 16 ∧ y = aKe (20 * gs c) 3 c))) ∨ (¬ ex c = 0 ∧ ¬ gs c = 16 ∧ (y = aKe (20 * gs c) 1 c ∨ y = aKe (mt c - 2) 2 c))
def aEvs (ex : Nat → Int) (gs mt : Nat → Nat) (n y : Nat) : Prop := ∃ c, c < n ∧ aEv ex gs mt c y
/-- the events lie strictly in their order, and are those that P says -/
def aSet (kf : Nat → Nat) (cnt : Nat) (P : Nat → Prop) : Prop := (∀ i j, i < j → j < cnt → kf i < kf j) ∧ ∀ x, (∃ i, i < cnt ∧ kf i = x) ↔ P x
theorem aSet_add {kf kf2 : Nat → Nat} {cnt x : Nat} {P : Nat → Prop} (S : aSet kf cnt P) (hx : ¬ P x)
    (h : ∃ q, q ≤ cnt ∧ (∀ j, j < q → kf2 j = kf j) ∧ kf2 q = x ∧ (∀ j, q < j → j ≤ cnt → kf2 j = kf (j - 1)) ∧ (q = 0 ∨ kf (q - 1) ≤ x) ∧ (∀ j, q ≤ j → j < cnt → x < kf j)) : aSet kf2 (cnt + 1) (fun y => P y ∨ y = x) := by
  obtain ⟨s1, s2⟩ := S
  obtain ⟨q, h1, h2, h3, h4, h5, h6⟩ := h
  have lo : ∀ j, j < q → kf j < x := fun j hj => by
    have hne : kf j ≠ x := fun e => hx ((s2 x).mp ⟨j, by omega, e⟩)
    rcases h5 with h5 | h5
    · omega
    · by_cases e : j = q - 1
      · rw [← e] at h5; omega
      · have := s1 j (q - 1) (by omega) (by omega); omega
  refine ⟨fun i j hij hj => ?_, fun y => ⟨fun hy => ?_, fun hy => ?_⟩⟩
  · rcases Nat.lt_trichotomy i q with a | a | a
    · rw [h2 i a]
      rcases Nat.lt_trichotomy j q with b | b | b
      · rw [h2 j b]; exact s1 i j hij (by omega)
      · rw [b, h3]; exact lo i a
      · rw [h4 j b (by omega)]
        have := lo i a
        have := h6 (j - 1) (by omega) (by omega)
        omega
    · rw [a, h3, h4 j (by omega) (by omega)]
      exact h6 (j - 1) (by omega) (by omega)
    · rw [h4 i a (by omega), h4 j (by omega) (by omega)]
      exact s1 (i - 1) (j - 1) (by omega) (by omega)
  · obtain ⟨i, hi, e⟩ := hy
    rcases Nat.lt_trichotomy i q with a | a | a
    · exact Or.inl ((s2 y).mp ⟨i, by omega, by rw [← h2 i a]; exact e⟩)
    · exact Or.inr (by rw [← e, a]; exact h3)
    · exact Or.inl ((s2 y).mp ⟨i - 1, by omega, by rw [← h4 i a (by omega)]; exact e⟩)
  · rcases hy with hy | hy
    · obtain ⟨i, hi, e⟩ := (s2 y).mpr hy
      by_cases a : i < q
      · exact ⟨i, by omega, by rw [h2 i a]; exact e⟩
      · exact ⟨i + 1, by omega, by rw [h4 (i + 1) (by omega) (by omega), Nat.add_sub_cancel]; exact e⟩
    · exact ⟨q, by omega, by rw [hy]; exact h3⟩
theorem aSet_iff {kf : Nat → Nat} {cnt : Nat} {P Q : Nat → Prop} (S : aSet kf cnt P) (h : ∀ x, P x ↔ Q x) : aSet kf cnt Q := ⟨S.1, fun x => (S.2 x).trans (h x)⟩
theorem aEv_mod {ex : Nat → Int} {gs mt : Nat → Nat} {c y : Nat} (hc : c < 32) (h : aEv ex gs mt c y) : y % 32 = c := by
  unfold aEv aKe at h; omega
theorem aEvs_no {ex : Nat → Int} {gs mt : Nat → Nat} {k t e : Nat} (hk : k < 32) : ¬ aEvs ex gs mt k (aKe t e k) := fun ⟨c, h1, h2⟩ => by
  have h3 := aEv_mod (by omega) h2
  unfold aKe at h3; omega
/-- who comes does so once, and ahead of going -/
theorem aSet_yAg {ex : Nat → Int} {gs mt kf : Nat → Nat} {n cnt : Nat} (hn : n ≤ 24) (hg : ∀ c, c < n → gs c = 16 ∨ aCan ex mt c (gs c)) (S : aSet kf cnt (aEvs ex gs mt n)) : yAg n kf cnt := by
  have get : ∀ e, e < cnt → ∃ c, c < n ∧ eC kf e = c ∧ aEv ex gs mt c (kf e) := fun e he => by
    obtain ⟨c, h1, h2⟩ := (S.2 (kf e)).mp ⟨e, he, rfl⟩
    exact ⟨c, h1, aEv_mod (by omega) h2, h2⟩
  have inj : ∀ e f, e < cnt → f < cnt → kf e = kf f → e = f := fun e f he hf h => by
    rcases Nat.lt_trichotomy e f with a | a | a
    · have := S.1 e f a hf; omega
    · exact a
    · have := S.1 f e a he; omega
  refine ⟨fun e he => ?_, fun e f he hf h1 h2 h3 => ?_, fun f hf h1 => ?_⟩
  · obtain ⟨c, c1, c2, -⟩ := get e he
    omega
  · obtain ⟨c, c1, c2, c3⟩ := get e he
    obtain ⟨d, d1, d2, d3⟩ := get f hf
    have hcd : c = d := by omega
    subst hcd
    refine inj e f he hf ?_
    unfold eK at h1 h2
    unfold aEv aKe at c3 d3
    omega
  · obtain ⟨c, c1, c2, c3⟩ := get f hf
    have hc := hg c c1
    unfold eK at h1
    have key : ∃ x, aEv ex gs mt c x ∧ x < kf f ∧ x / 32 % 4 < 2 := by
      unfold aCan at hc
      by_cases q : ex c = 0
      · refine ⟨aKe (mt c) 0 c, Or.inl ⟨q, Or.inl rfl⟩, ?_, ?_⟩
        · unfold aEv aKe at c3; unfold aKe; omega
        · unfold aKe; omega
      · refine ⟨aKe (20 * gs c) 1 c, Or.inr ⟨q, ?_, Or.inl rfl⟩, ?_, ?_⟩
        · unfold aEv at c3; omega
        · unfold aEv aKe at c3; unfold aKe; omega
        · unfold aKe; omega
    obtain ⟨x, x1, x2, x3⟩ := key
    obtain ⟨e, e1, e2⟩ := (S.2 x).mpr ⟨c, c1, x1⟩
    refine ⟨e, ?_, by unfold eK; rw [e2]; exact x3, by unfold eC at c2 ⊢; rw [e2, aEv_mod (by omega) x1]; exact c2.symm⟩
    rcases Nat.lt_trichotomy e f with a | a | a
    · exact a
    · rw [a] at e2; omega
    · have := S.1 f e a e1; omega
theorem dX8_moveTime_0 : decode cX8_moveTime 0 = .ok (.aload_n 0, 1) := by decide +kernel
theorem dX8_moveTime_1 : decode cX8_moveTime 1 = .ok (.getfield 26, 3) := by decide +kernel
theorem dX8_moveTime_4 : decode cX8_moveTime 4 = .ok (.getfield 134, 3) := by decide +kernel
theorem dX8_moveTime_7 : decode cX8_moveTime 7 = .ok (.iload_n 1, 1) := by decide +kernel
theorem dX8_moveTime_8 : decode cX8_moveTime 8 = .ok (.iaload, 1) := by decide +kernel
theorem dX8_moveTime_9 : decode cX8_moveTime 9 = .ok (.istore_n 2, 1) := by decide +kernel
theorem dX8_moveTime_10 : decode cX8_moveTime 10 = .ok (.aload_n 0, 1) := by decide +kernel
theorem dX8_moveTime_11 : decode cX8_moveTime 11 = .ok (.getfield 18, 3) := by decide +kernel
theorem dX8_moveTime_14 : decode cX8_moveTime 14 = .ok (.iload_n 2, 1) := by decide +kernel
theorem dX8_moveTime_15 : decode cX8_moveTime 15 = .ok (.aaload, 1) := by decide +kernel
theorem dX8_moveTime_16 : decode cX8_moveTime 16 = .ok (.getfield 187, 3) := by decide +kernel
theorem dX8_moveTime_19 : decode cX8_moveTime 19 = .ok (.aload_n 0, 1) := by decide +kernel
theorem dX8_moveTime_20 : decode cX8_moveTime 20 = .ok (.getfield 26, 3) := by decide +kernel
theorem dX8_moveTime_23 : decode cX8_moveTime 23 = .ok (.getfield 137, 3) := by decide +kernel
theorem dX8_moveTime_26 : decode cX8_moveTime 26 = .ok (.iload_n 1, 1) := by decide +kernel
theorem dX8_moveTime_27 : decode cX8_moveTime 27 = .ok (.iaload, 1) := by decide +kernel
theorem dX8_moveTime_28 : decode cX8_moveTime 28 = .ok (.iaload, 1) := by decide +kernel
theorem dX8_moveTime_29 : decode cX8_moveTime 29 = .ok (.istore_n 3, 1) := by decide +kernel
theorem dX8_moveTime_30 : decode cX8_moveTime 30 = .ok (.aload_n 0, 1) := by decide +kernel
theorem dX8_moveTime_31 : decode cX8_moveTime 31 = .ok (.getfield 57, 3) := by decide +kernel
theorem dX8_moveTime_34 : decode cX8_moveTime 34 = .ok (.getfield 230, 3) := by decide +kernel
theorem dX8_moveTime_37 : decode cX8_moveTime 37 = .ok (.iload_n 2, 1) := by decide +kernel
theorem dX8_moveTime_38 : decode cX8_moveTime 38 = .ok (.iaload, 1) := by decide +kernel
theorem dX8_moveTime_39 : decode cX8_moveTime 39 = .ok (.iload_n 3, 1) := by decide +kernel
theorem dX8_moveTime_40 : decode cX8_moveTime 40 = .ok (.iadd, 1) := by decide +kernel
theorem dX8_moveTime_41 : decode cX8_moveTime 41 = .ok (.iconst 2, 1) := by decide +kernel
theorem dX8_moveTime_42 : decode cX8_moveTime 42 = .ok (.aload_n 0, 1) := by decide +kernel
theorem dX8_moveTime_43 : decode cX8_moveTime 43 = .ok (.getfield 26, 3) := by decide +kernel
theorem dX8_moveTime_46 : decode cX8_moveTime 46 = .ok (.iload_n 1, 1) := by decide +kernel
theorem dX8_moveTime_47 : decode cX8_moveTime 47 = .ok (.invokevirtual 387, 3) := by decide +kernel
set_option maxRecDepth 20000 in
theorem ggX8_moveTime_X2_turnInBay : GoodIn wsX8_moveTime wsX2_turnInBay := goodIn_r _ [12, 13, 14, 15, 16, 17, 18, 11, 19, 20, 36, 37, 38, 39, 40, 41] rfl (by decide +kernel)
set_option maxRecDepth 20000 in
theorem gX8_moveTime_X2_turnInBay : GoodIn wsX8_moveTime (wsV RX8 387 RX2 yX2_turnInBay wsX2_turnInBay) := goodIn_app (goodIn_of _ (by decide +kernel)) ggX8_moveTime_X2_turnInBay
theorem dX8_moveTime_50 : decode cX8_moveTime 50 = .ok (.imul, 1) := by decide +kernel
theorem dX8_moveTime_51 : decode cX8_moveTime 51 = .ok (.iadd, 1) := by decide +kernel
theorem dX8_moveTime_52 : decode cX8_moveTime 52 = .ok (.ireturn, 1) := by decide +kernel
set_option maxHeartbeats 4000000 in
set_option maxRecDepth 100000 in
theorem t_moveTime (l : Launch) (g : xG) (sz : Nat) (st : Nat) (fl : Nat) (ca : Nat) (cv : Nat) (cb : Nat) (ce : Nat) (pn : Nat) (ps : Nat) (n : Nat) (vr : Nat → Nat) (wb : Nat → Nat) (fr : Nat → Nat) (bg : Nat → Nat) (c_ : Nat) (s0 : Value) (s1 : Value) (s2 : Value) (s5 : Value) (s6 : Value) (s7 : Value) (s9 : Value) (s10 : Value) (s11 : Value) (s12 : Value) (s13 : Value) (s14 : Value) (c4 : Value) (c5 : Value) (q0 : Value) (q1 : Value) (q3 : Value) (Var : Nat → Int) (Vba : Nat → Nat) (Vrk : Nat → Int) (Vwa : Nat → Nat) (Vrc : Nat → Nat) (Vgl : Nat → Int) (Vhd : Nat → Int) (Vwt : Nat → Int) (bgz : Nat → Nat → Int) (qta : Nat → Int) (cve : Nat → Nat) (cba : Nat → Nat) (cex : Nat → Int)  (hc : c_ < n) (hn : n ≤ 24) (b_cve : ∀ j, cve j ≤ 5) (b_cba : ∀ j, cba j ≤ 9) (b_cex : ∀ j, 0 ≤ cex j ∧ cex j ≤ 1) (b_qta : ∀ j, 0 ≤ qta j ∧ qta j ≤ 1000000) (b_bgz : ∀ i j, 0 ≤ bgz i j ∧ bgz i j ≤ 10000) : Met l yX8_moveTime wsX8_moveTime ({ frames := 2, cells := 0, slots := 0, locals := 45 }) (va_Pc [.ref st, .int (nI c_)] (fun U => xB g ([(st, .inr (8, [s0, s1, s2, .ref fl, .ref ca, s5, s6, s7, .ref pn, s9, s10, s11, s12, s13, s14])), (ca, .inr (2, [.int (nI n), .ref cv, .ref cb, .ref ce, c4, c5])), (cv, .inl (xI g, 24, .inl (fun j => nI (cve j)))), (cb, .inl (xI g, 24, .inl (fun j => nI (cba j)))), (ce, .inl (xZ g, 24, .inl (fun j => iI (cex j)))), (pn, .inr (4, [q0, q1, .ref ps, q3])), (ps, .inl (xI g, 6, .inl (fun j => iI (qta j)))), (fl, .inl (xV g, 6, .inr (.inr (.inr (.inr (fun i => if i < 6 then some (vr i) else none))))))] ++ (xR 6 (fun i => (vr i, .inr (6, [.int (iI (Var i)), .int (nI (Vba i)), .int (iI (Vrk i)), .int (nI (Vwa i)), .int (nI (Vrc i)), .int (iI (Vgl i)), .int (iI (Vhd i)), .int (iI (Vwt i)), .ref (wb i), .ref (fr i), .ref (bg i)]))) ++ (xRI (xI g) 6 10 bg bgz ++ []))) sz U)) (va_Qi (fun (r : Int32) (_ : Unit) => r = nI (mT qta bgz cve cba cex n c_)) (fun (_ : Unit) (_ : State) => True) (va_A [] sz)) 0 0 (va_A [] sz) := by
  refine Met.ofW (cc := cX8_moveTime) (maxL := 4) (ret := (some .int)) (by decide) rfl ?_
  intro p e s m args below meth c s₁ B hml hv
  obtain ⟨rfl, hsz, hP, hK, hD0⟩ := hv
  have hx := B.exec
  have hb := B.bytes
  have hr := B.returns
  have hts := atoms_spec (ws := wsX8_moveTime) B.pre
  have hown : s.vm.findClass RX8 = some m.cls := findClass_of_methodNamed B.named
  have hlocks := B.notSynchronized
  subst hsz
  have hD := hD0
  generalize hAe : va_A [] s.heap.size = A
  have hA : ∀ q : Nat, s.heap.size ≤ q → A q := fun q h => by rw [← hAe]; exact Or.inr h
  have hS : va_S A s.heap s.heap [] := va_S.rf
  have hl := lv_entry ([.ref st, .int (nI c_)]) (n := 4) (Nat.le_of_ble_eq_true rfl)
  rw [lg_entry_eq]
  generalize (lg_sl ([.ref st, .int (nI c_)]) ++ List.replicate (4 - (lg_sl ([.ref st, .int (nI c_)])).length) Slot.unset).toArray = ls at hl ⊢
  have hl : lv_has ls 4 [(0, .ref st), (1, .int (nI c_))] := hl
  have hFX2 : ∀ w ∈ u_ws RX2 TX2 6, w ∈ wsX8_moveTime := by decide +kernel
  have hFX4 : ∀ w ∈ u_ws RX4 TX4 4, w ∈ wsX8_moveTime := by decide +kernel
  have hFX6 : ∀ w ∈ u_ws RX6 TX6 11, w ∈ wsX8_moveTime := by decide +kernel
  have hFX8 : ∀ w ∈ u_ws RX8 TX8 15, w ∈ wsX8_moveTime := by decide +kernel
  refine lv_aload_n hx hb dX8_moveTime_0 rfl (lv_at hl 0 rfl) ?_
  refine va_get (D := xD g) (ci := 8) (v := .ref ca) (C := RX8) (T := TX8) (N := 15) hx hb hts hFX8 hown hK hP 0 rfl rfl 4 (by decide) (hts (.fieldLink RX8 26 "Stevedore" "cargo" "LStevedore$Cargo;") (by decide +kernel)) (fun _ h9 => h9) rfl dX8_moveTime_1 ?_
  refine va_get (D := xD g) (ci := 2) (v := .ref cv) (C := RX2) (T := TX2) (N := 6) hx hb hts hFX2 hown hK hP 1 rfl rfl 1 (by decide) (hts (.fieldLink RX8 134 "Stevedore$Cargo" "vessel" "[I") (by decide +kernel)) (fun _ h9 => h9) rfl dX8_moveTime_4 ?_
  refine lv_iload_n hx hb dX8_moveTime_7 rfl (lv_at hl 1 rfl) ?_
  refine va_iald hx hb hK hP 2 0 rfl rfl (vp_in_nI (by omega) (by omega)) dX8_moveTime_8 ?_
  refine lv_topi (fun v_1 ev => ?_)
  obtain rfl : v_1 = nI (cve c_) := ev.trans (congrArg (fun q9 => nI (cve q9)) (nI_clamp (by omega)))
  have b_2 := b_cve c_
  refine lv_istore_n (lv' := [(2, .int (nI (cve c_))), (0, .ref st), (1, .int (nI c_))]) hx hb dX8_moveTime_9 rfl hl (by decide) rfl (fun ls hl => ?_)
  refine lv_aload_n hx hb dX8_moveTime_10 rfl (lv_at hl 1 rfl) ?_
  refine va_get (D := xD g) (ci := 8) (v := .ref fl) (C := RX8) (T := TX8) (N := 15) hx hb hts hFX8 hown hK hP 0 rfl rfl 3 (by decide) (hts (.fieldLink RX8 18 "Stevedore" "fleet" "[LStevedore$Vessel;") (by decide +kernel)) (fun _ h9 => h9) rfl dX8_moveTime_11 ?_
  refine lv_iload_n hx hb dX8_moveTime_14 rfl (lv_at hl 0 rfl) ?_
  refine va_aldq hx hb hK hP 7 2 rfl rfl (vp_in_nI (by omega) (by omega)) dX8_moveTime_15 ?_
  refine W.eq (g2 := F0 m 16 ls (.ref (vr (cve c_)) :: [])) (congrArg (fun q9 => F0 m 16 ls (q9 :: [])) (xRow (n := 6) (k := cve c_) (nI_clamp (by omega)) (by omega))) ?_
  refine va_get (D := xD g) (ci := 6) (v := .ref (bg (cve c_))) (C := RX6) (T := TX6) (N := 11) hx hb hts hFX6 hown hK hP _ (xR_ap (X := [(st, .inr (8, [s0, s1, s2, .ref fl, .ref ca, s5, s6, s7, .ref pn, s9, s10, s11, s12, s13, s14])), (ca, .inr (2, [.int (nI n), .ref cv, .ref cb, .ref ce, c4, c5])), (cv, .inl (xI g, 24, .inl (fun j => nI (cve j)))), (cb, .inl (xI g, 24, .inl (fun j => nI (cba j)))), (ce, .inl (xZ g, 24, .inl (fun j => iI (cex j)))), (pn, .inr (4, [q0, q1, .ref ps, q3])), (ps, .inl (xI g, 6, .inl (fun j => iI (qta j)))), (fl, .inl (xV g, 6, .inr (.inr (.inr (.inr (fun i => if i < 6 then some (vr i) else none))))))]) (xR_get0 (i := (cve c_)) (by omega))) rfl 10 (by decide) (hts (.fieldLink RX8 187 "Stevedore$Vessel" "begin" "[I") (by decide +kernel)) (fun _ h9 => h9) rfl dX8_moveTime_16 ?_
  refine lv_aload_n hx hb dX8_moveTime_19 rfl (lv_at hl 1 rfl) ?_
  refine va_get (D := xD g) (ci := 8) (v := .ref ca) (C := RX8) (T := TX8) (N := 15) hx hb hts hFX8 hown hK hP 0 rfl rfl 4 (by decide) (hts (.fieldLink RX8 26 "Stevedore" "cargo" "LStevedore$Cargo;") (by decide +kernel)) (fun _ h9 => h9) rfl dX8_moveTime_20 ?_
  refine va_get (D := xD g) (ci := 2) (v := .ref cb) (C := RX2) (T := TX2) (N := 6) hx hb hts hFX2 hown hK hP 1 rfl rfl 2 (by decide) (hts (.fieldLink RX8 137 "Stevedore$Cargo" "bay" "[I") (by decide +kernel)) (fun _ h9 => h9) rfl dX8_moveTime_23 ?_
  refine lv_iload_n hx hb dX8_moveTime_26 rfl (lv_at hl 2 rfl) ?_
  refine va_iald hx hb hK hP 3 0 rfl rfl (vp_in_nI (by omega) (by omega)) dX8_moveTime_27 ?_
  refine lv_topi (fun v_3 ev => ?_)
  obtain rfl : v_3 = nI (cba c_) := ev.trans (congrArg (fun q9 => nI (cba q9)) (nI_clamp (by omega)))
  have b_4 := b_cba c_
  refine va_iald hx hb hK hP _ 0 (xR_ap (X := [(st, .inr (8, [s0, s1, s2, .ref fl, .ref ca, s5, s6, s7, .ref pn, s9, s10, s11, s12, s13, s14])), (ca, .inr (2, [.int (nI n), .ref cv, .ref cb, .ref ce, c4, c5])), (cv, .inl (xI g, 24, .inl (fun j => nI (cve j)))), (cb, .inl (xI g, 24, .inl (fun j => nI (cba j)))), (ce, .inl (xZ g, 24, .inl (fun j => iI (cex j)))), (pn, .inr (4, [q0, q1, .ref ps, q3])), (ps, .inl (xI g, 6, .inl (fun j => iI (qta j)))), (fl, .inl (xV g, 6, .inr (.inr (.inr (.inr (fun i => if i < 6 then some (vr i) else none))))))]) (xR_ap (X := xR 6 (fun i => (vr i, .inr (6, [.int (iI (Var i)), .int (nI (Vba i)), .int (iI (Vrk i)), .int (nI (Vwa i)), .int (nI (Vrc i)), .int (iI (Vgl i)), .int (iI (Vhd i)), .int (iI (Vwt i)), .ref (wb i), .ref (fr i), .ref (bg i)])))) (xR_get0 (i := (cve c_)) (by omega)))) rfl (vp_in_nI (by omega) (by omega)) dX8_moveTime_28 ?_
  refine lv_topi (fun v_5 ev => ?_)
  obtain rfl : v_5 = iI (bgz (cve c_) (cba c_)) := ev.trans (congrArg (fun q9 => iI (bgz (cve c_) q9)) (nI_clamp (by omega)))
  have b_6 := b_bgz (cve c_) (cba c_)
  refine lv_istore_n (lv' := [(3, .int (iI (bgz (cve c_) (cba c_)))), (2, .int (nI (cve c_))), (0, .ref st), (1, .int (nI c_))]) hx hb dX8_moveTime_29 rfl hl (by decide) rfl (fun ls hl => ?_)
  refine lv_aload_n hx hb dX8_moveTime_30 rfl (lv_at hl 2 rfl) ?_
  refine va_get (D := xD g) (ci := 8) (v := .ref pn) (C := RX8) (T := TX8) (N := 15) hx hb hts hFX8 hown hK hP 0 rfl rfl 8 (by decide) (hts (.fieldLink RX8 57 "Stevedore" "plan" "LStevedore$Plan;") (by decide +kernel)) (fun _ h9 => h9) rfl dX8_moveTime_31 ?_
  refine va_get (D := xD g) (ci := 4) (v := .ref ps) (C := RX4) (T := TX4) (N := 4) hx hb hts hFX4 hown hK hP 5 rfl rfl 2 (by decide) (hts (.fieldLink RX8 230 "Stevedore$Plan" "start" "[I") (by decide +kernel)) (fun _ h9 => h9) rfl dX8_moveTime_34 ?_
  refine lv_iload_n hx hb dX8_moveTime_37 rfl (lv_at hl 1 rfl) ?_
  refine va_iald hx hb hK hP 6 0 rfl rfl (vp_in_nI (by omega) (by omega)) dX8_moveTime_38 ?_
  refine lv_topi (fun v_7 ev => ?_)
  obtain rfl : v_7 = iI (qta (cve c_)) := ev.trans (congrArg (fun q9 => iI (qta q9)) (nI_clamp (by omega)))
  have b_8 := b_qta (cve c_)
  refine lv_iload_n hx hb dX8_moveTime_39 rfl (lv_at hl 0 rfl) ?_
  refine lv_iadd hx hb dX8_moveTime_40 ?_
  refine lv_topi (fun v_9 ev => ?_)
  obtain rfl : v_9 = iI (qta (cve c_) + (bgz (cve c_) (cba c_))) := ev.trans (iA rfl rfl)
  refine lv_iconst (v := 2) hx hb dX8_moveTime_41 (by decide) ?_
  refine lv_aload_n hx hb dX8_moveTime_42 rfl (lv_at hl 2 rfl) ?_
  refine va_get (D := xD g) (ci := 8) (v := .ref ca) (C := RX8) (T := TX8) (N := 15) hx hb hts hFX8 hown hK hP 0 rfl rfl 4 (by decide) (hts (.fieldLink RX8 26 "Stevedore" "cargo" "LStevedore$Cargo;") (by decide +kernel)) (fun _ h9 => h9) rfl dX8_moveTime_43 ?_
  refine lv_iload_n hx hb dX8_moveTime_46 rfl (lv_at hl 3 rfl) ?_
  have hPc := hP.sub (ws' := [(ca, .inr (2, [.int (nI n), .ref cv, .ref cb, .ref ce, c4, c5])), (cv, .inl (xI g, 24, .inl (fun j => nI (cve j)))), (cb, .inl (xI g, 24, .inl (fun j => nI (cba j)))), (ce, .inl (xZ g, 24, .inl (fun j => iI (cex j))))]) [1, 2, 3, 4] rfl
  have hDc := hD.sub (ws' := [(ca, .inr (2, [.int (nI n), .ref cv, .ref cb, .ref ce, c4, c5])), (cv, .inl (xI g, 24, .inl (fun j => nI (cve j)))), (cb, .inl (xI g, 24, .inl (fun j => nI (cba j)))), (ce, .inl (xZ g, 24, .inl (fun j => iI (cex j))))]) [1, 2, 3, 4] (by decide) rfl
  have hFc := xFree hS hA
  refine va_calli (va_runV (As := [.int (nI c_)]) (rest := [.int 2, .int (iI (qta (cve c_) + (bgz (cve c_) (cba c_))))]) ⟨hx, hb, hml, hown, hts⟩ (c_turnInBay l g s.heap.size ca cv cb ce n c_ c4 c5 cve cba cex (by first | assumption | omega) (by first | assumption | omega) b_cve b_cba b_cex) (cwV 1 hts gX8_moveTime_X2_turnInBay rfl rfl rfl (by decide +kernel) ⟨Nat.le_of_ble_eq_true rfl, Nat.le_of_ble_eq_true rfl⟩) ⟨xB.blind, va_recv hK hPc (ci := 2) (q0 := 0) rfl rfl, fun U9 hU9 hW9 => ⟨rfl, xB.mk hPc hK hDc hU9 hW9⟩⟩ rfl rfl hl.1 rfl (lv_room (Nat.le_of_ble_eq_true rfl)) dX8_moveTime_47 ⟨Nat.le_of_ble_eq_true rfl, Nat.le_of_ble_eq_true rfl⟩) hS (fun q _ h => hFc q h) hFc (fun r_10 _ t H1 locs ht hvm hw_11 hB hz1 hk1 hS => ?_)
  have hP := xSame hP hk1
  generalize H1 = H at hP hS ⊢
  have hP : va_P (xD g) vwCl ([(st, .inr (8, [s0, s1, s2, .ref fl, .ref ca, s5, s6, s7, .ref pn, s9, s10, s11, s12, s13, s14])), (ca, .inr (2, [.int (nI n), .ref cv, .ref cb, .ref ce, c4, c5])), (cv, .inl (xI g, 24, .inl (fun j => nI (cve j)))), (cb, .inl (xI g, 24, .inl (fun j => nI (cba j)))), (ce, .inl (xZ g, 24, .inl (fun j => iI (cex j)))), (pn, .inr (4, [q0, q1, .ref ps, q3])), (ps, .inl (xI g, 6, .inl (fun j => iI (qta j)))), (fl, .inl (xV g, 6, .inr (.inr (.inr (.inr (fun i => if i < 6 then some (vr i) else none))))))] ++ (xR 6 (fun i => (vr i, .inr (6, [.int (iI (Var i)), .int (nI (Vba i)), .int (iI (Vrk i)), .int (nI (Vwa i)), .int (nI (Vrc i)), .int (iI (Vgl i)), .int (iI (Vhd i)), .int (iI (Vwt i)), .ref (wb i), .ref (fr i), .ref (bg i)]))) ++ (xRI (xI g) 6 10 bg bgz ++ []))) H := hP
  have hD : va_D (fun _ => True) ([(st, .inr (8, [s0, s1, s2, .ref fl, .ref ca, s5, s6, s7, .ref pn, s9, s10, s11, s12, s13, s14])), (ca, .inr (2, [.int (nI n), .ref cv, .ref cb, .ref ce, c4, c5])), (cv, .inl (xI g, 24, .inl (fun j => nI (cve j)))), (cb, .inl (xI g, 24, .inl (fun j => nI (cba j)))), (ce, .inl (xZ g, 24, .inl (fun j => iI (cex j)))), (pn, .inr (4, [q0, q1, .ref ps, q3])), (ps, .inl (xI g, 6, .inl (fun j => iI (qta j)))), (fl, .inl (xV g, 6, .inr (.inr (.inr (.inr (fun i => if i < 6 then some (vr i) else none))))))] ++ (xR 6 (fun i => (vr i, .inr (6, [.int (iI (Var i)), .int (nI (Vba i)), .int (iI (Vrk i)), .int (nI (Vwa i)), .int (nI (Vrc i)), .int (iI (Vgl i)), .int (iI (Vhd i)), .int (iI (Vwt i)), .ref (wb i), .ref (fr i), .ref (bg i)]))) ++ (xRI (xI g) 6 10 bg bgz ++ []))) := hD
  try dsimp only at hw_11
  obtain rfl : r_10 = nI (cTn cve cba cex c_ n) := hw_11
  refine lv_imul hx hb dX8_moveTime_50 ?_
  refine lv_topi (fun v_12 ev => ?_)
  obtain rfl : v_12 = nI (2 * (cTn cve cba cex c_ n)) := ev.trans (pk_mul 2 (cTn cve cba cex c_ n))
  refine lv_iadd hx hb dX8_moveTime_51 ?_
  refine lv_topi (fun v_13 ev => ?_)
  obtain rfl : v_13 = iI (qta (cve c_) + (bgz (cve c_) (cba c_)) + ((2 * (cTn cve cba cex c_ n) : Nat) : Int)) := ev.trans (iA rfl (iI_nI _))
  exact W.iret (v := iI (qta (cve c_) + (bgz (cve c_) (cba c_)) + ((2 * (cTn cve cba cex c_ n) : Nat) : Int))) hx hb hr (fun t ht hW => ⟨⟨iI (qta (cve c_) + (bgz (cve c_) (cba c_)) + ((2 * (cTn cve cba cex c_ n) : Nat) : Int)), (), rfl, (by have z1 := b_qta (cve c_); have z2 := b_bgz (cve c_) (cba c_); rw [iI_nI]; unfold mT; congr 1; omega), trivial⟩, hS.F ht⟩) hS.2.2 dX8_moveTime_52
theorem dX8_movedAt_0 : decode cX8_movedAt 0 = .ok (.aload_n 0, 1) := by decide +kernel
theorem dX8_movedAt_1 : decode cX8_movedAt 1 = .ok (.invokevirtual 222, 3) := by decide +kernel
set_option maxRecDepth 20000 in
theorem ggX8_movedAt_X8_needPlan : GoodIn wsX8_movedAt wsX8_needPlan := goodIn_ca (goodIn_r _ [5, 6, 7, 8, 9, 40, 41, 42, 43, 44, 45, 46, 47, 48, 49, 50, 51, 52, 53, 54, 55, 56, 57, 58] rfl (by decide +kernel)) (goodIn_sub (fun _ h => List.mem_cons_of_mem _ (List.mem_append_left _ (List.mem_append_right _ h))) (by decide +kernel))
set_option maxRecDepth 20000 in
theorem gX8_movedAt_X8_needPlan : GoodIn wsX8_movedAt (wsV RX8 222 RX8 yX8_needPlan wsX8_needPlan) := goodIn_app (goodIn_of _ (by decide +kernel)) ggX8_movedAt_X8_needPlan
theorem dX8_movedAt_4 : decode cX8_movedAt 4 = .ok (.aload_n 0, 1) := by decide +kernel
theorem dX8_movedAt_5 : decode cX8_movedAt 5 = .ok (.iload_n 1, 1) := by decide +kernel
theorem dX8_movedAt_6 : decode cX8_movedAt 6 = .ok (.invokevirtual 153, 3) := by decide +kernel
set_option maxRecDepth 20000 in
theorem ggX8_movedAt_X8_needContainer : GoodIn wsX8_movedAt wsX8_needContainer := goodIn_ca (goodIn_r _ [13, 14, 15, 16, 17, 40, 41, 42, 43, 44, 45, 46, 47, 48, 49, 50, 51, 52, 53, 54, 59, 60, 61, 62, 63, 64] rfl (by decide +kernel)) (goodIn_sub (fun _ h => List.mem_cons_of_mem _ (List.mem_append_right _ h)) (by decide +kernel))
set_option maxRecDepth 20000 in
theorem gX8_movedAt_X8_needContainer : GoodIn wsX8_movedAt (wsV RX8 153 RX8 yX8_needContainer wsX8_needContainer) := goodIn_app (goodIn_of _ (by decide +kernel)) ggX8_movedAt_X8_needContainer
theorem dX8_movedAt_9 : decode cX8_movedAt 9 = .ok (.aload_n 0, 1) := by decide +kernel
theorem dX8_movedAt_10 : decode cX8_movedAt 10 = .ok (.iload_n 1, 1) := by decide +kernel
theorem dX8_movedAt_11 : decode cX8_movedAt 11 = .ok (.invokevirtual 247, 3) := by decide +kernel
set_option maxRecDepth 20000 in
theorem ggX8_movedAt_X8_moveTime : GoodIn wsX8_movedAt wsX8_moveTime := goodIn_r _ [21, 16, 22, 23, 24, 25, 8, 26, 27, 28, 29, 30, 31, 32, 33, 34, 35, 36, 37, 38, 39, 40, 41, 42, 43, 44, 45, 46, 47, 48, 49, 50, 51, 52, 53, 54, 59, 60, 61, 62, 63, 64, 65, 66, 67, 68, 69, 70, 71, 72, 73, 74, 75, 55, 56, 57, 58] rfl (by decide +kernel)
set_option maxRecDepth 20000 in
theorem gX8_movedAt_X8_moveTime : GoodIn wsX8_movedAt (wsV RX8 247 RX8 yX8_moveTime wsX8_moveTime) := goodIn_app (goodIn_of _ (by decide +kernel)) ggX8_movedAt_X8_moveTime
theorem dX8_movedAt_14 : decode cX8_movedAt 14 = .ok (.ireturn, 1) := by decide +kernel
set_option maxHeartbeats 4000000 in
set_option maxRecDepth 100000 in
theorem t_movedAt (l : Launch) (g : xG) (sz : Nat) (st : Nat) (fl : Nat) (ca : Nat) (cv : Nat) (cb : Nat) (ce : Nat) (pn : Nat) (ps : Nat) (n : Nat) (vr : Nat → Nat) (wb : Nat → Nat) (fr : Nat → Nat) (bg : Nat → Nat) (c_ : Nat) (s0 : Value) (s1 : Value) (s2 : Value) (s5 : Value) (s6 : Value) (s7 : Value) (s9 : Value) (s10 : Value) (s11 : Value) (s12 : Value) (s13 : Value) (s14 : Value) (c4 : Value) (c5 : Value) (q1 : Value) (q3 : Value) (Var : Nat → Int) (Vba : Nat → Nat) (Vrk : Nat → Int) (Vwa : Nat → Nat) (Vrc : Nat → Nat) (Vgl : Nat → Int) (Vhd : Nat → Int) (Vwt : Nat → Int) (bgz : Nat → Nat → Int) (qta : Nat → Int) (cve : Nat → Nat) (cba : Nat → Nat) (cex : Nat → Int)  (hc : c_ < n) (hn : n ≤ 24) (b_cve : ∀ j, cve j ≤ 5) (b_cba : ∀ j, cba j ≤ 9) (b_cex : ∀ j, 0 ≤ cex j ∧ cex j ≤ 1) (b_qta : ∀ j, 0 ≤ qta j ∧ qta j ≤ 1000000) (b_bgz : ∀ i j, 0 ≤ bgz i j ∧ bgz i j ≤ 10000) : Met l yX8_movedAt wsX8_movedAt ({ frames := 3, cells := 0, slots := 0, locals := 68 }) (va_Pc [.ref st, .int (nI c_)] (fun U => xB g ([(st, .inr (8, [s0, s1, s2, .ref fl, .ref ca, s5, s6, s7, .ref pn, s9, s10, s11, s12, s13, s14])), (ca, .inr (2, [.int (nI n), .ref cv, .ref cb, .ref ce, c4, c5])), (cv, .inl (xI g, 24, .inl (fun j => nI (cve j)))), (cb, .inl (xI g, 24, .inl (fun j => nI (cba j)))), (ce, .inl (xZ g, 24, .inl (fun j => iI (cex j)))), (pn, .inr (4, [.int 1, q1, .ref ps, q3])), (ps, .inl (xI g, 6, .inl (fun j => iI (qta j)))), (fl, .inl (xV g, 6, .inr (.inr (.inr (.inr (fun i => if i < 6 then some (vr i) else none))))))] ++ (xR 6 (fun i => (vr i, .inr (6, [.int (iI (Var i)), .int (nI (Vba i)), .int (iI (Vrk i)), .int (nI (Vwa i)), .int (nI (Vrc i)), .int (iI (Vgl i)), .int (iI (Vhd i)), .int (iI (Vwt i)), .ref (wb i), .ref (fr i), .ref (bg i)]))) ++ (xRI (xI g) 6 10 bg bgz ++ []))) sz U)) (va_Qi (fun (r : Int32) (_ : Unit) => r = nI (mT qta bgz cve cba cex n c_)) (fun (_ : Unit) (_ : State) => True) (va_A [] sz)) 0 0 (va_A [] sz) := by
  refine Met.ofW (cc := cX8_movedAt) (maxL := 2) (ret := (some .int)) (by decide) rfl ?_
  intro p e s m args below meth c s₁ B hml hv
  obtain ⟨rfl, hsz, hP, hK, hD0⟩ := hv
  have hx := B.exec
  have hb := B.bytes
  have hr := B.returns
  have hts := atoms_spec (ws := wsX8_movedAt) B.pre
  have hown : s.vm.findClass RX8 = some m.cls := findClass_of_methodNamed B.named
  have hlocks := B.notSynchronized
  subst hsz
  have hD := hD0
  generalize hAe : va_A [] s.heap.size = A
  have hA : ∀ q : Nat, s.heap.size ≤ q → A q := fun q h => by rw [← hAe]; exact Or.inr h
  have hS : va_S A s.heap s.heap [] := va_S.rf
  have hl := lv_entry ([.ref st, .int (nI c_)]) (n := 2) (Nat.le_of_ble_eq_true rfl)
  rw [lg_entry_eq]
  generalize (lg_sl ([.ref st, .int (nI c_)]) ++ List.replicate (2 - (lg_sl ([.ref st, .int (nI c_)])).length) Slot.unset).toArray = ls at hl ⊢
  have hl : lv_has ls 2 [(0, .ref st), (1, .int (nI c_))] := hl
  refine lv_aload_n hx hb dX8_movedAt_0 rfl (lv_at hl 0 rfl) ?_
  have hPc := hP.sub (ws' := [(st, .inr (8, [s0, s1, s2, .ref fl, .ref ca, s5, s6, s7, .ref pn, s9, s10, s11, s12, s13, s14])), (pn, .inr (4, [.int 1, q1, .ref ps, q3]))]) [0, 5] rfl
  have hDc := hD.sub (ws' := [(st, .inr (8, [s0, s1, s2, .ref fl, .ref ca, s5, s6, s7, .ref pn, s9, s10, s11, s12, s13, s14])), (pn, .inr (4, [.int 1, q1, .ref ps, q3]))]) [0, 5] (by decide) rfl
  have hFc := xFree hS hA
  refine va_callv (va_runV (As := []) (rest := []) ⟨hx, hb, hml, hown, hts⟩ (n_plan l g s.heap.size st pn s0 s1 s2 (.ref fl) (.ref ca) s5 s6 s7 s9 s10 s11 s12 s13 s14 q1 (.ref ps) q3) (cwV 0 hts gX8_movedAt_X8_needPlan rfl rfl rfl (by decide +kernel) ⟨Nat.le_of_ble_eq_true rfl, Nat.le_of_ble_eq_true rfl⟩) ⟨xB.blind, va_recv hK hPc (ci := 8) (q0 := 0) rfl rfl, fun U9 hU9 hW9 => ⟨rfl, xB.mk hPc hK hDc hU9 hW9⟩⟩ rfl rfl hl.1 rfl (lv_room (Nat.le_of_ble_eq_true rfl)) dX8_movedAt_1 ⟨Nat.le_of_ble_eq_true rfl, Nat.le_of_ble_eq_true rfl⟩) hS (fun q _ h => hFc q h) hFc (fun _ t H1 locs ht hvm hw_2 hB hz1 hk1 hS => ?_)
  have hP := xSame hP hk1
  generalize H1 = H at hP hS ⊢
  have hP : va_P (xD g) vwCl ([(st, .inr (8, [s0, s1, s2, .ref fl, .ref ca, s5, s6, s7, .ref pn, s9, s10, s11, s12, s13, s14])), (ca, .inr (2, [.int (nI n), .ref cv, .ref cb, .ref ce, c4, c5])), (cv, .inl (xI g, 24, .inl (fun j => nI (cve j)))), (cb, .inl (xI g, 24, .inl (fun j => nI (cba j)))), (ce, .inl (xZ g, 24, .inl (fun j => iI (cex j)))), (pn, .inr (4, [.int 1, q1, .ref ps, q3])), (ps, .inl (xI g, 6, .inl (fun j => iI (qta j)))), (fl, .inl (xV g, 6, .inr (.inr (.inr (.inr (fun i => if i < 6 then some (vr i) else none))))))] ++ (xR 6 (fun i => (vr i, .inr (6, [.int (iI (Var i)), .int (nI (Vba i)), .int (iI (Vrk i)), .int (nI (Vwa i)), .int (nI (Vrc i)), .int (iI (Vgl i)), .int (iI (Vhd i)), .int (iI (Vwt i)), .ref (wb i), .ref (fr i), .ref (bg i)]))) ++ (xRI (xI g) 6 10 bg bgz ++ []))) H := hP
  have hD : va_D (fun _ => True) ([(st, .inr (8, [s0, s1, s2, .ref fl, .ref ca, s5, s6, s7, .ref pn, s9, s10, s11, s12, s13, s14])), (ca, .inr (2, [.int (nI n), .ref cv, .ref cb, .ref ce, c4, c5])), (cv, .inl (xI g, 24, .inl (fun j => nI (cve j)))), (cb, .inl (xI g, 24, .inl (fun j => nI (cba j)))), (ce, .inl (xZ g, 24, .inl (fun j => iI (cex j)))), (pn, .inr (4, [.int 1, q1, .ref ps, q3])), (ps, .inl (xI g, 6, .inl (fun j => iI (qta j)))), (fl, .inl (xV g, 6, .inr (.inr (.inr (.inr (fun i => if i < 6 then some (vr i) else none))))))] ++ (xR 6 (fun i => (vr i, .inr (6, [.int (iI (Var i)), .int (nI (Vba i)), .int (iI (Vrk i)), .int (nI (Vwa i)), .int (nI (Vrc i)), .int (iI (Vgl i)), .int (iI (Vhd i)), .int (iI (Vwt i)), .ref (wb i), .ref (fr i), .ref (bg i)]))) ++ (xRI (xI g) 6 10 bg bgz ++ []))) := hD
  try dsimp only at hw_2
  refine lv_aload_n hx hb dX8_movedAt_4 rfl (lv_at hl 0 rfl) ?_
  refine lv_iload_n hx hb dX8_movedAt_5 rfl (lv_at hl 1 rfl) ?_
  have hPc := hP.sub (ws' := [(st, .inr (8, [s0, s1, s2, .ref fl, .ref ca, s5, s6, s7, .ref pn, s9, s10, s11, s12, s13, s14])), (ca, .inr (2, [.int (nI n), .ref cv, .ref cb, .ref ce, c4, c5]))]) [0, 1] rfl
  have hDc := hD.sub (ws' := [(st, .inr (8, [s0, s1, s2, .ref fl, .ref ca, s5, s6, s7, .ref pn, s9, s10, s11, s12, s13, s14])), (ca, .inr (2, [.int (nI n), .ref cv, .ref cb, .ref ce, c4, c5]))]) [0, 1] (by decide) rfl
  have hFc := xFree hS hA
  refine va_callv (va_runV (As := [.int (nI c_)]) (rest := []) ⟨hx, hb, hml, hown, hts⟩ (n_container l g H.size st ca n c_ s0 s1 s2 (.ref fl) s5 s6 s7 (.ref pn) s9 s10 s11 s12 s13 s14 (.ref cv) (.ref cb) (.ref ce) c4 c5 (by first | assumption | omega) (by first | assumption | omega)) (cwV 1 hts gX8_movedAt_X8_needContainer rfl rfl rfl (by decide +kernel) ⟨Nat.le_of_ble_eq_true rfl, Nat.le_of_ble_eq_true rfl⟩) ⟨xB.blind, va_recv hK hPc (ci := 8) (q0 := 0) rfl rfl, fun U9 hU9 hW9 => ⟨rfl, xB.mk hPc hK hDc hU9 hW9⟩⟩ rfl rfl hl.1 rfl (lv_room (Nat.le_of_ble_eq_true rfl)) dX8_movedAt_6 ⟨Nat.le_of_ble_eq_true rfl, Nat.le_of_ble_eq_true rfl⟩) hS (fun q _ h => hFc q h) hFc (fun _ t H1 locs ht hvm hw_4 hB hz1 hk1 hS => ?_)
  have hP := xSame hP hk1
  generalize H1 = H at hP hS ⊢
  have hP : va_P (xD g) vwCl ([(st, .inr (8, [s0, s1, s2, .ref fl, .ref ca, s5, s6, s7, .ref pn, s9, s10, s11, s12, s13, s14])), (ca, .inr (2, [.int (nI n), .ref cv, .ref cb, .ref ce, c4, c5])), (cv, .inl (xI g, 24, .inl (fun j => nI (cve j)))), (cb, .inl (xI g, 24, .inl (fun j => nI (cba j)))), (ce, .inl (xZ g, 24, .inl (fun j => iI (cex j)))), (pn, .inr (4, [.int 1, q1, .ref ps, q3])), (ps, .inl (xI g, 6, .inl (fun j => iI (qta j)))), (fl, .inl (xV g, 6, .inr (.inr (.inr (.inr (fun i => if i < 6 then some (vr i) else none))))))] ++ (xR 6 (fun i => (vr i, .inr (6, [.int (iI (Var i)), .int (nI (Vba i)), .int (iI (Vrk i)), .int (nI (Vwa i)), .int (nI (Vrc i)), .int (iI (Vgl i)), .int (iI (Vhd i)), .int (iI (Vwt i)), .ref (wb i), .ref (fr i), .ref (bg i)]))) ++ (xRI (xI g) 6 10 bg bgz ++ []))) H := hP
  have hD : va_D (fun _ => True) ([(st, .inr (8, [s0, s1, s2, .ref fl, .ref ca, s5, s6, s7, .ref pn, s9, s10, s11, s12, s13, s14])), (ca, .inr (2, [.int (nI n), .ref cv, .ref cb, .ref ce, c4, c5])), (cv, .inl (xI g, 24, .inl (fun j => nI (cve j)))), (cb, .inl (xI g, 24, .inl (fun j => nI (cba j)))), (ce, .inl (xZ g, 24, .inl (fun j => iI (cex j)))), (pn, .inr (4, [.int 1, q1, .ref ps, q3])), (ps, .inl (xI g, 6, .inl (fun j => iI (qta j)))), (fl, .inl (xV g, 6, .inr (.inr (.inr (.inr (fun i => if i < 6 then some (vr i) else none))))))] ++ (xR 6 (fun i => (vr i, .inr (6, [.int (iI (Var i)), .int (nI (Vba i)), .int (iI (Vrk i)), .int (nI (Vwa i)), .int (nI (Vrc i)), .int (iI (Vgl i)), .int (iI (Vhd i)), .int (iI (Vwt i)), .ref (wb i), .ref (fr i), .ref (bg i)]))) ++ (xRI (xI g) 6 10 bg bgz ++ []))) := hD
  try dsimp only at hw_4
  refine lv_aload_n hx hb dX8_movedAt_9 rfl (lv_at hl 0 rfl) ?_
  refine lv_iload_n hx hb dX8_movedAt_10 rfl (lv_at hl 1 rfl) ?_
  have hPc := hP.sub (ws' := ([(st, .inr (8, [s0, s1, s2, .ref fl, .ref ca, s5, s6, s7, .ref pn, s9, s10, s11, s12, s13, s14])), (ca, .inr (2, [.int (nI n), .ref cv, .ref cb, .ref ce, c4, c5])), (cv, .inl (xI g, 24, .inl (fun j => nI (cve j)))), (cb, .inl (xI g, 24, .inl (fun j => nI (cba j)))), (ce, .inl (xZ g, 24, .inl (fun j => iI (cex j)))), (pn, .inr (4, [.int 1, q1, .ref ps, q3])), (ps, .inl (xI g, 6, .inl (fun j => iI (qta j)))), (fl, .inl (xV g, 6, .inr (.inr (.inr (.inr (fun i => if i < 6 then some (vr i) else none))))))] ++ (xR 6 (fun i => (vr i, .inr (6, [.int (iI (Var i)), .int (nI (Vba i)), .int (iI (Vrk i)), .int (nI (Vwa i)), .int (nI (Vrc i)), .int (iI (Vgl i)), .int (iI (Vhd i)), .int (iI (Vwt i)), .ref (wb i), .ref (fr i), .ref (bg i)]))) ++ (xRI (xI g) 6 10 bg bgz ++ [])))) [0, 1, 2, 3, 4, 5, 6, 7, 8, 9, 10, 11, 12, 13, 14, 15, 16, 17, 18, 19] rfl
  have hDc := hD.sub (ws' := ([(st, .inr (8, [s0, s1, s2, .ref fl, .ref ca, s5, s6, s7, .ref pn, s9, s10, s11, s12, s13, s14])), (ca, .inr (2, [.int (nI n), .ref cv, .ref cb, .ref ce, c4, c5])), (cv, .inl (xI g, 24, .inl (fun j => nI (cve j)))), (cb, .inl (xI g, 24, .inl (fun j => nI (cba j)))), (ce, .inl (xZ g, 24, .inl (fun j => iI (cex j)))), (pn, .inr (4, [.int 1, q1, .ref ps, q3])), (ps, .inl (xI g, 6, .inl (fun j => iI (qta j)))), (fl, .inl (xV g, 6, .inr (.inr (.inr (.inr (fun i => if i < 6 then some (vr i) else none))))))] ++ (xR 6 (fun i => (vr i, .inr (6, [.int (iI (Var i)), .int (nI (Vba i)), .int (iI (Vrk i)), .int (nI (Vwa i)), .int (nI (Vrc i)), .int (iI (Vgl i)), .int (iI (Vhd i)), .int (iI (Vwt i)), .ref (wb i), .ref (fr i), .ref (bg i)]))) ++ (xRI (xI g) 6 10 bg bgz ++ [])))) [0, 1, 2, 3, 4, 5, 6, 7, 8, 9, 10, 11, 12, 13, 14, 15, 16, 17, 18, 19] (by decide) rfl
  have hFc := xFree hS hA
  refine va_calli (va_runV (As := [.int (nI c_)]) (rest := []) ⟨hx, hb, hml, hown, hts⟩ (t_moveTime l g H.size st fl ca cv cb ce pn ps n vr wb fr bg c_ s0 s1 s2 s5 s6 s7 s9 s10 s11 s12 s13 s14 c4 c5 (.int 1) q1 q3 Var Vba Vrk Vwa Vrc Vgl Vhd Vwt bgz qta cve cba cex (by first | assumption | omega) (by first | assumption | omega) b_cve b_cba b_cex b_qta b_bgz) (cwV 1 hts gX8_movedAt_X8_moveTime rfl rfl rfl (by decide +kernel) ⟨Nat.le_of_ble_eq_true rfl, Nat.le_of_ble_eq_true rfl⟩) ⟨xB.blind, va_recv hK hPc (ci := 8) (q0 := 0) rfl rfl, fun U9 hU9 hW9 => ⟨rfl, xB.mk hPc hK hDc hU9 hW9⟩⟩ rfl rfl hl.1 rfl (lv_room (Nat.le_of_ble_eq_true rfl)) dX8_movedAt_11 ⟨Nat.le_of_ble_eq_true rfl, Nat.le_of_ble_eq_true rfl⟩) hS (fun q _ h => hFc q h) hFc (fun r_5 _ t H1 locs ht hvm hw_6 hB hz1 hk1 hS => ?_)
  have hP := xSame hP hk1
  generalize H1 = H at hP hS ⊢
  have hP : va_P (xD g) vwCl ([(st, .inr (8, [s0, s1, s2, .ref fl, .ref ca, s5, s6, s7, .ref pn, s9, s10, s11, s12, s13, s14])), (ca, .inr (2, [.int (nI n), .ref cv, .ref cb, .ref ce, c4, c5])), (cv, .inl (xI g, 24, .inl (fun j => nI (cve j)))), (cb, .inl (xI g, 24, .inl (fun j => nI (cba j)))), (ce, .inl (xZ g, 24, .inl (fun j => iI (cex j)))), (pn, .inr (4, [.int 1, q1, .ref ps, q3])), (ps, .inl (xI g, 6, .inl (fun j => iI (qta j)))), (fl, .inl (xV g, 6, .inr (.inr (.inr (.inr (fun i => if i < 6 then some (vr i) else none))))))] ++ (xR 6 (fun i => (vr i, .inr (6, [.int (iI (Var i)), .int (nI (Vba i)), .int (iI (Vrk i)), .int (nI (Vwa i)), .int (nI (Vrc i)), .int (iI (Vgl i)), .int (iI (Vhd i)), .int (iI (Vwt i)), .ref (wb i), .ref (fr i), .ref (bg i)]))) ++ (xRI (xI g) 6 10 bg bgz ++ []))) H := hP
  have hD : va_D (fun _ => True) ([(st, .inr (8, [s0, s1, s2, .ref fl, .ref ca, s5, s6, s7, .ref pn, s9, s10, s11, s12, s13, s14])), (ca, .inr (2, [.int (nI n), .ref cv, .ref cb, .ref ce, c4, c5])), (cv, .inl (xI g, 24, .inl (fun j => nI (cve j)))), (cb, .inl (xI g, 24, .inl (fun j => nI (cba j)))), (ce, .inl (xZ g, 24, .inl (fun j => iI (cex j)))), (pn, .inr (4, [.int 1, q1, .ref ps, q3])), (ps, .inl (xI g, 6, .inl (fun j => iI (qta j)))), (fl, .inl (xV g, 6, .inr (.inr (.inr (.inr (fun i => if i < 6 then some (vr i) else none))))))] ++ (xR 6 (fun i => (vr i, .inr (6, [.int (iI (Var i)), .int (nI (Vba i)), .int (iI (Vrk i)), .int (nI (Vwa i)), .int (nI (Vrc i)), .int (iI (Vgl i)), .int (iI (Vhd i)), .int (iI (Vwt i)), .ref (wb i), .ref (fr i), .ref (bg i)]))) ++ (xRI (xI g) 6 10 bg bgz ++ []))) := hD
  try dsimp only at hw_6
  obtain rfl : r_5 = nI (mT qta bgz cve cba cex n c_) := hw_6
  exact W.iret (v := nI (mT qta bgz cve cba cex n c_)) hx hb hr (fun t ht hW => ⟨⟨nI (mT qta bgz cve cba cex n c_), (), rfl, (by first | trivial | rfl | assumption | omega), trivial⟩, hS.F ht⟩) hS.2.2 dX8_movedAt_14
