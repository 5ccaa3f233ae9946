theorem xPl {D : va_G} {cl : List vw_C} {X Y : va_W} {H : Heap} (h : va_P D cl (X ++ Y) H) : va_P D cl X H := fun k q hk => h k q (by rw [List.getElem?_append_left (List.getElem?_eq_some_iff.mp hk).1]; exact hk)
theorem xDl {A : Nat → Prop} {X Y : va_W} (h : va_D A (X ++ Y)) : va_D A X := by
  have e : ∀ (k : Nat) (q : Nat × va_E), X[k]? = some q → (X ++ Y)[k]? = some q := fun k q hk => by rw [List.getElem?_append_left (List.getElem?_eq_some_iff.mp hk).1]; exact hk
  exact ⟨fun i j p q hp hq he => h.1 i j p q (e i p hp) (e j q hq) he, fun k q hk => h.2 k q (e k q hk)⟩
theorem xFa {A0 : Nat → Prop} {X : va_W} {H0 H : Heap} {locs : List Loc} (hD : va_D A0 X) (hS : va_S A0 H0 H locs) (hA : ∀ q : Nat, H0.size ≤ q → A0 q) : ∀ q, va_A X H.size q → A0 q := fun q h => h.elim (fun ⟨k, e, hk⟩ => hD.2 k (q, e) hk) (fun h => hA q (Nat.le_trans hS.1 h))
theorem xFl {A0 : Nat → Prop} {X Y : va_W} {H0 H : Heap} {locs : List Loc} (hD : va_D A0 (X ++ Y)) (hS : va_S A0 H0 H locs) (hA : ∀ q : Nat, H0.size ≤ q → A0 q) : ∀ q, va_A X H.size q → A0 q := xFa (xDl hD) hS hA
theorem xJa {D : va_G} {cl : List vw_C} {A0 : Nat → Prop} {X X1 : va_W} {H H1 : Heap} (hD : va_D A0 X) (hk : ∀ q : Nat, q < H.size → ¬ va_A X H.size q → H1[q]? = H[q]?) (hF : ∀ q, va_A X H.size q → A0 q) (hP1 : va_P D cl X1 H1) (hD1 : va_D (va_A X H.size) X1) : va_P D cl X1 H1 ∧ va_D A0 X1 := ⟨hP1, hD1.weaken (fun _ q _ h => hF q.1 h)⟩
theorem xJl {D : va_G} {cl : List vw_C} {A0 : Nat → Prop} {X Y X1 : va_W} {H H1 : Heap} (hP : va_P D cl (X ++ Y) H) (hD : va_D A0 (X ++ Y)) (hk : ∀ q : Nat, q < H.size → ¬ va_A X H.size q → H1[q]? = H[q]?) (hF : ∀ q, va_A X H.size q → A0 q) (hP1 : va_P D cl X1 H1) (hD1 : va_D (va_A X H.size) X1) : va_P D cl (X1 ++ Y) H1 ∧ va_D A0 (X1 ++ Y) := by
  have eY : ∀ (k : Nat) (q : Nat × va_E), Y[k]? = some q → (X ++ Y)[X.length + k]? = some q := fun k q hk => by rw [List.getElem?_append_right (Nat.le_add_right _ _), Nat.add_sub_cancel_left]; exact hk
  have ap : ∀ (k : Nat) (q : Nat × va_E), Y[k]? = some q → q.1 < H.size ∧ ¬ va_A X H.size q.1 := fun k q hk2 => by
    have hl := (hP _ q (eY k q hk2)).lt
    refine ⟨hl, fun h => ?_⟩
    rcases h with ⟨j, e, hj⟩ | h
    · have h2 : (X ++ Y)[j]? = some (q.1, e) := by rw [List.getElem?_append_left (List.getElem?_eq_some_iff.mp hj).1]; exact hj
      have := hD.1 _ _ _ _ (eY k q hk2) h2 rfl
      have := (List.getElem?_eq_some_iff.mp hj).1
      omega
    · omega
  refine ⟨va_P.app hP1 (fun k q hq => (hP _ q (eY k q hq)).kept (hk q.1 (ap k q hq).1 (ap k q hq).2)), va_D.app (hD1.weaken (fun _ q _ h => hF q.1 h)) ⟨fun i j p q hp hq he => ?_, fun k q hq => hD.2 _ q (eY k q hq)⟩ (fun i j x y hx hy hxy => ?_)⟩
  · have := hD.1 _ _ _ _ (eY i p hp) (eY j q hq) he
    omega
  · exact (ap j y hy).2 (by rw [← hxy]; exact hD1.2 i x hx)
theorem bAnd (v : Int32) : ∃ m : Nat, m < 2147483648 ∧ v &&& 2147483647 = nI m := by
  refine ⟨(v.toBitVec &&& (2147483647 : Int32).toBitVec).toNat, ?_, ?_⟩
  · rw [BitVec.toNat_and]
    exact Nat.lt_of_le_of_lt Nat.and_le_right (by decide +kernel)
  · apply Int32.toBitVec_inj.mp
    show v.toBitVec &&& (2147483647 : Int32).toBitVec = BitVec.ofNat 32 (v.toBitVec &&& (2147483647 : Int32).toBitVec).toNat
    rw [BitVec.ofNat_toNat, BitVec.setWidth_eq]
/-! Sums over an order. -/
theorem lS_le {f g : Nat → Int} : ∀ (n : Nat), (∀ x, x < n → f x ≤ g x) → sSum f n ≤ sSum g n := by
  intro n
  induction n with
  | zero => intro _; exact Int.le_refl _
  | succ n ih =>
    intro h
    have h1 := ih (fun x hx => h x (by omega))
    have h2 := h n (by omega)
    simp only [sSum]; omega
theorem lS_nn {f : Nat → Int} (hf : ∀ x, 0 ≤ f x) : ∀ (n : Nat), 0 ≤ sSum f n := by
  intro n
  induction n with
  | zero => exact Int.le_refl _
  | succ n ih => have := hf n; simp only [sSum]; omega
theorem lS_ge {f : Nat → Int} (hf : ∀ x, 0 ≤ f x) {i : Nat} : ∀ (n : Nat), i < n → f i ≤ sSum f n := by
  intro n
  induction n with
  | zero => intro h; exact absurd h (Nat.not_lt_zero _)
  | succ n ih =>
    intro h
    simp only [sSum]
    by_cases q : i = n
    · have := lS_nn hf n; rw [q]; omega
    · have h1 := ih (by omega); have := hf n; omega
theorem lS_add {f g : Nat → Int} : ∀ (n : Nat), sSum (fun x => f x + g x) n = sSum f n + sSum g n := by
  intro n
  induction n with
  | zero => rfl
  | succ n ih => simp only [sSum, ih]; omega
theorem lS_zero : ∀ (n : Nat), sSum (fun _ => 0) n = 0 := by
  intro n
  induction n with
  | zero => rfl
  | succ n ih => simp only [sSum, ih]; rfl
theorem lS_swap {g : Nat → Nat → Int} {k : Nat} : ∀ (n : Nat), sSum (fun v => sSum (fun i => g v i) k) n = sSum (fun i => sSum (fun v => g v i) n) k := by
  intro n
  induction n with
  | zero => exact (lS_zero k).symm
  | succ n ih =>
    have h1 : sSum (fun v => sSum (fun i => g v i) k) (n + 1) = sSum (fun v => sSum (fun i => g v i) k) n + sSum (fun i => g n i) k := rfl
    rw [h1, ih, ← lS_add]; rfl
theorem lS_delta {f : Nat → Int} {a : Nat} (ha : 0 ≤ f a) : ∀ (n : Nat), sSum (fun v => if a = v then f v else 0) n ≤ f a ∧ (n ≤ a → sSum (fun v => if a = v then f v else 0) n = 0) := by
  intro n
  induction n with
  | zero => exact ⟨ha, fun _ => rfl⟩
  | succ n ih =>
    refine ⟨?_, fun h => ?_⟩
    · simp only [sSum]
      by_cases q : a = n
      · have h2 := ih.2 (by omega); rw [if_pos q, h2, q]; omega
      · rw [if_neg q]; have := ih.1; omega
    · simp only [sSum]
      rw [if_neg (by omega), ih.2 (by omega)]; rfl
theorem lS_perm {f : Nat → Int} {o : Nat → Nat} {n : Nat} (hf : ∀ x, 0 ≤ f x) (hs : ∀ v, v < n → ∃ i, i < n ∧ o i = v) : sSum f n ≤ sSum (fun i => f (o i)) n := by
  have h1 : sSum f n ≤ sSum (fun v => sSum (fun i => if o i = v then f v else 0) n) n := lS_le n (fun v hv => by
    obtain ⟨i, hi, e⟩ := hs v hv
    have h2 := lS_ge (f := fun i => if o i = v then f v else 0) (fun x => by (try dsimp only); split; (exact hf v); (exact Int.le_refl _)) (i := i) n hi
    (try dsimp only at h2)
    rw [if_pos e] at h2; exact h2)
  rw [lS_swap (g := fun v i => if o i = v then f v else 0)] at h1
  exact Int.le_trans h1 (lS_le n (fun i _ => (lS_delta (f := f) (a := o i) (hf _) n).1))
/-! Vessels that fit. -/
def vFit (aV : xV_) (v : Nat) : Prop := (1 ≤ o_Vba aV v ∧ o_Vba aV v ≤ 6) ∧ (1 ≤ o_Vwa aV v ∧ o_Vwa aV v ≤ 3) ∧ vSt (o_frh aV v) (o_Vba aV v) (o_Vrc aV v) (o_Vhd aV v) (o_Vwt aV v)
theorem vAdd_fit {aV aV2 : xV_} {k : Nat} {a : Int} {nb : Nat} {rk : Int} {wn : Nat} (h : vAdd aV k a nb rk wn aV2) (hnb : 1 ≤ nb ∧ nb ≤ 6) (hwn : 1 ≤ wn ∧ wn ≤ 3) (hf : ∀ v, v < k → vFit aV v) : (∀ v, v < k + 1 → vFit aV2 v) ∧ (∀ v, v ≠ k → o_Vba aV2 v = o_Vba aV v) ∧ o_Vba aV2 k = nb ∧ o_wbz aV2 = o_wbz aV := by
  obtain ⟨R2, gl2, hd2, wt2, frh2, bgz2, rfl, hs⟩ := h
  refine ⟨fun v hv => ?_, fun v hv => ?_, ?_, rfl⟩
  · by_cases q : v = k
    · subst q
      unfold vFit
      dsimp only [o_Vba, o_Vwa, o_frh, o_Vrc, o_Vhd, o_Vwt]
      simp only [nV, zU, rU, if_true]
      exact ⟨hnb, hwn, hs⟩
    · have h1 := hf v (by omega)
      unfold vFit at h1 ⊢
      dsimp only [o_Vba, o_Vwa, o_frh, o_Vrc, o_Vhd, o_Vwt] at h1 ⊢
      simp only [nV, zU, rU, if_neg q]
      exact h1
  · dsimp only [o_Vba]; simp only [nV, if_neg hv]
  · dsimp only [o_Vba]; simp only [nV, if_true]
theorem vCon_fit {aV aV2 : xV_} {v b k : Nat} (h : vCon aV v b aV2) (hf : ∀ w, w < k → vFit aV w) : (∀ w, w < k → vFit aV2 w) ∧ o_Vba aV2 = o_Vba aV ∧ ∀ x y, o_wbz aV2 x y ≤ o_wbz aV x y + 2 := by
  obtain ⟨R2, gl2, hd2, wt2, frh2, bgz2, rfl, hs⟩ := h
  refine ⟨fun w hw => ?_, rfl, fun x y => ?_⟩
  · have h1 := hf w hw
    unfold vFit at h1 ⊢
    dsimp only [o_Vba, o_Vwa, o_frh, o_Vrc, o_Vhd, o_Vwt] at h1 hs ⊢
    by_cases q : w = v
    · subst q
      simp only [nV, zU, rU, if_true]
      exact ⟨h1.1, h1.2.1, hs⟩
    · simp only [nV, zU, rU, if_neg q]
      exact h1
  · dsimp only [o_wbz]
    simp only [zU2, zU]
    split
    · next q => subst q; split
                · next q2 => subst q2; omega
                · omega
    · omega
/-- what fill leaves -/
def lFill (nv nc : Nat) (aQ : xQ_) (aV : xV_) (aC : xC_) (aY : xY_) : Prop := (12 ≤ o_qy aQ ∧ o_qy aQ ≤ 25) ∧ (3 ≤ o_crq aQ ∧ o_crq aQ ≤ 6) ∧ o_vc aQ = nv ∧ o_n aC = nc ∧ (∀ v, v < nv → vFit aV v) ∧ (∀ c, c < nc → o_cve aC c < nv ∧ o_cba aC c < o_Vba aV (o_cve aC c)) ∧ 1 ≤ o_sc aY ∧ o_sc aY ≤ 4
theorem lIn {nv nc : Nat} {aQ : xQ_} {aV : xV_} {aC : xC_} {aY : xY_} (h : lFill nv nc aQ aV aC aY) : ∀ j, j < o_vc aQ → (1 ≤ o_Vba aV j ∧ o_Vba aV j ≤ o_qy aQ) ∧ (1 ≤ o_Vwa aV j ∧ o_Vwa aV j ≤ o_crq aQ) ∧ 1 ≤ o_Vhd aV j := fun j hj => by
  obtain ⟨h1, h2, h3, h4, h5, -⟩ := h
  have z := h5 j (by omega)
  unfold vFit vSt at z
  omega
theorem lBin {nv nc : Nat} {aQ : xQ_} {aV : xV_} {aC : xC_} {aY : xY_} (h : lFill nv nc aQ aV aC aY) (hI : kIV aV) : bIn (o_Var aV) (o_Vhd aV) (fun j => ((o_Vba aV j : Nat) : Int)) (o_Vrk aV) (fun j => ((o_Vwa aV j : Nat) : Int)) ((o_qy aQ : Nat) : Int) ((o_crq aQ : Nat) : Int) (o_vc aQ) := fun j hj => by
  have z := lIn h j hj
  have y := hI.1 j
  (try dsimp only)
  omega
/-- what the plan says, by numbers of vessels -/
def lPl (aQ : xQ_) (aV : xV_) (aP : xP_) : Prop :=
  (∀ x v, x < v → v < o_vc aQ → o_qrd aP x ≠ o_qrd aP v) ∧ (∀ v, v < o_vc aQ → o_Var aV v ≤ o_qta aP v ∧ o_qta aP v ≤ 60000 ∧ 0 ≤ o_qla aP v ∧ o_qla aP v + ((o_Vba aV v : Nat) : Int) ≤ ((o_qy aQ : Nat) : Int)) ∧
  (∀ v w, v < o_vc aQ → w < o_vc aQ → vAt (o_qta aP) (o_Vhd aV) (o_qla aP) (o_Vba aV) (o_qla aP v) (o_qta aP v) w → w = v) ∧
  (∀ v, v < o_vc aQ → 1 ≤ vCr (o_qta aP) (o_Vhd aV) (o_Vwa aV) (o_qta aP v) (o_vc aQ) ∧ vCr (o_qta aP) (o_Vhd aV) (o_Vwa aV) (o_qta aP v) (o_vc aQ) ≤ 6)
theorem vCr_ge {qta Vhd : Nat → Int} {Vwa : Nat → Nat} {tm : Int} {v : Nat} (hv : qta v ≤ tm ∧ tm < qta v + Vhd v) : ∀ (n : Nat), v < n → Vwa v ≤ vCr qta Vhd Vwa tm n := by
  intro n
  induction n with
  | zero => intro h; exact absurd h (Nat.not_lt_zero _)
  | succ n ih =>
    intro h
    simp only [vCr]
    by_cases q : v = n
    · subst q; rw [if_pos hv]; omega
    · have := ih (by omega); omega
theorem vCr_sum {qta Vhd : Nat → Int} {Vwa : Nat → Nat} {tm : Int} : ∀ (n : Nat), ((vCr qta Vhd Vwa tm n : Nat) : Int) = sSum (fun v => if qta v ≤ tm ∧ tm < qta v + Vhd v then ((Vwa v : Nat) : Int) else 0) n := by
  intro n
  induction n with
  | zero => rfl
  | succ n ih =>
    simp only [vCr, sSum, ← ih]
    split <;> omega
theorem bW_sum {a u w f : Nat → Int} {x : Int} : ∀ (n : Nat), (∀ i, i < n → (if a i ≤ x ∧ x < u i then w i else 0) = f i) → bW a u w x n = sSum f n := by
  intro n
  induction n with
  | zero => intro _; rfl
  | succ n ih => intro h; simp only [bW, sSum, ih (fun i hi => h i (by omega)), h n (by omega)]
theorem lPl_of {aQ : xQ_} {aV : xV_} {aP : xP_} {u : Int} (hn : o_vc aQ ≤ 5) (hc6 : o_crq aQ ≤ 6) (hI : bIn (o_Var aV) (o_Vhd aV) (fun j => ((o_Vba aV j : Nat) : Int)) (o_Vrk aV) (fun j => ((o_Vwa aV j : Nat) : Int)) ((o_qy aQ : Nat) : Int) ((o_crq aQ : Nat) : Int) (o_vc aQ))
    (F : bFound (o_Var aV) (o_Vhd aV) (fun j => ((o_Vba aV j : Nat) : Int)) (o_Vrk aV) (fun j => ((o_Vwa aV j : Nat) : Int)) ((o_qy aQ : Nat) : Int) ((o_crq aQ : Nat) : Int) (o_vc aQ) u (o_qrd aP) (o_qta aP) (o_qla aP)) : lPl aQ aV aP := by
  obtain ⟨o, hp, -, hq, -⟩ := F
  obtain ⟨k1, k2, k3⟩ := bOk_all hI (by omega) (o_vc aQ) (Nat.le_refl _) hp.1
  have sj : ∀ v, v < o_vc aQ → ∃ i, i < o_vc aQ ∧ o i = v := fun v hv => bSurj hp hv
  refine ⟨fun x v hx hv => ?_, fun v hv => ?_, fun v w hv hw hat => ?_, fun v hv => ?_⟩
  · rw [(hq x (by omega)).1, (hq v hv).1]; exact hp.2 x v hx hv
  · obtain ⟨i, hi, rfl⟩ := sj v hv
    obtain ⟨-, q2, q3⟩ := hq i hi
    have z := k1 i hi
    rw [q2, q3]
    refine ⟨z.1, by omega, z.2.2.1, z.2.2.2⟩
  · obtain ⟨i, hi, rfl⟩ := sj v hv
    obtain ⟨j, hj, rfl⟩ := sj w hw
    obtain ⟨-, q2, q3⟩ := hq i hi
    obtain ⟨-, y2, y3⟩ := hq j hj
    have hIi := hI (o i) hv
    have hIj := hI (o j) hw
    unfold vAt at hat
    rw [q2, q3, y2, y3] at hat
    (try dsimp only at hIi hIj)
    rcases Nat.lt_trichotomy i j with a | a | a
    · have z := k2 i j a hj
      (try dsimp only at z)
      omega
    · rw [a]
    · have z := k2 j i a hi
      (try dsimp only at z)
      omega
  · obtain ⟨i, hi, rfl⟩ := sj v hv
    have hIi := hI (o i) hv
    have h1 := vCr_ge (qta := o_qta aP) (Vhd := o_Vhd aV) (Vwa := o_Vwa aV) (tm := o_qta aP (o i)) (v := o i) (by omega) (o_vc aQ) hv
    refine ⟨by (try dsimp only at hIi); omega, ?_⟩
    have h2 := k3 i hi
    have h3 := lS_perm (f := fun v => if o_qta aP v ≤ o_qta aP (o i) ∧ o_qta aP (o i) < o_qta aP v + o_Vhd aV v then ((o_Vwa aV v : Nat) : Int) else 0) (fun x => by (try dsimp only); split <;> omega) sj
    rw [← vCr_sum] at h3
    rw [bW_sum (f := fun j => if o_qta aP (o j) ≤ o_qta aP (o i) ∧ o_qta aP (o i) < o_qta aP (o j) + o_Vhd aV (o j) then ((o_Vwa aV (o j) : Nat) : Int) else 0) (o_vc aQ) (fun j hj => by
      (try dsimp only)
      rw [(hq j hj).2.1, (hq i hi).2.1])] at h2
    omega
theorem lMt {nv nc : Nat} {aQ : xQ_} {aV : xV_} {aC : xC_} {aP : xP_} {aY : xY_} (h : lFill nv nc aQ aV aC aY) (hp : lPl aQ aV aP) (hI : kIV aV) (hn : nc ≤ 24) : ∀ c, c < o_n aC → mT (o_qta aP) (o_bgz aV) (o_cve aC) (o_cba aC) (o_cex aC) (o_n aC) c ≤ 200000 := fun c hc => by
  obtain ⟨h1, h2, h3, h4, h5, h6, h7⟩ := h
  have z := h6 c (by omega)
  have y := hp.2.1 (o_cve aC c) (by omega)
  have w := hI.2.2.2 (o_cve aC c) (o_cba aC c)
  have t := (cTn_bd (ve := o_cve aC) (ba := o_cba aC) (ex := o_cex aC) (c := c) (o_n aC)).2
  unfold mT
  omega
theorem lDel {arr han bay rank want : Nat → Int} {quay cranes : Int} {n : Nat} {u : Int} {qrd : Nat → Nat} {qta qla : Nat → Int} (hI : bIn arr han bay rank want quay cranes n) (hn : n ≤ 6) (h0 : 0 < n) (F : bFound arr han bay rank want quay cranes n u qrd qta qla) : u ≤ bD arr han bay rank want quay cranes (fun i => i) n ∧ 0 ≤ bD arr han bay rank want quay cranes (fun i => i) n ∧ bD arr han bay rank want quay cranes (fun i => i) n ≤ 3600000 := by
  obtain ⟨o, -, -, -, o4⟩ := F
  have h1 := bPf hI hn (Nat.le_refl n) h0 (o := fun i => i) (fun i hi => hi) n (Nat.le_refl n)
  omega
/-! An empty yard; who is counted. -/
theorem yCnt_0 {w : Int} (hw : w ≠ 0) : ∀ (n : Nat), yCnt (fun _ => 0) w n = 0 := by
  intro n
  induction n with
  | zero => rfl
  | succ n ih => simp only [yCnt, ih]; rw [if_neg (fun e => hw e.symm)]
theorem lY0 {n sc : Nat} {lim : Nat → Nat} {sd : Nat → Nat → Nat} {kf : Nat → Nat} {r : Nat} (hz : ∀ x, sc ≤ x → ∀ j, sd x j = 0) : yInv n sc lim kf (((fun _ => 0, sd, fun _ => -1), fun _ => 0), r) 0 := by
  refine ⟨⟨fun x _ => Nat.zero_le _, fun x hx => ⟨rfl, hz x hx⟩, fun x l _ hl => absurd hl (Nat.not_lt_zero _), fun x l k _ _ hk => absurd hk (Nat.not_lt_zero _), fun c hc => ?_⟩, ?_, fun c hc => absurd rfl hc, fun e he => absurd he (Nat.not_lt_zero _)⟩
  · (try dsimp only at hc); omega
  · (try dsimp only)
    rw [yCnt_0 (by decide), yCnt_0 (by decide)]
    unfold ySum
    exact lS_zero sc
theorem yCnt_ext {stt : Nat → Int} {w : Int} {n : Nat} (h : ∀ c, n ≤ c → stt c ≠ w) : ∀ (k : Nat), yCnt stt w (n + k) = yCnt stt w n := by
  intro k
  induction k with
  | zero => rfl
  | succ k ih =>
    rw [show n + (k + 1) = n + k + 1 by omega]
    simp only [yCnt, ih]
    rw [if_neg (h (n + k) (by omega))]; rfl
theorem yCnt_24 {n sc : Nat} {lim kf : Nat → Nat} {S : yW} {cnt w : Nat} {x : Int} (I : yInv n sc lim kf S w) (G : yAg n kf cnt) (hw : w ≤ cnt) (hn : n ≤ 24) (hx : x ≠ 0) : yCnt S.1.2 x 24 = yCnt S.1.2 x n := by
  have h1 := yCnt_ext (stt := S.1.2) (w := x) (n := n) (fun c hc e => by
    obtain ⟨f, f1, f2, f3⟩ := I.2.2.1 c (by rw [e]; exact hx)
    have := G.1 f (by omega)
    omega) (24 - n)
  rw [show n + (24 - n) = 24 by omega] at h1
  exact h1
/-- the order's number of an event -/
def lVal (kf : Nat → Nat) (e : Nat) : Nat := 400 * (kf e / 128) + 100 * eK kf e + eC kf e
theorem lVal_lt {kf : Nat → Nat} {e f : Nat} (h : kf e < kf f) : lVal kf e < lVal kf f := by
  unfold lVal eK eC
  omega
theorem sNo_bd {gs : Nat → Nat} : ∀ (k : Nat), sNo gs k ≤ k := by
  intro k
  induction k with
  | zero => exact Nat.le_refl _
  | succ k ih => simp only [sNo]; split <;> omega
theorem dNN_cmp {r : UInt64} (h : dNN r) : ∃ z : Int, cmpValue (FP.dcmp r FP.dconst0) .l = iI z ∧ 0 ≤ z ∧ z ≤ 1 := by
  rcases h with h | h
  · exact ⟨0, by rw [h]; decide +kernel, by decide, by decide⟩
  · exact ⟨1, by rw [h]; decide +kernel, by decide, by decide⟩
theorem lg_refl (x : Int64) : lg_cmp x x = 0 := by
  unfold lg_cmp
  rw [if_neg (by rw [gt_iff_lt, Int64.lt_iff_toInt_lt]; omega), if_pos rfl]
