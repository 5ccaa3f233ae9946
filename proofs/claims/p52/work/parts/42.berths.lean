/-! Berths, as numbers alone. Sequences by the place in the order: a starts, u ends, b places, y bays, w cranes wanted. -/
/-- how many cranes those ahead of k want at x -/
def bW (a u w : Nat → Int) (x : Int) : Nat → Int
  | 0 => 0
  | k + 1 => bW a u w x k + (if a k ≤ x ∧ x < u k then w k else 0)
/-- there are cranes for one that stays from x up to z, with c to spare -/
def bHave (a u w : Nat → Int) (k : Nat) (c x z : Int) : Prop := bW a u w x k ≤ c ∧ ∀ i, i < k → x < a i → a i < z → bW a u w (a i) k ≤ c
/-- behind the first one that a place p with q bays from x up to z goes against; -1 without one -/
def bCf (a u b y : Nat → Int) (x z p q : Int) : Nat → Int
  | 0 => -1
  | k + 1 => if 0 ≤ bCf a u b y x z p q k then bCf a u b y x z p q k else if ¬ (p + q < b k ∨ b k + y k < p) ∧ a k < z ∧ x < u k then b k + y k + 1 else -1
def bFf (a u b y : Nat → Int) (x z q quay : Int) (k : Nat) : Nat → Int → Int
  | 0, _ => -1
  | f + 1, p => if p + q ≤ quay then (if bCf a u b y x z p q k < 0 then p else bFf a u b y x z q quay k f (bCf a u b y x z p q k)) else -1
/-- the smallest place of one that starts at x and stays h; -1 without one -/
noncomputable def bFp (a u b y w : Nat → Int) (k : Nat) (q c quay h x : Int) : Int := @ite Int (bHave a u w k c x (x + h)) (Classical.propDecidable _) (bFf a u b y x (x + h) q quay k (k + 1) 0) (-1)
/-- the next end behind x -/
def bNe (u : Nat → Int) (x : Int) : Nat → Int
  | 0 => 1000000
  | k + 1 => if x < u k then (if u k < bNe u x k then u k else bNe u x k) else bNe u x k
/-- from t on, the first time that F has a place for -/
def bTm (F N : Int → Int) : Nat → Int → Int
  | 0, t => t
  | f + 1, t => if F t < 0 then bTm F N f (N t) else t
def bSame (a u b y w a1 u1 b1 y1 w1 : Nat → Int) (k : Nat) : Prop := ∀ i, i < k → a i = a1 i ∧ u i = u1 i ∧ b i = b1 i ∧ y i = y1 i ∧ w i = w1 i
section BS
variable {a u b y w a1 u1 b1 y1 w1 : Nat → Int}
theorem bW_same {x : Int} : ∀ (k : Nat), bSame a u b y w a1 u1 b1 y1 w1 k → bW a u w x k = bW a1 u1 w1 x k := by
  intro k
  induction k with
  | zero => intro _; rfl
  | succ k ih =>
    intro h
    obtain ⟨h1, h2, -, -, h3⟩ := h k (by omega)
    simp only [bW, ih (fun i hi => h i (by omega)), h1, h2, h3]
theorem bHave_same {k : Nat} {c x z : Int} (h : bSame a u b y w a1 u1 b1 y1 w1 k) : bHave a u w k c x z ↔ bHave a1 u1 w1 k c x z := by
  constructor
  · intro ⟨h1, h2⟩
    refine ⟨by rw [← bW_same k h]; exact h1, fun i hi => ?_⟩
    rw [← (h i hi).1, ← bW_same k h]
    exact h2 i hi
  · intro ⟨h1, h2⟩
    refine ⟨by rw [bW_same k h]; exact h1, fun i hi => ?_⟩
    rw [(h i hi).1, bW_same k h]
    exact h2 i hi
theorem bCf_same {x z p q : Int} : ∀ (k : Nat), bSame a u b y w a1 u1 b1 y1 w1 k → bCf a u b y x z p q k = bCf a1 u1 b1 y1 x z p q k := by
  intro k
  induction k with
  | zero => intro _; rfl
  | succ k ih =>
    intro h
    obtain ⟨h1, h2, h3, h4, -⟩ := h k (by omega)
    simp only [bCf, ih (fun i hi => h i (by omega)), h1, h2, h3, h4]
theorem bFf_same {x z q quay : Int} {k : Nat} (h : bSame a u b y w a1 u1 b1 y1 w1 k) : ∀ (f : Nat) (p : Int), bFf a u b y x z q quay k f p = bFf a1 u1 b1 y1 x z q quay k f p := by
  intro f
  induction f with
  | zero => intro _; rfl
  | succ f ih => intro p; simp only [bFf, bCf_same k h, ih]
theorem bFp_same {k : Nat} {q c quay z x : Int} (h : bSame a u b y w a1 u1 b1 y1 w1 k) : bFp a u b y w k q c quay z x = bFp a1 u1 b1 y1 w1 k q c quay z x := by
  by_cases h1 : bHave a u w k c x (x + z)
  · have h2 := (bHave_same h).mp h1
    simp only [bFp, if_pos h1, if_pos h2, bFf_same h]
  · have h2 := mt (bHave_same h).mpr h1
    simp only [bFp, if_neg h1, if_neg h2]
theorem bNe_same {x : Int} : ∀ (k : Nat), bSame a u b y w a1 u1 b1 y1 w1 k → bNe u x k = bNe u1 x k := by
  intro k
  induction k with
  | zero => intro _; rfl
  | succ k ih =>
    intro h
    simp only [bNe, ih (fun i hi => h i (by omega)), (h k (by omega)).2.1]
theorem bTm_same {F N F1 N1 : Int → Int} (hF : ∀ x, F x = F1 x) (hN : ∀ x, N x = N1 x) : ∀ (f : Nat) (t : Int), bTm F N f t = bTm F1 N1 f t := by
  intro f
  induction f with
  | zero => intro _; rfl
  | succ f ih => intro t; simp only [bTm, hF, hN, ih]
theorem bW_nn {x : Int} (hw : ∀ i, 0 ≤ w i) : ∀ (k : Nat), 0 ≤ bW a u w x k := by
  intro k
  induction k with
  | zero => exact Int.le_refl _
  | succ k ih =>
    have := hw k
    simp only [bW]; split <;> omega
theorem bCf_neg {x z p q : Int} : ∀ (k : Nat), (∀ i, i < k → 0 ≤ b i ∧ 0 ≤ y i) → bCf a u b y x z p q k < 0 → ∀ i, i < k → ¬ (¬ (p + q < b i ∨ b i + y i < p) ∧ a i < z ∧ x < u i) := by
  intro k
  induction k with
  | zero => intro _ _ i hi; exact absurd hi (Nat.not_lt_zero _)
  | succ k ih =>
    intro hn h i hi
    simp only [bCf] at h
    have hk := hn k (by omega)
    by_cases h1 : 0 ≤ bCf a u b y x z p q k
    · rw [if_pos h1] at h; omega
    · rw [if_neg h1] at h
      by_cases h2 : ¬ (p + q < b k ∨ b k + y k < p) ∧ a k < z ∧ x < u k
      · rw [if_pos h2] at h; omega
      · by_cases hik : i = k
        · rw [hik]; exact h2
        · exact ih (fun j hj => hn j (by omega)) (by omega) i (by omega)
theorem bCf_free {x z p q : Int} : ∀ (k : Nat), (∀ i, i < k → u i ≤ x) → bCf a u b y x z p q k = -1 := by
  intro k
  induction k with
  | zero => intro _; rfl
  | succ k ih =>
    intro h
    have h1 := h k (by omega)
    simp only [bCf, ih (fun i hi => h i (by omega))]
    rw [if_neg (by omega), if_neg (by omega)]
theorem bW_free {x : Int} : ∀ (k : Nat), (∀ i, i < k → u i ≤ x) → bW a u w x k = 0 := by
  intro k
  induction k with
  | zero => intro _; rfl
  | succ k ih =>
    intro h
    have h1 := h k (by omega)
    simp only [bW, ih (fun i hi => h i (by omega))]
    rw [if_neg (by omega)]; omega
theorem bFf_ok {x z q quay : Int} {k : Nat} : ∀ (f : Nat) (p r : Int), 0 ≤ p → bFf a u b y x z q quay k f p = r → 0 ≤ r → r + q ≤ quay ∧ bCf a u b y x z r q k < 0 := by
  intro f
  induction f with
  | zero => intro p r _ h hr; simp only [bFf] at h; omega
  | succ f ih =>
    intro p r hp h hr
    simp only [bFf] at h
    by_cases h1 : p + q ≤ quay
    · rw [if_pos h1] at h
      by_cases h2 : bCf a u b y x z p q k < 0
      · rw [if_pos h2] at h; rw [← h]; exact ⟨h1, h2⟩
      · rw [if_neg h2] at h; exact ih _ r (by omega) h hr
    · rw [if_neg h1] at h; omega
theorem bFp_ok {k : Nat} {q c quay h x : Int} (hn : ∀ i, i < k → 0 ≤ b i ∧ 0 ≤ y i) (hr : 0 ≤ bFp a u b y w k q c quay h x) : bHave a u w k c x (x + h) ∧ bFp a u b y w k q c quay h x + q ≤ quay ∧ ∀ i, i < k → ¬ (¬ (bFp a u b y w k q c quay h x + q < b i ∨ b i + y i < bFp a u b y w k q c quay h x) ∧ a i < x + h ∧ x < u i) := by
  by_cases h1 : bHave a u w k c x (x + h)
  · have h2 : bFp a u b y w k q c quay h x = bFf a u b y x (x + h) q quay k (k + 1) 0 := by simp only [bFp, if_pos h1]
    have h3 := bFf_ok (k + 1) 0 _ (Int.le_refl _) h2.symm hr
    exact ⟨h1, h3.1, bCf_neg k hn h3.2⟩
  · have h2 : bFp a u b y w k q c quay h x = -1 := by simp only [bFp, if_neg h1]
    omega
theorem bFp_free {k : Nat} {q c quay h x : Int} (hc : 0 ≤ c) (hq : q ≤ quay) (hau : ∀ i, i < k → a i ≤ u i) (hf : ∀ i, i < k → u i ≤ x) : bFp a u b y w k q c quay h x = 0 := by
  have h1 : bHave a u w k c x (x + h) := ⟨by rw [bW_free k hf]; exact hc, fun i hi hx => by have := hau i hi; have := hf i hi; omega⟩
  simp only [bFp, if_pos h1, bFf]
  rw [if_pos (by omega), bCf_free k hf, if_pos (by omega)]
/-- how many end behind x -/
def bCu (u : Nat → Int) (x : Int) : Nat → Nat
  | 0 => 0
  | k + 1 => bCu u x k + (if x < u k then 1 else 0)
theorem bCu_zero {x : Int} : ∀ (k : Nat), bCu u x k = 0 → ∀ i, i < k → u i ≤ x := by
  intro k
  induction k with
  | zero => intro _ i hi; exact absurd hi (Nat.not_lt_zero _)
  | succ k ih =>
    intro h i hi
    simp only [bCu] at h
    by_cases h1 : x < u k
    · rw [if_pos h1] at h; omega
    · by_cases hik : i = k
      · rw [hik]; omega
      · exact ih (by omega) i (by omega)
theorem bCu_le {x : Int} : ∀ (k : Nat), bCu u x k ≤ k := by
  intro k
  induction k with
  | zero => exact Nat.le_refl _
  | succ k ih => simp only [bCu]; split <;> omega
theorem bCu_mono {x z : Int} (hxz : x ≤ z) : ∀ (k : Nat), bCu u z k ≤ bCu u x k := by
  intro k
  induction k with
  | zero => exact Nat.le_refl _
  | succ k ih =>
    simp only [bCu]
    by_cases h1 : z < u k
    · rw [if_pos h1, if_pos (by omega)]; omega
    · rw [if_neg h1]; omega
theorem bCu_lt {x z : Int} (hxz : x ≤ z) {i : Nat} (h1 : x < u i) (h2 : u i ≤ z) : ∀ (k : Nat), i < k → bCu u z k < bCu u x k := by
  intro k
  induction k with
  | zero => intro h; exact absurd h (Nat.not_lt_zero _)
  | succ k ih =>
    intro hi
    simp only [bCu]
    by_cases hik : i = k
    · have := bCu_mono (u := u) hxz k
      rw [hik] at h1 h2
      rw [if_neg (by omega), if_pos h1]; omega
    · have := ih (by omega)
      by_cases h3 : z < u k
      · rw [if_pos h3, if_pos (by omega)]; omega
      · rw [if_neg h3]; omega
theorem bNe_ok {x : Int} : ∀ (k : Nat), (∀ i, i < k → u i < 1000000) → 0 < bCu u x k → ∃ i, i < k ∧ bNe u x k = u i ∧ x < u i := by
  intro k
  induction k with
  | zero => intro _ h; exact absurd h (Nat.lt_irrefl _)
  | succ k ih =>
    intro hu h
    simp only [bCu] at h
    simp only [bNe]
    by_cases h1 : x < u k
    · rw [if_pos h1]
      by_cases h2 : u k < bNe u x k
      · rw [if_pos h2]; exact ⟨k, by omega, rfl, h1⟩
      · rw [if_neg h2]
        by_cases h3 : 0 < bCu u x k
        · obtain ⟨i, a1, a2, a3⟩ := ih (fun i hi => hu i (by omega)) h3
          exact ⟨i, by omega, a2, a3⟩
        · -- none else: then the least so far is above all ends
          have h4 : ∀ (k : Nat), bCu u x k = 0 → bNe u x k = 1000000 := by
            intro k
            induction k with
            | zero => intro _; rfl
            | succ k ih2 =>
              intro h
              simp only [bCu] at h
              simp only [bNe]
              by_cases h5 : x < u k
              · rw [if_pos h5] at h; omega
              · rw [if_neg h5]; exact ih2 (by omega)
          have h5 := h4 k (by omega)
          have h6 := hu k (by omega)
          omega
    · rw [if_neg h1] at h ⊢
      obtain ⟨i, a1, a2, a3⟩ := ih (fun i hi => hu i (by omega)) (by omega)
      exact ⟨i, by omega, a2, a3⟩
theorem bTm_ok {F : Int → Int} {k : Nat} (hu : ∀ i, i < k → u i < 1000000) (hF : ∀ t, (∀ i, i < k → u i ≤ t) → 0 ≤ F t) : ∀ (f : Nat) (t : Int), bCu u t k ≤ f → 0 ≤ F (bTm F (fun x => bNe u x k) f t) ∧ t ≤ bTm F (fun x => bNe u x k) f t ∧ (bTm F (fun x => bNe u x k) f t = t ∨ ∃ i, i < k ∧ bTm F (fun x => bNe u x k) f t = u i) := by
  intro f
  induction f with
  | zero =>
    intro t h
    exact ⟨hF t (bCu_zero k (by omega)), Int.le_refl _, Or.inl rfl⟩
  | succ f ih =>
    intro t h
    simp only [bTm]
    by_cases h1 : F t < 0
    · rw [if_pos h1]
      by_cases h2 : bCu u t k = 0
      · have := hF t (bCu_zero k h2); omega
      · obtain ⟨i, a1, a2, a3⟩ := bNe_ok (x := t) k hu (by omega)
        rw [a2]
        have h3 := bCu_lt (u := u) (x := t) (z := u i) (by omega) a3 (Int.le_refl _) k a1
        obtain ⟨g1, g2, g3⟩ := ih (u i) (by omega)
        refine ⟨g1, by omega, ?_⟩
        rcases g3 with g3 | g3
        · exact Or.inr ⟨i, a1, g3⟩
        · exact Or.inr g3
    · rw [if_neg h1]
      exact ⟨by omega, Int.le_refl _, Or.inl rfl⟩
end BS
