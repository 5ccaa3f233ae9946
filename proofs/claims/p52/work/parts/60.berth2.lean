/-! Bounds of what berths tell. -/
section BX
variable {a u b y w : Nat → Int}
theorem bW_bd {x : Int} (hw : ∀ i, 0 ≤ w i ∧ w i ≤ 4) : ∀ (k : Nat), 0 ≤ bW a u w x k ∧ bW a u w x k ≤ 4 * (k : Int) := by
  intro k
  induction k with
  | zero => exact ⟨Int.le_refl _, Int.le_refl _⟩
  | succ k ih =>
    have := hw k
    simp only [bW]; split <;> omega
theorem bCf_bd {x z p q : Int} (hb : ∀ i, -1 ≤ b i ∧ b i ≤ 60) (hy : ∀ i, 0 ≤ y i ∧ y i ≤ 10) : ∀ (k : Nat), -1 ≤ bCf a u b y x z p q k ∧ bCf a u b y x z p q k ≤ 71 := by
  intro k
  induction k with
  | zero => exact ⟨Int.le_refl _, (show (-1 : Int) ≤ 71 by decide)⟩
  | succ k ih =>
    have h1 := hb k
    have h2 := hy k
    simp only [bCf]
    split
    · exact ih
    · split <;> omega
theorem bCf_s (x z p q : Int) (k : Nat) : bCf a u b y x z p q (k + 1) = if 0 ≤ bCf a u b y x z p q k then bCf a u b y x z p q k else if ¬ (p + q < b k ∨ b k + y k < p) ∧ a k < z ∧ x < u k then b k + y k + 1 else -1 := rfl
theorem bCf_no {x z p q : Int} {k : Nat} (h : bCf a u b y x z p q k = -1) (hn : ¬ (¬ (p + q < b k ∨ b k + y k < p) ∧ a k < z ∧ x < u k)) : bCf a u b y x z p q (k + 1) = -1 := by
  rw [bCf_s, h, if_neg (by decide), if_neg hn]
theorem bCf_hit {x z p q : Int} {k : Nat} (h : bCf a u b y x z p q k = -1) (hn : ¬ (p + q < b k ∨ b k + y k < p) ∧ a k < z ∧ x < u k) (h0 : 0 ≤ b k + y k + 1) : ∀ (m : Nat), bCf a u b y x z p q (k + 1 + m) = b k + y k + 1 := by
  intro m
  induction m with
  | zero => rw [Nat.add_zero, bCf_s, h, if_neg (by decide), if_pos hn]
  | succ m ih => rw [show k + 1 + (m + 1) = k + 1 + m + 1 by omega, bCf_s, ih, if_pos h0]
theorem bNe_bd {x : Int} (hu : ∀ i, 0 ≤ u i) : ∀ (k : Nat), 0 ≤ bNe u x k ∧ bNe u x k ≤ 1000000 := by
  intro k
  induction k with
  | zero => exact ⟨(show (0 : Int) ≤ 1000000 by decide), Int.le_refl _⟩
  | succ k ih =>
    have := hu k
    simp only [bNe]
    split
    · split <;> omega
    · exact ih
theorem bFf_bd {x z q quay : Int} {k : Nat} (hb : ∀ i, -1 ≤ b i ∧ b i ≤ 60) (hy : ∀ i, 0 ≤ y i ∧ y i ≤ 10) (hq : 0 ≤ q) (hqy : quay ≤ 60) : ∀ (f : Nat) (p : Int), 0 ≤ p → -1 ≤ bFf a u b y x z q quay k f p ∧ bFf a u b y x z q quay k f p ≤ 60 := by
  intro f
  induction f with
  | zero => intro p _; exact ⟨Int.le_refl _, (show (-1 : Int) ≤ 60 by decide)⟩
  | succ f ih =>
    intro p hp
    simp only [bFf]
    split
    · split
      · omega
      · exact ih _ (by omega)
    · omega
theorem bFp_bd {k : Nat} {q c quay h x : Int} (hb : ∀ i, -1 ≤ b i ∧ b i ≤ 60) (hy : ∀ i, 0 ≤ y i ∧ y i ≤ 10) (hq : 0 ≤ q) (hqy : quay ≤ 60) : -1 ≤ bFp a u b y w k q c quay h x ∧ bFp a u b y w k q c quay h x ≤ 60 := by
  by_cases h1 : bHave a u w k c x (x + h)
  · simp only [bFp, if_pos h1]; exact bFf_bd hb hy hq hqy (k + 1) 0 (Int.le_refl _)
  · simp only [bFp, if_neg h1]; omega
end BX
