/-! Orders of vessels, as numbers alone. -/
noncomputable def bGo (han bay want : Nat → Int) (quay cranes : Int) (ord : Nat → Nat) (A B : Nat → Int) (k : Nat) (x : Int) : Int :=
  bFp A (fun i => A i + han (ord i)) B (fun i => bay (ord i)) (fun i => want (ord i)) k (bay (ord k)) (cranes - want (ord k)) quay (han (ord k)) x
noncomputable def bSt (arr han bay want : Nat → Int) (quay cranes : Int) (ord : Nat → Nat) (A B : Nat → Int) (k : Nat) : Int :=
  bTm (bGo han bay want quay cranes ord A B k) (fun x => bNe (fun i => A i + han (ord i)) x k) k (arr (ord k))
/-- start and place of the i-th one, for the first k of an order -/
noncomputable def bT (arr han bay want : Nat → Int) (quay cranes : Int) (ord : Nat → Nat) : Nat → Nat → Int × Int
  | 0 => fun _ => (0, 0)
  | k + 1 => fun i => if i = k then (bSt arr han bay want quay cranes ord (fun j => (bT arr han bay want quay cranes ord k j).1) (fun j => (bT arr han bay want quay cranes ord k j).2) k, bGo han bay want quay cranes ord (fun j => (bT arr han bay want quay cranes ord k j).1) (fun j => (bT arr han bay want quay cranes ord k j).2) k (bSt arr han bay want quay cranes ord (fun j => (bT arr han bay want quay cranes ord k j).1) (fun j => (bT arr han bay want quay cranes ord k j).2) k)) else bT arr han bay want quay cranes ord k i
noncomputable def bA (arr han bay want : Nat → Int) (quay cranes : Int) (ord : Nat → Nat) (i : Nat) : Int := (bT arr han bay want quay cranes ord (i + 1) i).1
noncomputable def bB (arr han bay want : Nat → Int) (quay cranes : Int) (ord : Nat → Nat) (i : Nat) : Int := (bT arr han bay want quay cranes ord (i + 1) i).2
def bPerm (ord : Nat → Nat) (n : Nat) : Prop := (∀ i, i < n → ord i < n) ∧ ∀ i j, i < j → j < n → ord i ≠ ord j
section BO
variable {arr han bay want : Nat → Int} {quay cranes : Int} {ord ord1 : Nat → Nat}
theorem bGo_same {A B A1 B1 : Nat → Int} {k : Nat} (hA : ∀ i, i < k → A i = A1 i ∧ B i = B1 i) (ho : ∀ i, i ≤ k → ord i = ord1 i) (x : Int) : bGo han bay want quay cranes ord A B k x = bGo han bay want quay cranes ord1 A1 B1 k x := by
  unfold bGo
  rw [ho k (Nat.le_refl _)]
  exact bFp_same (fun i hi => by
    have h1 := hA i hi
    have h2 := ho i (by omega)
    exact ⟨h1.1, by rw [h1.1, h2], h1.2, by rw [h2], by rw [h2]⟩)
theorem bSt_same {A B A1 B1 : Nat → Int} {k : Nat} (hA : ∀ i, i < k → A i = A1 i ∧ B i = B1 i) (ho : ∀ i, i ≤ k → ord i = ord1 i) : bSt arr han bay want quay cranes ord A B k = bSt arr han bay want quay cranes ord1 A1 B1 k := by
  unfold bSt
  rw [ho k (Nat.le_refl _)]
  refine bTm_same (fun x => bGo_same hA ho x) (fun x => ?_) k _
  exact bNe_same (a := A) (b := B) (y := fun _ => 0) (w := fun _ => 0) (a1 := A1) (b1 := B1) (y1 := fun _ => 0) (w1 := fun _ => 0) k (fun i hi => by
    have h1 := hA i hi
    have h2 := ho i (by omega)
    exact ⟨h1.1, by rw [h1.1, h2], h1.2, rfl, rfl⟩)
theorem bT_lt : ∀ (k i : Nat), i < k → bT arr han bay want quay cranes ord k i = bT arr han bay want quay cranes ord (i + 1) i := by
  intro k
  induction k with
  | zero => intro i hi; exact absurd hi (Nat.not_lt_zero _)
  | succ k ih =>
    intro i hi
    by_cases hik : i = k
    · rw [hik]
    · have h1 : bT arr han bay want quay cranes ord (k + 1) i = bT arr han bay want quay cranes ord k i := by simp only [bT, if_neg hik]
      rw [h1]; exact ih i (by omega)
theorem bA_eq (k : Nat) : bA arr han bay want quay cranes ord k = bSt arr han bay want quay cranes ord (bA arr han bay want quay cranes ord) (bB arr han bay want quay cranes ord) k := by
  have h1 : bA arr han bay want quay cranes ord k = bSt arr han bay want quay cranes ord (fun j => (bT arr han bay want quay cranes ord k j).1) (fun j => (bT arr han bay want quay cranes ord k j).2) k := by
    unfold bA; simp only [bT, if_true]
  rw [h1]
  exact bSt_same (fun i hi => ⟨by unfold bA; rw [bT_lt k i hi], by unfold bB; rw [bT_lt k i hi]⟩) (fun _ _ => rfl)
theorem bB_eq (k : Nat) : bB arr han bay want quay cranes ord k = bGo han bay want quay cranes ord (bA arr han bay want quay cranes ord) (bB arr han bay want quay cranes ord) k (bA arr han bay want quay cranes ord k) := by
  have h1 : bB arr han bay want quay cranes ord k = bGo han bay want quay cranes ord (fun j => (bT arr han bay want quay cranes ord k j).1) (fun j => (bT arr han bay want quay cranes ord k j).2) k (bA arr han bay want quay cranes ord k) := by
    unfold bB bA; simp only [bT, if_true]
  rw [h1]
  exact bGo_same (fun i hi => ⟨by unfold bA; rw [bT_lt k i hi], by unfold bB; rw [bT_lt k i hi]⟩) (fun _ _ => rfl) _
theorem bAB_same : ∀ (k : Nat), (∀ i, i < k → ord i = ord1 i) → ∀ i, i < k → bA arr han bay want quay cranes ord i = bA arr han bay want quay cranes ord1 i ∧ bB arr han bay want quay cranes ord i = bB arr han bay want quay cranes ord1 i := by
  intro k
  induction k with
  | zero => intro _ i hi; exact absurd hi (Nat.not_lt_zero _)
  | succ k ih =>
    intro ho i hi
    by_cases hik : i = k
    · rw [hik]
      have h1 := ih (fun j hj => ho j (by omega))
      have h2 : bA arr han bay want quay cranes ord k = bA arr han bay want quay cranes ord1 k := by
        rw [bA_eq, bA_eq (ord := ord1)]
        exact bSt_same h1 (fun j hj => ho j (by omega))
      refine ⟨h2, ?_⟩
      rw [bB_eq, bB_eq (ord := ord1), h2]
      exact bGo_same h1 (fun j hj => ho j (by omega)) _
    · exact ih (fun j hj => ho j (by omega)) i (by omega)
/-- the vessels and the quay -/
def bIn (arr han bay rank want : Nat → Int) (quay cranes : Int) (n : Nat) : Prop := ∀ v, v < n → 0 ≤ arr v ∧ arr v ≤ 400 ∧ 1 ≤ han v ∧ han v ≤ 10100 ∧ 1 ≤ bay v ∧ bay v ≤ quay ∧ 0 ≤ rank v ∧ rank v ≤ 9 ∧ 1 ≤ want v ∧ want v ≤ cranes
/-- the first k of an order lie well -/
def bOk (arr han bay want : Nat → Int) (quay cranes : Int) (ord : Nat → Nat) (k : Nat) : Prop :=
  (∀ i, i < k → arr (ord i) ≤ bA arr han bay want quay cranes ord i ∧ bA arr han bay want quay cranes ord i ≤ 400 + 10100 * (i : Int) ∧ 0 ≤ bB arr han bay want quay cranes ord i ∧ bB arr han bay want quay cranes ord i + bay (ord i) ≤ quay) ∧
  (∀ i j, i < j → j < k → bB arr han bay want quay cranes ord j + bay (ord j) < bB arr han bay want quay cranes ord i ∨ bB arr han bay want quay cranes ord i + bay (ord i) < bB arr han bay want quay cranes ord j ∨
    bA arr han bay want quay cranes ord j + han (ord j) ≤ bA arr han bay want quay cranes ord i ∨ bA arr han bay want quay cranes ord i + han (ord i) ≤ bA arr han bay want quay cranes ord j) ∧
  (∀ i, i < k → bW (bA arr han bay want quay cranes ord) (fun i => bA arr han bay want quay cranes ord i + han (ord i)) (fun i => want (ord i)) (bA arr han bay want quay cranes ord i) k ≤ cranes)
theorem bOk_all {rank : Nat → Int} {n : Nat} (hI : bIn arr han bay rank want quay cranes n) (hn : n ≤ 50) : ∀ (k : Nat), k ≤ n → (∀ i, i < k → ord i < n) → bOk arr han bay want quay cranes ord k := by
  intro k
  induction k with
  | zero => intro _ _; exact ⟨fun i hi => absurd hi (Nat.not_lt_zero _), fun i j _ hj => absurd hj (Nat.not_lt_zero _), fun i hi => absurd hi (Nat.not_lt_zero _)⟩
  | succ k ih =>
    intro hk ho
    obtain ⟨h1, h2, h3⟩ := ih (by omega) (fun i hi => ho i (by omega))
    unfold bOk
    have hv := hI (ord k) (ho k (by omega))
    have hvi := fun (i : Nat) (hi : i < k) => hI (ord i) (ho i (by omega))
    have hA := bA_eq (arr := arr) (han := han) (bay := bay) (want := want) (quay := quay) (cranes := cranes) (ord := ord) k
    have hB := bB_eq (arr := arr) (han := han) (bay := bay) (want := want) (quay := quay) (cranes := cranes) (ord := ord) k
    generalize hAe : bA arr han bay want quay cranes ord = A at *
    generalize hBe : bB arr han bay want quay cranes ord = B at *
    have ht := bTm_ok (u := fun i => A i + han (ord i)) (F := bGo han bay want quay cranes ord A B k) (k := k) (fun i hi => by
        have := h1 i hi; have := hvi i hi
        show A i + han (ord i) < 1000000
        omega) (fun t hf => by
        unfold bGo
        rw [bFp_free (by omega) (by omega) (fun i hi => by have := hvi i hi; omega) hf]
        omega) k (arr (ord k)) (bCu_le k)
    have hS : bTm (bGo han bay want quay cranes ord A B k) (fun x => bNe (fun i => A i + han (ord i)) x k) k (arr (ord k)) = A k := hA.symm
    rw [hS, ← hB] at ht
    obtain ⟨t1, t2, t3⟩ := ht
    have hp := bFp_ok (a := A) (u := fun i => A i + han (ord i)) (b := B) (y := fun i => bay (ord i)) (w := fun i => want (ord i)) (k := k) (q := bay (ord k)) (c := cranes - want (ord k)) (quay := quay) (h := han (ord k)) (x := A k) (fun i hi => by
        have := h1 i hi; have := hvi i hi
        show 0 ≤ B i ∧ 0 ≤ bay (ord i)
        omega) (by rw [hB] at t1; exact t1)
    have hB2 : bFp A (fun i => A i + han (ord i)) B (fun i => bay (ord i)) (fun i => want (ord i)) k (bay (ord k)) (cranes - want (ord k)) quay (han (ord k)) (A k) = B k := hB.symm
    rw [hB2] at hp
    obtain ⟨p1, p2, p3⟩ := hp
    refine ⟨fun i hi => ?_, fun i j hij hj => ?_, fun i hi => ?_⟩
    · by_cases hik : i = k
      · rw [hik]
        refine ⟨t2, ?_, t1, p2⟩
        rcases t3 with t3 | ⟨j, j1, j2⟩
        · rw [t3]; omega
        · have a1 := h1 j j1
          have a2 := hvi j j1
          have j3 : A k = A j + han (ord j) := j2
          omega
      · exact h1 i (by omega)
    · by_cases hjk : j = k
      · rw [hjk] at hij ⊢
        have q := p3 i hij
        have q2 : ¬ (¬ (B k + bay (ord k) < B i ∨ B i + bay (ord i) < B k) ∧ A i < A k + han (ord k) ∧ A k < A i + han (ord i)) := q
        omega
      · exact h2 i j hij (by omega)
    · simp only [bW]
      by_cases hik : i = k
      · rw [hik]
        have q := p1.1
        split <;> omega
      · have q := h3 i (by omega)
        by_cases hc : A k ≤ A i ∧ A i < A k + han (ord k)
        · rw [if_pos hc]
          by_cases he : A i = A k
          · have := p1.1
            rw [he]; omega
          · have := p1.2 i (by omega) (by omega) hc.2
            omega
        · rw [if_neg hc]; omega
/-- the delay of the first k of an order, and its latest end -/
noncomputable def bD (arr han bay rank want : Nat → Int) (quay cranes : Int) (ord : Nat → Nat) : Nat → Int
  | 0 => 0
  | k + 1 => bD arr han bay rank want quay cranes ord k + rank (ord k) * (bA arr han bay want quay cranes ord k - arr (ord k))
noncomputable def bL (arr han bay want : Nat → Int) (quay cranes : Int) (base : Int) (ord : Nat → Nat) : Nat → Int
  | 0 => base
  | k + 1 => if bL arr han bay want quay cranes base ord k < bA arr han bay want quay cranes ord k + han (ord k) then bA arr han bay want quay cranes ord k + han (ord k) else bL arr han bay want quay cranes base ord k
theorem bD_same {rank : Nat → Int} : ∀ (k : Nat), (∀ i, i < k → ord i = ord1 i) → bD arr han bay rank want quay cranes ord k = bD arr han bay rank want quay cranes ord1 k := by
  intro k
  induction k with
  | zero => intro _; rfl
  | succ k ih =>
    intro h
    simp only [bD, ih (fun i hi => h i (by omega)), (bAB_same (k + 1) h k (by omega)).1, h k (by omega)]
theorem bL_same {base : Int} : ∀ (k : Nat), (∀ i, i < k → ord i = ord1 i) → bL arr han bay want quay cranes base ord k = bL arr han bay want quay cranes base ord1 k := by
  intro k
  induction k with
  | zero => intro _; rfl
  | succ k ih =>
    intro h
    simp only [bL, ih (fun i hi => h i (by omega)), (bAB_same (k + 1) h k (by omega)).1, h k (by omega)]
theorem bD_step {rank : Nat → Int} {n : Nat} (hI : bIn arr han bay rank want quay cranes n) (hn : n ≤ 50) {k : Nat} (hk : k < n) (ho : ∀ i, i < n → ord i < n) : 0 ≤ rank (ord k) * (bA arr han bay want quay cranes ord k - arr (ord k)) ∧ rank (ord k) * (bA arr han bay want quay cranes ord k - arr (ord k)) ≤ 9 * (400 + 10100 * (k : Int)) := by
  have h1 := (bOk_all hI hn n (Nat.le_refl _) ho).1 k hk
  have h2 := hI (ord k) (ho k hk)
  have hz : 0 ≤ bA arr han bay want quay cranes ord k - arr (ord k) ∧ bA arr han bay want quay cranes ord k - arr (ord k) ≤ 400 + 10100 * (k : Int) := by omega
  exact ⟨Int.mul_nonneg (by omega) hz.1, Int.mul_le_mul (by omega) hz.2 hz.1 (by omega)⟩
theorem bD_mono {rank : Nat → Int} {n : Nat} (hI : bIn arr han bay rank want quay cranes n) (hn : n ≤ 50) (ho : ∀ i, i < n → ord i < n) : ∀ (m k : Nat), k + m ≤ n → bD arr han bay rank want quay cranes ord k ≤ bD arr han bay rank want quay cranes ord (k + m) := by
  intro m
  induction m with
  | zero => intro k _; exact Int.le_refl _
  | succ m ih =>
    intro k hk
    have h1 := ih k (by omega)
    have h2 := (bD_step hI hn (k := k + m) (by omega) ho).1
    have h3 : bD arr han bay rank want quay cranes ord (k + (m + 1)) = bD arr han bay rank want quay cranes ord (k + m) + rank (ord (k + m)) * (bA arr han bay want quay cranes ord (k + m) - arr (ord (k + m))) := rfl
    rw [h3]; omega
theorem bL_mono {base : Int} : ∀ (m k : Nat), bL arr han bay want quay cranes base ord k ≤ bL arr han bay want quay cranes base ord (k + m) := by
  intro m
  induction m with
  | zero => intro k; exact Int.le_refl _
  | succ m ih =>
    intro k
    have h1 := ih k
    rw [show k + (m + 1) = k + m + 1 by omega]
    simp only [bL]; split <;> omega
/-- better than the best so far -/
def bBet (bd bl d l : Int) : Prop := d < bd ∨ (d = bd ∧ l < bl)
theorem bBet_mono {bd bl d l d1 l1 : Int} (h : ¬ bBet bd bl d l) (hd : d ≤ d1) (hl : l ≤ l1) : ¬ bBet bd bl d1 l1 := by
  unfold bBet at *; omega
theorem bBet_less {bd bl bd1 bl1 d l : Int} (h : ¬ bBet bd bl d l) (hb : bd1 < bd ∨ (bd1 = bd ∧ bl1 ≤ bl)) : ¬ bBet bd1 bl1 d l := by
  unfold bBet at *; omega
/-- no completion of the first k of ord is better than bd, bl -/
def bAll (arr han bay rank want : Nat → Int) (quay cranes base : Int) (n : Nat) (ord : Nat → Nat) (k : Nat) (bd bl : Int) : Prop :=
  ∀ o, bPerm o n → (∀ i, i < k → o i = ord i) → ¬ bBet bd bl (bD arr han bay rank want quay cranes o n) (bL arr han bay want quay cranes base o n)
theorem bAll_cut {rank : Nat → Int} {base : Int} {n k : Nat} {bd bl : Int} (hI : bIn arr han bay rank want quay cranes n) (hn : n ≤ 50) (hk : k ≤ n) (h : ¬ bBet bd bl (bD arr han bay rank want quay cranes ord k) (bL arr han bay want quay cranes base ord k)) : bAll arr han bay rank want quay cranes base n ord k bd bl := by
  intro o hp ho
  have h1 := bD_mono hI hn hp.1 (n - k) k (by omega)
  have h2 := bL_mono (arr := arr) (han := han) (bay := bay) (want := want) (quay := quay) (cranes := cranes) (base := base) (ord := o) (n - k) k
  rw [show k + (n - k) = n by omega] at h1 h2
  rw [bD_same k ho] at h1
  rw [bL_same k ho] at h2
  exact bBet_mono h h1 h2
theorem bAll_leaf {rank : Nat → Int} {base : Int} {n : Nat} : bAll arr han bay rank want quay cranes base n ord n (bD arr han bay rank want quay cranes ord n) (bL arr han bay want quay cranes base ord n) := by
  intro o _ ho
  rw [bD_same n ho, bL_same n ho]
  unfold bBet; omega
theorem bSurj {n : Nat} (hp : bPerm ord n) {v : Nat} (hv : v < n) : ∃ i, i < n ∧ ord i = v := by
  obtain ⟨i, j, h1, h2, h3⟩ := sPigeon n (fun j => if j < n then ord j else v) (fun j _ => by
    (try dsimp only); split
    · exact hp.1 j ‹_›
    · exact hv)
  have h3 : (if i < n then ord i else v) = (if j < n then ord j else v) := h3
  by_cases hj : j < n
  · rw [if_pos (by omega), if_pos hj] at h3
    exact absurd h3 (hp.2 i j h1 hj)
  · rw [if_pos (by omega), if_neg hj] at h3
    exact ⟨i, by omega, h3⟩
end BO
