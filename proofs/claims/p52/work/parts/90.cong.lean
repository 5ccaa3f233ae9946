/-! What an order gives depends on its own vessels alone. -/
section BG
variable {arr han bay rank want arr1 han1 bay1 rank1 want1 : Nat → Int} {quay cranes : Int} {ord : Nat → Nat}
def bEq (arr han bay rank want arr1 han1 bay1 rank1 want1 : Nat → Int) (n : Nat) : Prop := ∀ v, v < n → arr v = arr1 v ∧ han v = han1 v ∧ bay v = bay1 v ∧ rank v = rank1 v ∧ want v = want1 v
theorem bGo_cong {A B A1 B1 : Nat → Int} {n k : Nat} (E : bEq arr han bay rank want arr1 han1 bay1 rank1 want1 n) (ho : ∀ i, i ≤ k → ord i < n) (hA : ∀ i, i < k → A i = A1 i ∧ B i = B1 i) (x : Int) : bGo han bay want quay cranes ord A B k x = bGo han1 bay1 want1 quay cranes ord A1 B1 k x := by
  have hk := E (ord k) (ho k (Nat.le_refl _))
  unfold bGo
  rw [hk.2.1, hk.2.2.1, hk.2.2.2.2]
  exact bFp_same (fun i hi => by
    have h1 := hA i hi
    have h2 := E (ord i) (ho i (by omega))
    exact ⟨h1.1, by rw [h1.1, h2.2.1], h1.2, h2.2.2.1, h2.2.2.2.2⟩)
theorem bSt_cong {A B A1 B1 : Nat → Int} {n k : Nat} (E : bEq arr han bay rank want arr1 han1 bay1 rank1 want1 n) (ho : ∀ i, i ≤ k → ord i < n) (hA : ∀ i, i < k → A i = A1 i ∧ B i = B1 i) : bSt arr han bay want quay cranes ord A B k = bSt arr1 han1 bay1 want1 quay cranes ord A1 B1 k := by
  unfold bSt
  rw [(E (ord k) (ho k (Nat.le_refl _))).1]
  refine bTm_same (fun x => bGo_cong E ho hA x) (fun x => ?_) k _
  exact bNe_same (a := A) (b := B) (y := fun _ => 0) (w := fun _ => 0) (a1 := A1) (b1 := B1) (y1 := fun _ => 0) (w1 := fun _ => 0) k (fun i hi => by
    have h1 := hA i hi
    have h2 := E (ord i) (ho i (by omega))
    exact ⟨h1.1, by rw [h1.1, h2.2.1], h1.2, rfl, rfl⟩)
theorem bAB_cong {n : Nat} (E : bEq arr han bay rank want arr1 han1 bay1 rank1 want1 n) : ∀ (k : Nat), (∀ i, i < k → ord i < n) → ∀ i, i < k → bA arr han bay want quay cranes ord i = bA arr1 han1 bay1 want1 quay cranes ord i ∧ bB arr han bay want quay cranes ord i = bB arr1 han1 bay1 want1 quay cranes ord i := by
  intro k
  induction k with
  | zero => intro _ i hi; exact absurd hi (Nat.not_lt_zero _)
  | succ k ih =>
    intro ho i hi
    by_cases hik : i = k
    · rw [hik]
      have h1 := ih (fun j hj => ho j (by omega))
      have h2 : bA arr han bay want quay cranes ord k = bA arr1 han1 bay1 want1 quay cranes ord k := by
        rw [bA_eq, bA_eq (arr := arr1)]
        exact bSt_cong E (fun j hj => ho j (by omega)) h1
      refine ⟨h2, ?_⟩
      rw [bB_eq, bB_eq (arr := arr1), h2]
      exact bGo_cong E (fun j hj => ho j (by omega)) h1 _
    · exact ih (fun j hj => ho j (by omega)) i (by omega)
theorem bD_cong {n : Nat} (E : bEq arr han bay rank want arr1 han1 bay1 rank1 want1 n) : ∀ (k : Nat), (∀ i, i < k → ord i < n) → bD arr han bay rank want quay cranes ord k = bD arr1 han1 bay1 rank1 want1 quay cranes ord k := by
  intro k
  induction k with
  | zero => intro _; rfl
  | succ k ih =>
    intro h
    have h1 := E (ord k) (h k (by omega))
    simp only [bD, ih (fun i hi => h i (by omega)), (bAB_cong E (k + 1) h k (by omega)).1, h1.1, h1.2.2.2.1]
theorem bFound_cong {n : Nat} {bd : Int} {qrd : Nat → Nat} {qta qla : Nat → Int} (E : bEq arr han bay rank want arr1 han1 bay1 rank1 want1 n) (F : bFound arr han bay rank want quay cranes n bd qrd qta qla) : bFound arr1 han1 bay1 rank1 want1 quay cranes n bd qrd qta qla := by
  obtain ⟨o, o1, o2, o3, o4⟩ := F
  refine ⟨o, o1, by rw [o2]; exact bD_cong E n o1.1, fun i hi => ?_, by rw [← bD_cong (ord := fun i => i) E n (fun i hi => hi)]; exact o4⟩
  obtain ⟨q1, q2, q3⟩ := o3 i hi
  have q4 := bAB_cong (quay := quay) (cranes := cranes) E n o1.1 i hi
  exact ⟨q1, q2.trans q4.1, q3.trans q4.2⟩
theorem bFound_bd {n : Nat} {bd : Int} {qrd : Nat → Nat} {qta qla : Nat → Int} (hI : bIn arr han bay rank want quay cranes n) (hn : n ≤ 6) (h0 : 0 < n) (F : bFound arr han bay rank want quay cranes n bd qrd qta qla) : 0 ≤ bd ∧ bd ≤ 3600000 := by
  obtain ⟨o, o1, o2, -, -⟩ := F
  have h1 := bPf hI hn (Nat.le_refl n) h0 o1.1 n (Nat.le_refl n)
  omega
end BG
