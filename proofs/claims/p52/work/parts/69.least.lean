/-! The least delay, as numbers alone. -/
section BZ
variable {arr han bay rank want : Nat → Int} {quay cranes base : Int} {n : Nat}
theorem bD4 {o : Nat → Nat} (hI : bIn arr han bay rank want quay cranes n) (hn : n ≤ 4) (ho : ∀ i, i < n → o i < n) : bD arr han bay rank want quay cranes o n ≤ 600000 := by
  have s := fun (k : Nat) (hk : k < n) => (bD_step hI (by omega) hk ho).2
  have d0 : bD arr han bay rank want quay cranes o 0 = 0 := rfl
  have b0 : bD arr han bay rank want quay cranes o 1 = bD arr han bay rank want quay cranes o 0 + rank (o 0) * (bA arr han bay want quay cranes o 0 - arr (o 0)) := rfl
  have b1 : bD arr han bay rank want quay cranes o 2 = bD arr han bay rank want quay cranes o 1 + rank (o 1) * (bA arr han bay want quay cranes o 1 - arr (o 1)) := rfl
  have b2 : bD arr han bay rank want quay cranes o 3 = bD arr han bay rank want quay cranes o 2 + rank (o 2) * (bA arr han bay want quay cranes o 2 - arr (o 2)) := rfl
  have b3 : bD arr han bay rank want quay cranes o 4 = bD arr han bay rank want quay cranes o 3 + rank (o 3) * (bA arr han bay want quay cranes o 3 - arr (o 3)) := rfl
  have h : n = 0 ∨ n = 1 ∨ n = 2 ∨ n = 3 ∨ n = 4 := by omega
  rcases h with h | h | h | h | h <;> subst h
  · omega
  · have a0 := s 0 (by omega); omega
  · have a0 := s 0 (by omega); have a1 := s 1 (by omega); omega
  · have a0 := s 0 (by omega); have a1 := s 1 (by omega); have a2 := s 2 (by omega); omega
  · have a0 := s 0 (by omega); have a1 := s 1 (by omega); have a2 := s 2 (by omega); have a3 := s 3 (by omega); omega
/-- what plan() finds -/
def bFound (arr han bay rank want : Nat → Int) (quay cranes : Int) (n : Nat) (bd : Int) (qrd : Nat → Nat) (qta qla : Nat → Int) : Prop :=
  ∃ o, bPerm o n ∧ bd = bD arr han bay rank want quay cranes o n ∧ (∀ i, i < n → qrd i = o i ∧ qta (o i) = bA arr han bay want quay cranes o i ∧ qla (o i) = bB arr han bay want quay cranes o i) ∧ bd ≤ bD arr han bay rank want quay cranes (fun i => i) n
theorem bFound_of {bd bl : Int} {qrd : Nat → Nat} {qta qla : Nat → Int} (hI : bIn arr han bay rank want quay cranes n) (hn : n ≤ 4) (B : bBe arr han bay rank want quay cranes base n bd bl qrd qta qla) (A : bAll arr han bay rank want quay cranes base n (fun i => i) 0 bd bl) : bFound arr han bay rank want quay cranes n bd qrd qta qla := by
  have h1 := A (fun i => i) ⟨fun i hi => hi, fun i j hij _ => by (try dsimp only); omega⟩ (fun i hi => rfl)
  have h2 := bD4 (o := fun i => i) hI hn (fun i hi => hi)
  rcases B with ⟨b1, b2⟩ | ⟨o, o1, o2, o3, o4⟩
  · exact absurd (Or.inl (by omega)) h1
  · refine ⟨o, o1, o2, o4, ?_⟩
    unfold bBet at h1; omega
end BZ
