/-! Trying the orders, as numbers alone. -/
def bBe (arr han bay rank want : Nat → Int) (quay cranes base : Int) (n : Nat) (bd bl : Int) (qrd : Nat → Nat) (qta qla : Nat → Int) : Prop :=
  (bd = 1000000 ∧ bl = 1000000) ∨ ∃ o, bPerm o n ∧ bd = bD arr han bay rank want quay cranes o n ∧ bl = bL arr han bay want quay cranes base o n ∧ ∀ i, i < n → qrd i = o i ∧ qta (o i) = bA arr han bay want quay cranes o i ∧ qla (o i) = bB arr han bay want quay cranes o i
def bPre (o : Nat → Nat) (n k : Nat) (ipt : Nat → Int) : Prop := (∀ i, i < k → o i < n) ∧ (∀ i j, i < j → j < k → o i ≠ o j) ∧ ∀ v, v < n → (ipt v = 1 ∨ ipt v = 0) ∧ (ipt v = 1 ↔ ∃ i, i < k ∧ o i = v)
def bMo (bd bl bd1 bl1 : Int) : Prop := bd1 < bd ∨ (bd1 = bd ∧ bl1 ≤ bl)
theorem bMo_tr {a b c d e f : Int} (h : bMo a b c d) (g : bMo c d e f) : bMo a b e f := by unfold bMo at *; omega
section BY
variable {arr han bay rank want : Nat → Int} {quay cranes base : Int} {n : Nat}
theorem bPre_step {o : Nat → Nat} {k v : Nat} {ipt : Nat → Int} (P : bPre o n k ipt) (hv : v < n) (h0 : ipt v = 0) : bPre (nV o k v) n (k + 1) (zU ipt v 1) := by
  obtain ⟨p1, p2, p3⟩ := P
  have hno : ∀ i, i < k → o i ≠ v := fun i hi e => by
    have := (p3 v hv).2.mpr ⟨i, hi, e⟩
    omega
  refine ⟨fun i hi => ?_, fun i j hij hj => ?_, fun x hx => ?_⟩
  · by_cases q : i = k
    · simp only [nV, if_pos q]; exact hv
    · simp only [nV, if_neg q]; exact p1 i (by omega)
  · by_cases q : j = k
    · simp only [nV, if_pos q, if_neg (show ¬ i = k by omega)]; exact hno i (by omega)
    · simp only [nV, if_neg q, if_neg (show ¬ i = k by omega)]; exact p2 i j hij (by omega)
  · by_cases q : x = v
    · rw [q, zU_at]
      exact ⟨Or.inl rfl, fun _ => ⟨k, by omega, by simp [nV]⟩, fun _ => rfl⟩
    · rw [zU_ne q]
      refine ⟨(p3 x hx).1, fun h => ?_, fun ⟨i, h1, h2⟩ => ?_⟩
      · obtain ⟨i, h1, h2⟩ := (p3 x hx).2.mp h
        exact ⟨i, by omega, by simp only [nV, if_neg (show ¬ i = k by omega)]; exact h2⟩
      · by_cases z : i = k
        · simp only [nV, if_pos z] at h2; exact absurd h2.symm q
        · simp only [nV, if_neg z] at h2; exact (p3 x hx).2.mpr ⟨i, by omega, h2⟩
theorem bTr_cong {o o1 : Nat → Nat} {k : Nat} {ord : Nat → Nat} {sta unt pla : Nat → Int} (T : bTr arr han bay want quay cranes o k ord sta unt pla) (h : ∀ i, i < k → o i = o1 i) : bTr arr han bay want quay cranes o1 k ord sta unt pla := by
  intro i hi
  have h1 := bAB_same (arr := arr) (han := han) (bay := bay) (want := want) (quay := quay) (cranes := cranes) k h i hi
  rw [← h i hi, ← h1.1, ← h1.2]
  exact T i hi
theorem bTr_less {o : Nat → Nat} {k : Nat} {ord : Nat → Nat} {sta unt pla : Nat → Int} (T : bTr arr han bay want quay cranes o (k + 1) ord sta unt pla) : bTr arr han bay want quay cranes o k ord sta unt pla := fun i hi => T i (by omega)
theorem bAll_step {o : Nat → Nat} {k : Nat} {bd bl : Int} (hk : k < n) (h : ∀ w, w < n → (∀ i, i < k → o i ≠ w) → bAll arr han bay rank want quay cranes base n (nV o k w) (k + 1) bd bl) : bAll arr han bay rank want quay cranes base n o k bd bl := by
  intro q hq ho
  refine h (q k) (hq.1 k hk) (fun i hi e => hq.2 i k hi hk ((ho i hi).trans e)) q hq (fun i hi => ?_)
  by_cases z : i = k
  · simp only [nV, if_pos z]; rw [z]
  · simp only [nV, if_neg z]; exact ho i (by omega)
theorem bAll_less {o : Nat → Nat} {k : Nat} {bd bl bd1 bl1 : Int} (h : bAll arr han bay rank want quay cranes base n o k bd bl) (hm : bMo bd bl bd1 bl1) : bAll arr han bay rank want quay cranes base n o k bd1 bl1 := fun q hq ho => bBet_less (h q hq ho) hm
/-- the prefix, with any vessel behind it -/
def bEx (o : Nat → Nat) (k : Nat) : Nat → Nat := fun i => if i < k then o i else 0
theorem bEx_lt {o : Nat → Nat} {k : Nat} (h : ∀ i, i < k → o i < n) (hn : 0 < n) : ∀ i, i < n → bEx o k i < n := fun i _ => by
  unfold bEx; split
  · exact h i ‹_›
  · exact hn
theorem bPf {o : Nat → Nat} {k : Nat} (hI : bIn arr han bay rank want quay cranes n) (hn : n ≤ 6) (hk : k ≤ n) (h0 : 0 < n) (h : ∀ i, i < k → o i < n) : ∀ j, j ≤ k → 0 ≤ bD arr han bay rank want quay cranes o j ∧ bD arr han bay rank want quay cranes o j ≤ 600000 * (j : Int) := by
  intro j
  induction j with
  | zero => intro _; exact ⟨Int.le_refl _, Int.le_refl _⟩
  | succ j ih =>
    intro hj
    have i1 := ih (by omega)
    have i2 := bD_step (ord := bEx o k) hI (by omega) (k := j) (by omega) (bEx_lt h h0)
    have e1 : ∀ i, i < j + 1 → bEx o k i = o i := fun i hi => by unfold bEx; rw [if_pos (by omega)]
    rw [e1 j (by omega), (bAB_same (j + 1) e1 j (by omega)).1] at i2
    simp only [bD]; omega
theorem bPa {o : Nat → Nat} {k : Nat} (hI : bIn arr han bay rank want quay cranes n) (hn : n ≤ 6) (hk : k ≤ n) (h0 : 0 < n) (h : ∀ i, i < k → o i < n) {i : Nat} (hi : i < k) : arr (o i) ≤ bA arr han bay want quay cranes o i ∧ bA arr han bay want quay cranes o i ≤ 400 + 10100 * (i : Int) := by
  have h1 := (bOk_all (ord := bEx o k) hI (by omega) n (Nat.le_refl _) (bEx_lt h h0)).1 i (by omega)
  have e1 : ∀ j, j < i + 1 → bEx o k j = o j := fun j hj => by unfold bEx; rw [if_pos (by omega)]
  rw [e1 i (by omega), (bAB_same (i + 1) e1 i (by omega)).1] at h1
  exact ⟨h1.1, h1.2.1⟩
theorem bPl {o : Nat → Nat} {k : Nat} (hI : bIn arr han bay rank want quay cranes n) (hn : n ≤ 6) (hk : k ≤ n) (h0 : 0 < n) (h : ∀ i, i < k → o i < n) (hb : 0 ≤ base ∧ base ≤ 1000000) : ∀ j, j ≤ k → 0 ≤ bL arr han bay want quay cranes base o j ∧ bL arr han bay want quay cranes base o j ≤ 1000000 := by
  intro j
  induction j with
  | zero => intro _; exact hb
  | succ j ih =>
    intro hj
    have i1 := ih (by omega)
    have i2 := bPa hI hn hk h0 h (i := j) (by omega)
    have i3 := hI (o j) (h j (by omega))
    simp only [bL]; split <;> omega
theorem bBe_keep {o : Nat → Nat} {ipt : Nat → Int} {ord : Nat → Nat} {sta unt pla : Nat → Int} (P : bPre o n n ipt) (T : bTr arr han bay want quay cranes o n ord sta unt pla) : bBe arr han bay rank want quay cranes base n (bD arr han bay rank want quay cranes o n) (bL arr han bay want quay cranes base o n) ord sta pla :=
  Or.inr ⟨o, ⟨P.1, P.2.1⟩, rfl, rfl, fun i hi => ⟨(T i hi).1, (T i hi).2.1, (T i hi).2.2.2⟩⟩
theorem bBe_bd {bd bl : Int} {qrd : Nat → Nat} {qta qla : Nat → Int} (hI : bIn arr han bay rank want quay cranes n) (hn : n ≤ 6) (h0 : 0 < n) (hb : 0 ≤ base ∧ base ≤ 1000000) (B : bBe arr han bay rank want quay cranes base n bd bl qrd qta qla) : (0 ≤ bd ∧ bd ≤ 100000000) ∧ 0 ≤ bl ∧ bl ≤ 100000000 := by
  rcases B with ⟨h1, h2⟩ | ⟨o, o1, o2, o3, -⟩
  · omega
  · have a := bPf hI hn (Nat.le_refl n) h0 o1.1 n (Nat.le_refl n)
    have b := bPl hI hn (Nat.le_refl n) h0 o1.1 hb n (Nat.le_refl n)
    omega
end BY
