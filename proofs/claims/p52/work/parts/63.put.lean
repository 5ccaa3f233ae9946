/-! Copies of arrays; a vessel put behind those ahead of it, as numbers alone. -/
theorem cpy_all {f g : Nat → Int32} {k j : Nat} {n : Int32} (hn : n.toNatClampNeg = k) (hj : j < k) : va_cpy f g (0 : Int32).toNatClampNeg (0 : Int32).toNatClampNeg n.toNatClampNeg j = f j := by
  rw [hn]
  show (if 0 ≤ j ∧ j < 0 + k then f (0 + (j - 0)) else g j) = f j
  rw [if_pos ⟨Nat.zero_le _, by omega⟩, Nat.zero_add, Nat.sub_zero]
theorem cpy_somez {f g : Nat → Int} {k j : Nat} {n : Int32} (hn : n.toNatClampNeg = k) : va_cpy (fun j => iI (f j)) (fun j => iI (g j)) (0 : Int32).toNatClampNeg (0 : Int32).toNatClampNeg n.toNatClampNeg j = iI (if j < k then f j else g j) := by
  rw [hn]
  show (if 0 ≤ j ∧ j < 0 + k then iI (f (0 + (j - 0))) else iI (g j)) = _
  rw [Nat.zero_add, Nat.zero_add, Nat.sub_zero]
  by_cases h : j < k
  · rw [if_pos ⟨Nat.zero_le _, h⟩, if_pos h]
  · rw [if_neg (fun q => h q.2), if_neg h]
theorem cpy_someh {f g : Nat → Nat} {k j : Nat} {n : Int32} (hn : n.toNatClampNeg = k) : va_cpy (fun j => nI (f j)) (fun j => nI (g j)) (0 : Int32).toNatClampNeg (0 : Int32).toNatClampNeg n.toNatClampNeg j = nI (if j < k then f j else g j) := by
  rw [hn]
  show (if 0 ≤ j ∧ j < 0 + k then nI (f (0 + (j - 0))) else nI (g j)) = _
  rw [Nat.zero_add, Nat.zero_add, Nat.sub_zero]
  by_cases h : j < k
  · rw [if_pos ⟨Nat.zero_le _, h⟩, if_pos h]
  · rw [if_neg (fun q => h q.2), if_neg h]
theorem bTm_stop {F N : Int → Int} {t : Int} : ∀ (f : Nat), (f = 0 ∨ 0 ≤ F t) → bTm F N f t = t := by
  intro f h
  cases f with
  | zero => rfl
  | succ f => simp only [bTm]; rw [if_neg (by omega)]
theorem bTm_go {F N : Int → Int} {t : Int} (f : Nat) (h : F t < 0) : bTm F N (f + 1) t = bTm F N f (N t) := by simp only [bTm]; rw [if_pos h]
/-- the first k of the order o are put, as the planner's arrays have it -/
def bTr (arr han bay want : Nat → Int) (quay cranes : Int) (o : Nat → Nat) (k : Nat) (ord : Nat → Nat) (sta unt pla : Nat → Int) : Prop :=
  ∀ i, i < k → ord i = o i ∧ sta (o i) = bA arr han bay want quay cranes o i ∧ unt (o i) = bA arr han bay want quay cranes o i + han (o i) ∧ pla (o i) = bB arr han bay want quay cranes o i
/-- start and place of a vessel that is put behind those -/
noncomputable def bPt (arr han bay want : Nat → Int) (quay cranes : Int) (ord : Nat → Nat) (sta unt pla : Nat → Int) (vs ah : Nat) : Int :=
  bTm (fun x => bFp (fun i => sta (ord i)) (fun i => unt (ord i)) (fun i => pla (ord i)) (fun i => bay (ord i)) (fun i => want (ord i)) ah (bay vs) (cranes - want vs) quay (han vs) x) (fun x => bNe (fun i => unt (ord i)) x ah) ah (arr vs)
theorem bTr_put {arr han bay want : Nat → Int} {quay cranes : Int} {o : Nat → Nat} {k : Nat} {ord : Nat → Nat} {sta unt pla : Nat → Int} (T : bTr arr han bay want quay cranes o k ord sta unt pla) (hd : ∀ i, i < k → o i ≠ o k) :
    bPt arr han bay want quay cranes (nV ord k (o k)) sta unt pla (o k) k = bA arr han bay want quay cranes o k ∧
    bFp (fun i => sta (nV ord k (o k) i)) (fun i => unt (nV ord k (o k) i)) (fun i => pla (nV ord k (o k) i)) (fun i => bay (nV ord k (o k) i)) (fun i => want (nV ord k (o k) i)) k (bay (o k)) (cranes - want (o k)) quay (han (o k)) (bA arr han bay want quay cranes o k) = bB arr han bay want quay cranes o k ∧
    bTr arr han bay want quay cranes o (k + 1) (nV ord k (o k)) (zU sta (o k) (bA arr han bay want quay cranes o k)) (zU unt (o k) (bA arr han bay want quay cranes o k + han (o k))) (zU pla (o k) (bB arr han bay want quay cranes o k)) := by
  have hs : bSame (fun i => sta (nV ord k (o k) i)) (fun i => unt (nV ord k (o k) i)) (fun i => pla (nV ord k (o k) i)) (fun i => bay (nV ord k (o k) i)) (fun i => want (nV ord k (o k) i)) (bA arr han bay want quay cranes o) (fun i => bA arr han bay want quay cranes o i + han (o i)) (bB arr han bay want quay cranes o) (fun i => bay (o i)) (fun i => want (o i)) k := by
    intro i hi
    obtain ⟨h1, h2, h3, h4⟩ := T i hi
    have e : nV ord k (o k) i = o i := by simp only [nV]; rw [if_neg (by omega), h1]
    simp only [e]
    exact ⟨h2, h3, h4, trivial, trivial⟩
  have e1 : bPt arr han bay want quay cranes (nV ord k (o k)) sta unt pla (o k) k = bA arr han bay want quay cranes o k := by
    rw [bA_eq]
    unfold bPt bSt
    refine bTm_same (fun x => ?_) (fun x => ?_) k _
    · unfold bGo; exact bFp_same hs
    · exact bNe_same k hs
  refine ⟨e1, ?_, fun i hi => ?_⟩
  · rw [bB_eq]; unfold bGo; exact bFp_same hs
  · by_cases q : i = k
    · subst q
      exact ⟨by simp [nV], zU_at, zU_at, zU_at⟩
    · obtain ⟨h1, h2, h3, h4⟩ := T i (by omega)
      have hne := hd i (by omega)
      exact ⟨by simp only [nV]; rw [if_neg q, h1], by rw [zU_ne hne]; exact h2, by rw [zU_ne hne]; exact h3, by rw [zU_ne hne]; exact h4⟩
