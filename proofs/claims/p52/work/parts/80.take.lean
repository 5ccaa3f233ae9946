/-! A row taken out of its group, and put back; copies of rows; a script beside the world. -/
theorem xPperm' {D : va_G} {cl : List vw_C} {ws ws' : va_W} {H : Heap} (h : va_P D cl ws H) (hp : ws.Perm ws') : va_P D cl ws' H := xPperm h (fun q h9 => hp.mem_iff.mpr h9)
theorem xDnd {A : Nat → Prop} {ws : va_W} : va_D A ws ↔ (ws.Pairwise (fun p q => p.1 ≠ q.1)) ∧ ∀ q ∈ ws, A q.1 := by
  constructor
  · intro h
    refine ⟨?_, fun q hq => ?_⟩
    · rw [List.pairwise_iff_getElem]
      intro i j hi hj hij e
      exact Nat.ne_of_lt hij (h.1 i j _ _ (List.getElem?_eq_getElem hi) (List.getElem?_eq_getElem hj) e)
    · obtain ⟨k, hk⟩ := List.getElem?_of_mem hq
      exact h.2 k q hk
  · rintro ⟨h1, h2⟩
    refine ⟨fun i j p q hp hq e => ?_, fun k q hk => h2 q (List.mem_of_getElem? hk)⟩
    rw [List.pairwise_iff_getElem] at h1
    obtain ⟨hi, rfl⟩ := List.getElem?_eq_some_iff.mp hp
    obtain ⟨hj, rfl⟩ := List.getElem?_eq_some_iff.mp hq
    rcases Nat.lt_trichotomy i j with c | c | c
    · exact absurd e (h1 i j hi hj c)
    · exact c
    · exact absurd e.symm (h1 j i hj hi c)
theorem xDperm {A : Nat → Prop} {ws ws' : va_W} (hD : va_D A ws) (hp : ws.Perm ws') : va_D A ws' := by
  rw [xDnd] at hD ⊢
  exact ⟨(hp.pairwise_iff (fun h e => h e.symm)).mp hD.1, fun q hq => hD.2 q (hp.mem_iff.mpr hq)⟩
/-- a group without its i-th row -/
def xRx (n i : Nat) (f : Nat → Nat × va_E) : va_W := (List.range n).map (fun j => f (if j < i then j else j + 1))
theorem xRange_perm : ∀ (n i : Nat), i < n + 1 → (List.range (n + 1)).Perm (i :: (List.range n).map (fun j => if j < i then j else j + 1)) := by
  intro n
  induction n with
  | zero => intro i h; obtain rfl : i = 0 := by omega
            exact List.Perm.refl _
  | succ n ih =>
    intro i h
    rw [List.range_succ]
    by_cases q : i = n + 1
    · subst q
      have e : (List.range (n + 1)).map (fun j => if j < n + 1 then j else j + 1) = List.range (n + 1) := by
        have e1 : ∀ j ∈ List.range (n + 1), (if j < n + 1 then j else j + 1) = id j := fun j hj => by rw [if_pos (List.mem_range.mp hj)]; rfl
        rw [List.map_congr_left e1, List.map_id]
      rw [e]
      exact List.perm_append_comm
    · rw [show (List.range (n + 1)).map (fun j => if j < i then j else j + 1) = (List.range n).map (fun j => if j < i then j else j + 1) ++ [n + 1] from by rw [List.range_succ, List.map_append]; simp; omega]
      exact (ih i (by omega)).append_right [n + 1]
theorem xR_perm {n i : Nat} {f : Nat → Nat × va_E} (h : i < n + 1) : (xR (n + 1) f).Perm (f i :: xRx n i f) := by
  have h1 := (xRange_perm n i h).map f
  rw [List.map_cons, List.map_map] at h1
  exact h1
theorem xTake0 {n i : Nat} {f : Nat → Nat × va_E} {R : va_W} (h : i < n + 1) : (xR (n + 1) f ++ R).Perm (f i :: (xRx n i f ++ R)) := (xR_perm h).append_right R
theorem xUp {A Y Y' : va_W} {q : Nat × va_E} (h : Y.Perm (q :: Y')) : (A ++ Y).Perm (q :: (A ++ Y')) := (h.append_left A).trans List.perm_middle
theorem xDn {A Y Y' : va_W} {q : Nat × va_E} (h : (q :: Y).Perm Y') : (q :: (A ++ Y)).Perm (A ++ Y') := List.perm_middle.symm.trans (h.append_left A)
theorem xRx_congr {n i : Nat} {f f1 : Nat → Nat × va_E} (h : ∀ j, j ≠ i → f j = f1 j) : xRx n i f = xRx n i f1 := by
  unfold xRx
  refine List.map_congr_left (fun j _ => h _ ?_)
  split <;> omega
theorem xPut0 {n i : Nat} {f f1 : Nat → Nat × va_E} {q : Nat × va_E} {R : va_W} (h : i < n + 1) (hq : q = f1 i) (ho : ∀ j, j ≠ i → f j = f1 j) : (q :: (xRx n i f ++ R)).Perm (xR (n + 1) f1 ++ R) := by
  rw [xRx_congr ho, hq]
  exact (xTake0 h).symm
/-- rows, with one written whole -/
def rU {α : Type} (f : Nat → α) (k : Nat) (v : α) : Nat → α := fun j => if j = k then v else f j
theorem rU_all {α : Type} {f : Nat → Nat → α} {k : Nat} {v : Nat → α} {P : α → Prop} (h : ∀ i j, P (f i j)) (hv : ∀ j, P (v j)) : ∀ i j, P (rU f k v i j) := fun i j => by
  unfold rU; split
  · exact hv j
  · exact h i j
/-- rows, with the first len of one copied -/
def nR2 (h : Nat → Nat → Nat) (i : Nat) (hs : Nat → Nat) (len : Nat) : Nat → Nat → Nat := fun a j => if a = i then (if j < len then hs j else h a j) else h a j
theorem nR2_all {h : Nat → Nat → Nat} {i : Nat} {hs : Nat → Nat} {len hi : Nat} (hh : ∀ i j, h i j ≤ hi) (hv : ∀ j, hs j ≤ hi) : ∀ a j, nR2 h i hs len a j ≤ hi := fun a j => by
  unfold nR2; split
  · split
    · exact hv j
    · exact hh a j
  · exact hh a j
theorem xRN_cpy0 {cA : ClassId} {n len i k : Nat} {r : Nat → Nat} {h : Nat → Nat → Nat} {hs : Nat → Nat} {R : va_W} {x : Int32} (hi0 : i < n) (hx : x.toNatClampNeg = k) : (xRN cA n len r h ++ R).set i (r i, .inl (cA, len, .inl (va_cpy (fun j => nI (hs j)) (fun j => nI (h i j)) (0 : Int32).toNatClampNeg (0 : Int32).toNatClampNeg x.toNatClampNeg))) = xRN cA n len r (nR2 h i hs k) ++ R := by
  have h1 := xR_set (X := []) (R := R) (f := fun i => (r i, (.inl (cA, len, .inl (fun j => nI (h i j))) : va_E))) (g := fun i1 => (r i1, (.inl (cA, len, .inl (fun j => nI (nR2 h i hs k i1 j))) : va_E))) (q := (r i, .inl (cA, len, .inl (va_cpy (fun j => nI (hs j)) (fun j => nI (h i j)) (0 : Int32).toNatClampNeg (0 : Int32).toNatClampNeg x.toNatClampNeg)))) hi0 (fun j => by
    by_cases hj : j = i
    · subst hj
      rw [if_pos rfl]
      have e : (va_cpy (fun j => nI (hs j)) (fun j1 => nI (h j j1)) (0 : Int32).toNatClampNeg (0 : Int32).toNatClampNeg x.toNatClampNeg) = fun j1 => nI (nR2 h j hs k j j1) := funext fun j1 => by
        rw [cpy_someh hx]; simp only [nR2, if_true]
      rw [e]
    · rw [if_neg hj]; simp only [nR2, if_neg hj])
  simp only [List.nil_append, List.length_nil, Nat.zero_add] at h1
  exact h1
/-- contents of a group's rows matter only as far as they go -/
theorem xPm {D : va_G} {cl : List vw_C} {A B B' : va_W} {H : Heap} (f : va_P D cl B H → va_P D cl B' H) (h : va_P D cl (A ++ B) H) : va_P D cl (A ++ B') H :=
  va_P.app (fun k q hk => h k q (by rw [List.getElem?_append_left (List.getElem?_eq_some_iff.mp hk).1]; exact hk)) (f (fun k q hk => h (A.length + k) q (by rw [List.getElem?_append_right (Nat.le_add_right _ _), Nat.add_sub_cancel_left]; exact hk)))
theorem xPnRN {D : va_G} {cl : List vw_C} {cA : ClassId} {n len : Nat} {r : Nat → Nat} {h h1 : Nat → Nat → Nat} {R : va_W} {H : Heap} (he : ∀ i, i < n → ∀ j, j < len → h i j = h1 i j) (hP : va_P D cl (xRN cA n len r h ++ R) H) : va_P D cl (xRN cA n len r h1 ++ R) H := by
  refine va_P.app (fun k q hk => ?_) (fun k q hk => hP (n + k) q (by rw [List.getElem?_append_right (by rw [xR_len]; omega), xR_len, Nat.add_sub_cancel_left]; exact hk))
  have hlt : k < n := by have := (List.getElem?_eq_some_iff.mp hk).1; rwa [xR_len] at this
  have hq : q = (r k, .inl (cA, len, .inl (fun j => nI (h1 k j)))) := by
    simp only [xR, List.getElem?_map, List.getElem?_range hlt, Option.map_some] at hk
    exact (Option.some.inj hk).symm
  subst hq
  have h2 : H[r k]? = some (vp_cell cA (len, .inl (fun j => nI (h k j)))) := hP k _ (xR_get0 (f := fun i => (r i, (.inl (cA, len, .inl (fun j => nI (h i j))) : va_E))) hlt)
  show H[r k]? = some (vp_cell cA (len, .inl (fun j => nI (h1 k j))))
  rw [h2, xCell_congr (fun j hj => by rw [he k hlt j hj])]
theorem xDeq {A : Nat → Prop} {ws ws' : va_W} (hD : va_D A ws) (h : ws.map (fun q => q.1) = ws'.map (fun q => q.1)) : va_D A ws' := by
  have key : ∀ (j : Nat) (q : Nat × va_E), ws'[j]? = some q → ∃ q0 : Nat × va_E, ws[j]? = some q0 ∧ q0.1 = q.1 := by
    intro j q hj
    have h1 : (ws'.map (fun q => q.1))[j]? = some q.1 := by rw [List.getElem?_map, hj]; rfl
    rw [← h, List.getElem?_map] at h1
    cases hq : ws[j]? with
    | none => rw [hq] at h1; cases h1
    | some q0 => rw [hq] at h1; exact ⟨q0, rfl, Option.some.inj h1⟩
  refine ⟨fun i j p q hp hq e => ?_, fun j q hq => ?_⟩
  · obtain ⟨p0, p1, p2⟩ := key i p hp
    obtain ⟨q0, q1, q2⟩ := key j q hq
    exact hD.1 i j p0 q0 p1 q1 (by rw [p2, q2]; exact e)
  · obtain ⟨q0, q1, q2⟩ := key j q hq
    rw [← q2]; exact hD.2 j q0 q1
/-- a script, beside a world that may change F -/
def xS (b L : Nat) (xs : Nat → Int32) (F : Nat → Prop) (U : State) : Prop := va_X b L xs U U.heap ∧ b < U.heap.size ∧ ¬ F b
theorem xS.call {b L : Nat} {xs : Nat → Int32} {A B : Nat → Prop} {s U : State} {H : Heap} {locs : List Loc} (h : xS b L xs A s) (hS : va_S A s.heap H locs) (hB : ∀ q, B q → A q) (hU : U.heap = H) (hW : s.WarmedH U.vm) : xS b L xs B U := by
  obtain ⟨h1, h2, h3⟩ := h
  refine ⟨?_, by rw [hU]; exact Nat.lt_of_lt_of_le h2 hS.1, fun q => h3 (hB b q)⟩
  rw [hU]
  exact (h1.moved hW.alike).kept (hS.2.1 b h2 h3)
theorem xBS.blind {g : xG} {ws : va_W} {sz b L : Nat} {xs : Nat → Int32} {F : Nat → Prop} {av : List Value} : FrameBlind (va_Pc av (fun U => xB g ws sz U ∧ xS b L xs F U)) := fun a U gg mk q => by
  obtain ⟨q0, ⟨q1, qP, qK, qD⟩, qX, q2, q3⟩ := q
  exact ⟨q0, ⟨q1, qP, va_K.moved (u := U) (U := U.calling gg mk a) (Vm.Alike.refl U.vm) qK, qD⟩, va_X.moved (u := U) (U := U.calling gg mk a) (Vm.Alike.refl U.vm) qX, q2, q3⟩
