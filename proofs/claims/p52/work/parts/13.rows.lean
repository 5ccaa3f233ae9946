/-! Rows in any number: n cells of a kind, the i-th is what f says. -/
def xR (n : Nat) (f : Nat → Nat × va_E) : va_W := (List.range n).map f
theorem xR_len {n : Nat} {f : Nat → Nat × va_E} : (xR n f).length = n := by simp [xR]
theorem xR_get {n i : Nat} {f : Nat → Nat × va_E} {X R : va_W} (h : i < n) : (X ++ (xR n f ++ R))[X.length + i]? = some (f i) := by
  rw [List.getElem?_append_right (Nat.le_add_right _ _), Nat.add_sub_cancel_left, List.getElem?_append_left (by rw [xR_len]; exact h)]
  simp [xR, h]
theorem xR_set {n i : Nat} {f g : Nat → Nat × va_E} {X R : va_W} {q : Nat × va_E} (h : i < n) (hg : ∀ j, g j = if j = i then q else f j) : (X ++ (xR n f ++ R)).set (X.length + i) q = X ++ (xR n g ++ R) := by
  rw [List.set_append_right _ _ (Nat.le_add_right _ _), Nat.add_sub_cancel_left, List.set_append_left _ _ (by rw [xR_len]; exact h)]
  congr 2
  apply List.ext_getElem?
  intro j
  rw [List.getElem?_set]
  simp only [xR, List.getElem?_map]
  by_cases hj : j < n
  · rw [List.getElem?_range hj]
    by_cases hji : i = j
    · subst hji; simp [hg, hj]
    · rw [if_neg hji]
      simp only [Option.map_some, hg, if_neg (show ¬ j = i from fun e => hji e.symm)]
  · have h1 : (List.range n)[j]? = none := by simp; omega
    rw [h1, if_neg (by omega)]; rfl
/-- int[] rows of one length, their contents whole numbers -/
abbrev xRI (cA : ClassId) (n len : Nat) (r : Nat → Nat) (z : Nat → Nat → Int) : va_W := xR n (fun i => (r i, .inl (cA, len, .inl (fun j => iI (z i j)))))
def zU2 (f : Nat → Nat → Int) (i k : Nat) (v : Int) : Nat → Nat → Int := fun i1 j => if i1 = i then zU (f i) k v j else f i1 j
theorem xRI_set {cA : ClassId} {n len i k : Nat} {r : Nat → Nat} {z : Nat → Nat → Int} {X R : va_W} {v : Int} {ii x : Int32} (h : i < n) (hi : ii.toNatClampNeg = k) (hx : x = iI v) : (X ++ (xRI cA n len r z ++ R)).set (X.length + i) (r i, .inl (cA, len, .inl (upd (fun j => iI (z i j)) ii.toNatClampNeg x))) = X ++ (xRI cA n len r (zU2 z i k v) ++ R) := by
  refine xR_set h (fun j => ?_)
  by_cases hj : j = i
  · subst hj; rw [if_pos rfl, iU hi hx]; simp only [zU2, if_true]
  · rw [if_neg hj]; simp only [zU2, if_neg hj]
theorem xR_mem {n : Nat} {f : Nat → Nat × va_E} {q : Nat × va_E} (h : q ∈ xR n f) : ∃ i, i < n ∧ q = f i := by
  obtain ⟨i, hi, e⟩ := List.mem_map.mp h
  exact ⟨i, List.mem_range.mp hi, e.symm⟩
/-- worlds are the same whatever the order of their cells -/
theorem xPperm {D : va_G} {cl : List vw_C} {ws ws' : va_W} {H : Heap} (h : va_P D cl ws H) (hp : ∀ q ∈ ws', q ∈ ws) : va_P D cl ws' H := by
  intro k q hk
  obtain ⟨j, hj⟩ := List.getElem?_of_mem (hp q (List.mem_of_getElem? hk))
  exact h j q hj
theorem xR_get0 {n i : Nat} {f : Nat → Nat × va_E} {R : va_W} (h : i < n) : (xR n f ++ R)[i]? = some (f i) := by
  rw [List.getElem?_append_left (by rw [xR_len]; exact h)]
  simp [xR, h]
theorem xR_ap {X Y : va_W} {j : Nat} {q : Nat × va_E} (h : Y[j]? = some q) : (X ++ Y)[X.length + j]? = some q := by
  rw [List.getElem?_append_right (Nat.le_add_right _ _), Nat.add_sub_cancel_left]; exact h
theorem xR_sap {X Y Z : va_W} {j : Nat} {q : Nat × va_E} (h : Y.set j q = Z) : (X ++ Y).set (X.length + j) q = X ++ Z := by
  rw [List.set_append_right _ _ (Nat.le_add_right _ _), Nat.add_sub_cancel_left, h]
theorem xRI_set0 {cA : ClassId} {n len i k : Nat} {r : Nat → Nat} {z : Nat → Nat → Int} {R : va_W} {v : Int} {ii x : Int32} (h : i < n) (hi : ii.toNatClampNeg = k) (hx : x = iI v) : (xRI cA n len r z ++ R).set i (r i, .inl (cA, len, .inl (upd (fun j => iI (z i j)) ii.toNatClampNeg x))) = xRI cA n len r (zU2 z i k v) ++ R := by
  have h1 := xRI_set (X := []) (R := R) (cA := cA) (n := n) (len := len) (r := r) (z := z) h hi hx
  simp only [List.nil_append, List.length_nil, Nat.zero_add] at h1
  exact h1
theorem zU2_all {f : Nat → Nat → Int} {i k : Nat} {v lo hi : Int} (h : ∀ i j, lo ≤ f i j ∧ f i j ≤ hi) (hv : lo ≤ v ∧ v ≤ hi) : ∀ a j, lo ≤ zU2 f i k v a j ∧ zU2 f i k v a j ≤ hi := fun a j => by
  unfold zU2; split
  · exact zU_all (P := fun q => lo ≤ q ∧ q ≤ hi) (h i) hv j
  · exact h a j
/-- contents that are numbers from 0 on -/
def nV (f : Nat → Nat) (k : Nat) (v : Nat) : Nat → Nat := fun j => if j = k then v else f j
theorem nV_all {f : Nat → Nat} {k v : Nat} {P : Nat → Prop} (h : ∀ j, P (f j)) (hv : P v) : ∀ j, P (nV f k v j) := fun j => by
  unfold nV; split
  · exact hv
  · exact h j
theorem nU {f : Nat → Nat} {i x : Int32} {k v : Nat} (hi : i.toNatClampNeg = k) (hx : x = nI v) : upd (fun j => nI (f j)) i.toNatClampNeg x = fun j => nI (nV f k v j) := by
  funext j
  simp only [upd, nV, hi, hx]
  split <;> rfl
abbrev xRN (cA : ClassId) (n len : Nat) (r : Nat → Nat) (h : Nat → Nat → Nat) : va_W := xR n (fun i => (r i, .inl (cA, len, .inl (fun j => nI (h i j)))))
def nV2 (f : Nat → Nat → Nat) (i k : Nat) (v : Nat) : Nat → Nat → Nat := fun i1 j => if i1 = i then nV (f i) k v j else f i1 j
theorem nV2_all {f : Nat → Nat → Nat} {i k v hi : Nat} (h : ∀ i j, f i j ≤ hi) (hv : v ≤ hi) : ∀ a j, nV2 f i k v a j ≤ hi := fun a j => by
  unfold nV2; split
  · exact nV_all (P := fun q => q ≤ hi) (h i) hv j
  · exact h a j
theorem xRN_set0 {cA : ClassId} {n len i k : Nat} {r : Nat → Nat} {h : Nat → Nat → Nat} {R : va_W} {v : Nat} {ii x : Int32} (hi0 : i < n) (hi : ii.toNatClampNeg = k) (hx : x = nI v) : (xRN cA n len r h ++ R).set i (r i, .inl (cA, len, .inl (upd (fun j => nI (h i j)) ii.toNatClampNeg x))) = xRN cA n len r (nV2 h i k v) ++ R := by
  have h1 := xR_set (X := []) (R := R) (f := fun i => (r i, (.inl (cA, len, .inl (fun j => nI (h i j))) : va_E))) (g := fun i1 => (r i1, (.inl (cA, len, .inl (fun j => nI (nV2 h i k v i1 j))) : va_E))) (q := (r i, .inl (cA, len, .inl (upd (fun j => nI (h i j)) ii.toNatClampNeg x)))) hi0 (fun j => by
    by_cases hj : j = i
    · subst hj; rw [if_pos rfl, nU hi hx]; simp only [nV2, if_true]
    · rw [if_neg hj]; simp only [nV2, if_neg hj])
  simp only [List.nil_append, List.length_nil, Nat.zero_add] at h1
  exact h1
theorem nD {x y : Int32} {a d : Nat} (ha : a < 2 ^ 31) (h0 : 0 < d) (hd : d < 2 ^ 31) (hy : y = nI d) (hx : x = nI a := by rfl) : x / y = nI (a / d) := by rw [hx, hy]; exact pk_div ha h0 hd
theorem nR {x y : Int32} {a d : Nat} (ha : a < 2 ^ 31) (h0 : 0 < d) (hd : d < 2 ^ 31) (hy : y = nI d) (hx : x = nI a := by rfl) : x - x / y * y = nI (a % d) := by rw [hx, hy]; exact pk_rem ha h0 hd
theorem xRow {n k : Nat} {r : Nat → Nat} {i : Int32} (hi : i.toNatClampNeg = k) (hk : k < n) : va_rf ((fun i => if i < n then some (r i) else none) i.toNatClampNeg) = .ref (r k) := by
  rw [hi]; dsimp only; rw [if_pos hk]; rfl
theorem xCell_congr {cA : ClassId} {n : Nat} {f f1 : Nat → Int32} (h : ∀ j, j < n → f j = f1 j) : vp_cell cA (n, .inl f) = vp_cell cA (n, .inl f1) := by
  show arrV cA n (fun j => Value.int (f j)) = arrV cA n (fun j => Value.int (f1 j))
  have e : (fun j : Fin n => Value.int (f j.val)) = fun j : Fin n => Value.int (f1 j.val) := funext fun j => by rw [h j.val j.isLt]
  simp only [arrV, e]
/-- an array's contents matter only as far as it goes -/
theorem xPnorm {D : va_G} {cl : List vw_C} {ws : va_W} {H : Heap} {k a n : Nat} {cA : ClassId} {f f1 : Nat → Int32} (hP : va_P D cl ws H) (ha : ws[k]? = some (a, .inl (cA, n, .inl f))) (h : ∀ j, j < n → f j = f1 j) : va_P D cl (ws.set k (a, .inl (cA, n, .inl f1))) H := by
  intro j q hj
  rw [List.getElem?_set] at hj
  by_cases hkj : k = j
  · rw [if_pos hkj] at hj
    split at hj
    · cases hj
      have h1 := hP k _ ha
      have h2 : H[a]? = some (vp_cell cA (n, .inl f)) := h1
      show H[a]? = some (vp_cell cA (n, .inl f1))
      rw [h2, xCell_congr h]
    · cases hj
  · rw [if_neg hkj] at hj; exact hP j q hj
theorem xDnorm {A : Nat → Prop} {ws : va_W} {k a n : Nat} {cA : ClassId} {f f1 : Nat → Int32} (hD : va_D A ws) (ha : ws[k]? = some (a, .inl (cA, n, .inl f))) : va_D A (ws.set k (a, .inl (cA, n, .inl f1))) := by
  have key : ∀ (j : Nat) (q : Nat × va_E), (ws.set k (a, .inl (cA, n, .inl f1)))[j]? = some q → ∃ q0 : Nat × va_E, ws[j]? = some q0 ∧ q0.1 = q.1 := by
    intro j q hj
    rw [List.getElem?_set] at hj
    by_cases hkj : k = j
    · rw [if_pos hkj] at hj
      split at hj
      · cases hj; subst hkj; exact ⟨_, ha, rfl⟩
      · cases hj
    · rw [if_neg hkj] at hj; exact ⟨q, hj, rfl⟩
  refine ⟨fun i j p q hp hq e => ?_, fun j q hq => ?_⟩
  · obtain ⟨p0, p1, p2⟩ := key i p hp
    obtain ⟨q0, q1, q2⟩ := key j q hq
    exact hD.1 i j p0 q0 p1 q1 (by rw [p2, q2]; exact e)
  · obtain ⟨q0, q1, q2⟩ := key j q hq
    rw [← q2]; exact hD.2 j q0 q1
