/-! Who blocks, as numbers alone. -/
def yBs (lv : Nat → Int) (f : Nat → Nat) : Nat → Nat
  | 0 => 0
  | l + 1 => yBs lv f l + (if 1 ≤ l ∧ yFst lv f l < lv (f l) then 1 else 0)
def yBl (lv : Nat → Int) (ht : Nat → Nat) (sd : Nat → Nat → Nat) : Nat → Nat
  | 0 => 0
  | s + 1 => yBl lv ht sd s + yBs lv (sd s) (ht s)
section YB
variable {lv : Nat → Int}
theorem yFst_congr {f g : Nat → Nat} : ∀ (k : Nat), (∀ j, j < k → f j = g j) → yFst lv f k = yFst lv g k := by
  intro k
  induction k with
  | zero => intro _; rfl
  | succ k ih => intro h; simp only [yFst, ih (fun j hj => h j (by omega)), h k (by omega)]
theorem yBs_congr {f g : Nat → Nat} : ∀ (k : Nat), (∀ j, j < k → f j = g j) → yBs lv f k = yBs lv g k := by
  intro k
  induction k with
  | zero => intro _; rfl
  | succ k ih => intro h; simp only [yBs, ih (fun j hj => h j (by omega)), yFst_congr k (fun j hj => h j (by omega)), h k (by omega)]
theorem yBs_le {f : Nat → Nat} : ∀ (k : Nat), yBs lv f k ≤ k := by
  intro k
  induction k with
  | zero => exact Nat.le_refl _
  | succ k ih => simp only [yBs]; split <;> omega
theorem yBl_le {ht : Nat → Nat} {sd : Nat → Nat → Nat} : ∀ (s : Nat), (yBl lv ht sd s : Int) ≤ sSum (fun x => (ht x : Int)) s := by
  intro s
  induction s with
  | zero => exact Int.le_refl _
  | succ s ih =>
    have h := yBs_le (lv := lv) (f := sd s) (ht s)
    show ((yBl lv ht sd s + yBs lv (sd s) (ht s) : Nat) : Int) ≤ sSum (fun x => (ht x : Int)) s + (ht s : Int)
    omega
theorem yBl_sum {ht : Nat → Nat} {sd : Nat → Nat → Nat} : ∀ (s : Nat), (yBl lv ht sd s : Int) = sSum (fun x => (yBs lv (sd x) (ht x) : Int)) s := by
  intro s
  induction s with
  | zero => rfl
  | succ s ih =>
    show ((yBl lv ht sd s + yBs lv (sd s) (ht s) : Nat) : Int) = sSum (fun x => (yBs lv (sd x) (ht x) : Int)) s + (yBs lv (sd s) (ht s) : Int)
    omega
theorem yBs_bd {f : Nat → Nat} (k : Nat) (hk : k ≤ 5) : yBs lv f k ≤ 5 := Nat.le_trans (yBs_le k) hk
/-- a helping move: one fewer blocks -/
theorem yBl_mv {Y : yS} {s t sc : Nat} (hs : s < sc) (ht : t < sc) (hst : s ≠ t) (h1 : 1 < Y.1 s) (hb : yFst lv (Y.2.1 s) (Y.1 s - 1) < lv (Y.2.1 s (Y.1 s - 1))) (hf : lv (yTop Y.1 Y.2.1 s) ≤ yFst lv (Y.2.1 t) (Y.1 t)) : yBl lv (yMv Y s t).1 (yMv Y s t).2.1 sc + 1 = yBl lv Y.1 Y.2.1 sc := by
  have es : (yMv Y s t).1 s = Y.1 s - 1 := by rw [yMv_h hst, if_neg hst, if_pos rfl]
  have et : (yMv Y s t).1 t = Y.1 t + 1 := by rw [yMv_h hst, if_pos rfl]
  have ds : ∀ j, (yMv Y s t).2.1 s j = Y.2.1 s j := fun j => by rw [yMv_sd hst, if_neg (fun q => hst q.1)]
  have dt : ∀ j, j < Y.1 t → (yMv Y s t).2.1 t j = Y.2.1 t j := fun j hj => by rw [yMv_sd hst, if_neg (fun q => by omega)]
  have dtt : (yMv Y s t).2.1 t (Y.1 t) = yTop Y.1 Y.2.1 s := by rw [yMv_sd hst, if_pos ⟨rfl, rfl⟩]
  have fs : yBs lv ((yMv Y s t).2.1 s) ((yMv Y s t).1 s) + 1 = yBs lv (Y.2.1 s) (Y.1 s) := by
    rw [es, yBs_congr (Y.1 s - 1) (fun j _ => ds j)]
    have e : Y.1 s = (Y.1 s - 1) + 1 := by omega
    have e2 : yBs lv (Y.2.1 s) (Y.1 s) = yBs lv (Y.2.1 s) (Y.1 s - 1) + (if 1 ≤ Y.1 s - 1 ∧ yFst lv (Y.2.1 s) (Y.1 s - 1) < lv (Y.2.1 s (Y.1 s - 1)) then 1 else 0) := by
      conv => lhs; rw [e]
      rfl
    rw [e2, if_pos ⟨by omega, hb⟩]
  have ft : yBs lv ((yMv Y s t).2.1 t) ((yMv Y s t).1 t) = yBs lv (Y.2.1 t) (Y.1 t) := by
    rw [et]
    simp only [yBs]
    rw [yBs_congr (Y.1 t) dt, yFst_congr (Y.1 t) dt, dtt, if_neg (fun q => by omega), Nat.add_zero]
  have fx : ∀ x, x ≠ s → x ≠ t → yBs lv ((yMv Y s t).2.1 x) ((yMv Y s t).1 x) = yBs lv (Y.2.1 x) (Y.1 x) := fun x h3 h4 => by
    rw [yMv_h hst, if_neg h4, if_neg h3]
    exact yBs_congr _ (fun j _ => by rw [yMv_sd hst, if_neg (fun q => h4 q.1)])
  have s1 := sSum_one (f := fun x => (yBs lv ((yMv Y s t).2.1 x) ((yMv Y s t).1 x) : Int)) (g := fun x => (yBs lv (Y.2.1 x) (Y.1 x) : Int)) (c := s) sc hs (fun x _ hx => by
    (try dsimp only)
    by_cases q : x = t
    · rw [q, ft]
    · rw [fx x hx q])
  rw [← yBl_sum, ← yBl_sum] at s1
  (try dsimp only at s1)
  omega
end YB
