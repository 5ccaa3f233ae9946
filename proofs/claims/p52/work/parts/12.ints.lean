/-! Whole numbers as ints of the machine: iI z. -/
def iI (z : Int) : Int32 := Int32.ofInt z
theorem iI_nI (k : Nat) : nI k = iI (k : Int) := Int32.ofInt_eq_ofNat.symm
theorem iI_toInt {z : Int} (h1 : -2147483648 ≤ z) (h2 : z < 2147483648) : (iI z).toInt = z := Int32.toInt_ofInt_of_le (by omega) (by omega)
theorem iI_add (a b : Int) : iI a + iI b = iI (a + b) := (Int32.ofInt_add a b).symm
theorem iI_sub (a b : Int) : iI a - iI b = iI (a - b) := (Int32.ofInt_sub a b).symm
theorem iI_mul (a b : Int) : iI a * iI b = iI (a * b) := (Int32.ofInt_mul a b).symm
theorem iA {x y : Int32} {a b : Int} (hx : x = iI a) (hy : y = iI b) : x + y = iI (a + b) := by rw [hx, hy, iI_add]
theorem iS {x y : Int32} {a b : Int} (hx : x = iI a) (hy : y = iI b) : x - y = iI (a - b) := by rw [hx, hy, iI_sub]
theorem iM {x y : Int32} {a b : Int} (hx : x = iI a) (hy : y = iI b) : x * y = iI (a * b) := by rw [hx, hy, iI_mul]
theorem iLt {x y : Int32} {a b : Int} (hx : x = iI a) (hy : y = iI b) (h : (-2147483648 ≤ a ∧ a < 2147483648) ∧ -2147483648 ≤ b ∧ b < 2147483648) : x < y ↔ a < b := by
  rw [hx, hy, Int32.lt_iff_toInt_lt, iI_toInt h.1.1 h.1.2, iI_toInt h.2.1 h.2.2]
theorem iLe {x y : Int32} {a b : Int} (hx : x = iI a) (hy : y = iI b) (h : (-2147483648 ≤ a ∧ a < 2147483648) ∧ -2147483648 ≤ b ∧ b < 2147483648) : x ≤ y ↔ a ≤ b := by
  rw [hx, hy, Int32.le_iff_toInt_le, iI_toInt h.1.1 h.1.2, iI_toInt h.2.1 h.2.2]
theorem iEq {x y : Int32} {a b : Int} (hx : x = iI a) (hy : y = iI b) (h : (-2147483648 ≤ a ∧ a < 2147483648) ∧ -2147483648 ≤ b ∧ b < 2147483648) : x = y ↔ a = b := by
  rw [hx, hy, ← Int32.toInt_inj, iI_toInt h.1.1 h.1.2, iI_toInt h.2.1 h.2.2]
theorem iI_clamp {z : Int} (h1 : 0 ≤ z) (h2 : z < 2147483648) : (iI z).toNatClampNeg = z.toNat := Int32.toNatClampNeg_ofInt_of_le (by omega) (by omega)
theorem iI_in {z : Int} {n : Nat} (h1 : 0 ≤ z) (h2 : z < (n : Int)) (hn : n < 2147483648) : vp_in (iI z) n := by
  unfold vp_in
  rw [iI_clamp h1 (by omega), Int32.lt_iff_toInt_lt, iI_toInt (by omega) (by omega), show (0 : Int32).toInt = 0 from by decide]
  omega
theorem iI_max {x y : Int32} {a b : Int} (hx : x = iI a) (hy : y = iI b) (h : (-2147483648 ≤ a ∧ a < 2147483648) ∧ -2147483648 ≤ b ∧ b < 2147483648) : (if x < y then y else x) = iI (if a < b then b else a) := by
  have h1 := iLt hx hy h
  by_cases q : a < b
  · rw [if_pos q, if_pos (h1.mpr q), hy]
  · rw [if_neg q, if_neg (fun z => q (h1.mp z)), hx]
theorem iI_min {x y : Int32} {a b : Int} (hx : x = iI a) (hy : y = iI b) (h : (-2147483648 ≤ a ∧ a < 2147483648) ∧ -2147483648 ≤ b ∧ b < 2147483648) : (if y < x then y else x) = iI (if b < a then b else a) := by
  have h1 := iLt hy hx ⟨h.2, h.1⟩
  by_cases q : b < a
  · rw [if_pos q, if_pos (h1.mpr q), hy]
  · rw [if_neg q, if_neg (fun z => q (h1.mp z)), hx]
theorem iI_abs {x : Int32} {a : Int} (hx : x = iI a) (h : -2147483648 < a ∧ a < 2147483648) : (if 0 ≤ x then x else 0 - x) = iI (if 0 ≤ a then a else -a) := by
  have h1 := iLe (x := 0) (a := 0) (by decide) hx ⟨by omega, by omega⟩
  by_cases q : 0 ≤ a
  · rw [if_pos q, if_pos (h1.mpr q), hx]
  · rw [if_neg q, if_neg (fun z => q (h1.mp z)), iS (x := 0) (a := 0) (by decide) hx, show (0 : Int) - a = -a by omega]
/-- an array's contents, with one place written -/
def zU (f : Nat → Int) (k : Nat) (v : Int) : Nat → Int := fun j => if j = k then v else f j
theorem zU_at {f : Nat → Int} {k : Nat} {v : Int} : zU f k v k = v := by simp [zU]
theorem zU_ne {f : Nat → Int} {k j : Nat} {v : Int} (h : j ≠ k) : zU f k v j = f j := by simp [zU, h]
theorem zU_all {f : Nat → Int} {k : Nat} {v : Int} {P : Int → Prop} (h : ∀ j, P (f j)) (hv : P v) : ∀ j, P (zU f k v j) := fun j => by
  unfold zU; split
  · exact hv
  · exact h j
theorem iU {f : Nat → Int} {i x : Int32} {k : Nat} {v : Int} (hi : i.toNatClampNeg = k) (hx : x = iI v) : upd (fun j => iI (f j)) i.toNatClampNeg x = fun j => iI (zU f k v j) := by
  funext j
  simp only [upd, zU, hi, hx]
  split <;> rfl
