/-! The yard, as numbers alone: ht heights, sd who stands where, stt states, on which stack; lim limits, wt weights, lv leavings. -/
/-- the uppermost one of a stack that isn't empty -/
def yTop (ht : Nat → Nat) (sd : Nat → Nat → Nat) (s : Nat) : Nat := sd s (ht s - 1)
/-- the least leaving of those below level k -/
def yFst (lv : Nat → Int) (sd : Nat → Nat) : Nat → Int
  | 0 => 2000
  | k + 1 => if lv (sd k) < yFst lv sd k then lv (sd k) else yFst lv sd k
theorem yFst_bd {lv : Nat → Int} {sd : Nat → Nat} (h : ∀ j, 0 ≤ lv j ∧ lv j ≤ 1000000) : ∀ (k : Nat), 0 ≤ yFst lv sd k ∧ yFst lv sd k ≤ 2000 := by
  intro k
  induction k with
  | zero => exact ⟨(show (0 : Int) ≤ 2000 by decide), (show (2000 : Int) ≤ 2000 by decide)⟩
  | succ k ih => have h1 := h (sd k); simp only [yFst]; split <;> omega
def yCan (lim : Nat → Nat) (wt : Nat → Int) (ht : Nat → Nat) (sd : Nat → Nat → Nat) (c s : Nat) : Prop := ht s < lim s ∧ (ht s = 0 ∨ wt c - 8 ≤ wt (yTop ht sd s))
def yBet (first other own : Int) : Prop := (own ≤ first ∧ (other < own ∨ first < other)) ∨ (first < own ∧ other < own ∧ other < first)
noncomputable def yIf {α : Type} (p : Prop) (x y : α) : α := @ite α p (Classical.propDecidable p) x y
theorem yIf_t {α : Type} {p : Prop} {x y : α} (h : p) : yIf p x y = x := if_pos h
theorem yIf_f {α : Type} {p : Prop} {x y : α} (h : ¬ p) : yIf p x y = y := if_neg h
/-- the stack for c among the first k, but ex; and its least leaving -/
noncomputable def yFor (lim : Nat → Nat) (wt lv : Nat → Int) (ht : Nat → Nat) (sd : Nat → Nat → Nat) (c : Nat) (ex : Int) : Nat → Int × Int
  | 0 => (-1, 0)
  | k + 1 => yIf ((k : Int) ≠ ex ∧ yCan lim wt ht sd c k ∧ ((yFor lim wt lv ht sd c ex k).1 < 0 ∨ yBet (yFst lv (sd k) (ht k)) (yFor lim wt lv ht sd c ex k).2 (lv c))) ((k : Int), yFst lv (sd k) (ht k)) (yFor lim wt lv ht sd c ex k)
theorem yFor_s {lim : Nat → Nat} {wt lv : Nat → Int} {ht : Nat → Nat} {sd : Nat → Nat → Nat} {c : Nat} {ex : Int} (k : Nat) : yFor lim wt lv ht sd c ex (k + 1) = yIf ((k : Int) ≠ ex ∧ yCan lim wt ht sd c k ∧ ((yFor lim wt lv ht sd c ex k).1 < 0 ∨ yBet (yFst lv (sd k) (ht k)) (yFor lim wt lv ht sd c ex k).2 (lv c))) ((k : Int), yFst lv (sd k) (ht k)) (yFor lim wt lv ht sd c ex k) := rfl
theorem yFor_bd {lim : Nat → Nat} {wt lv : Nat → Int} {ht : Nat → Nat} {sd : Nat → Nat → Nat} {c : Nat} {ex : Int} (h : ∀ j, 0 ≤ lv j ∧ lv j ≤ 1000000) : ∀ (k : Nat), -1 ≤ (yFor lim wt lv ht sd c ex k).1 ∧ (yFor lim wt lv ht sd c ex k).1 < (k : Int) ∧ 0 ≤ (yFor lim wt lv ht sd c ex k).2 ∧ (yFor lim wt lv ht sd c ex k).2 ≤ 2000 := by
  intro k
  induction k with
  | zero => exact ⟨(show (-1 : Int) ≤ -1 by decide), (show (-1 : Int) < 0 by decide), (show (0 : Int) ≤ 0 by decide), (show (0 : Int) ≤ 2000 by decide)⟩
  | succ k ih =>
    have h1 := yFst_bd (sd := sd k) h (ht k)
    rw [yFor_s]
    by_cases q : ((k : Int) ≠ ex ∧ yCan lim wt ht sd c k ∧ ((yFor lim wt lv ht sd c ex k).1 < 0 ∨ yBet (yFst lv (sd k) (ht k)) (yFor lim wt lv ht sd c ex k).2 (lv c)))
    · rw [yIf_t q]; (try dsimp only); omega
    · rw [yIf_f q]; omega
/-- a stack that is chosen can take it, and isn't the one left out -/
theorem yFor_can {lim : Nat → Nat} {wt lv : Nat → Int} {ht : Nat → Nat} {sd : Nat → Nat → Nat} {c : Nat} {ex : Int} : ∀ (k : Nat), 0 ≤ (yFor lim wt lv ht sd c ex k).1 → ∃ t : Nat, t < k ∧ (yFor lim wt lv ht sd c ex k).1 = (t : Int) ∧ (t : Int) ≠ ex ∧ yCan lim wt ht sd c t := by
  intro k
  induction k with
  | zero => intro h; exact absurd (show (0 : Int) ≤ -1 from h) (by decide)
  | succ k ih =>
    rw [yFor_s]
    by_cases q : ((k : Int) ≠ ex ∧ yCan lim wt ht sd c k ∧ ((yFor lim wt lv ht sd c ex k).1 < 0 ∨ yBet (yFst lv (sd k) (ht k)) (yFor lim wt lv ht sd c ex k).2 (lv c)))
    · rw [yIf_t q]; intro _; exact ⟨k, by omega, rfl, q.1, q.2.1⟩
    · rw [yIf_f q]; intro h
      obtain ⟨t, h1, h2, h3, h4⟩ := ih h
      exact ⟨t, by omega, h2, h3, h4⟩
/-- how many of the first k are in state w -/
def yCnt (stt : Nat → Int) (w : Int) : Nat → Nat
  | 0 => 0
  | k + 1 => yCnt stt w k + (if stt k = w then 1 else 0)
theorem yCnt_le {stt : Nat → Int} {w : Int} : ∀ (k : Nat), yCnt stt w k ≤ k := by
  intro k
  induction k with
  | zero => exact Nat.le_refl _
  | succ k ih => simp only [yCnt]; split <;> omega
