/-! Taking out and bringing in, as numbers alone. -/
/-- the stack for c but ex -/
noncomputable def yTo (sc : Nat) (lim : Nat → Nat) (wt lv : Nat → Int) (Y : yS) (c : Nat) (ex : Int) : Int := (yFor lim wt lv Y.1 Y.2.1 c ex sc).1
/-- those above c are moved away from st: how many (-1: one could go nowhere, all came back), and the yard -/
noncomputable def yClr (sc : Nat) (lim : Nat → Nat) (wt lv : Nat → Int) (c st : Nat) : Nat → Nat → (Nat → Nat) → yS → Int × yS
  | 0, m, _, Y => ((m : Int), Y)
  | f + 1, m, w, Y => if yTop Y.1 Y.2.1 st = c then ((m : Int), Y) else
      if yTo sc lim wt lv Y (yTop Y.1 Y.2.1 st) (st : Int) < 0 then (-1, yBack st w m Y) else
      yClr sc lim wt lv c st f (m + 1) (nV w m (yTo sc lim wt lv Y (yTop Y.1 Y.2.1 st) (st : Int)).toNat) (yMv Y st (yTo sc lim wt lv Y (yTop Y.1 Y.2.1 st) (st : Int)).toNat)
section YC
variable {n sc : Nat} {lim : Nat → Nat} {wt lv : Nat → Int} {Y : yS} {stt : Nat → Int}
theorem yTo_ok {c : Nat} {ex : Int} (h : ¬ yTo sc lim wt lv Y c ex < 0) : ∃ t : Nat, t < sc ∧ yTo sc lim wt lv Y c ex = (t : Int) ∧ (t : Int) ≠ ex ∧ yCan lim wt Y.1 Y.2.1 c t := yFor_can sc (by unfold yTo at h; omega)
theorem yChn_set {st : Nat} {w w1 : Nat → Nat} {Y0 : yS} : ∀ (m : Nat) (Y : yS), (∀ i, i < m → w i = w1 i) → yChn sc lim st w Y0 m Y → yChn sc lim st w1 Y0 m Y := by
  intro m
  induction m with
  | zero => intro Y _ h; exact h
  | succ m ih =>
    intro Y hw h
    obtain ⟨Y1, h1, h2, h3, h4, h5, h6⟩ := h
    have e := hw m (by omega)
    refine ⟨Y1, ih Y1 (fun i hi => hw i (by omega)) h1, ?_, ?_, ?_, h5, ?_⟩
    · rw [h2, e]
    · rw [← e]; exact h3
    · rw [← e]; exact h4
    · rw [← e]; exact h6
/-- what comes of clearing: either c is uppermost, behind so many moves; or all is as it was -/
theorem yClr_ok {Y0 : yS} (O : yOk n sc lim Y0 stt) {c st lc : Nat} (hs : st < sc) (hlc : Y0.2.1 st lc = c) : ∀ (f m : Nat) (w : Nat → Nat) (Y : yS), yChn sc lim st w Y0 m Y → lc < Y.1 st → Y.1 st ≤ lc + f → Y.2.1 st lc = c →
    ((yClr sc lim wt lv c st f m w Y).1 = -1 ∧ yRel (yClr sc lim wt lv c st f m w Y).2 Y0) ∨
    ((m : Int) ≤ (yClr sc lim wt lv c st f m w Y).1 ∧ (yClr sc lim wt lv c st f m w Y).1 ≤ (m : Int) + f ∧ yOk n sc lim (yClr sc lim wt lv c st f m w Y).2 stt ∧ (yClr sc lim wt lv c st f m w Y).2.1 st = lc + 1 ∧ yTop (yClr sc lim wt lv c st f m w Y).2.1 (yClr sc lim wt lv c st f m w Y).2.2.1 st = c ∧ ∃ m1 w1, yChn sc lim st w1 Y0 m1 (yClr sc lim wt lv c st f m w Y).2) := by
  intro f
  induction f with
  | zero => intro m w Y _ h1 h2 _; omega
  | succ f ih =>
    intro m w Y hch h1 h2 h3
    have hok := yChn_ok O hs m Y hch
    simp only [yClr]
    by_cases ht : yTop Y.1 Y.2.1 st = c
    · rw [if_pos ht]
      have hl : Y.1 st = lc + 1 := by
        rcases Nat.lt_or_ge lc (Y.1 st - 1) with q | q
        · exact absurd (h3.trans ht.symm) (hok.1.2.2.2.1 st lc (Y.1 st - 1) hs q (by omega))
        · omega
      exact Or.inr ⟨Int.le_refl _, by omega, hok.1, hl, ht, m, w, hch⟩
    · rw [if_neg ht]
      by_cases hto : yTo sc lim wt lv Y (yTop Y.1 Y.2.1 st) (st : Int) < 0
      · rw [if_pos hto]
        exact Or.inl ⟨rfl, yBack_rel O hs m Y Y hch yRel_rf⟩
      · rw [if_neg hto]
        obtain ⟨t, t1, t2, t3, t4⟩ := yTo_ok hto
        rw [t2, Int.toNat_natCast]
        have hne : st ≠ t := fun e => t3 (by rw [e])
        have hl : lc < Y.1 st - 1 := by
          rcases Nat.lt_or_ge lc (Y.1 st - 1) with q | q
          · exact q
          · have : lc = Y.1 st - 1 := by omega
            exact absurd (by rw [← h3, this]; rfl) ht
        have hchn : yChn sc lim st (nV w m t) Y0 (m + 1) (yMv Y st t) :=
          ⟨Y, yChn_set m Y (fun i hi => by simp [nV, Nat.ne_of_lt hi]) hch, by simp [nV], by simp [nV]; exact t1, by simp [nV]; exact fun e => hne e.symm, by omega, by simp [nV]; exact t4.1⟩
        have hh : (yMv Y st t).1 st = Y.1 st - 1 := by rw [yMv_h hne, if_neg hne, if_pos rfl]
        rcases ih (m + 1) (nV w m t) (yMv Y st t) hchn (by rw [hh]; exact hl) (by rw [hh]; omega) (by rw [yMv_sd hne, if_neg (fun q => hne q.1)]; exact h3) with q | ⟨q1, q2, q3⟩
        · exact Or.inl q
        · exact Or.inr ⟨by omega, by omega, q3⟩
end YC
section YD
variable {n sc : Nat} {lim : Nat → Nat} {wt lv : Nat → Int} {stt : Nat → Int}
theorem yBack_same {st : Nat} {w w1 : Nat → Nat} : ∀ (m : Nat) (Y : yS), (∀ i, i < m → w i = w1 i) → yBack st w m Y = yBack st w1 m Y := by
  intro m
  induction m with
  | zero => intro Y _; rfl
  | succ m ih =>
    intro Y h
    show yBack st w m (yMv Y (w m) st) = yBack st w1 m (yMv Y (w1 m) st)
    rw [h m (by omega)]
    exact ih _ (fun i hi => h i (by omega))
theorem yClr_top {c st f m : Nat} {w : Nat → Nat} {Y : yS} (h : yTop Y.1 Y.2.1 st = c) : yClr sc lim wt lv c st f m w Y = ((m : Int), Y) := by
  cases f with
  | zero => rfl
  | succ f => simp only [yClr, if_pos h]
theorem yClr_no {c st f m : Nat} {w : Nat → Nat} {Y : yS} (h : ¬ yTop Y.1 Y.2.1 st = c) (h2 : yTo sc lim wt lv Y (yTop Y.1 Y.2.1 st) (st : Int) < 0) : yClr sc lim wt lv c st (f + 1) m w Y = (-1, yBack st w m Y) := by
  simp only [yClr, if_neg h, if_pos h2]
theorem yClr_go {c st f m t : Nat} {w : Nat → Nat} {Y : yS} (h : ¬ yTop Y.1 Y.2.1 st = c) (h2 : yTo sc lim wt lv Y (yTop Y.1 Y.2.1 st) (st : Int) = (t : Int)) : yClr sc lim wt lv c st (f + 1) m w Y = yClr sc lim wt lv c st f (m + 1) (nV w m t) (yMv Y st t) := by
  simp only [yClr, if_neg h, h2]
  rw [if_neg (by omega), Int.toNat_natCast]
end YD
