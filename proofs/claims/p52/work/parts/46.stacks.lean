/-! Stacks, as numbers alone: heights, who stands where, on which stack. -/
abbrev yS : Type := (Nat → Nat) × (Nat → Nat → Nat) × (Nat → Int)
def yPut (Y : yS) (c t : Nat) : yS := (nV Y.1 t (Y.1 t + 1), nV2 Y.2.1 t (Y.1 t) c, zU Y.2.2 c (t : Int))
def yLift (Y : yS) (s : Nat) : yS := (nV Y.1 s (Y.1 s - 1), Y.2.1, zU Y.2.2 (yTop Y.1 Y.2.1 s) (-1))
def yMv (Y : yS) (s t : Nat) : yS := yPut (yLift Y s) (yTop Y.1 Y.2.1 s) t
/-- what stands well: n containers, sc stacks, states -/
def yOk (n sc : Nat) (lim : Nat → Nat) (Y : yS) (stt : Nat → Int) : Prop :=
  (∀ s, s < sc → Y.1 s ≤ lim s) ∧ (∀ s, sc ≤ s → Y.1 s = 0 ∧ ∀ l, Y.2.1 s l = 0) ∧
  (∀ s l, s < sc → l < Y.1 s → Y.2.1 s l < n ∧ Y.2.2 (Y.2.1 s l) = (s : Int) ∧ (stt (Y.2.1 s l) = 1 ∨ stt (Y.2.1 s l) = 4)) ∧
  (∀ s l k, s < sc → l < k → k < Y.1 s → Y.2.1 s l ≠ Y.2.1 s k) ∧
  (∀ c, (stt c = 1 ∨ stt c = 4) → ∃ s l, s < sc ∧ l < Y.1 s ∧ Y.2.1 s l = c)
section YS
variable {n sc : Nat} {lim : Nat → Nat} {Y : yS} {stt : Nat → Int}
theorem yMv_h {s t : Nat} (hst : s ≠ t) (x : Nat) : (yMv Y s t).1 x = if x = t then Y.1 t + 1 else if x = s then Y.1 s - 1 else Y.1 x := by
  simp only [yMv, yPut, yLift, nV]
  by_cases h1 : x = t
  · simp [h1, Ne.symm hst]
  · simp [h1]
theorem yMv_sd {s t : Nat} (hst : s ≠ t) (x l : Nat) : (yMv Y s t).2.1 x l = if x = t ∧ l = Y.1 t then yTop Y.1 Y.2.1 s else Y.2.1 x l := by
  simp only [yMv, yPut, yLift, nV, nV2]
  by_cases h1 : x = t
  · simp [h1, Ne.symm hst]
  · simp [h1]
theorem yMv_on {s t : Nat} (x : Nat) : (yMv Y s t).2.2 x = if x = yTop Y.1 Y.2.1 s then (t : Int) else Y.2.2 x := by
  simp only [yMv, yPut, yLift, zU]
  split
  · rfl
  · rfl
theorem yTop_ok (O : yOk n sc lim Y stt) {s : Nat} (hs : s < sc) (h0 : 0 < Y.1 s) : yTop Y.1 Y.2.1 s < n ∧ Y.2.2 (yTop Y.1 Y.2.1 s) = (s : Int) ∧ (stt (yTop Y.1 Y.2.1 s) = 1 ∨ stt (yTop Y.1 Y.2.1 s) = 4) := O.2.2.1 s (Y.1 s - 1) hs (by omega)
theorem yMv_ok (O : yOk n sc lim Y stt) {s t : Nat} (hs : s < sc) (ht : t < sc) (hst : s ≠ t) (h0 : 0 < Y.1 s) (hl : Y.1 t < lim t) : yOk n sc lim (yMv Y s t) stt := by
  obtain ⟨o1, o2, o3, o4, o5⟩ := O
  have hc := o3 s (Y.1 s - 1) hs (by omega)
  have hcd : Y.2.1 s (Y.1 s - 1) = yTop Y.1 Y.2.1 s := rfl
  rw [hcd] at hc
  refine ⟨fun x hx => ?_, fun x hx => ?_, fun x l hx hxl => ?_, fun x l k hx hlk hk => ?_, fun c hcs => ?_⟩
  · have := o1 x hx
    rw [yMv_h hst]
    split
    · next q => rw [q]; omega
    · split
      · next q => rw [q] at this ⊢; omega
      · exact this
  · have h1 := o2 x hx
    refine ⟨?_, fun l => ?_⟩
    · rw [yMv_h hst, if_neg (by omega), if_neg (by omega)]; exact h1.1
    · rw [yMv_sd hst, if_neg (by omega)]; exact h1.2 l
  · rw [yMv_h hst] at hxl
    rw [yMv_sd hst, yMv_on]
    by_cases h1 : x = t ∧ l = Y.1 t
    · rw [if_pos h1, if_pos rfl, h1.1]; exact ⟨hc.1, rfl, hc.2.2⟩
    · rw [if_neg h1]
      have hl2 : l < Y.1 x := by
        by_cases hxt : x = t
        · rw [if_pos hxt] at hxl; rw [hxt]
          have : l ≠ Y.1 t := fun e => h1 ⟨hxt, e⟩
          omega
        · rw [if_neg hxt] at hxl
          split at hxl
          · next q => rw [q]; omega
          · exact hxl
      have h2 := o3 x l hx hl2
      have hne : Y.2.1 x l ≠ yTop Y.1 Y.2.1 s := by
        intro e
        have e2 := h2.2.1
        rw [e, hc.2.1] at e2
        have hxs : s = x := by omega
        subst hxs
        rw [if_neg hst, if_pos rfl] at hxl
        exact o4 s l (Y.1 s - 1) hs (by omega) (by omega) e
      rw [if_neg hne]
      exact h2
  · rw [yMv_h hst] at hk
    rw [yMv_sd hst, yMv_sd hst]
    have hl1 : ¬ (x = t ∧ l = Y.1 t) := by
      rintro ⟨q1, q2⟩
      rw [if_pos q1] at hk; omega
    rw [if_neg hl1]
    by_cases hk1 : x = t ∧ k = Y.1 t
    · rw [if_pos hk1]
      intro e
      have h2 := o3 x l hx (by rw [hk1.1]; omega)
      have e2 := h2.2.1
      rw [e, hc.2.1] at e2
      have : s = x := by omega
      exact hst (this.trans hk1.1)
    · rw [if_neg hk1]
      refine o4 x l k hx hlk ?_
      by_cases hxt : x = t
      · rw [if_pos hxt] at hk; rw [hxt]
        have : k ≠ Y.1 t := fun e => hk1 ⟨hxt, e⟩
        omega
      · rw [if_neg hxt] at hk
        split at hk
        · next q => rw [q]; omega
        · exact hk
  · obtain ⟨x, l, hx, hl1, he⟩ := o5 c hcs
    by_cases h1 : x = s ∧ l = Y.1 s - 1
    · refine ⟨t, Y.1 t, ht, by rw [yMv_h hst, if_pos rfl]; omega, ?_⟩
      rw [yMv_sd hst, if_pos ⟨rfl, rfl⟩, ← he, h1.1, h1.2]; rfl
    · refine ⟨x, l, hx, ?_, ?_⟩
      · rw [yMv_h hst]
        split
        · next q => rw [q] at hl1; omega
        · split
          · next q =>
            rw [q] at hl1
            have : l ≠ Y.1 s - 1 := fun e => h1 ⟨q, e⟩
            omega
          · exact hl1
      · rw [yMv_sd hst]
        split
        · next q => rw [q.1] at hl1; omega
        · exact he
/-- the same, but for what is left above the uppermost ones -/
def yRel (Y Z : yS) : Prop := (∀ s, Y.1 s = Z.1 s) ∧ (∀ c, Y.2.2 c = Z.2.2 c) ∧ ∀ s l, l < Y.1 s → Y.2.1 s l = Z.2.1 s l
theorem yRel_rf : yRel Y Y := ⟨fun _ => rfl, fun _ => rfl, fun _ _ _ => rfl⟩
theorem yRel_top {Z : yS} (h : yRel Y Z) {s : Nat} (h0 : 0 < Y.1 s) : yTop Y.1 Y.2.1 s = yTop Z.1 Z.2.1 s := by
  unfold yTop
  rw [h.2.2 s (Y.1 s - 1) (by omega), h.1 s]
theorem yRel_mv {Z : yS} (h : yRel Y Z) {s t : Nat} (hst : s ≠ t) (h0 : 0 < Y.1 s) : yRel (yMv Y s t) (yMv Z s t) := by
  have ht := yRel_top h h0
  refine ⟨fun x => ?_, fun c => ?_, fun x l hl => ?_⟩
  · rw [yMv_h hst, yMv_h hst, h.1 t, h.1 s, h.1 x]
  · rw [yMv_on, yMv_on, ht, h.2.1 c]
  · rw [yMv_h hst] at hl
    rw [yMv_sd hst, yMv_sd hst, ht, ← h.1 t]
    by_cases h1 : x = t ∧ l = Y.1 t
    · rw [if_pos h1, if_pos h1]
    · rw [if_neg h1, if_neg h1]
      refine h.2.2 x l ?_
      by_cases hxt : x = t
      · rw [if_pos hxt] at hl; rw [hxt]
        have : l ≠ Y.1 t := fun e => h1 ⟨hxt, e⟩
        omega
      · rw [if_neg hxt] at hl
        split at hl
        · next q => rw [q]; omega
        · exact hl
theorem yMv_back (O : yOk n sc lim Y stt) {s t : Nat} (hs : s < sc) (hst : s ≠ t) (h0 : 0 < Y.1 s) : yRel (yMv (yMv Y s t) t s) Y := by
  have hts : t ≠ s := fun e => hst e.symm
  have htop : yTop (yMv Y s t).1 (yMv Y s t).2.1 t = yTop Y.1 Y.2.1 s := by
    show (yMv Y s t).2.1 t ((yMv Y s t).1 t - 1) = _
    rw [yMv_h hst, if_pos rfl, Nat.add_sub_cancel, yMv_sd hst, if_pos ⟨rfl, rfl⟩]
  refine ⟨fun x => ?_, fun c => ?_, fun x l hl => ?_⟩
  · rw [yMv_h hts]
    split
    · next q => rw [yMv_h hst, if_neg hst, if_pos rfl, q]; omega
    · split
      · next q => rw [yMv_h hst, if_pos rfl, q]; omega
      · next q1 q2 => rw [yMv_h hst, if_neg q2, if_neg q1]
  · rw [yMv_on, htop, yMv_on]
    by_cases hc : c = yTop Y.1 Y.2.1 s
    · rw [if_pos hc, hc]; exact (yTop_ok O hs h0).2.1.symm
    · rw [if_neg hc, if_neg hc]
  · rw [yMv_h hts] at hl
    rw [yMv_sd hts, htop]
    have hhs : (yMv Y s t).1 s = Y.1 s - 1 := by rw [yMv_h hst, if_neg hst, if_pos rfl]
    rw [hhs] at hl ⊢
    by_cases h1 : x = s ∧ l = Y.1 s - 1
    · rw [if_pos h1, h1.1, h1.2]; rfl
    · rw [if_neg h1, yMv_sd hst]
      have hht : (yMv Y s t).1 t = Y.1 t + 1 := by rw [yMv_h hst, if_pos rfl]
      rw [hht] at hl
      split
      · next q =>
        rw [q.1, if_neg hts, if_pos rfl] at hl
        omega
      · rfl
/-- the last m of those moved come back to st -/
def yBack (st : Nat) (w : Nat → Nat) : Nat → yS → yS
  | 0, Y => Y
  | m + 1, Y => yBack st w m (yMv Y (w m) st)
/-- m were moved from st, one after the other, to w 0, w 1 .. -/
def yChn (sc : Nat) (lim : Nat → Nat) (st : Nat) (w : Nat → Nat) (Y0 : yS) : Nat → yS → Prop
  | 0, Y => Y = Y0
  | m + 1, Y => ∃ Y1, yChn sc lim st w Y0 m Y1 ∧ Y = yMv Y1 st (w m) ∧ w m < sc ∧ w m ≠ st ∧ 0 < Y1.1 st ∧ Y1.1 (w m) < lim (w m)
theorem yChn_ok {st : Nat} {w : Nat → Nat} {Y0 : yS} (O : yOk n sc lim Y0 stt) (hs : st < sc) : ∀ (m : Nat) (Y : yS), yChn sc lim st w Y0 m Y → yOk n sc lim Y stt ∧ Y.1 st + m = Y0.1 st := by
  intro m
  induction m with
  | zero => intro Y h; obtain rfl : Y = Y0 := h; exact ⟨O, rfl⟩
  | succ m ih =>
    intro Y h
    obtain ⟨Y1, h1, rfl, h3, h4, h5, h6⟩ := h
    obtain ⟨i1, i2⟩ := ih Y1 h1
    refine ⟨yMv_ok i1 hs h3 (fun e => h4 e.symm) h5 h6, ?_⟩
    rw [yMv_h (fun e => h4 e.symm), if_neg (fun e => h4 e.symm), if_pos rfl]; omega
theorem yBack_rel {st : Nat} {w : Nat → Nat} {Y0 : yS} (O : yOk n sc lim Y0 stt) (hs : st < sc) : ∀ (m : Nat) (Y Z : yS), yChn sc lim st w Y0 m Y → yRel Z Y → yRel (yBack st w m Z) Y0 := by
  intro m
  induction m with
  | zero => intro Y Z h hr; obtain rfl : Y = Y0 := h; exact hr
  | succ m ih =>
    intro Y Z h hr
    obtain ⟨Y1, h1, rfl, h3, h4, h5, h6⟩ := h
    have hne : st ≠ w m := fun e => h4 e.symm
    refine ih Y1 (yMv Z (w m) st) h1 ?_
    have hz : 0 < Z.1 (w m) := by rw [hr.1, yMv_h hne, if_pos rfl]; omega
    have a := yRel_mv hr (s := w m) (t := st) h4 hz
    have b := yMv_back (yChn_ok O hs m Y1 h1).1 hs hne h5
    refine ⟨fun x => (a.1 x).trans (b.1 x), fun c => (a.2.1 c).trans (b.2.1 c), fun x l hl => ?_⟩
    rw [a.2.2 x l hl]
    exact b.2.2 x l (by rw [← a.1 x]; exact hl)
end YS
