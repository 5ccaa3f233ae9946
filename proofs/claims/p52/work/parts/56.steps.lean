/-! An event worked off, as numbers alone. -/
/-- c comes: it is put on its stack, or turned away -/
noncomputable def yBr (sc : Nat) (lim : Nat → Nat) (wt lv : Nat → Int) (Y : yS) (stt : Nat → Int) (c : Nat) : yS × (Nat → Int) :=
  if yTo sc lim wt lv Y c (-1) < 0 then (Y, zU stt c 3) else (yPut Y c (yTo sc lim wt lv Y c (-1)).toNat, zU stt c 1)
/-- c is taken out: it is gone, or missed, or wasn't there -/
noncomputable def yTk (sc : Nat) (lim : Nat → Nat) (wt lv : Nat → Int) (Y : yS) (stt : Nat → Int) (r c : Nat) : (yS × (Nat → Int)) × Nat :=
  if ¬ (stt c = 1 ∨ stt c = 4) then ((Y, stt), r) else
  if (yClr sc lim wt lv c (Y.2.2 c).toNat 5 0 (fun _ => 0) Y).1 < 0 then (((yClr sc lim wt lv c (Y.2.2 c).toNat 5 0 (fun _ => 0) Y).2, zU stt c 4), r) else
  ((yLift (yClr sc lim wt lv c (Y.2.2 c).toNat 5 0 (fun _ => 0) Y).2 (Y.2.2 c).toNat, zU stt c 2), r + (yClr sc lim wt lv c (Y.2.2 c).toNat 5 0 (fun _ => 0) Y).1.toNat)
/-- nothing is written beyond the stacks -/
def yZ (sc : Nat) (Y : yS) : Prop := ∀ s, sc ≤ s → ∀ l, Y.2.1 s l = 0
def ySum (Y : yS) (sc : Nat) : Int := sSum (fun s => (Y.1 s : Int)) sc
section YT
variable {n sc : Nat} {lim : Nat → Nat} {wt lv : Nat → Int} {Y : yS} {stt : Nat → Int}
theorem yZ_mv {s t : Nat} (h : yZ sc Y) (hst : s ≠ t) (ht : t < sc) : yZ sc (yMv Y s t) := fun x hx l => by
  rw [yMv_sd hst, if_neg (fun q => by omega)]
  exact h x hx l
theorem yZ_back {st : Nat} {w : Nat → Nat} (hs : st < sc) : ∀ (m : Nat) (Y : yS), (∀ i, i < m → w i ≠ st) → yZ sc Y → yZ sc (yBack st w m Y) := by
  intro m
  induction m with
  | zero => intro Y _ h; exact h
  | succ m ih => intro Y hw h; exact ih _ (fun i hi => hw i (by omega)) (yZ_mv h (hw m (by omega)) hs)
theorem yChn_w {st : Nat} {w : Nat → Nat} {Y0 : yS} : ∀ (m : Nat) (Y : yS), yChn sc lim st w Y0 m Y → ∀ i, i < m → w i ≠ st := by
  intro m
  induction m with
  | zero => intro Y _ i hi; exact absurd hi (Nat.not_lt_zero _)
  | succ m ih =>
    intro Y h i hi
    obtain ⟨Y1, h1, -, -, h4, -, -⟩ := h
    by_cases q : i = m
    · rw [q]; exact h4
    · exact ih Y1 h1 i (by omega)
theorem yChn_z {st : Nat} {w : Nat → Nat} {Y0 : yS} (h0 : yZ sc Y0) : ∀ (m : Nat) (Y : yS), yChn sc lim st w Y0 m Y → yZ sc Y := by
  intro m
  induction m with
  | zero => intro Y h; obtain rfl : Y = Y0 := h; exact h0
  | succ m ih =>
    intro Y h
    obtain ⟨Y1, h1, rfl, h3, h4, -, -⟩ := h
    exact yZ_mv (ih Y1 h1) (fun q => h4 q.symm) h3
theorem ySum_mv {s t : Nat} (hs : s < sc) (ht : t < sc) (hst : s ≠ t) (h0 : 0 < Y.1 s) : ySum (yMv Y s t) sc = ySum Y sc := by
  have h1 := sSum_one (f := fun x => ((yMv Y s t).1 x : Int)) (g := fun x => if x = t then (Y.1 t : Int) + 1 else (Y.1 x : Int)) (c := s) sc hs (fun x _ hx => by
    (try dsimp only); rw [yMv_h hst]
    by_cases q : x = t
    · rw [if_pos q, if_pos q]; omega
    · rw [if_neg q, if_neg q, if_neg hx])
  have h2 := sSum_one (f := fun x => if x = t then (Y.1 t : Int) + 1 else (Y.1 x : Int)) (g := fun x => (Y.1 x : Int)) (c := t) sc ht (fun x _ hx => by (try dsimp only); rw [if_neg hx])
  (try dsimp only at h1 h2)
  rw [yMv_h hst, if_neg hst, if_pos rfl, if_neg hst] at h1
  rw [if_pos rfl] at h2
  unfold ySum
  rw [h1, h2]; omega
theorem yChn_sum {st : Nat} {w : Nat → Nat} {Y0 : yS} (hs : st < sc) : ∀ (m : Nat) (Y : yS), yChn sc lim st w Y0 m Y → ySum Y sc = ySum Y0 sc := by
  intro m
  induction m with
  | zero => intro Y h; obtain rfl : Y = Y0 := h; rfl
  | succ m ih =>
    intro Y h
    obtain ⟨Y1, h1, rfl, h3, h4, h5, -⟩ := h
    rw [ySum_mv hs h3 (fun q => h4 q.symm) h5]
    exact ih Y1 h1
theorem yCnt_set {c : Nat} {v w : Int} : ∀ (n : Nat), (yCnt (zU stt c v) w n : Int) = (yCnt stt w n : Int) + (if c < n then (if v = w then 1 else 0) - (if stt c = w then 1 else 0) else 0) := by
  intro n
  induction n with
  | zero => simp [yCnt]
  | succ n ih =>
    simp only [yCnt]
    by_cases q : c = n
    · subst q
      rw [if_neg (Nat.lt_irrefl _)] at ih
      rw [zU_at, if_pos (Nat.lt_succ_self _)]
      by_cases a : v = w
      · rw [if_pos a, if_pos a]
        by_cases b : stt c = w
        · rw [if_pos b, if_pos b]; omega
        · rw [if_neg b, if_neg b]; omega
      · rw [if_neg a, if_neg a]
        by_cases b : stt c = w
        · rw [if_pos b, if_pos b]; omega
        · rw [if_neg b, if_neg b]; omega
    · rw [zU_ne (fun e => q e.symm)]
      by_cases h : c < n
      · rw [if_pos h] at ih; rw [if_pos (show c < n + 1 by omega)]; omega
      · rw [if_neg h] at ih; rw [if_neg (show ¬ c < n + 1 by omega)]; omega
/-- the states of those that stand do not matter as long as they stand -/
theorem yOk_states {st2 : Nat → Int} (O : yOk n sc lim Y stt) (h : ∀ c, (st2 c = 1 ∨ st2 c = 4) ↔ (stt c = 1 ∨ stt c = 4)) : yOk n sc lim Y st2 := by
  obtain ⟨o1, o2, o3, o4, o5⟩ := O
  exact ⟨o1, o2, fun s l hs hl => ⟨(o3 s l hs hl).1, (o3 s l hs hl).2.1, (h _).mpr (o3 s l hs hl).2.2⟩, o4, fun c hc => o5 c ((h c).mp hc)⟩
theorem yOk_rel {Z : yS} (O : yOk n sc lim Y stt) (h : yRel Z Y) (hz : yZ sc Z) : yOk n sc lim Z stt := by
  obtain ⟨o1, o2, o3, o4, o5⟩ := O
  refine ⟨fun s hs => by rw [h.1]; exact o1 s hs, fun s hs => ⟨by rw [h.1]; exact (o2 s hs).1, hz s hs⟩, fun s l hs hl => ?_, fun s l k hs hl hk => ?_, fun c hc => ?_⟩
  · have h1 := h.2.2 s l hl
    rw [h1, h.2.1]
    exact o3 s l hs (by rw [← h.1]; exact hl)
  · rw [h.2.2 s l (by omega), h.2.2 s k hk]
    exact o4 s l k hs hl (by rw [← h.1]; exact hk)
  · obtain ⟨s, l, a1, a2, a3⟩ := o5 c hc
    have a4 : l < Z.1 s := by rw [h.1]; exact a2
    exact ⟨s, l, a1, a4, by rw [h.2.2 s l a4]; exact a3⟩
theorem yPut_ok (O : yOk n sc lim Y stt) {c t : Nat} (hc : c < n) (hn : ¬ (stt c = 1 ∨ stt c = 4)) (ht : t < sc) (hl : Y.1 t < lim t) : yOk n sc lim (yPut Y c t) (zU stt c 1) := by
  obtain ⟨o1, o2, o3, o4, o5⟩ := O
  have hh : ∀ x, (yPut Y c t).1 x = if x = t then Y.1 t + 1 else Y.1 x := fun x => by simp only [yPut, nV]
  have hd : ∀ x l, (yPut Y c t).2.1 x l = if x = t ∧ l = Y.1 t then c else Y.2.1 x l := fun x l => by
    simp only [yPut, nV2, nV]
    by_cases q : x = t
    · simp [q]
    · simp [q]
  have ho : ∀ x, (yPut Y c t).2.2 x = if x = c then (t : Int) else Y.2.2 x := fun x => by simp only [yPut, zU]
  have hne : ∀ s l, s < sc → l < Y.1 s → Y.2.1 s l ≠ c := fun s l hs hl e => hn (by rw [← e]; exact (o3 s l hs hl).2.2)
  refine ⟨fun x hx => ?_, fun x hx => ?_, fun x l hx hxl => ?_, fun x l k hx hlk hk => ?_, fun d hd1 => ?_⟩
  · rw [hh]; split
    · next q => rw [q]; omega
    · exact o1 x hx
  · refine ⟨by rw [hh, if_neg (by omega)]; exact (o2 x hx).1, fun l => by rw [hd, if_neg (fun q => by omega)]; exact (o2 x hx).2 l⟩
  · rw [hh] at hxl
    rw [hd, ho]
    by_cases q : x = t ∧ l = Y.1 t
    · rw [if_pos q, if_pos rfl, zU_at, q.1]; exact ⟨hc, rfl, Or.inl rfl⟩
    · rw [if_neg q]
      have hl2 : l < Y.1 x := by
        by_cases q2 : x = t
        · rw [if_pos q2] at hxl; rw [q2]
          have : l ≠ Y.1 t := fun e => q ⟨q2, e⟩
          omega
        · rw [if_neg q2] at hxl; exact hxl
      rw [if_neg (hne x l hx hl2), zU_ne (hne x l hx hl2)]
      exact o3 x l hx hl2
  · rw [hh] at hk
    have hl1 : ¬ (x = t ∧ l = Y.1 t) := by
      rintro ⟨q1, q2⟩
      rw [if_pos q1] at hk; omega
    have hlx : l < Y.1 x := by
      by_cases q2 : x = t
      · rw [if_pos q2] at hk; rw [q2]; omega
      · rw [if_neg q2] at hk; omega
    rw [hd, hd, if_neg hl1]
    by_cases q : x = t ∧ k = Y.1 t
    · rw [if_pos q]; exact hne x l hx hlx
    · rw [if_neg q]
      refine o4 x l k hx hlk ?_
      by_cases q2 : x = t
      · rw [if_pos q2] at hk; rw [q2]
        have : k ≠ Y.1 t := fun e => q ⟨q2, e⟩
        omega
      · rw [if_neg q2] at hk; exact hk
  · by_cases q : d = c
    · exact ⟨t, Y.1 t, ht, by rw [hh, if_pos rfl]; omega, by rw [hd, if_pos ⟨rfl, rfl⟩, q]⟩
    · rw [zU_ne q] at hd1
      obtain ⟨s, l, a1, a2, a3⟩ := o5 d hd1
      refine ⟨s, l, a1, ?_, ?_⟩
      · rw [hh]; split
        · next q2 => rw [q2] at a2; omega
        · exact a2
      · rw [hd, if_neg (fun q2 => by rw [q2.1] at a2; omega)]; exact a3
theorem yLift_ok (O : yOk n sc lim Y stt) {c s : Nat} {v : Int} (hs : s < sc) (h0 : 0 < Y.1 s) (hc : yTop Y.1 Y.2.1 s = c) (hv : ¬ (v = 1 ∨ v = 4)) : yOk n sc lim (yLift Y s) (zU stt c v) := by
  obtain ⟨o1, o2, o3, o4, o5⟩ := O
  have hh : ∀ x, (yLift Y s).1 x = if x = s then Y.1 s - 1 else Y.1 x := fun x => by simp only [yLift, nV]
  have ho : ∀ x, (yLift Y s).2.2 x = if x = c then -1 else Y.2.2 x := fun x => by simp only [yLift, zU, hc]
  have hct := o3 s (Y.1 s - 1) hs (by omega)
  have hcd : Y.2.1 s (Y.1 s - 1) = c := hc
  rw [hcd] at hct
  have hne : ∀ x l, x < sc → l < (yLift Y s).1 x → Y.2.1 x l ≠ c ∧ l < Y.1 x := by
    intro x l hx hl
    rw [hh] at hl
    by_cases q : x = s
    · rw [if_pos q] at hl
      refine ⟨fun e => ?_, by rw [q]; omega⟩
      rw [q, ← hcd] at e
      exact o4 s l (Y.1 s - 1) hs (by omega) (by omega) e
    · rw [if_neg q] at hl
      refine ⟨fun e => ?_, hl⟩
      have e2 := (o3 x l hx hl).2.1
      rw [e, hct.2.1] at e2
      exact q (by omega)
  refine ⟨fun x hx => ?_, fun x hx => ⟨by rw [hh, if_neg (by omega)]; exact (o2 x hx).1, (o2 x hx).2⟩, fun x l hx hxl => ?_, fun x l k hx hlk hk => ?_, fun d hd1 => ?_⟩
  · have := o1 x hx
    rw [hh]; split
    · next q => rw [q] at this ⊢; omega
    · exact this
  · have h1 := hne x l hx hxl
    show Y.2.1 x l < n ∧ (yLift Y s).2.2 (Y.2.1 x l) = (x : Int) ∧ (zU stt c v (Y.2.1 x l) = 1 ∨ zU stt c v (Y.2.1 x l) = 4)
    rw [ho, if_neg h1.1, zU_ne h1.1]
    exact o3 x l hx h1.2
  · exact o4 x l k hx hlk (hne x k hx hk).2
  · have hdc : d ≠ c := fun e => hv (by rw [e, zU_at] at hd1; exact hd1)
    rw [zU_ne hdc] at hd1
    obtain ⟨x, l, a1, a2, a3⟩ := o5 d hd1
    refine ⟨x, l, a1, ?_, a3⟩
    rw [hh]; split
    · next q =>
      rw [q] at a2 a3
      have : l ≠ Y.1 s - 1 := fun e => hdc (by rw [← a3, e]; exact hcd)
      omega
    · exact a2
end YT
