/-! Events worked off one by one, as numbers alone: kf are the events' keys. -/
def eK (kf : Nat → Nat) (e : Nat) : Nat := kf e / 32 % 4
def eC (kf : Nat → Nat) (e : Nat) : Nat := kf e % 32
abbrev yW : Type := (yS × (Nat → Int)) × Nat
noncomputable def yStep (sc : Nat) (lim : Nat → Nat) (wt lv : Nat → Int) (kf : Nat → Nat) (S : yW) (e : Nat) : yW :=
  if eK kf e = 0 ∨ eK kf e = 1 then (yBr sc lim wt lv S.1.1 S.1.2 (eC kf e), S.2) else yTk sc lim wt lv S.1.1 S.1.2 S.2 (eC kf e)
noncomputable def yRun (sc : Nat) (lim : Nat → Nat) (wt lv : Nat → Int) (kf : Nat → Nat) (w : Nat) (S : yW) : Nat → yW
  | 0 => S
  | k + 1 => yStep sc lim wt lv kf (yRun sc lim wt lv kf w S k) (w + k)
/-- the events: each container comes once at most, and goes behind that -/
def yAg (n : Nat) (kf : Nat → Nat) (cnt : Nat) : Prop :=
  (∀ e, e < cnt → eC kf e < n) ∧ (∀ e f, e < cnt → f < cnt → eK kf e < 2 → eK kf f < 2 → eC kf e = eC kf f → e = f) ∧
  (∀ f, f < cnt → 2 ≤ eK kf f → ∃ e, e < f ∧ eK kf e < 2 ∧ eC kf e = eC kf f)
/-- the yard behind the first w events -/
def yInv (n sc : Nat) (lim : Nat → Nat) (kf : Nat → Nat) (S : yW) (w : Nat) : Prop :=
  yOk n sc lim S.1.1 S.1.2 ∧ ySum S.1.1 sc = (yCnt S.1.2 1 n : Int) + (yCnt S.1.2 4 n : Int) ∧
  (∀ c, S.1.2 c ≠ 0 → ∃ e, e < w ∧ eK kf e < 2 ∧ eC kf e = c) ∧ (∀ e, e < w → eK kf e < 2 → S.1.2 (eC kf e) ≠ 0)
/-- what an event leaves of its own container -/
def yDid (sc : Nat) (kf : Nat → Nat) (S : yW) (e : Nat) : Prop :=
  (eK kf e < 2 → S.1.2 (eC kf e) = 1 ∨ S.1.2 (eC kf e) = 3) ∧ (2 ≤ eK kf e → 2 ≤ S.1.2 (eC kf e)) ∧
  (S.1.2 (eC kf e) = 1 → ∃ t, t < sc ∧ S.1.1.2.2 (eC kf e) = (t : Int) ∧ 0 < S.1.1.1 t ∧ yTop S.1.1.1 S.1.1.2.1 t = eC kf e)
section YR
variable {n sc : Nat} {lim : Nat → Nat} {wt lv : Nat → Int} {Y : yS} {stt : Nat → Int}
theorem yClr_z {Y0 : yS} (O : yOk n sc lim Y0 stt) (hz : yZ sc Y0) {c st lc : Nat} (hs : st < sc) : ∀ (f m : Nat) (w : Nat → Nat) (Y : yS), yChn sc lim st w Y0 m Y → lc < Y.1 st → Y.2.1 st lc = c → yZ sc (yClr sc lim wt lv c st f m w Y).2 := by
  intro f
  induction f with
  | zero => intro m w Y h _ _; exact yChn_z hz m Y h
  | succ f ih =>
    intro m w Y hch h1 h3
    have hok := yChn_ok O hs m Y hch
    simp only [yClr]
    by_cases ht : yTop Y.1 Y.2.1 st = c
    · rw [if_pos ht]; exact yChn_z hz m Y hch
    · rw [if_neg ht]
      by_cases hto : yTo sc lim wt lv Y (yTop Y.1 Y.2.1 st) (st : Int) < 0
      · rw [if_pos hto]; exact yZ_back hs m Y (yChn_w m Y hch) (yChn_z hz m Y hch)
      · rw [if_neg hto]
        obtain ⟨t, t1, t2, t3, t4⟩ := yTo_ok hto
        rw [t2, Int.toNat_natCast]
        have hne : st ≠ t := fun e => t3 (by rw [e])
        have hl : lc ≠ Y.1 st - 1 := fun e => ht (by unfold yTop; rw [← e]; exact h3)
        have hchn : yChn sc lim st (nV w m t) Y0 (m + 1) (yMv Y st t) :=
          ⟨Y, yChn_set m Y (fun i hi => by simp [nV, Nat.ne_of_lt hi]) hch, by simp [nV], by simp [nV]; exact t1, by simp [nV]; exact fun e => hne e.symm, by omega, by simp [nV]; exact t4.1⟩
        exact ih (m + 1) (nV w m t) (yMv Y st t) hchn (by rw [yMv_h hne, if_neg hne, if_pos rfl]; omega) (by rw [yMv_sd hne, if_neg (fun q => hne q.1)]; exact h3)
theorem ySum_rel {Z : yS} (h : yRel Z Y) : ySum Z sc = ySum Y sc := sSum_congr sc (fun x _ => by (try dsimp only); rw [h.1])
theorem ySum_put {c t : Nat} (ht : t < sc) : ySum (yPut Y c t) sc = ySum Y sc + 1 := by
  have h := sSum_one (f := fun x => ((yPut Y c t).1 x : Int)) (g := fun x => (Y.1 x : Int)) (c := t) sc ht (fun x _ hx => by simp only [yPut, nV, if_neg hx])
  have e : (((yPut Y c t).1 t : Nat) : Int) = (Y.1 t : Int) + 1 := by simp only [yPut, nV, if_true]; omega
  (try dsimp only at h)
  rw [e] at h
  unfold ySum
  rw [h]; omega
theorem ySum_lift {s : Nat} (hs : s < sc) (h0 : 0 < Y.1 s) : ySum (yLift Y s) sc = ySum Y sc - 1 := by
  have h := sSum_one (f := fun x => ((yLift Y s).1 x : Int)) (g := fun x => (Y.1 x : Int)) (c := s) sc hs (fun x _ hx => by simp only [yLift, nV, if_neg hx])
  have e : (((yLift Y s).1 s : Nat) : Int) = (Y.1 s : Int) - 1 := by simp only [yLift, nV, if_true]; omega
  (try dsimp only at h)
  rw [e] at h
  unfold ySum
  rw [h]; omega
theorem yBr_inv (O : yOk n sc lim Y stt) (hsum : ySum Y sc = (yCnt stt 1 n : Int) + (yCnt stt 4 n : Int)) {c : Nat} (hc : c < n) (h0 : stt c = 0) :
    yOk n sc lim (yBr sc lim wt lv Y stt c).1 (yBr sc lim wt lv Y stt c).2 ∧ ySum (yBr sc lim wt lv Y stt c).1 sc = (yCnt (yBr sc lim wt lv Y stt c).2 1 n : Int) + (yCnt (yBr sc lim wt lv Y stt c).2 4 n : Int) ∧
    (∃ v, (yBr sc lim wt lv Y stt c).2 = zU stt c v ∧ (v = 3 ∨ (v = 1 ∧ ∃ t, t < sc ∧ (yBr sc lim wt lv Y stt c).1.2.2 c = (t : Int) ∧ 0 < (yBr sc lim wt lv Y stt c).1.1 t ∧ yTop (yBr sc lim wt lv Y stt c).1.1 (yBr sc lim wt lv Y stt c).1.2.1 t = c))) := by
  by_cases h : yTo sc lim wt lv Y c (-1) < 0
  · have e : yBr sc lim wt lv Y stt c = (Y, zU stt c 3) := by unfold yBr; rw [if_pos h]
    rw [e]
    refine ⟨yOk_states O (fun x => ?_), ?_, 3, rfl, Or.inl rfl⟩
    · show (zU stt c 3 x = 1 ∨ zU stt c 3 x = 4) ↔ (stt x = 1 ∨ stt x = 4)
      by_cases q : x = c
      · rw [q, zU_at, h0]; omega
      · rw [zU_ne q]
    · (try dsimp only)
      rw [yCnt_set, yCnt_set, if_pos hc, if_pos hc, h0, hsum]; simp
  · obtain ⟨t, t1, t2, t3, t4⟩ := yTo_ok h
    have e : yBr sc lim wt lv Y stt c = (yPut Y c t, zU stt c 1) := by unfold yBr; rw [if_neg h, t2, Int.toNat_natCast]
    rw [e]
    refine ⟨yPut_ok O hc (by rw [h0]; omega) t1 t4.1, ?_, 1, rfl, Or.inr ⟨rfl, t, t1, ?_, ?_, ?_⟩⟩
    · (try dsimp only)
      rw [ySum_put t1, yCnt_set, yCnt_set, if_pos hc, if_pos hc, h0, hsum]; simp; omega
    · simp only [yPut, zU, if_true]
    · simp only [yPut, nV, if_true]; omega
    · simp only [yTop, yPut, nV, nV2, if_true, Nat.add_sub_cancel]
theorem yTk_inv (O : yOk n sc lim Y stt) (hlm : ∀ s, lim s ≤ 5) (hsum : ySum Y sc = (yCnt stt 1 n : Int) + (yCnt stt 4 n : Int)) {c r : Nat} (hc : c < n) (h0 : stt c ≠ 0) (hb : ∀ c, 0 ≤ stt c ∧ stt c ≤ 4) :
    yOk n sc lim (yTk sc lim wt lv Y stt r c).1.1 (yTk sc lim wt lv Y stt r c).1.2 ∧ ySum (yTk sc lim wt lv Y stt r c).1.1 sc = (yCnt (yTk sc lim wt lv Y stt r c).1.2 1 n : Int) + (yCnt (yTk sc lim wt lv Y stt r c).1.2 4 n : Int) ∧
    (∀ x, x ≠ c → (yTk sc lim wt lv Y stt r c).1.2 x = stt x) ∧ 2 ≤ (yTk sc lim wt lv Y stt r c).1.2 c ∧ r ≤ (yTk sc lim wt lv Y stt r c).2 ∧ (yTk sc lim wt lv Y stt r c).2 ≤ r + 5 := by
  have hbc := hb c
  by_cases h : stt c = 1 ∨ stt c = 4
  · obtain ⟨st, lc, hst, hlc, hsd⟩ := O.2.2.2.2 c h
    have hon : Y.2.2 c = (st : Int) := by have z := (O.2.2.1 st lc hst hlc).2.1; rw [hsd] at z; exact z
    have hto : (Y.2.2 c).toNat = st := by rw [hon]; exact Int.toNat_natCast st
    have hl5 : Y.1 st ≤ lc + 5 := by have a := O.1 st hst; have b := hlm st; omega
    have hcr := yClr_ok (wt := wt) (lv := lv) O hst hsd 5 0 (fun _ => 0) Y rfl hlc hl5 hsd
    have hzz := yClr_z (wt := wt) (lv := lv) O (fun s hs => (O.2.1 s hs).2) hst 5 0 (fun _ => 0) Y rfl hlc hsd
    have hii : ¬ ¬ (stt c = 1 ∨ stt c = 4) := fun q => q h
    rcases hcr with ⟨q1, q2⟩ | ⟨q1, q2, q3, q4, q5, m1, w1, q6⟩
    · have e : yTk sc lim wt lv Y stt r c = (((yClr sc lim wt lv c st 5 0 (fun _ => 0) Y).2, zU stt c 4), r) := by unfold yTk; rw [if_neg hii, hto, if_pos (by omega)]
      rw [e]
      refine ⟨yOk_states (yOk_rel O q2 hzz) (fun x => ?_), ?_, fun x hx => zU_ne hx, ?_, Nat.le_refl _, by (try dsimp only); omega⟩
      · show (zU stt c 4 x = 1 ∨ zU stt c 4 x = 4) ↔ (stt x = 1 ∨ stt x = 4)
        by_cases q : x = c
        · rw [q, zU_at]; omega
        · rw [zU_ne q]
      · (try dsimp only)
        rw [ySum_rel q2, yCnt_set, yCnt_set, if_pos hc, if_pos hc, hsum]
        rcases h with h | h <;> rw [h] <;> simp <;> omega
      · (try dsimp only); rw [zU_at]; decide
    · have e : yTk sc lim wt lv Y stt r c = ((yLift (yClr sc lim wt lv c st 5 0 (fun _ => 0) Y).2 st, zU stt c 2), r + (yClr sc lim wt lv c st 5 0 (fun _ => 0) Y).1.toNat) := by unfold yTk; rw [if_neg hii, hto, if_neg (by omega)]
      rw [e]
      refine ⟨yLift_ok q3 hst (by omega) q5 (by decide), ?_, fun x hx => zU_ne hx, ?_, by (try dsimp only); omega, by (try dsimp only); omega⟩
      · (try dsimp only)
        rw [ySum_lift hst (by omega), yChn_sum hst m1 _ q6, yCnt_set, yCnt_set, if_pos hc, if_pos hc, hsum]
        rcases h with h | h <;> rw [h] <;> simp <;> omega
      · (try dsimp only); rw [zU_at]; decide
  · have e : yTk sc lim wt lv Y stt r c = ((Y, stt), r) := by unfold yTk; rw [if_pos h]
    rw [e]
    exact ⟨O, hsum, fun x _ => rfl, by (try dsimp only); omega, Nat.le_refl _, by (try dsimp only); omega⟩
theorem yStep_inv {kf : Nat → Nat} {cnt w : Nat} {S : yW} (G : yAg n kf cnt) (hlm : ∀ s, lim s ≤ 5) (hw : w < cnt) (I : yInv n sc lim kf S w) (hb : ∀ c, 0 ≤ S.1.2 c ∧ S.1.2 c ≤ 4) :
    yInv n sc lim kf (yStep sc lim wt lv kf S w) (w + 1) ∧ yDid sc kf (yStep sc lim wt lv kf S w) w ∧ S.2 ≤ (yStep sc lim wt lv kf S w).2 ∧ (yStep sc lim wt lv kf S w).2 ≤ S.2 + 5 := by
  obtain ⟨i1, i2, i3, i4⟩ := I
  obtain ⟨g1, g2, g3⟩ := G
  have hc := g1 w hw
  by_cases hk : eK kf w = 0 ∨ eK kf w = 1
  · have e : yStep sc lim wt lv kf S w = (yBr sc lim wt lv S.1.1 S.1.2 (eC kf w), S.2) := by unfold yStep; rw [if_pos hk]
    have hk2 : eK kf w < 2 := by omega
    have h0 : S.1.2 (eC kf w) = 0 := Classical.byContradiction (fun q => by
      obtain ⟨f, f1, f2, f3⟩ := i3 _ q
      have := g2 f w (by omega) hw f2 (by omega) f3
      omega)
    obtain ⟨b1, b2, v, b3, b4⟩ := yBr_inv (wt := wt) (lv := lv) i1 i2 hc h0
    rw [e]
    refine ⟨⟨b1, b2, fun c hcn => ?_, fun f hf hkf => ?_⟩, ⟨fun _ => ?_, fun q => absurd q (Nat.not_le.mpr hk2), fun q => ?_⟩, Nat.le_refl _, by (try dsimp only); omega⟩
    · (try dsimp only at hcn)
      by_cases q : c = eC kf w
      · exact ⟨w, Nat.lt_succ_self w, hk2, q.symm⟩
      · rw [b3, zU_ne q] at hcn
        obtain ⟨f, f1, f2, f3⟩ := i3 c hcn
        exact ⟨f, by omega, f2, f3⟩
    · (try dsimp only)
      rw [b3]
      by_cases q : eC kf f = eC kf w
      · rw [q, zU_at]
        rcases b4 with b4 | ⟨b4, -⟩ <;> omega
      · rw [zU_ne q]
        refine i4 f ?_ hkf
        have : f ≠ w := fun z => q (by rw [z])
        omega
    · (try dsimp only); rw [b3, zU_at]
      rcases b4 with b4 | ⟨b4, -⟩ <;> omega
    · (try dsimp only at q)
      rw [b3, zU_at] at q
      rcases b4 with b4 | ⟨-, b4⟩
      · omega
      · exact b4
  · have e : yStep sc lim wt lv kf S w = yTk sc lim wt lv S.1.1 S.1.2 S.2 (eC kf w) := by unfold yStep; rw [if_neg hk]
    have hk4 : eK kf w < 4 := Nat.mod_lt _ (by decide)
    have h0 : S.1.2 (eC kf w) ≠ 0 := by
      obtain ⟨f, f1, f2, f3⟩ := g3 w hw (by omega)
      have := i4 f f1 f2
      rw [f3] at this; exact this
    obtain ⟨b1, b2, b3, b4, b5, b6⟩ := yTk_inv (wt := wt) (lv := lv) (r := S.2) i1 hlm i2 hc h0 hb
    rw [e]
    refine ⟨⟨b1, b2, fun c hcn => ?_, fun f hf hkf => ?_⟩, ⟨fun q => absurd q (by omega), fun _ => b4, fun q => absurd q (by omega)⟩, b5, b6⟩
    · by_cases q : c = eC kf w
      · obtain ⟨f, f1, f2, f3⟩ := i3 _ h0
        exact ⟨f, by omega, f2, f3.trans q.symm⟩
      · rw [b3 c q] at hcn
        obtain ⟨f, f1, f2, f3⟩ := i3 c hcn
        exact ⟨f, by omega, f2, f3⟩
    · by_cases q : eC kf f = eC kf w
      · rw [q]; omega
      · rw [b3 _ q]
        refine i4 f ?_ hkf
        have : f ≠ w := fun z => q (by rw [z])
        omega
end YR
