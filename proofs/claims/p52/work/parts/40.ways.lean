/-! Cheapest ways in a small net, as numbers alone: E u v w p is an arc from u to v that costs w (p: who is pushed over it). -/
def sWk (E : Nat → Nat → Int → Int → Prop) (goal : Nat) : Nat → Nat → Int → Prop
  | 0, u, c => u = goal ∧ c = 0
  | i + 1, u, c => ∃ (v : Nat) (w p : Int), E u v w p ∧ sWk E goal i v (c - w)
/-- no ring costs less than 0: there are heights -/
def sPot (E : Nat → Nat → Int → Int → Prop) (h : Nat → Int) : Prop := ∀ (u v : Nat) (w p : Int), E u v w p → h u ≤ w + h v
def sSmall (E : Nat → Nat → Int → Int → Prop) : Prop := ∀ (u v : Nat) (w p : Int), E u v w p → u < 18 ∧ v < 18 ∧ -40 ≤ w ∧ w ≤ 40
theorem sPigeon : ∀ (n : Nat) (f : Nat → Nat), (∀ j, j ≤ n → f j < n) → ∃ i j, i < j ∧ j ≤ n ∧ f i = f j := by
  intro n
  induction n with
  | zero => intro f h; exact absurd (h 0 (Nat.le_refl 0)) (Nat.not_lt_zero _)
  | succ n ih =>
    intro f h
    by_cases hx : ∃ j, j ≤ n ∧ f j = f (n + 1)
    · obtain ⟨j, h1, h2⟩ := hx
      exact ⟨j, n + 1, by omega, Nat.le_refl _, h2⟩
    · obtain ⟨i, j, h1, h2, h3⟩ := ih (fun j => if f (n + 1) < f j then f j - 1 else f j) (fun j hj => by
        have a := h j (by omega)
        have b := h (n + 1) (Nat.le_refl _)
        have c : f j ≠ f (n + 1) := fun e => hx ⟨j, hj, e⟩
        show (if f (n + 1) < f j then f j - 1 else f j) < n
        split <;> omega)
      refine ⟨i, j, h1, by omega, ?_⟩
      have c1 : f i ≠ f (n + 1) := fun e => hx ⟨i, by omega, e⟩
      have c2 : f j ≠ f (n + 1) := fun e => hx ⟨j, h2, e⟩
      have h4 : (if f (n + 1) < f i then f i - 1 else f i) = (if f (n + 1) < f j then f j - 1 else f j) := h3
      split at h4 <;> split at h4 <;> omega
section SW
variable {E : Nat → Nat → Int → Int → Prop} {goal : Nat} {h : Nat → Int}
theorem sWk_low (hp : sPot E h) : ∀ (i u : Nat) (c : Int), sWk E goal i u c → h u ≤ c + h goal := by
  intro i
  induction i with
  | zero =>
    intro u c hw
    obtain ⟨h1, h2⟩ : u = goal ∧ c = 0 := hw
    subst h1; omega
  | succ i ih =>
    intro u c hw
    obtain ⟨v, w, p, he, hw⟩ : ∃ (v : Nat) (w p : Int), E u v w p ∧ sWk E goal i v (c - w) := hw
    have h1 := hp u v w p he
    have h2 := ih v (c - w) hw
    omega
theorem sWk_small (hs : sSmall E) : ∀ (i u : Nat) (c : Int), sWk E goal i u c → -40 * (i : Int) ≤ c ∧ c ≤ 40 * (i : Int) := by
  intro i
  induction i with
  | zero =>
    intro u c hw
    obtain ⟨h1, h2⟩ : u = goal ∧ c = 0 := hw
    omega
  | succ i ih =>
    intro u c hw
    obtain ⟨v, w, p, he, hw⟩ : ∃ (v : Nat) (w p : Int), E u v w p ∧ sWk E goal i v (c - w) := hw
    have h1 := hs u v w p he
    have h2 := ih v (c - w) hw
    omega
def sRun (E : Nat → Nat → Int → Int → Prop) (f : Nat → Nat) (k : Nat → Int) (n : Nat) : Prop := ∀ j, j < n → ∃ w p, E (f j) (f (j + 1)) w p ∧ k j = w + k (j + 1)
theorem sWk_seq : ∀ (i u : Nat) (c : Int), sWk E goal i u c → ∃ (f : Nat → Nat) (k : Nat → Int), f 0 = u ∧ k 0 = c ∧ f i = goal ∧ k i = 0 ∧ sRun E f k i := by
  intro i
  induction i with
  | zero =>
    intro u c hw
    obtain ⟨h1, h2⟩ : u = goal ∧ c = 0 := hw
    exact ⟨fun _ => u, fun _ => c, rfl, rfl, h1, h2, fun j hj => absurd hj (Nat.not_lt_zero _)⟩
  | succ i ih =>
    intro u c hw
    obtain ⟨v, w, p, he, hw⟩ : ∃ (v : Nat) (w p : Int), E u v w p ∧ sWk E goal i v (c - w) := hw
    obtain ⟨f, k, h1, h2, h3, h4, h5⟩ := ih v (c - w) hw
    refine ⟨fun j => if j = 0 then u else f (j - 1), fun j => if j = 0 then c else k (j - 1), rfl, rfl, by simpa using h3, by simpa using h4, fun j hj => ?_⟩
    cases j with
    | zero => exact ⟨w, p, by simpa [h1] using he, by simp [h2]; omega⟩
    | succ j =>
      obtain ⟨w1, p1, e1, e2⟩ := h5 j (by omega)
      exact ⟨w1, p1, by simpa using e1, by simpa using e2⟩
theorem sWk_of_seq {f : Nat → Nat} {k : Nat → Int} : ∀ (n a : Nat), (∀ j, a ≤ j → j < a + n → ∃ w p, E (f j) (f (j + 1)) w p ∧ k j = w + k (j + 1)) → f (a + n) = goal → k (a + n) = 0 → sWk E goal n (f a) (k a) := by
  intro n
  induction n with
  | zero => intro a _ h1 h2; exact ⟨h1, h2⟩
  | succ n ih =>
    intro a hr h1 h2
    obtain ⟨w, p, e1, e2⟩ := hr a (Nat.le_refl _) (by omega)
    refine ⟨f (a + 1), w, p, e1, ?_⟩
    have h3 := ih (a + 1) (fun j hj hj2 => hr j (by omega) (by omega)) (by rw [show a + 1 + n = a + (n + 1) by omega]; exact h1) (by rw [show a + 1 + n = a + (n + 1) by omega]; exact h2)
    rw [show k a - w = k (a + 1) by omega]
    exact h3
theorem sWk_glue {f : Nat → Nat} {k : Nat → Int} : ∀ (a m : Nat) (c : Int), sRun E f k a → sWk E goal m (f a) c → sWk E goal (a + m) (f 0) (k 0 - k a + c) := by
  intro a
  induction a with
  | zero => intro m c _ h; rw [show 0 + m = m by omega, show k 0 - k 0 + c = c by omega]; exact h
  | succ a ih =>
    intro m c hr h
    obtain ⟨w, p, e1, e2⟩ := hr a (by omega)
    have h1 : sWk E goal (m + 1) (f a) (w + c) := ⟨f (a + 1), w, p, e1, by rw [show w + c - w = c by omega]; exact h⟩
    have h2 := ih (m + 1) (w + c) (fun j hj => hr j (by omega)) h1
    rw [show a + 1 + m = a + (m + 1) by omega, show k 0 - k (a + 1) + c = k 0 - k a + (w + c) by omega]
    exact h2
theorem sRun_pot {f : Nat → Nat} {k : Nat → Int} {i : Nat} (hp : sPot E h) (hr : sRun E f k i) : ∀ (m a : Nat), a + m ≤ i → h (f a) ≤ k a - k (a + m) + h (f (a + m)) := by
  intro m
  induction m with
  | zero => intro a _; rw [Nat.add_zero]; omega
  | succ m ih =>
    intro a ha
    have h1 := ih a (by omega)
    obtain ⟨w, p, e1, e2⟩ := hr (a + m) (by omega)
    have h2 := hp _ _ _ _ e1
    rw [show a + (m + 1) = a + m + 1 by omega]
    omega
theorem sShort (hp : sPot E h) (hs : sSmall E) (hg : goal < 18) : ∀ (n i u : Nat) (c : Int), i ≤ n → sWk E goal i u c → ∃ (j : Nat) (c1 : Int), j ≤ 17 ∧ c1 ≤ c ∧ sWk E goal j u c1 := by
  intro n
  induction n with
  | zero => intro i u c hi hw; exact ⟨i, c, by omega, by omega, hw⟩
  | succ n ih =>
    intro i u c hi hw
    by_cases h17 : i ≤ 17
    · exact ⟨i, c, h17, by omega, hw⟩
    · obtain ⟨f, k, h1, h2, h3, h4, h5⟩ := sWk_seq i u c hw
      have hf : ∀ j, j ≤ 18 → f j < 18 := by
        intro j hj
        by_cases hji : j < i
        · obtain ⟨w, p, e1, -⟩ := h5 j hji
          exact (hs _ _ _ _ e1).1
        · have : j = i := by omega
          rw [this, h3]; exact hg
      obtain ⟨a, b, hab, hb, e⟩ := sPigeon 18 f hf
      have hpot := sRun_pot hp h5 (b - a) a (by omega)
      rw [show a + (b - a) = b by omega, e] at hpot
      have hsuf : sWk E goal (i - b) (f b) (k b) := sWk_of_seq (i - b) b (fun j _ hj2 => h5 j (by omega)) (by rw [show b + (i - b) = i by omega]; exact h3) (by rw [show b + (i - b) = i by omega]; exact h4)
      rw [← e] at hsuf
      have hgl := sWk_glue a (i - b) (k b) (fun j hj => h5 j (by omega)) hsuf
      rw [h1] at hgl
      obtain ⟨j, c1, g1, g2, g3⟩ := ih (a + (i - b)) u _ (by omega) hgl
      exact ⟨j, c1, g1, by omega, g3⟩
/-- the ways as found so far: d what they cost, nx the next node, pu who is pushed; t: when each was made shorter last -/
def sBF (E : Nat → Nat → Int → Int → Prop) (goal : Nat) (d : Nat → Int) (nx : Nat → Nat) (pu : Nat → Int) (t : Nat → Nat) (T : Nat) : Prop :=
  d goal = 0 ∧ (∀ u, t u ≤ T) ∧ (∀ u, d u ≤ 1000000) ∧ (∀ u, d u < 1000000 → ∃ i, sWk E goal i u (d u)) ∧
  (∀ u, u ≠ goal → d u < 1000000 → ∃ w, E u (nx u) w (pu u) ∧ d (nx u) < 1000000 ∧ ((d u = w + d (nx u) ∧ t (nx u) < t u) ∨ w + d (nx u) < d u))
theorem sBF_start {nx : Nat → Nat} {pu : Nat → Int} : sBF E goal (fun u => if u = goal then 0 else 1000000) nx pu (fun _ => 0) 0 := by
  refine ⟨by simp, fun _ => Nat.le_refl _, fun u => by dsimp only; split <;> omega, fun u hu => ?_, fun u hu hd => ?_⟩
  · by_cases hg : u = goal
    · exact ⟨0, hg, by simp [hg]⟩
    · simp [hg] at hu
  · simp [hu] at hd
theorem sBF_step {d : Nat → Int} {nx : Nat → Nat} {pu : Nat → Int} {t : Nat → Nat} {T : Nat} (hp : sPot E h) (B : sBF E goal d nx pu t T) {u v : Nat} {w p : Int} (he : E u v w p) (hv : d v < 1000000) (hlt : w + d v < d u) :
    sBF E goal (fun x => if x = u then w + d v else d x) (fun x => if x = u then v else nx x) (fun x => if x = u then p else pu x) (fun x => if x = u then T + 1 else t x) (T + 1) := by
  obtain ⟨b1, b2, b3, b4, b5⟩ := B
  have huv : v ≠ u := by
    intro e
    have := hp u v w p he
    rw [e] at this hlt; omega
  have hug : u ≠ goal := by
    intro e
    obtain ⟨i, hw⟩ := b4 v hv
    have h1 := sWk_low hp i v (d v) hw
    have h2 := hp u v w p he
    rw [e] at h2 hlt; omega
  refine ⟨by dsimp only; rw [if_neg (show ¬ goal = u from fun e => hug e.symm)]; exact b1, fun x => ?_, fun x => ?_, fun x hx => ?_, fun x hxg hx => ?_⟩
  · dsimp only; split
    · omega
    · have := b2 x; omega
  · dsimp only; split
    · have := b3 u; omega
    · exact b3 x
  · by_cases hxu : x = u
    · obtain ⟨i, hw⟩ := b4 v hv
      refine ⟨i + 1, ?_⟩
      rw [hxu]; simp only [if_true]
      exact ⟨v, w, p, he, by rw [show w + d v - w = d v by omega]; exact hw⟩
    · simp only [if_neg hxu] at hx ⊢
      exact b4 x hx
  · by_cases hxu : x = u
    · rw [hxu]; simp only [if_true, if_neg huv]
      exact ⟨w, he, hv, Or.inl ⟨rfl, by have := b2 v; omega⟩⟩
    · simp only [if_neg hxu] at hx ⊢
      obtain ⟨w1, e1, e2, e3⟩ := b5 x hxg hx
      refine ⟨w1, e1, ?_, ?_⟩
      · split
        · have := b3 u; omega
        · exact e2
      · by_cases hn : nx x = u
        · rw [if_pos hn]
          refine Or.inr ?_
          rw [hn] at e3
          rcases e3 with e3 | e3 <;> omega
        · rw [if_neg hn, if_neg hn]; exact e3
/-- all walks of at most i arcs are counted in -/
def sDone (E : Nat → Nat → Int → Int → Prop) (goal : Nat) (d : Nat → Int) (i : Nat) : Prop := ∀ (k u : Nat) (c : Int), k ≤ i → sWk E goal k u c → d u ≤ c
def sFix (E : Nat → Nat → Int → Int → Prop) (d : Nat → Int) : Prop := ∀ (u v : Nat) (w p : Int), E u v w p → d v < 1000000 → d u ≤ w + d v
theorem sDone_start {d : Nat → Int} (hd : d goal = 0) : sDone E goal d 0 := by
  intro k u c hk hw
  obtain rfl : k = 0 := by omega
  obtain ⟨h1, h2⟩ : u = goal ∧ c = 0 := hw
  rw [h1, hd]; omega
theorem sDone_pass {d d1 : Nat → Int} {i : Nat} (hs : sSmall E) (hi : i ≤ 100) (hd : sDone E goal d i) (hle : ∀ u, d1 u ≤ d u) (hps : ∀ (u v : Nat) (w p : Int), E u v w p → d v < 1000000 → d1 u ≤ w + d v) : sDone E goal d1 (i + 1) := by
  intro k u c hk hw
  cases k with
  | zero => have h1 := hd 0 u c (by omega) hw; have h2 := hle u; omega
  | succ k =>
    obtain ⟨v, w, p, he, hw⟩ : ∃ (v : Nat) (w p : Int), E u v w p ∧ sWk E goal k v (c - w) := hw
    have h1 := hd k v (c - w) (by omega) hw
    have h2 := sWk_small hs k v (c - w) hw
    have h3 := hps u v w p he (by omega)
    omega
theorem sFix_done {d : Nat → Int} {nx : Nat → Nat} {pu : Nat → Int} {t : Nat → Nat} {T : Nat} (hp : sPot E h) (hs : sSmall E) (hg : goal < 18) (B : sBF E goal d nx pu t T) (hd : sDone E goal d 17) : sFix E d := by
  intro u v w p he hv
  obtain ⟨i, hw⟩ := B.2.2.2.1 v hv
  have h1 : sWk E goal (i + 1) u (w + d v) := ⟨v, w, p, he, by rw [show w + d v - w = d v by omega]; exact hw⟩
  obtain ⟨j, c1, g1, g2, g3⟩ := sShort hp hs hg (i + 1) (i + 1) u _ (Nat.le_refl _) h1
  have := hd j u c1 g1 g3
  omega
/-- the ways found to the end -/
def sWays (E : Nat → Nat → Int → Int → Prop) (goal : Nat) (d : Nat → Int) (nx : Nat → Nat) (pu : Nat → Int) (t : Nat → Nat) : Prop :=
  d goal = 0 ∧ sFix E d ∧ (∀ u, d u < 1000000 → -680 ≤ d u ∧ d u ≤ 680) ∧ (∀ u, d u ≤ 1000000) ∧
  (∀ u, u ≠ goal → d u < 1000000 → ∃ w, E u (nx u) w (pu u) ∧ d (nx u) < 1000000 ∧ d u = w + d (nx u) ∧ t (nx u) < t u)
theorem sWays_of {d : Nat → Int} {nx : Nat → Nat} {pu : Nat → Int} {t : Nat → Nat} {T : Nat} (hp : sPot E h) (hs : sSmall E) (hg : goal < 18) (B : sBF E goal d nx pu t T) (hf : sFix E d) : sWays E goal d nx pu t := by
  have hall : ∀ (i u : Nat) (c : Int), i ≤ 100 → sWk E goal i u c → d u ≤ c := by
    intro i
    induction i with
    | zero =>
      intro u c _ hw
      obtain ⟨h1, h2⟩ : u = goal ∧ c = 0 := hw
      rw [h1, B.1]; omega
    | succ i ih =>
      intro u c hi hw
      obtain ⟨v, w, p, he, hw⟩ : ∃ (v : Nat) (w p : Int), E u v w p ∧ sWk E goal i v (c - w) := hw
      have h1 := ih v (c - w) (by omega) hw
      have h2 := sWk_small hs i v _ hw
      have h3 := hf u v w p he (by omega)
      omega
  have hbd : ∀ u, d u < 1000000 → -680 ≤ d u ∧ d u ≤ 680 := by
    intro u hu
    obtain ⟨i, hw⟩ := B.2.2.2.1 u hu
    obtain ⟨j, c1, g1, g2, g3⟩ := sShort hp hs hg i i u _ (Nat.le_refl _) hw
    have h1 := sWk_small hs j u c1 g3
    have h2 := hall j u c1 (by omega) g3
    omega
  refine ⟨B.1, hf, hbd, B.2.2.1, fun u hu hd => ?_⟩
  obtain ⟨w, e1, e2, e3⟩ := B.2.2.2.2 u hu hd
  have h1 := hf _ _ _ _ e1 e2
  refine ⟨w, e1, e2, ?_⟩
  rcases e3 with e3 | e3
  · exact e3
  · omega
end SW
