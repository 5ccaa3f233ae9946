/-! Slots and pushes, as numbers alone. -/
def sSum (f : Nat → Int) : Nat → Int
  | 0 => 0
  | n + 1 => sSum f n + f n
theorem sSum_congr {f g : Nat → Int} : ∀ (n : Nat), (∀ x, x < n → f x = g x) → sSum f n = sSum g n := by
  intro n
  induction n with
  | zero => intro _; rfl
  | succ n ih =>
    intro h
    show sSum f n + f n = sSum g n + g n
    rw [ih (fun x hx => h x (by omega)), h n (by omega)]
theorem sSum_one {f g : Nat → Int} {c : Nat} : ∀ (n : Nat), c < n → (∀ x, x < n → x ≠ c → f x = g x) → sSum f n = sSum g n - g c + f c := by
  intro n
  induction n with
  | zero => intro h; exact absurd h (Nat.not_lt_zero _)
  | succ n ih =>
    intro hc h
    show sSum f n + f n = sSum g n + g n - g c + f c
    by_cases hn : c = n
    · rw [sSum_congr n (fun x hx => h x (by omega) (by omega)), hn]; omega
    · rw [ih (by omega) (fun x hx hxc => h x (by omega) hxc), h n (by omega) (fun e => hn e.symm)]; omega
theorem sSum_low {f : Nat → Int} {b : Int} : ∀ (n : Nat), (∀ x, x < n → b ≤ f x) → b * (n : Int) ≤ sSum f n := by
  intro n
  induction n with
  | zero => intro _; show b * ((0 : Nat) : Int) ≤ 0; simp
  | succ n ih =>
    intro h
    have h1 := ih (fun x hx => h x (by omega))
    have h2 := h n (by omega)
    show b * ((n + 1 : Nat) : Int) ≤ sSum f n + f n
    rw [Int.natCast_add, Int.mul_add]; simp only [Int.natCast_one, Int.mul_one] at *; omega
theorem sSum_le {f g : Nat → Int} : ∀ (n : Nat), (∀ x, x < n → f x ≤ g x) → sSum f n ≤ sSum g n := by
  intro n
  induction n with
  | zero => intro _; exact Int.le_refl _
  | succ n ih =>
    intro h
    have h1 := ih (fun x hx => h x (by omega))
    have h2 := h n (by omega)
    show sSum f n + f n ≤ sSum g n + g n
    omega
theorem sIf (a b : Nat) : (if a = b then (1 : Int) else 0) = if b = a then 1 else 0 := by
  by_cases z : a = b
  · rw [if_pos z, if_pos z.symm]
  · rw [if_neg z, if_neg (fun e => z e.symm)]
/-- how many of those from lo on, below n, have slot s -/
def sCnt (f : Nat → Nat) (lo n s : Nat) : Int := sSum (fun x => if lo ≤ x ∧ f x = s then 1 else 0) n
theorem sCnt_nn {f : Nat → Nat} {lo n s : Nat} : 0 ≤ sCnt f lo n s := by
  have h := sSum_low (f := fun x => if lo ≤ x ∧ f x = s then (1 : Int) else 0) (b := 0) n (fun x _ => by (try dsimp only); split <;> omega)
  rw [Int.zero_mul] at h; exact h
theorem sCnt_le {f : Nat → Nat} {lo s : Nat} : ∀ (n : Nat), sCnt f lo n s ≤ ((n - lo : Nat) : Int) := by
  intro n
  induction n with
  | zero => show (0 : Int) ≤ _; omega
  | succ n ih =>
    have h1 : sCnt f lo (n + 1) s = sCnt f lo n s + (if lo ≤ n ∧ f n = s then 1 else 0) := rfl
    rw [h1]
    split
    · next h => have := h.1; omega
    · omega
theorem sCnt_set {f g : Nat → Nat} {lo n s c : Nat} (hc : c < n) (hlo : lo ≤ c) (h : ∀ x, x ≠ c → g x = f x) : sCnt g lo n s = sCnt f lo n s - (if f c = s then 1 else 0) + (if g c = s then 1 else 0) := by
  have h1 := sSum_one (f := fun x => if lo ≤ x ∧ g x = s then (1 : Int) else 0) (g := fun x => if lo ≤ x ∧ f x = s then (1 : Int) else 0) n hc (fun x _ hx => by (try dsimp only); rw [h x hx])
  have h2 : sCnt g lo n s = sCnt f lo n s - (if lo ≤ c ∧ f c = s then 1 else 0) + (if lo ≤ c ∧ g c = s then 1 else 0) := h1
  rw [h2]; simp only [hlo, true_and]
theorem sCnt_more {f g : Nat → Nat} {n s c : Nat} (hc : c < n) (h : ∀ x, x ≠ c → g x = f x) : sCnt g c n s = sCnt f (c + 1) n s + (if g c = s then 1 else 0) := by
  have h1 := sSum_one (f := fun x => if c ≤ x ∧ g x = s then (1 : Int) else 0) (g := fun x => if c + 1 ≤ x ∧ f x = s then (1 : Int) else 0) n hc (fun x _ hx => by
    try dsimp only
    rw [h x hx]
    by_cases h1 : c ≤ x
    · have h2 : c + 1 ≤ x := by omega
      simp only [h1, h2, true_and]
    · have h2 : ¬ c + 1 ≤ x := by omega
      simp only [h1, h2, false_and])
  have h2 : sCnt g c n s = sCnt f (c + 1) n s - (if c + 1 ≤ c ∧ f c = s then 1 else 0) + (if c ≤ c ∧ g c = s then 1 else 0) := h1
  rw [h2]
  simp only [show ¬ c + 1 ≤ c by omega, false_and, if_false, Nat.le_refl, true_and]; omega
theorem sCnt_pos {f : Nat → Nat} {lo n c : Nat} (hc : c < n) (hlo : lo ≤ c) : 1 ≤ sCnt f lo n (f c) := by
  have h1 := sSum_one (f := fun x => if lo ≤ x ∧ f x = f c then (1 : Int) else 0) (g := fun x => if x = c then 0 else if lo ≤ x ∧ f x = f c then (1 : Int) else 0) n hc (fun x _ hx => by (try dsimp only); rw [if_neg hx])
  have h2 := sSum_low (f := fun x => if x = c then 0 else if lo ≤ x ∧ f x = f c then (1 : Int) else 0) (b := 0) n (fun x _ => by (try dsimp only); split <;> (try split) <;> omega)
  rw [Int.zero_mul] at h2
  have h3 : sCnt f lo n (f c) = sSum (fun x => if x = c then 0 else if lo ≤ x ∧ f x = f c then (1 : Int) else 0) n - (if c = c then 0 else if lo ≤ c ∧ f c = f c then (1 : Int) else 0) + (if lo ≤ c ∧ f c = f c then 1 else 0) := h1
  rw [h3]
  simp only [hlo, and_self, if_true]; omega
/-- the net: slots 0 to 15, none at all 16, spare room 17 -/
def sE (used room : Nat → Int) (slot : Nat → Nat) (cost : Nat → Nat → Int) (fp n : Nat) (u v : Nat) (w p : Int) : Prop :=
  (u ≤ 16 ∧ v = 17 ∧ w = 0 ∧ p = -1 ∧ used u < room u) ∨ (u = 17 ∧ v ≤ 16 ∧ w = 0 ∧ p = -1 ∧ 0 < used v) ∨
  (∃ c : Nat, fp ≤ c ∧ c < n ∧ u = slot c ∧ v ≤ 16 ∧ v ≠ u ∧ cost c v < 1000000 ∧ w = cost c v - cost c u ∧ p = (c : Int))
def sCs (cost : Nat → Nat → Int) (n : Nat) : Prop := ∀ c, c < n → cost c 16 = 40 ∧ ∀ s, s ≤ 16 → 0 ≤ cost c s ∧ (cost c s ≤ 40 ∨ cost c s = 1000000)
def sIn (slot : Nat → Nat) (cost : Nat → Nat → Int) (fp n : Nat) : Prop := ∀ c, fp ≤ c → c < n → slot c ≤ 16 ∧ cost c (slot c) < 1000000
section SL
variable {used room : Nat → Int} {slot : Nat → Nat} {cost : Nat → Nat → Int} {fp n : Nat}
theorem sE_small (hc : sCs cost n) (hi : sIn slot cost fp n) : sSmall (sE used room slot cost fp n) := by
  intro u v w p h
  rcases h with ⟨h1, h2, h3, -, -⟩ | ⟨h1, h2, h3, -, -⟩ | ⟨c, h1, h2, h3, h4, -, h6, h7, -⟩
  · omega
  · omega
  · have a := hi c h1 h2
    have b := (hc c h2).2 v h4
    have d := (hc c h2).2 (slot c) a.1
    rw [h3] at h7
    omega
theorem sE_sub {fp1 : Nat} (h : fp ≤ fp1) {u v : Nat} {w p : Int} (he : sE used room slot cost fp1 n u v w p) : sE used room slot cost fp n u v w p := by
  rcases he with he | he | ⟨c, h1, h2⟩
  · exact Or.inl he
  · exact Or.inr (Or.inl he)
  · exact Or.inr (Or.inr ⟨c, by omega, h2⟩)
theorem sPot_sub {fp1 : Nat} {h : Nat → Int} (hf : fp ≤ fp1) (hp : sPot (sE used room slot cost fp n) h) : sPot (sE used room slot cost fp1 n) h := fun u v w p he => hp u v w p (sE_sub hf he)
theorem sPot_empty (hu : ∀ s, used s = 0) : sPot (sE used room slot cost n n) (fun _ => 0) := by
  intro u v w p he
  rcases he with ⟨-, -, h3, -, -⟩ | ⟨-, -, h3, -, -⟩ | ⟨c, h1, h2, -⟩
  · show (0 : Int) ≤ w + 0; omega
  · show (0 : Int) ≤ w + 0; omega
  · omega
/-- in the middle of a way of pushes: ch was chosen for the one that comes in, node is reached -/
def sAl (used0 : Nat → Int) (slot0 : Nat → Nat) (cost : Nat → Nat → Int) (fp lo n : Nat) (d : Nat → Int) (t : Nat → Nat) (ch : Nat) (node : Nat) (used : Nat → Int) (slot : Nat → Nat) : Prop :=
  node ≤ 17 ∧ d node < 1000000 ∧
  (∀ x, slot x = slot0 x ∨ (fp ≤ x ∧ x < n ∧ t node < t (slot0 x) ∧ slot x ≤ 16 ∧ cost x (slot x) < 1000000 ∧ d (slot0 x) < 1000000 ∧ d (slot x) < 1000000 ∧ d (slot0 x) = cost x (slot x) - cost x (slot0 x) + d (slot x))) ∧
  sSum (fun x => cost x (slot x)) n = sSum (fun x => cost x (slot0 x)) n + d ch - d node ∧
  (∀ s, s ≤ 16 → s ≠ node → (t s < t node → used s + (if s = ch then 1 else 0) = used0 s) ∧
    (used s + (if s = ch then 1 else 0) = used0 s ∨ (used s + (if s = ch then 1 else 0) = used0 s + 1 ∧ d s = d 17) ∨ (used s + (if s = ch then 1 else 0) = used0 s - 1 ∧ d s = d 17))) ∧
  (node ≤ 16 → used node + (if node = ch then 1 else 0) = used0 node + 1 ∨ (used node + (if node = ch then 1 else 0) = used0 node ∧ d node = d 17)) ∧
  (∀ s, s ≤ 16 → used s = sCnt slot lo n s)
theorem sAl_start {lo ch goal : Nat} {d : Nat → Int} {nx : Nat → Nat} {pu : Nat → Int} {t : Nat → Nat} (hch : ch ≤ 16) (hd : d ch < 1000000) (hu : ∀ s, s ≤ 16 → used s = sCnt slot lo n s) : sAl used slot cost fp lo n d t ch ch used slot := by
  refine ⟨by omega, hd, fun x => Or.inl rfl, by omega, fun s hs hn => ?_, fun _ => Or.inl (by simp), hu⟩
  rw [if_neg hn]
  exact ⟨fun _ => by omega, Or.inl (by omega)⟩
/-- a step of the way without a push -/
theorem sAl_pass {used0 : Nat → Int} {slot0 : Nat → Nat} {lo ch goal node : Nat} {d : Nat → Int} {nx : Nat → Nat} {pu : Nat → Int} {t : Nat → Nat} (W : sWays (sE used0 room slot0 cost fp n) goal d nx pu t) (hg : node ≠ goal) (A : sAl used0 slot0 cost fp lo n d t ch node used slot) (hpu : pu node < 0) :
    sAl used0 slot0 cost fp lo n d t ch (nx node) used slot ∧ t (nx node) < t node := by
  obtain ⟨a1, a2, a3, a4, a5, a6, a7⟩ := A
  obtain ⟨w, he, e1, e2, e3⟩ := W.2.2.2.2 node hg a2
  refine ⟨?_, e3⟩
  rcases he with ⟨h1, h2, h3, -, -⟩ | ⟨h1, h2, h3, -, -⟩ | ⟨c, -, -, -, -, -, -, -, h8⟩
  · refine ⟨by omega, e1, fun x => ?_, by omega, fun s hs hn => ?_, fun h => by omega, a7⟩
    · rcases a3 x with q | ⟨q1, q2, q3, q4⟩
      · exact Or.inl q
      · exact Or.inr ⟨q1, q2, by omega, q4⟩
    · by_cases hsn : s = node
      · refine ⟨fun h => by rw [hsn] at h; omega, ?_⟩
        have := a6 h1
        rw [hsn]
        rcases this with q | ⟨q, -⟩
        · exact Or.inr (Or.inl ⟨q, by rw [h2] at e2; omega⟩)
        · exact Or.inl q
      · have q := a5 s hs hsn
        exact ⟨fun h => q.1 (by omega), q.2⟩
  · refine ⟨by omega, e1, fun x => ?_, by omega, fun s hs hn => ?_, fun h => ?_, a7⟩
    · rcases a3 x with q | ⟨q1, q2, q3, q4⟩
      · exact Or.inl q
      · exact Or.inr ⟨q1, q2, by omega, q4⟩
    · have q := a5 s hs (by omega)
      exact ⟨fun h => q.1 (by omega), q.2⟩
    · have q := a5 (nx node) h2 (by omega)
      exact Or.inr ⟨q.1 e3, (by have z : d node = d 17 := (by rw [h1]); omega)⟩
  · omega
/-- a step of the way with a push -/
theorem sAl_push {used0 : Nat → Int} {slot0 : Nat → Nat} {lo ch goal node : Nat} {d : Nat → Int} {nx : Nat → Nat} {pu : Nat → Int} {t : Nat → Nat} (W : sWays (sE used0 room slot0 cost fp n) goal d nx pu t) (hin : sIn slot0 cost fp n) (hlo : lo ≤ fp) (hg : node ≠ goal) (A : sAl used0 slot0 cost fp lo n d t ch node used slot) (hpu : 0 ≤ pu node) :
    ∃ c : Nat, pu node = (c : Int) ∧ fp ≤ c ∧ c < n ∧ slot c = node ∧ node ≤ 16 ∧ nx node ≤ 16 ∧ nx node ≠ node ∧ t (nx node) < t node ∧
    sAl used0 slot0 cost fp lo n d t ch (nx node) (fun s => used s - (if s = node then 1 else 0) + (if s = nx node then 1 else 0)) (fun x => if x = c then nx node else slot x) := by
  obtain ⟨a1, a2, a3, a4, a5, a6, a7⟩ := A
  obtain ⟨w, he, e1, e2, e3⟩ := W.2.2.2.2 node hg a2
  rcases he with ⟨-, -, -, h4, -⟩ | ⟨-, -, -, h4, -⟩ | ⟨c, h1, h2, h3, h4, h5, h6, h7, h8⟩
  · omega
  · omega
  · have hc0 : slot c = node := by
      rcases a3 c with q | ⟨-, -, q3, -⟩
      · rw [q]; exact h3.symm
      · rw [← h3] at q3; omega
    have hno : node ≤ 16 := by rw [h3]; exact (hin c h1 h2).1
    refine ⟨c, h8, h1, h2, hc0, hno, h4, h5, e3, by omega, e1, fun x => ?_, ?_, fun s hs hn => ?_, fun _ => ?_, fun s hs => ?_⟩
    · by_cases hx : x = c
      · subst hx
        simp only [if_true]
        rw [← h3]
        exact Or.inr ⟨h1, h2, e3, h4, h6, a2, e1, by omega⟩
      · simp only [if_neg hx]
        rcases a3 x with q | ⟨q1, q2, q3, q4⟩
        · exact Or.inl q
        · exact Or.inr ⟨q1, q2, by omega, q4⟩
    · rw [sSum_one (f := fun x => cost x (if x = c then nx node else slot x)) (g := fun x => cost x (slot x)) n h2 (fun x _ hx => by (try dsimp only); rw [if_neg hx])]
      simp only [if_true]
      rw [hc0, a4]; omega
    · by_cases hsn : s = node
      · refine ⟨fun h => by rw [hsn] at h; omega, ?_⟩
        have q := a6 hno
        rw [hsn]
        simp only [if_true, if_neg (show ¬ node = nx node from fun e => h5 e.symm)]
        rcases q with q | ⟨q, q2⟩
        · exact Or.inl (by omega)
        · exact Or.inr (Or.inr ⟨by omega, q2⟩)
      · have q := a5 s hs hsn
        simp only [if_neg hsn, if_neg hn]
        exact ⟨fun h => by have := q.1 (by omega); omega, by rcases q.2 with q | q | q <;> omega⟩
    · have q := (a5 (nx node) h4 h5).1 e3
      simp only [if_neg h5, if_true]
      exact Or.inl (by omega)
    · have q := sCnt_set (f := slot) (g := fun x => if x = c then nx node else slot x) (lo := lo) (n := n) (s := s) h2 (by omega) (fun x hx => by simp only [if_neg hx])
      simp only [↓reduceIte, hc0] at q
      rw [q, sIf node s, sIf (nx node) s, ← a7 s hs]
/-- at the end of the way: the one that came in has its slot, and nobody could do better -/
theorem sAl_end {used0 : Nat → Int} {slot0 : Nat → Nat} {lo ch goal c0 : Nat} {d : Nat → Int} {nx : Nat → Nat} {pu : Nat → Int} {t : Nat → Nat} (W : sWays (sE used0 room slot0 cost (c0 + 1) n) goal d nx pu t) (hin : sIn slot0 cost (c0 + 1) n) (hcs : sCs cost n) (hc0 : c0 < n)
    (A : sAl used0 slot0 cost (c0 + 1) lo n d t ch goal used slot) (h16 : d 16 < 1000000) (h17 : d 17 < 1000000) (hch : ch ≤ 16) (hcc : cost c0 ch < 1000000) (hdc : d ch < 1000000) (hmin : ∀ s, s ≤ 16 → cost c0 s < 1000000 → d s < 1000000 → cost c0 ch + d ch ≤ cost c0 s + d s) :
    sPot (sE (fun s => used s + (if s = ch then 1 else 0) - (if s = goal then 1 else 0)) room (fun x => if x = c0 then ch else slot x) cost c0 n) d ∧
    sIn (fun x => if x = c0 then ch else slot x) cost c0 n ∧ slot c0 = slot0 c0 ∧
    sSum (fun x => cost x (if x = c0 then ch else slot x)) n = sSum (fun x => cost x (slot0 x)) n + d ch - cost c0 (slot0 c0) + cost c0 ch := by
  obtain ⟨a1, a2, a3, a4, a5, a6, a7⟩ := A
  obtain ⟨w1, w2, w3, w4, w5⟩ := W
  have hu0 : slot c0 = slot0 c0 := by
    rcases a3 c0 with q | ⟨q, -⟩
    · exact q
    · omega
  have hfin : sIn (fun x => if x = c0 then ch else slot x) cost c0 n := by
    intro x hx hxn
    by_cases h : x = c0
    · subst h; simp only [if_true]; exact ⟨hch, hcc⟩
    · simp only [if_neg h]
      rcases a3 x with q | ⟨-, -, -, q1, q2, -⟩
      · rw [q]; exact hin x (by omega) hxn
      · exact ⟨q1, q2⟩
  -- who has a slot from which no way leads is not pushed
  have hno : ∀ x, c0 + 1 ≤ x → x < n → d (slot0 x) < 1000000 := by
    intro x hx hxn
    by_cases h : slot0 x = 16
    · rw [h]; exact h16
    · have q := w2 (slot0 x) 16 (cost x 16 - cost x (slot0 x)) x (Or.inr (Or.inr ⟨x, hx, hxn, rfl, Nat.le_refl _, fun e => h e.symm, by rw [(hcs x hxn).1]; omega, rfl, rfl⟩)) h16
      have q2 := (hcs x hxn).2 (slot0 x) (hin x hx hxn).1
      have q3 := w3 16 h16
      rw [(hcs x hxn).1] at q
      omega
  have hsp : ∀ s, s ≤ 16 → used s + (if s = ch then 1 else 0) - (if s = goal then 1 else 0) = used0 s ∨ d s = d 17 := by
    intro s hs
    by_cases hsg : s = goal
    · subst hsg
      simp only [if_true]
      rcases a6 hs with q | ⟨-, q⟩
      · exact Or.inl (by omega)
      · exact Or.inr q
    · simp only [if_neg hsg]
      rcases (a5 s hs hsg).2 with q | ⟨-, q⟩ | ⟨-, q⟩
      · exact Or.inl (by omega)
      · exact Or.inr q
      · exact Or.inr q
  refine ⟨?_, hfin, hu0, ?_⟩
  · intro u v w p he
    rcases he with ⟨h1, h2, h3, h4, h5⟩ | ⟨h1, h2, h3, h4, h5⟩ | ⟨x, h1, h2, h3, h4, h5, h6, h7, h8⟩
    · rcases hsp u h1 with q | q
      · have := w2 u v w p (Or.inl ⟨h1, h2, h3, h4, by rw [← q]; exact h5⟩) (by rw [h2]; exact h17)
        exact this
      · rw [h2, h3, q]; omega
    · rcases hsp v h2 with q | q
      · by_cases hv : d v < 1000000
        · exact w2 u v w p (Or.inr (Or.inl ⟨h1, h2, h3, h4, by rw [← q]; exact h5⟩)) hv
        · rw [h1, h3]; omega
      · rw [h1, h3, q]; omega
    · have hcv := (hcs x h2).2 v h4
      by_cases hx : x = c0
      · subst hx
        simp only [if_true] at h3
        have hcch := (hcs x h2).2 ch hch
        rw [h3] at h7 h5 ⊢
        by_cases hv : d v < 1000000
        · have := hmin v h4 h6 hv; omega
        · have := w3 ch hdc; omega
      · simp only [if_neg hx] at h3
        have hx1 : c0 + 1 ≤ x := by omega
        have hc1 := (hcs x h2).2 (slot0 x) (hin x hx1 h2).1
        have hc2 := (hin x hx1 h2).2
        have hd0 := hno x hx1 h2
        have hb0 := w3 _ hd0
        rcases a3 x with q | ⟨q1, q2, q3, q4, q5, q6, q7, q8⟩
        · rw [q] at h3
          by_cases hv : d v < 1000000
          · exact w2 u v w p (Or.inr (Or.inr ⟨x, hx1, h2, h3, h4, h5, h6, h7, h8⟩)) hv
          · rw [h3] at h7 ⊢; omega
        · have hb1 := w3 _ q7
          have hc3 := (hcs x h2).2 (slot x) q4
          rw [h3] at h7 h5 ⊢
          by_cases hv0 : v = slot0 x
          · rw [hv0] at h7 ⊢; omega
          · by_cases hv : d v < 1000000
            · have := w2 (slot0 x) v (cost x v - cost x (slot0 x)) x (Or.inr (Or.inr ⟨x, hx1, h2, rfl, h4, hv0, h6, rfl, rfl⟩)) hv
              omega
            · omega
  · rw [sSum_one (f := fun x => cost x (if x = c0 then ch else slot x)) (g := fun x => cost x (slot x)) n hc0 (fun x _ hx => by (try dsimp only); rw [if_neg hx])]
    simp only [if_true]
    rw [a4, hu0, w1]; omega
theorem sWays_bd {E : Nat → Nat → Int → Int → Prop} {goal : Nat} {d : Nat → Int} {nx : Nat → Nat} {pu : Nat → Int} {t : Nat → Nat} (W : sWays E goal d nx pu t) (u : Nat) : -680 ≤ d u ∧ d u ≤ 1000000 := by
  have a := W.2.2.2.1 u
  by_cases h : d u < 1000000
  · have b := W.2.2.1 u h; omega
  · omega
/-- giving the cheapest slots: those from k on are in -/
def sG1 (used room : Nat → Int) (slot : Nat → Nat) (cost : Nat → Nat → Int) (k n : Nat) : Prop :=
  sIn slot cost k n ∧ (∀ s, s ≤ 16 → used s = sCnt slot k n s) ∧ ∃ h, sPot (sE used room slot cost k n) h ∧ ∀ u, -680 ≤ h u ∧ h u ≤ 1000000
/-- giving the earliest ones: those ahead of k have theirs -/
def sG2 (used room : Nat → Int) (slot : Nat → Nat) (cost : Nat → Nat → Int) (k n : Nat) (S0 : Int) : Prop :=
  sIn slot cost 0 n ∧ (∀ s, s ≤ 16 → used s = sCnt slot 0 n s) ∧ (∃ h, sPot (sE used room slot cost k n) h ∧ ∀ u, -680 ≤ h u ∧ h u ≤ 1000000) ∧ sSum (fun x => cost x (slot x)) n ≤ S0
theorem sG1_start (hu : ∀ s, used s = 0) : sG1 used room slot cost n n :=
  ⟨fun c h1 h2 => absurd h1 (by omega), fun s _ => by
    have h1 := sCnt_le (f := slot) (lo := n) (s := s) n
    have h2 := sCnt_nn (f := slot) (lo := n) (n := n) (s := s)
    rw [hu]; omega, _, sPot_empty hu, fun _ => ⟨(show (-680 : Int) ≤ 0 by decide), (show (0 : Int) ≤ 1000000 by decide)⟩⟩
theorem sG1_end (h : sG1 used room slot cost 0 n) : sG2 used room slot cost 0 n (sSum (fun x => cost x (slot x)) n) := ⟨h.1, h.2.1, h.2.2, Int.le_refl _⟩
theorem sG_reach {used0 : Nat → Int} {slot0 : Nat → Nat} {goal c0 : Nat} {d : Nat → Int} {nx : Nat → Nat} {pu : Nat → Int} {t : Nat → Nat} (W : sWays (sE used0 room slot0 cost (c0 + 1) n) goal d nx pu t) (h17 : d 17 < 1000000) (hr : used0 16 < room 16) : d 16 < 1000000 := by
  have := W.2.1 16 17 0 (-1) (Or.inl ⟨Nat.le_refl _, rfl, rfl, rfl, hr⟩) h17
  have := W.2.2.1 17 h17
  omega
theorem sG_reach17 {used0 : Nat → Int} {slot0 : Nat → Nat} {goal c0 : Nat} {d : Nat → Int} {nx : Nat → Nat} {pu : Nat → Int} {t : Nat → Nat} (W : sWays (sE used0 room slot0 cost (c0 + 1) n) goal d nx pu t) (hg : goal ≤ 16) (hu : 0 < used0 goal) : d 17 < 1000000 := by
  have := W.2.1 17 goal 0 (-1) (Or.inr (Or.inl ⟨rfl, hg, rfl, rfl, hu⟩)) (by rw [W.1]; omega)
  rw [W.1] at this
  omega
theorem sG1_step {used0 : Nat → Int} {slot0 : Nat → Nat} {ch c0 : Nat} {d : Nat → Int} {nx : Nat → Nat} {pu : Nat → Int} {t : Nat → Nat} (G : sG1 used0 room slot0 cost (c0 + 1) n) (W : sWays (sE used0 room slot0 cost (c0 + 1) n) 17 d nx pu t) (hcs : sCs cost n) (hc0 : c0 < n) (hr : (n : Int) ≤ room 16)
    (A : sAl used0 slot0 cost (c0 + 1) (c0 + 1) n d t ch 17 used slot) (hch : ch ≤ 16) (hcc : cost c0 ch < 1000000) (hdc : d ch < 1000000) (hmin : ∀ s, s ≤ 16 → cost c0 s < 1000000 → d s < 1000000 → cost c0 ch + d ch ≤ cost c0 s + d s) :
    sG1 (fun s => used s + (if s = ch then 1 else 0)) room (fun x => if x = c0 then ch else slot x) cost c0 n := by
  have h17 : d 17 < 1000000 := by rw [W.1]; omega
  have h16 : d 16 < 1000000 := sG_reach W h17 (by
    rw [G.2.1 16 (Nat.le_refl _)]
    have := sCnt_le (f := slot0) (lo := c0 + 1) (s := 16) n
    omega)
  obtain ⟨g1, g2, -, -⟩ := sAl_end W G.1 hcs hc0 A h16 h17 hch hcc hdc hmin
  refine ⟨g2, fun s hs => ?_, d, ?_, sWays_bd W⟩
  · rw [sCnt_more (f := slot) (g := fun x => if x = c0 then ch else slot x) hc0 (fun x hx => by simp only [if_neg hx])]
    simp only [if_true]
    rw [A.2.2.2.2.2.2 s hs, sIf ch s]
  · intro u v w p he
    refine g1 u v w p ?_
    rcases he with ⟨h1, h2, h3, h4, h5⟩ | ⟨h1, h2, h3, h4, h5⟩ | he
    · exact Or.inl ⟨h1, h2, h3, h4, (by have z : ¬ u = 17 := (by omega); simp only [if_neg z]; have y : used u + (if u = ch then 1 else 0) < room u := h5; omega)⟩
    · exact Or.inr (Or.inl ⟨h1, h2, h3, h4, (by have z : ¬ v = 17 := (by omega); simp only [if_neg z]; have y : 0 < used v + (if v = ch then 1 else 0) := h5; omega)⟩)
    · exact Or.inr (Or.inr he)
theorem sG2_step {used0 : Nat → Int} {slot0 : Nat → Nat} {ch c0 : Nat} {S0 : Int} {d : Nat → Int} {nx : Nat → Nat} {pu : Nat → Int} {t : Nat → Nat} (G : sG2 used0 room slot0 cost c0 n S0) (W : sWays (sE used0 room slot0 cost (c0 + 1) n) (slot0 c0) d nx pu t) (hcs : sCs cost n) (hc0 : c0 < n) (hr : (n : Int) < room 16)
    (A : sAl used0 slot0 cost (c0 + 1) 0 n d t ch (slot0 c0) used slot) (hch : ch ≤ 16) (hcc : cost c0 ch < 1000000) (hdc : d ch < 1000000) (hmin : ∀ s, s ≤ 16 → cost c0 s < 1000000 → d s < 1000000 → cost c0 ch + d ch ≤ cost c0 s + d s) :
    sG2 (fun s => used s + (if s = ch then 1 else 0) - (if s = slot0 c0 then 1 else 0)) room (fun x => if x = c0 then ch else slot x) cost (c0 + 1) n S0 := by
  obtain ⟨G1, G2, G3, G4⟩ := G
  have hi0 := G1 c0 (by omega) hc0
  have h17 : d 17 < 1000000 := sG_reach17 W hi0.1 (by
    rw [G2 _ hi0.1]
    have := sCnt_pos (f := slot0) (lo := 0) hc0 (by omega)
    omega)
  have h16 : d 16 < 1000000 := sG_reach W h17 (by
    rw [G2 16 (Nat.le_refl _)]
    have := sCnt_le (f := slot0) (lo := 0) (s := 16) n
    omega)
  obtain ⟨g1, g2, g3, g4⟩ := sAl_end W (fun x hx hxn => G1 x (by omega) hxn) hcs hc0 A h16 h17 hch hcc hdc hmin
  refine ⟨fun x _ hx => ?_, fun s hs => ?_, ⟨d, sPot_sub (by omega) g1, sWays_bd W⟩, ?_⟩
  · by_cases hx0 : c0 ≤ x
    · exact g2 x hx0 hx
    · simp only [if_neg (show ¬ x = c0 by omega)]
      rcases A.2.2.1 x with q | ⟨q, -⟩
      · rw [q]; exact G1 x (by omega) hx
      · omega
  · rw [sCnt_set (f := slot) (g := fun x => if x = c0 then ch else slot x) (lo := 0) hc0 (by omega) (fun x hx => by simp only [if_neg hx])]
    simp only [if_true]
    rw [A.2.2.2.2.2.2 s hs, g3, sIf ch s, sIf (slot0 c0) s]; omega
  · have h1 := hmin (slot0 c0) hi0.1 hi0.2 (by rw [W.1]; omega)
    rw [W.1] at h1
    have h2 : sSum (fun x => cost x (if x = c0 then ch else slot x)) n ≤ S0 := by rw [g4]; omega
    exact h2
end SL
