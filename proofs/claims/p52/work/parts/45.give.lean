/-! What the giver of slots needs of its loops, as numbers alone. -/
section SG
variable {E : Nat → Nat → Int → Int → Prop} {goal : Nat} {h : Nat → Int}
theorem sBF_low {d : Nat → Int} {nx : Nat → Nat} {pu : Nat → Int} {t : Nat → Nat} {T : Nat} (hp : sPot E h) (hb : ∀ u, -680 ≤ h u ∧ h u ≤ 1000000) (B : sBF E goal d nx pu t T) (u : Nat) : -1000680 ≤ d u := by
  by_cases hu : d u < 1000000
  · obtain ⟨i, hw⟩ := B.2.2.2.1 u hu
    have h1 := sWk_low hp i u _ hw
    have h2 := hb u
    have h3 := hb goal
    omega
  · omega
theorem sBF_try {d d1 : Nat → Int} {nx n1 : Nat → Nat} {pu p1 : Nat → Int} (hp : sPot E h) (B : ∃ t T, sBF E goal d nx pu t T) {u v : Nat} {w p tg : Int} (he : E u v w p) (htg : tg = w + d v) (hw : 0 ≤ w ∨ d v < 1000000)
    (hc : (tg < d u → d1 = zU d u tg ∧ n1 = nV nx u v ∧ p1 = zU pu u p) ∧ (¬ tg < d u → d = d1 ∧ nx = n1 ∧ pu = p1)) :
    (∃ t T, sBF E goal d1 n1 p1 t T) ∧ (∀ x, d1 x ≤ d x) ∧ d1 u ≤ tg ∧ (∀ x, x ≠ u → d1 x = d x) := by
  obtain ⟨t, T, B⟩ := B
  by_cases hlt : tg < d u
  · obtain ⟨rfl, rfl, rfl⟩ := hc.1 hlt
    have hu := B.2.2.1 u
    have hv : d v < 1000000 := by omega
    have h1 := sBF_step hp B he hv (by omega)
    rw [← htg] at h1
    refine ⟨⟨_, _, h1⟩, fun x => ?_, by simp [zU], fun x hx => by simp [zU, hx]⟩
    unfold zU; split
    · next q => rw [q]; omega
    · omega
  · obtain ⟨rfl, rfl, rfl⟩ := hc.2 hlt
    exact ⟨⟨t, T, B⟩, fun x => Int.le_refl _, by omega, fun x _ => rfl⟩
/-- the arcs over spare room of the first k slots were looked at -/
def sP1 (used room d d1 : Nat → Int) (k : Nat) : Prop := ∀ s, s < k → (used s < room s → d1 s ≤ d 17) ∧ (0 < used s → d1 17 ≤ d s)
theorem sP1_more {used room d d1 d2 : Nat → Int} {k : Nat} (h : sP1 used room d d1 k) (hle : ∀ x, d2 x ≤ d1 x) (h1 : used k < room k → d2 k ≤ d 17) (h2 : 0 < used k → d2 17 ≤ d k) : sP1 used room d d2 (k + 1) := by
  intro s hs
  by_cases hk : s = k
  · subst hk; exact ⟨h1, h2⟩
  · have a := h s (by omega)
    have b := hle s
    have c := hle 17
    exact ⟨fun q => by have := a.1 q; omega, fun q => by have := a.2 q; omega⟩
/-- the arcs from the slot of a container to the first k were looked at -/
def sP2 (cost : Nat → Nat → Int) (d d1 : Nat → Int) (c f k : Nat) : Prop := ∀ s, s < k → s ≠ f → cost c s < 1000000 → d s < 1000000 → d1 f ≤ cost c s - cost c f + d s
theorem sP1_mono {used room d d1 d2 : Nat → Int} {k : Nat} (h : sP1 used room d d1 k) (hle : ∀ x, d2 x ≤ d1 x) : sP1 used room d d2 k := fun s hs => by
  have a := h s hs
  have b := hle s
  have c := hle 17
  exact ⟨fun q => by have := a.1 q; omega, fun q => by have := a.2 q; omega⟩
theorem sP2_mono {cost : Nat → Nat → Int} {d d0 d1 d2 : Nat → Int} {c f k : Nat} (h : sP2 cost d d1 c f k) (h0 : ∀ x, d x ≤ d0 x) (hle : ∀ x, d2 x ≤ d1 x) : sP2 cost d0 d2 c f k := fun s hs hf hc hd => by
  have a := h0 s
  have b := h s hs hf hc (by omega)
  have c := hle f
  omega
theorem sPs {used room : Nat → Int} {slot : Nat → Nat} {cost : Nat → Nat → Int} {fp n : Nat} {d d1 : Nat → Int} (h1 : sP1 used room d d1 17) (h2 : ∀ c, fp ≤ c → c < n → sP2 cost d d1 c (slot c) 17) : ∀ (u v : Nat) (w p : Int), sE used room slot cost fp n u v w p → d v < 1000000 → d1 u ≤ w + d v := by
  intro u v w p he hv
  rcases he with ⟨a1, a2, a3, -, a5⟩ | ⟨a1, a2, a3, -, a5⟩ | ⟨c, a1, a2, a3, a4, a5, a6, a7, -⟩
  · have := (h1 u (by omega)).1 a5; rw [a2, a3]; omega
  · have := (h1 v (by omega)).2 a5; rw [a1, a3]; omega
  · rw [a3] at a5 a7 ⊢
    have := h2 c a1 a2 v (by omega) a5 a6 hv
    omega
theorem sNo18 {t : Nat → Nat} (h : ∃ f : Nat → Nat, (∀ j, j ≤ 18 → f j ≤ 17) ∧ (∀ j, j < 18 → t (f (j + 1)) < t (f j))) : False := by
  obtain ⟨f, h1, h2⟩ := h
  obtain ⟨i, j, a1, a2, a3⟩ := sPigeon 18 f (fun j hj => by have := h1 j hj; omega)
  have key : ∀ m, i + 1 + m ≤ 18 → t (f (i + 1 + m)) < t (f i) := by
    intro m
    induction m with
    | zero => intro hm; exact h2 i (by omega)
    | succ m ih => intro hm; have := ih (by omega); have := h2 (i + 1 + m) (by omega); rw [show i + 1 + (m + 1) = i + 1 + m + 1 by omega]; omega
  have := key (j - i - 1) (by omega)
  rw [show i + 1 + (j - i - 1) = j by omega, a3] at this
  omega
theorem sSeq_more {t nx : Nat → Nat} {i nd : Nat} {f : Nat → Nat} (f1 : ∀ j, j ≤ i → f j ≤ 17) (f2 : ∀ j, j < i → t (f (j + 1)) < t (f j)) (f3 : f i = nd) (hn : nx nd ≤ 17) (hz : t (nx nd) < t nd) : ∃ f : Nat → Nat, (∀ j, j ≤ i + 1 → f j ≤ 17) ∧ (∀ j, j < i + 1 → t (f (j + 1)) < t (f j)) ∧ f (i + 1) = nx nd := by
  refine ⟨fun j => if j ≤ i then f j else nx nd, fun j hj => ?_, fun j hj => ?_, ?_⟩
  · (try dsimp only); split
    · exact f1 j (by omega)
    · exact hn
  · (try dsimp only); rw [if_pos (show j ≤ i by omega)]
    by_cases q : j + 1 ≤ i
    · rw [if_pos q]; exact f2 j (by omega)
    · rw [if_neg q, show j = i by omega, f3]; exact hz
  · (try dsimp only); rw [if_neg (show ¬ i + 1 ≤ i by omega)]
end SG
section SH
variable {used room : Nat → Int} {slot : Nat → Nat} {cost : Nat → Nat → Int} {fp n : Nat}
theorem sAl_push2 {used0 : Nat → Int} {slot0 : Nat → Nat} {lo ch goal node : Nat} {d : Nat → Int} {nx : Nat → Nat} {pu : Nat → Int} {t : Nat → Nat} (W : sWays (sE used0 room slot0 cost fp n) goal d nx pu t) (hin : sIn slot0 cost fp n) (hlo : lo ≤ fp) (hg : node ≠ goal) (A : sAl used0 slot0 cost fp lo n d t ch node used slot) (hpu : 0 ≤ pu node) :
    node ≤ 16 ∧ nx node ≤ 16 ∧ nx node ≠ node ∧ t (nx node) < t node ∧ 1 ≤ used node ∧ used (nx node) + 1 ≤ (n : Int) ∧
    sAl used0 slot0 cost fp lo n d t ch (nx node) (zU (zU used node (used node - 1)) (nx node) (zU used node (used node - 1) (nx node) + 1)) (nV slot (pu node).toNat (nx node)) := by
  obtain ⟨c, c1, c2, c3, c4, c5, c6, c7, c8, A2⟩ := sAl_push W hin hlo hg A hpu
  have e1 := A.2.2.2.2.2.2 node c5
  have e2 := sCnt_pos (f := slot) (lo := lo) c3 (by omega)
  rw [c4] at e2
  have e3 := A2.2.2.2.2.2.2 (nx node) c6
  have e4 := sCnt_le (f := fun x => if x = c then nx node else slot x) (lo := lo) (s := nx node) n
  simp only [if_neg c7, if_true] at e3
  refine ⟨c5, c6, c7, c8, by omega, by omega, ?_⟩
  have f1 : zU (zU used node (used node - 1)) (nx node) (zU used node (used node - 1) (nx node) + 1) = fun s => used s - (if s = node then 1 else 0) + (if s = nx node then 1 else 0) := by
    funext s
    simp only [zU, if_neg c7]
    by_cases q1 : s = nx node
    · have q2 : ¬ s = node := fun e => c7 (q1.symm.trans e)
      rw [if_pos q1, if_neg q2, if_pos q1, q1]; omega
    · rw [if_neg q1, if_neg q1]
      by_cases q2 : s = node
      · rw [if_pos q2, if_pos q2, q2]; omega
      · rw [if_neg q2, if_neg q2]; omega
  have f2 : nV slot (pu node).toNat (nx node) = fun x => if x = c then nx node else slot x := by
    funext x
    simp only [nV, c1, Int.toNat_natCast]
  rw [f1, f2]
  exact A2
/-- what bringIn tells -/
def sBr (used room : Nat → Int) (slot : Nat → Nat) (cost : Nat → Nat → Int) (cn lo n gl : Nat) (us2 : Nat → Int) (sl2 : Nat → Nat) : Prop :=
  ∃ (d2 : Nat → Int) (n2 : Nat → Nat) (p2 : Nat → Int) (tt : Nat → Nat) (us1 : Nat → Int) (sl1 : Nat → Nat) (ch : Nat), sWays (sE used room slot cost (cn + 1) n) gl d2 n2 p2 tt ∧ sAl used slot cost (cn + 1) lo n d2 tt ch gl us1 sl1 ∧ ch ≤ 16 ∧ cost cn ch < 1000000 ∧ d2 ch < 1000000 ∧ (∀ s, s ≤ 16 → cost cn s < 1000000 → d2 s < 1000000 → cost cn ch + d2 ch ≤ cost cn s + d2 s) ∧ us2 = zU us1 ch (us1 ch + 1) ∧ sl2 = nV sl1 cn ch
theorem sBr_G1 {c0 : Nat} {us2 : Nat → Int} {sl2 : Nat → Nat} (G : sG1 used room slot cost (c0 + 1) n) (hcs : sCs cost n) (hc0 : c0 < n) (hr : (n : Int) ≤ room 16) (B : sBr used room slot cost c0 (c0 + 1) n 17 us2 sl2) : sG1 us2 room sl2 cost c0 n := by
  obtain ⟨d2, n2, p2, tt, us1, sl1, ch, b1, b2, b3, b4, b5, b6, rfl, rfl⟩ := B
  have h := sG1_step G b1 hcs hc0 hr b2 b3 b4 b5 b6
  have e1 : zU us1 ch (us1 ch + 1) = fun s => us1 s + (if s = ch then 1 else 0) := by
    funext s
    simp only [zU]
    by_cases q : s = ch
    · rw [if_pos q, if_pos q, q]
    · rw [if_neg q, if_neg q]; omega
  rw [e1]
  exact h
theorem sBr_G2 {c0 : Nat} {S0 : Int} {us2 : Nat → Int} {sl2 : Nat → Nat} (G : sG2 used room slot cost c0 n S0) (hcs : sCs cost n) (hc0 : c0 < n) (hr : (n : Int) < room 16) (B : sBr used room slot cost c0 0 n (slot c0) us2 sl2) : sG2 (zU us2 (slot c0) (us2 (slot c0) - 1)) room sl2 cost (c0 + 1) n S0 ∧ 1 ≤ us2 (slot c0) := by
  have hi0 := G.1 c0 (by omega) hc0
  obtain ⟨d2, n2, p2, tt, us1, sl1, ch, b1, b2, b3, b4, b5, b6, rfl, rfl⟩ := B
  have h := sG2_step G b1 hcs hc0 hr b2 b3 b4 b5 b6
  have e1 : zU (zU us1 ch (us1 ch + 1)) (slot c0) (zU us1 ch (us1 ch + 1) (slot c0) - 1) = fun s => us1 s + (if s = ch then 1 else 0) - (if s = slot c0 then 1 else 0) := by
    funext s
    simp only [zU]
    by_cases q : s = slot c0
    · rw [if_pos q, if_pos q, q]
      by_cases q2 : slot c0 = ch
      · rw [if_pos q2, if_pos q2, q2]
      · rw [if_neg q2, if_neg q2]; omega
    · rw [if_neg q, if_neg q]
      by_cases q2 : s = ch
      · rw [if_pos q2, if_pos q2, q2]; omega
      · rw [if_neg q2, if_neg q2]; omega
  refine ⟨by rw [e1]; exact h, ?_⟩
  have h1 := h.2.1 (slot c0) hi0.1
  have h2 := sCnt_nn (f := fun x => if x = c0 then ch else sl1 x) (lo := 0) (n := n) (s := slot c0)
  rw [← h1] at h2
  simp only [if_true] at h2
  have h3 : zU us1 ch (us1 ch + 1) (slot c0) = us1 (slot c0) + (if slot c0 = ch then 1 else 0) := by
    simp only [zU]
    by_cases q2 : slot c0 = ch
    · rw [if_pos q2, if_pos q2, q2]
    · rw [if_neg q2, if_neg q2]; omega
  rw [h3]; omega
end SH
