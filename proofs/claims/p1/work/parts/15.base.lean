/-! The words in which my contracts speak: the array classes of a start, a world, what a throw needs. -/
/-- the classes' numbers, the fields' places, and the classes of int[], boolean[], Vessel[], int[][], long[] -/
abbrev xG : Type := (Nat → ClassId) × (Nat → Nat → Nat) × ClassId × ClassId × ClassId × ClassId × ClassId
abbrev xD (g : xG) : va_G := (g.1, g.2.1)
abbrev xI (g : xG) : ClassId := g.2.2.1
abbrev xZ (g : xG) : ClassId := g.2.2.2.1
abbrev xV (g : xG) : ClassId := g.2.2.2.2.1
abbrev xM (g : xG) : ClassId := g.2.2.2.2.2.1
abbrev xJ (g : xG) : ClassId := g.2.2.2.2.2.2
abbrev xT (g : xG) : List (ClassId × FieldType) := [(xI g, .int), (xZ g, .boolean), (xV g, .object "Stevedore$Vessel"), (xM g, .array .int), (xJ g, .long)]
/-- a world at a call: the heap's size, the cells, the classes, the cells apart -/
def xB (g : xG) (ws : va_W) (sz : Nat) (U : State) : Prop := U.heap.size = sz ∧ va_P (xD g) vwCl ws U.heap ∧ va_K (xD g) vwCl (xT g) U ∧ va_D (fun _ => True) ws
/-- a world at an end -/
def xE (g : xG) (ws : va_W) (A : Nat → Prop) (t : State) : Prop := va_P (xD g) vwCl ws t.heap ∧ va_K (xD g) vwCl (xT g) t ∧ va_D A ws
/-- the texts of the exceptions, by their places -/
def xStr : List (Nat × String) := [(100, "no more vessels"), (132, "no more containers"), (165, "no more stacks"), (178, "no such range"), (225, "no such place"), (236, "no such berth"), (313, "no container there"), (364, "out of its bounds"), (367, "less than 0"), (369, "no such vessel"), (371, "no such bay"), (373, "no such container"), (375, "no such slot"), (377, "no such stack"), (379, "no such event"), (381, "no vessel"), (383, "no plan"), (385, "no slots were given")]
abbrev xNm : List String := ["java/lang/RuntimeException", "java/lang/Exception"]
def xDec : List MethodName := [Bundle.initS "java/lang/RuntimeException", Bundle.initS "java/lang/Exception", Bundle.initS Bundle.tN]
def xCas : List String := ["java/lang/IllegalArgumentException", "java/lang/IllegalStateException", "java/lang/IndexOutOfBoundsException"]
def xNcs : List (String × String) := [("java/lang/IllegalArgumentException", "java/lang/IllegalStateException"), ("java/lang/IllegalArgumentException", "java/lang/IndexOutOfBoundsException"), ("java/lang/IllegalStateException", "java/lang/IllegalArgumentException"), ("java/lang/IllegalStateException", "java/lang/IndexOutOfBoundsException"), ("java/lang/IndexOutOfBoundsException", "java/lang/IllegalArgumentException"), ("java/lang/IndexOutOfBoundsException", "java/lang/IllegalStateException")]
def xBad (X : String) : List Cond := [.declares (Bundle.initS "java/lang/RuntimeException"), .declares (Bundle.initS "java/lang/Exception"), .declares (Bundle.initS Bundle.tN), .castable X X]
/-- what a throw needs of two statics, of the texts, and of some words that no list keeps -/
def xU (A : Nat → Prop) (U : State) : Prop := vx_Zq Bundle.tN "UNASSIGNED_STACK" Bundle.steD A U U.heap ∧ vx_Zq Bundle.tN "SUPPRESSED_SENTINEL" Bundle.listD A U U.heap ∧ (∀ q ∈ xStr, ∃ a : Nat, vk_R RX8 q.1 q.2 a U) ∧ (∀ x ∈ xDec, va_Nw (.declares x) U) ∧ (∀ c ∈ xCas, va_Nw (.castable c c) U) ∧ ∀ q ∈ xNcs, va_Nc q.1 q.2 U
theorem xU.call {A B : Nat → Prop} {s U : State} {H : Heap} {locs : List Loc} (h : xU A s) (hS : va_S A s.heap H locs) (hAB : ∀ q, B q → A q) (hU : U.heap = H) (hW : s.WarmedH U.vm) : xU B U := by
  obtain ⟨h1, h2, h3, h4, h5, h6⟩ := h
  refine ⟨?_, ?_, fun q hq => ?_, fun x hx => va_Nw.warmD hW (h4 x hx), fun c hc => va_Nw.warmC hW (h5 c hc), fun q hq => va_Nc.moved hW.alike (h6 q hq)⟩
  · rw [hU]
    exact (vx_Zq.moved hW.alike (h1.kept hS.2.1)).narrow hAB
  · rw [hU]
    exact (vx_Zq.moved hW.alike (h2.kept hS.2.1)).narrow hAB
  · obtain ⟨a, ha⟩ := h3 q hq
    exact ⟨a, vk_R.warm hW ha⟩
theorem xB.mk {g : xG} {s U : State} {H : Heap} {ws : va_W} {A : Nat → Prop} (hP : va_P (xD g) vwCl ws H) (hK : va_K (xD g) vwCl (xT g) s) (hD : va_D A ws) (hU : U.heap = H) (hW : s.WarmedH U.vm) : xB g ws H.size U :=
  ⟨by rw [hU], by rw [hU]; exact hP, va_K.moved hW.alike hK, hD.weaken (fun _ _ _ _ => trivial)⟩
theorem xB.blind {g : xG} {ws : va_W} {sz : Nat} {av : List Value} : FrameBlind (va_Pc av (fun U => xB g ws sz U)) := fun a U gg mk q => by
  obtain ⟨q0, q1, qP, qK, qD⟩ := q
  exact ⟨q0, q1, qP, va_K.moved (u := U) (U := U.calling gg mk a) (Vm.Alike.refl U.vm) qK, qD⟩
theorem xU.calling {A : Nat → Prop} {U : State} {gg : JFrame} {mk : MethodId} {a : Array Value} (h : xU A U) : xU A (U.calling gg mk a) := by
  obtain ⟨h1, h2, h3, h4, h5, h6⟩ := h
  refine ⟨vx_Zq.moved (u := U) (U := U.calling gg mk a) (Vm.Alike.refl U.vm) h1, vx_Zq.moved (u := U) (U := U.calling gg mk a) (Vm.Alike.refl U.vm) h2, fun q hq => ?_, fun x hx => va_Nw.same (u := U) (U := U.calling gg mk a) rfl rfl (h4 x hx), fun c hc => va_Nw.same (u := U) (U := U.calling gg mk a) rfl rfl (h5 c hc), fun q hq => va_Nc.moved (u := U) (U := U.calling gg mk a) (Vm.Alike.refl U.vm) (h6 q hq)⟩
  obtain ⟨b, hb⟩ := h3 q hq
  exact ⟨b, vk_R.same (u := U) (U := U.calling gg mk a) rfl hb⟩
theorem xBU.blind {g : xG} {ws : va_W} {sz : Nat} {A : Nat → Prop} {av : List Value} : FrameBlind (va_Pc av (fun U => xB g ws sz U ∧ xU A U)) := fun a U gg mk q => by
  obtain ⟨q0, ⟨q1, qP, qK, qD⟩, qU⟩ := q
  exact ⟨q0, ⟨q1, qP, va_K.moved (u := U) (U := U.calling gg mk a) (Vm.Alike.refl U.vm) qK, qD⟩, qU.calling⟩
/-- a reader frees nothing that was there -/
theorem xNil {sz q : Nat} (h : va_A [] sz q) : sz ≤ q := by
  rcases h with ⟨k, e, h⟩ | h
  · simp at h
  · exact h
theorem xFree {A : Nat → Prop} {H0 H : Heap} {locs : List Loc} (hS : va_S A H0 H locs) (hA : ∀ q : Nat, H0.size ≤ q → A q) : ∀ q, va_A [] H.size q → A q := fun q h => hA q (Nat.le_trans hS.1 (xNil h))
theorem xSame {D : va_G} {cl : List vw_C} {ws : va_W} {H H1 : Heap} (hP : va_P D cl ws H) (hk : ∀ q : Nat, q < H.size → ¬ va_A [] H.size q → H1[q]? = H[q]?) : va_P D cl ws H1 :=
  hP.kept (fun k q hq => hk q.1 ((hP k q hq).lt) (fun h => absurd (xNil h) (Nat.not_le.mpr ((hP k q hq).lt))))
/-- behind a call whose cells are forgotten, the rest is as it was -/
theorem xJoin0 {A0 : Nat → Prop} {D : va_G} {cl : List vw_C} {ws wc wr : va_W} {H H1 : Heap} (hP : va_P D cl ws H) (hD : va_D A0 ws) (isC isR : List Nat) (hC : isC.map (fun i => ws[i]?) = wc.map some) (hR : isR.map (fun i => ws[i]?) = wr.map some) (hn : va_nd isR = true) (hdis : ∀ i ∈ isR, i ∉ isC)
    (hk : ∀ q : Nat, q < H.size → ¬ va_A wc H.size q → H1[q]? = H[q]?) (hF : ∀ q, va_A wc H.size q → A0 q) : va_P D cl wr H1 ∧ va_D A0 wr := by
  have h := va_join (w1 := []) hP hD isC isR hC hR hn hdis hk hF (fun k q h => by simp at h) ⟨fun i j p q h => by simp at h, fun k q h => by simp at h⟩
  rw [List.append_nil] at h
  exact h
/-- what a throw leaves: nothing old but what was written -/
theorem xFx {A : Nat → Prop} {s t : State} {H : Heap} {locs : List Loc} (hS : va_S A s.heap H locs) (hsz : H.size ≤ t.heap.size) (hk : ∀ q : Nat, q < H.size → t.heap[q]? = H[q]?) : va_F A s t :=
  ⟨Nat.le_trans hS.1 hsz, fun q h1 h2 => (hk q (Nat.lt_of_lt_of_le h1 hS.1)).trans (hS.2.1 q h1 h2)⟩
/-- what a new int[] is of is the start's -/
theorem xIEq {g : xG} {s : State} {cA : ClassId} (h : va_K (xD g) vwCl (xT g ++ [(cA, .int)]) s) : cA = xI g := by
  have h1 := va_nm_int (h.2 5 (cA, .int) rfl).2
  have h2 := va_nm_int (h.2 0 (xI g, .int) rfl).2
  exact Option.some.inj (h1.symm.trans h2)
theorem xZEq {g : xG} {s : State} {cA : ClassId} (h : va_K (xD g) vwCl (xT g ++ [(cA, .boolean)]) s) : cA = xZ g := by
  have h1 := va_nm_boolean (h.2 5 (cA, .boolean) rfl).2
  have h2 := va_nm_boolean (h.2 1 (xZ g, .boolean) rfl).2
  exact Option.some.inj (h1.symm.trans h2)
theorem xJEq {g : xG} {s : State} {cA : ClassId} (h : va_K (xD g) vwCl (xT g ++ [(cA, .long)]) s) : cA = xJ g := by
  have h1 := va_nm_long (h.2 5 (cA, .long) rfl).2
  have h2 := va_nm_long (h.2 4 (xJ g, .long) rfl).2
  exact Option.some.inj (h1.symm.trans h2)
theorem xVEq {g : xG} {s : State} {cA : ClassId} (h : va_K (xD g) vwCl (xT g ++ [(cA, .object "Stevedore$Vessel")]) s) : cA = xV g := by
  have h1 := va_nmO (nm := "[LStevedore$Vessel;") (h.2 5 (cA, .object "Stevedore$Vessel") rfl).2 (by decide +kernel)
  have h2 := va_nmO (nm := "[LStevedore$Vessel;") (h.2 2 (xV g, .object "Stevedore$Vessel") rfl).2 (by decide +kernel)
  exact Option.some.inj (h1.symm.trans h2)
theorem xMEq {g : xG} {s : State} {cA : ClassId} (h : va_K (xD g) vwCl (xT g ++ [(cA, .array .int)]) s) : cA = xM g :=
  Option.some.inj ((show s.vm.findClass ("[" ++ (FieldType.array .int).toString) = some cA from (h.2 5 (cA, .array .int) rfl).2).symm.trans (show s.vm.findClass ("[" ++ (FieldType.array .int).toString) = some (xM g) from (h.2 3 (xM g, .array .int) rfl).2))
/-- the words of a throw: the good ones among the method's own, the four others by xU -/
theorem xHat {args : Array Value} {s : State} {A : Nat → Prop} {W : List Cond} {own X : String} {ic : Nat} (hU : xU A s) (hX : X ∈ xCas) (hts : ∀ w ∈ W, w.before args s = true) (hsub : ∀ w ∈ (vx_atS own ic X xNm).filter goodWord, w ∈ W) (hbad : ∀ w ∈ (vx_atS own ic X xNm).filter (fun w => !goodWord w), w ∈ xBad X) : ∀ w ∈ vx_atS own ic X xNm, w.before args s = true := by
  obtain ⟨-, -, -, h4, h5, -⟩ := hU
  exact vx_hat (fun w hw => hts w (hsub w hw)) hbad (vx_c (va_Nw.use rfl (h4 _ (by simp [xDec]))) (vx_c (va_Nw.use rfl (h4 _ (by simp [xDec]))) (vx_c (va_Nw.use rfl (h4 _ (by simp [xDec]))) (vx_c (va_Nw.use rfl (h5 X hX)) vx_n))))
