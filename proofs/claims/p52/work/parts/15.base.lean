/-! The words in which my contracts speak: the array classes of a start, a world, what a throw needs. -/
/-- the classes' numbers, the fields' places, and the classes of int[], boolean[], Vessel[], int[][], long[] -/
abbrev xG : Type := (Nat → ClassId) × (Nat → Nat → Nat) × ClassId × ClassId × ClassId × ClassId × ClassId
abbrev xD (g : xG) : va_G := (g.1, g.2.1)
abbrev xI (g : xG) : ClassId := g.2.2.1
abbrev xZ (g : xG) : ClassId := g.2.2.2.1
abbrev xV (g : xG) : ClassId := g.2.2.2.2.1
abbrev xM (g : xG) : ClassId := g.2.2.2.2.2.1
abbrev xJ (g : xG) : ClassId := g.2.2.2.2.2.2
abbrev xT (g : xG) : List (ClassId × FieldType) := [(xI g, .int), (xZ g, .boolean), (xV g, .object "Stevedore$Vessel"), (xM g, .array .int)]
/-- a world at a call: the heap's size, the cells, the classes, the cells apart -/
def xB (g : xG) (ws : va_W) (sz : Nat) (U : State) : Prop := U.heap.size = sz ∧ va_P (xD g) vwCl ws U.heap ∧ va_K (xD g) vwCl (xT g) U ∧ va_D (fun _ => True) ws
/-- a world at an end -/
def xE (g : xG) (ws : va_W) (A : Nat → Prop) (t : State) : Prop := va_P (xD g) vwCl ws t.heap ∧ va_K (xD g) vwCl (xT g) t ∧ va_D A ws
theorem xB.mk {g : xG} {s U : State} {H : Heap} {ws : va_W} {A : Nat → Prop} (hP : va_P (xD g) vwCl ws H) (hK : va_K (xD g) vwCl (xT g) s) (hD : va_D A ws) (hU : U.heap = H) (hW : s.WarmedH U.vm) : xB g ws H.size U :=
  ⟨by rw [hU], by rw [hU]; exact hP, va_K.moved hW.alike hK, hD.weaken (fun _ _ _ _ => trivial)⟩
theorem xB.blind {g : xG} {ws : va_W} {sz : Nat} {av : List Value} : FrameBlind (va_Pc av (fun U => xB g ws sz U)) := fun a U gg mk q => by
  obtain ⟨q0, q1, qP, qK, qD⟩ := q
  exact ⟨q0, q1, qP, va_K.moved (u := U) (U := U.calling gg mk a) (Vm.Alike.refl U.vm) qK, qD⟩
/-- a reader frees nothing that was there -/
theorem xNil {sz q : Nat} (h : va_A [] sz q) : sz ≤ q := by
  rcases h with ⟨k, e, h⟩ | h
  · simp at h
  · exact h
theorem xFree {A : Nat → Prop} {H0 H : Heap} {locs : List Loc} (hS : va_S A H0 H locs) (hA : ∀ q : Nat, H0.size ≤ q → A q) : ∀ q, va_A [] H.size q → A q := fun q h => hA q (Nat.le_trans hS.1 (xNil h))
theorem xSame {D : va_G} {cl : List vw_C} {ws : va_W} {H H1 : Heap} (hP : va_P D cl ws H) (hk : ∀ q : Nat, q < H.size → ¬ va_A [] H.size q → H1[q]? = H[q]?) : va_P D cl ws H1 :=
  hP.kept (fun k q hq => hk q.1 ((hP k q hq).lt) (fun h => absurd (xNil h) (Nat.not_le.mpr ((hP k q hq).lt))))
/-- behind a call whose cells are forgotten, the rest is as it was -/
theorem xJoin0 {A0 : Nat → Prop} {D : va_G} {cl : List vw_C} {ws wc wr : va_W} {H H1 : Heap} (hP : va_P D cl ws H) (hD : va_D A0 ws) (isC isR : List Nat) (hC : isC.map (fun i => ws[i]?) = wc.map some) (hR : isR.map (fun i => ws[i]?) = wr.map some) (hn : va_nd isR = true) (hdis : ∀ i ∈ isR, i ∉ isC)
    (hk : ∀ q : Nat, q < H.size → ¬ va_A wc H.size q → H1[q]? = H[q]?) (hF : ∀ q, va_A wc H.size q → A0 q) : va_P D cl wr H1 ∧ va_D A0 wr := by
  have h := va_join (w1 := []) hP hD isC isR hC hR hn hdis hk hF (fun k q h => by simp at h) ⟨fun i j p q h => by simp at h, fun k q h => by simp at h⟩
  rw [List.append_nil] at h
  exact h
/-- what a throw leaves: nothing old but what was written -/
theorem xFx {A : Nat → Prop} {s t : State} {H : Heap} {locs : List Loc} (hS : va_S A s.heap H locs) (hsz : H.size ≤ t.heap.size) (hk : ∀ q : Nat, q < H.size → t.heap[q]? = H[q]?) : va_F A s t :=
  ⟨Nat.le_trans hS.1 hsz, fun q h1 h2 => (hk q (Nat.lt_of_lt_of_le h1 hS.1)).trans (hS.2.1 q h1 h2)⟩
/-- what a new int[] is of is the start's -/
theorem xIEq {g : xG} {s : State} {cA : ClassId} (h : va_K (xD g) vwCl (xT g ++ [(cA, .int)]) s) : cA = xI g := by
  have h1 := va_nm_int (h.2 4 (cA, .int) rfl).2
  have h2 := va_nm_int (h.2 0 (xI g, .int) rfl).2
  exact Option.some.inj (h1.symm.trans h2)
theorem xZEq {g : xG} {s : State} {cA : ClassId} (h : va_K (xD g) vwCl (xT g ++ [(cA, .boolean)]) s) : cA = xZ g := by
  have h1 := va_nm_boolean (h.2 4 (cA, .boolean) rfl).2
  have h2 := va_nm_boolean (h.2 1 (xZ g, .boolean) rfl).2
  exact Option.some.inj (h1.symm.trans h2)
theorem xVEq {g : xG} {s : State} {cA : ClassId} (h : va_K (xD g) vwCl (xT g ++ [(cA, .object "Stevedore$Vessel")]) s) : cA = xV g := by
  have h1 := va_nmO (nm := "[LStevedore$Vessel;") (h.2 4 (cA, .object "Stevedore$Vessel") rfl).2 (by decide +kernel)
  have h2 := va_nmO (nm := "[LStevedore$Vessel;") (h.2 2 (xV g, .object "Stevedore$Vessel") rfl).2 (by decide +kernel)
  exact Option.some.inj (h1.symm.trans h2)
theorem xMEq {g : xG} {s : State} {cA : ClassId} (h : va_K (xD g) vwCl (xT g ++ [(cA, .array .int)]) s) : cA = xM g :=
  Option.some.inj ((show s.vm.findClass ("[" ++ (FieldType.array .int).toString) = some cA from (h.2 4 (cA, .array .int) rfl).2).symm.trans (show s.vm.findClass ("[" ++ (FieldType.array .int).toString) = some (xM g) from (h.2 3 (xM g, .array .int) rfl).2))
section XALD
variable {p : Program} {l : Launch} {e : Env} {R : Room} {s : State} {m : MethodId} {args : Array Value} {below : List Frame} {meth : Method} {c : Code} {H : Heap} {locs : List Loc} {cells slots : Nat} {Q : State → Prop}
variable {cc : ByteArray} {pc : Nat} {ls : Array Slot} {rest : List Value} {D : va_G} {cl : List vw_C} {a : Nat} {tys : List (ClassId × FieldType)} {ws : va_W}
/-- a row of an array of arrays -/
theorem xAldM (hexec : p.tables.exec = Jvm.exec) (hb : c.code = cc) (hK : va_K D cl tys s) (hP : va_P D cl ws H) (q0 t0 : Nat) {cA : ClassId} {n : Nat} {f : Nat → Option Nat} (ha : ws[q0]? = some (a, .inl (cA, n, .inr (.inr (.inr (.inr f)))))) (ht : tys[t0]? = some (cA, .array .int)) {i : Int32} (hin : vp_in i n) (hdg : decode cc pc = .ok (.aaload, 1))
    (kk : W p l e R s m args below meth c H locs cells slots Q (F0 m (pc + 1) ls (va_rf (f i.toNatClampNeg) :: rest))) : W p l e R s m args below meth c H locs cells slots Q (F0 m pc ls (.int i :: .ref a :: rest)) := by
  have hlt : i.toNatClampNeg < n := Nat.not_le.mp fun q => hin (Or.inr q)
  exact W.aald (v := va_rf (f i.toNatClampNeg)) (ty := .array .int) hexec hb (hP q0 _ ha) ((hK.2 t0 _ ht).1 n (fun j => va_rf (f j))) rfl (fun q => by cases q) (by show ¬ (i < 0 ∨ (arrV _ _ _).slots.size ≤ _); rw [arrV_size]; exact hin) (by show (arrV _ _ _).slots[_]? = _; rw [arrV_read _ _ hlt]) rfl rfl hdg kk
end XALD
