/-! THE CLAIM OUT OF ONE WALK OF THE LAW'S BODY. Your part is whole_start (and what it stands on); all else here is the same for every law, but numbers. -/
def R_law : String := "StevedoreLaw"
def lw_P (b : Addr) (xs : List Int32) (args : Array Value) (s : State) : Prop := args = #[.ref b] ∧ s.IntsAt b xs ∧ xs.length ≤ 260 ∧ (Jvm.Cond.and given_1 narrow_1).before args s = true
/-- what a walk over the start with the record d0 says of its end, said of the start itself -/
theorem lw_closed {s t : State} {o : Outcome} {d0 : Drawn} {L : List Loc} {k n : Nat} (hd0 : s.drawn.sameBut d0 lw_cs) (hv : ∃ v, o = .returned v) (hW : (s.setDrawn d0).WarmedH t.vm) (hs : (s.setDrawn d0).sameButNew ({ t with vm := s.vm } : State) L k n) : State.butDraws s t lw_cs (fun t1 => Framed s o t1 L k n) := by
  have h2 : t.drawn = d0 := congrArg State.drawn hs.1
  refine ⟨⟨hv, hW, State.sameButNew.setDrawn hs s.drawn⟩, ?_, by decide⟩
  rw [h2]
  exact hd0
def lw_Q (_ : Array Value) (s : State) (o : Outcome) (t : State) : Prop := o = .returned (some (.int 1)) ∧ State.butDraws s t lw_cs (fun t1 => Framed s o t1 [] 600086 7301442)
def lw_Z (below : List Frame) (a : Array Value) (s : State) : State → Prop := fun t => ∃ o, t.status = .running ∧ Ended t below o ∧ lw_Q a s o t
/-- the law's own end, with 1 on the stack, nothing written that was there before, its room as the claim has it; d0: the record of draws at this point (at the entry s.drawn: begin with 'refine W.base ?_' and 'have hd0 := Drawn.sameBut.refl s.drawn lw_cs') -/
theorem lw_ret {p : Program} {l : Launch} {e : Env} {s : State} {m : MethodId} {below : List Frame} {meth : Method} {c : Code} {b : Nat} {d0 : Drawn} (hd0 : s.drawn.sameBut d0 lw_cs) (hx : p.tables.exec = Jvm.exec) (hb : c.code = code) (hr : meth.sig.returnType = ret) (hlocks : meth.locks = false) {pc : Nat} {H : Heap} {ls : Array Slot} (hdg : decode code pc = .ok (.ireturn, 1)) : W p l e room_1 (s.setDrawn d0) m #[Value.ref b] below meth c H [] 600086 7301442 (lw_Z below #[Value.ref b] s) (F0 m pc ls [.int 1]) := by
  intro T hT X
  obtain ⟨fs, hret, hrun, hended, hW, hframe⟩ := X.leave (v := some (.int 1)) (hlocks := hlocks) (fun h => by rw [hr] at h; cases h)
  have hmeth' : T.vm.method? m = some meth := X.method'
  refine ⟨T.setFrames fs, ?_, .returned (some (.int 1)), hrun, hended, rfl, lw_closed hd0 ⟨_, rfl⟩ hW hframe⟩
  jvm_step X.here [X.here.top, hx, hb, hdg, hmeth', hr, ret, narrow_b1]
  (try refine ⟨rfl, ?_⟩); (try refine ⟨rfl, ?_⟩)
  first | (intro acts; rw [hret _ acts rfl rfl rfl]) | rw [hret _ _ rfl rfl rfl]
  exact Steps.refl _
/-- what holds at the law's entry: the machine, the code, the tables' words (any of lw_tbl by 'hts w (by decide +kernel)'), the script of L ints xs at the cell b, what the Statement gives of the start (any of its parts by flat_of_before) -/
def lw_At (p : Program) (s : State) (m : MethodId) (meth : Method) (c : Code) (b L : Nat) (xs : Nat → Int32) : Prop :=
  p.tables.exec = Jvm.exec ∧ c.code = code ∧ meth.sig.returnType = ret ∧ c.maxLocals = 14 ∧ s.vm.findClass R_law = some m.cls ∧ (∀ w ∈ lw_tbl, w.before #[Value.ref b] s = true) ∧ va_X b L xs s s.heap ∧ b < s.heap.size ∧ meth.locks = false ∧ (Jvm.Cond.and given_1 narrow_1).before #[Value.ref b] s = true
/-- arrays of int[], by the word of the tables -/
theorem xAOAspec {args : Array Value} {s : State} (h : (Cond.arrayOver (.array .int)).before args s = true) : ∃ (c : ClassId) (k : Class) (comp : ClassId), s.vm.findClass ("[" ++ (FieldType.array .int).toString) = some c ∧ s.vm.classes[c]? = some k ∧ k.kind = .array comp (.array .int) := by
  simp only [Cond.before, Cond.holds, Cond.value, beq_iff_eq] at h
  obtain ⟨comp, -, h⟩ := Option.bind_eq_some_iff.mp h
  obtain ⟨c, -, h⟩ := Option.bind_eq_some_iff.mp h
  obtain ⟨k, hk, h⟩ := Option.map_eq_some_iff.mp h
  cases hkind : k.kind with
  | array c0 ty =>
    rw [hkind] at h
    simp only [Bool.and_eq_true, decide_eq_true_eq] at h
    obtain ⟨rfl, h2⟩ := h
    exact ⟨c, k, c0, h2, hk, hkind⟩
  | _ => rw [hkind] at h; simp at h
theorem xArr {args : Array Value} {s : State} {ty : FieldType} (h : (Cond.arrayClass ty).before args s = true) : ∃ c : ClassId, ArrOfT s c ty ∧ s.vm.findClass ("[" ++ ty.toString) = some c := by
  obtain ⟨c, k, comp, h1, h2, h3⟩ := Cond.arrayClass_spec h
  exact ⟨c, fun n z => ⟨fun k h => (by cases h), k, h2, comp, h3⟩, h1⟩

set_option maxRecDepth 100000 in
set_option maxHeartbeats 4000000 in
theorem whole_start {p : Program} {e : Env} {s : State} {m : MethodId} {below : List Frame} {meth : Method} {c : Code} (l : Launch) (hflags : l.flags = flags0) {b L : Nat} {xs : Nat → Int32} (hL : L ≤ 260) (C0 : lw_At p s m meth c b L xs) : W p l e room_1 s m #[Value.ref b] below meth c s.heap [] 0 0 (lw_Z below #[Value.ref b] s) (entryFrame m ([Value.ref b] : List Value).toArray 14) := by
  obtain ⟨hx, hb, hr, hml, hown, hts, hX, hbl, hlocks, hgv⟩ := C0
  have hcls : ∀ k : Nat, ∃ q : ClassId × (Nat → Nat), ∀ r : vw_C, vwCl[k]? = some r → u_Kn s r.1 r.2.1 r.2.2 q.1 q.2 := by
    intro k
    match k with
    | 0 => obtain ⟨cC, iS, h⟩ := u_known (C := RX0) (T := TX0) (N := 2) hts inX0 (hts (.instantiable RX0 2) (by decide +kernel)); exact ⟨(cC, iS), fun r hr => by have hr : some (RX0, TX0, 2) = some r := hr; cases hr; exact h⟩
    | 1 => obtain ⟨cC, iS, h⟩ := u_known (C := RX1) (T := TX1) (N := 14) hts inX1 (hts (.instantiable RX1 14) (by decide +kernel)); exact ⟨(cC, iS), fun r hr => by have hr : some (RX1, TX1, 14) = some r := hr; cases hr; exact h⟩
    | 2 => obtain ⟨cC, iS, h⟩ := u_known (C := RX2) (T := TX2) (N := 6) hts inX2 (hts (.instantiable RX2 6) (by decide +kernel)); exact ⟨(cC, iS), fun r hr => by have hr : some (RX2, TX2, 6) = some r := hr; cases hr; exact h⟩
    | 3 => obtain ⟨cC, iS, h⟩ := u_known (C := RX3) (T := TX3) (N := 4) hts inX3 (hts (.instantiable RX3 4) (by decide +kernel)); exact ⟨(cC, iS), fun r hr => by have hr : some (RX3, TX3, 4) = some r := hr; cases hr; exact h⟩
    | 4 => obtain ⟨cC, iS, h⟩ := u_known (C := RX4) (T := TX4) (N := 4) hts inX4 (hts (.instantiable RX4 4) (by decide +kernel)); exact ⟨(cC, iS), fun r hr => by have hr : some (RX4, TX4, 4) = some r := hr; cases hr; exact h⟩
    | 5 => obtain ⟨cC, iS, h⟩ := u_known (C := RX5) (T := TX5) (N := 8) hts inX5 (hts (.instantiable RX5 8) (by decide +kernel)); exact ⟨(cC, iS), fun r hr => by have hr : some (RX5, TX5, 8) = some r := hr; cases hr; exact h⟩
    | 6 => obtain ⟨cC, iS, h⟩ := u_known (C := RX6) (T := TX6) (N := 11) hts inX6 (hts (.instantiable RX6 11) (by decide +kernel)); exact ⟨(cC, iS), fun r hr => by have hr : some (RX6, TX6, 11) = some r := hr; cases hr; exact h⟩
    | 7 => obtain ⟨cC, iS, h⟩ := u_known (C := RX7) (T := TX7) (N := 11) hts inX7 (hts (.instantiable RX7 11) (by decide +kernel)); exact ⟨(cC, iS), fun r hr => by have hr : some (RX7, TX7, 11) = some r := hr; cases hr; exact h⟩
    | 8 => obtain ⟨cC, iS, h⟩ := u_known (C := RX8) (T := TX8) (N := 15) hts inX8 (hts (.instantiable RX8 15) (by decide +kernel)); exact ⟨(cC, iS), fun r hr => by have hr : some (RX8, TX8, 15) = some r := hr; cases hr; exact h⟩
    | n + 9 => exact ⟨(m.cls, fun _ => 0), fun r hr => by simp [vwCl] at hr⟩
  obtain ⟨F, hF⟩ := Classical.skolem.mp hcls
  obtain ⟨cI, aI, nI_⟩ := xArr (hts (.arrayClass .int) (by decide +kernel))
  obtain ⟨cZ, aZ, nZ⟩ := xArr (hts (.arrayClass .boolean) (by decide +kernel))
  obtain ⟨cM, kM, dM, nM, fM, gM⟩ := xAOAspec (hts (.arrayOver (.array .int)) (by decide +kernel))
  obtain ⟨dV, cV, kV, n1, -, fV, gV, nV⟩ := Cond.arrayOver_spec (hts (.arrayOver (.object "Stevedore$Vessel")) (by decide +kernel))
  let g : xG := (fun k => (F k).1, fun k => (F k).2, cI, cZ, cV, cM, cI)
  have hK : va_K (xD g) vwCl (xT g) s := ⟨fun k q hq => hF k q hq, fun k q hq => by
    match k with
    | 0 => have hq : some (cI, FieldType.int) = some q := hq; cases hq; exact ⟨aI, nI_⟩
    | 1 => have hq : some (cZ, FieldType.boolean) = some q := hq; cases hq; exact ⟨aZ, nZ⟩
    | 2 => have hq : some (cV, FieldType.object "Stevedore$Vessel") = some q := hq; cases hq; exact ⟨fun n z => ⟨fun k h => (by cases h), kV, fV, dV, gV⟩, kV, dV, fV, gV, n1, nV⟩
    | 3 => have hq : some (cM, FieldType.array .int) = some q := hq; cases hq; exact ⟨fun n z => ⟨fun k h => (by cases h), kM, fM, dM, gM⟩, nM⟩
    | n + 4 => simp [xT] at hq⟩
  have hO : xO s := ⟨fun args => by have h := hts (.arrayOver (.array .int)) (by decide +kernel); simp only [Cond.before, Cond.holds, Cond.value] at h ⊢; exact h, va_AO.of (hts (.arrayOver (.object "Stevedore$Vessel")) (by decide +kernel))⟩
  have e9 : s.setDrawn s.drawn = s := by cases s; rfl
  have hd0 := Drawn.sameBut.refl s.drawn lw_cs
  refine law_entry hx hb hml hown (fun w hw => ?_) hX hL hbl hK hO ?_
  · exact hts w (wsL_law_in w hw)
  · intro H locs ls hS
    refine va_forget (fun q hq => hS.2.2 q hq) ?_
    refine W.widen (k := 600086) (n := 7301442) (by omega) (by omega) ?_
    have h := lw_ret (e := e) (l := l) (below := below) (H := H) (ls := ls) hd0 hx hb hr hlocks (b := b) (m := m) dL_law_563
    rw [e9] at h
    exact h
