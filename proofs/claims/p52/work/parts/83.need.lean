theorem dX8_needWithin_0 : decode cX8_needWithin 0 = .ok (.iload_n 0, 1) := by decide +kernel
theorem dX8_needWithin_1 : decode cX8_needWithin 1 = .ok (.iload_n 1, 1) := by decide +kernel
theorem dX8_needWithin_2 : decode cX8_needWithin 2 = .ok (.if_icmp .lt 8, 3) := by decide +kernel
theorem dX8_needWithin_5 : decode cX8_needWithin 5 = .ok (.iload_n 0, 1) := by decide +kernel
theorem dX8_needWithin_6 : decode cX8_needWithin 6 = .ok (.iload_n 2, 1) := by decide +kernel
theorem dX8_needWithin_7 : decode cX8_needWithin 7 = .ok (.if_icmp .le 14, 3) := by decide +kernel
theorem dX8_needWithin_21 : decode cX8_needWithin 21 = .ok (.return_, 1) := by decide +kernel
set_option maxHeartbeats 4000000 in
set_option maxRecDepth 100000 in
theorem n_within (l : Launch) (g : xG) (sz : Nat) (x : Int) (lo_ : Int) (hi_ : Int)  (h1 : lo_ ≤ x ∧ x ≤ hi_) (h2 : -1000000 ≤ lo_ ∧ hi_ ≤ 1000000) : Met l yX8_needWithin wsX8_needWithin ({ frames := 0, cells := 0, slots := 0, locals := 0 }) (va_Pc [.int (iI x), .int (iI lo_), .int (iI hi_)] (fun U => xB g [] sz U)) (va_Qv (fun (_ : Unit) => True) (fun (_ : Unit) (_ : State) => True) (va_A [] sz)) 0 0 (va_A [] sz) := by
  refine Met.ofW (cc := cX8_needWithin) (maxL := 3) (ret := none) (by decide) rfl ?_
  intro p e s m args below meth c s₁ B hml hv
  obtain ⟨rfl, hsz, hP, hK, hD0⟩ := hv
  have hx := B.exec
  have hb := B.bytes
  have hr := B.returns
  have hts := atoms_spec (ws := wsX8_needWithin) B.pre
  have hown : s.vm.findClass RX8 = some m.cls := findClass_of_methodNamed B.named
  have hlocks := B.notSynchronized
  subst hsz
  have hD := hD0
  generalize hAe : va_A [] s.heap.size = A
  have hA : ∀ q : Nat, s.heap.size ≤ q → A q := fun q h => by rw [← hAe]; exact Or.inr h
  have hS : va_S A s.heap s.heap [] := va_S.rf
  have hl := lv_entry ([.int (iI x), .int (iI lo_), .int (iI hi_)]) (n := 3) (Nat.le_of_ble_eq_true rfl)
  rw [lg_entry_eq]
  generalize (lg_sl ([.int (iI x), .int (iI lo_), .int (iI hi_)]) ++ List.replicate (3 - (lg_sl ([.int (iI x), .int (iI lo_), .int (iI hi_)])).length) Slot.unset).toArray = ls at hl ⊢
  have hl : lv_has ls 3 [(0, .int (iI x)), (1, .int (iI lo_)), (2, .int (iI hi_))] := hl
  refine lv_iload_n hx hb dX8_needWithin_0 rfl (lv_at hl 0 rfl) ?_
  refine lv_iload_n hx hb dX8_needWithin_1 rfl (lv_at hl 1 rfl) ?_
  refine lv_icmp_lt (tgt := 10) hx hb dX8_needWithin_2 (by decide) (fun c_1 => ?_) (fun c_1 => ?_)
  · have nc_1 := (iLt (a := x) (b := lo_) rfl rfl (by omega)).mp c_1
    (exfalso; omega)
  · have nc_1 := mt (iLt (a := x) (b := lo_) rfl rfl (by omega)).mpr c_1
    refine lv_iload_n hx hb dX8_needWithin_5 rfl (lv_at hl 0 rfl) ?_
    refine lv_iload_n hx hb dX8_needWithin_6 rfl (lv_at hl 2 rfl) ?_
    refine lv_icmp_le (tgt := 21) hx hb dX8_needWithin_7 (by decide) (fun c_2 => ?_) (fun c_2 => ?_)
    · have nc_2 := (iLe (a := x) (b := hi_) rfl rfl (by omega)).mp c_2
      exact W.vret hx hb hr (fun t ht hW => ⟨⟨(), rfl, (by first | trivial | rfl | assumption | omega), trivial⟩, hS.F ht⟩) hS.2.2 dX8_needWithin_21
    · have nc_2 := mt (iLe (a := x) (b := hi_) rfl rfl (by omega)).mpr c_2
      (exfalso; omega)
theorem dX8_needNotNegative_0 : decode cX8_needNotNegative 0 = .ok (.iload_n 0, 1) := by decide +kernel
theorem dX8_needNotNegative_1 : decode cX8_needNotNegative 1 = .ok (.ifCond .ge 14, 3) := by decide +kernel
theorem dX8_needNotNegative_15 : decode cX8_needNotNegative 15 = .ok (.return_, 1) := by decide +kernel
set_option maxHeartbeats 4000000 in
set_option maxRecDepth 100000 in
theorem n_notNegative (l : Launch) (g : xG) (sz : Nat) (x : Int)  (h1 : 0 ≤ x ∧ x ≤ 1000000) : Met l yX8_needNotNegative wsX8_needNotNegative ({ frames := 0, cells := 0, slots := 0, locals := 0 }) (va_Pc [.int (iI x)] (fun U => xB g [] sz U)) (va_Qv (fun (_ : Unit) => True) (fun (_ : Unit) (_ : State) => True) (va_A [] sz)) 0 0 (va_A [] sz) := by
  refine Met.ofW (cc := cX8_needNotNegative) (maxL := 1) (ret := none) (by decide) rfl ?_
  intro p e s m args below meth c s₁ B hml hv
  obtain ⟨rfl, hsz, hP, hK, hD0⟩ := hv
  have hx := B.exec
  have hb := B.bytes
  have hr := B.returns
  have hts := atoms_spec (ws := wsX8_needNotNegative) B.pre
  have hown : s.vm.findClass RX8 = some m.cls := findClass_of_methodNamed B.named
  have hlocks := B.notSynchronized
  subst hsz
  have hD := hD0
  generalize hAe : va_A [] s.heap.size = A
  have hA : ∀ q : Nat, s.heap.size ≤ q → A q := fun q h => by rw [← hAe]; exact Or.inr h
  have hS : va_S A s.heap s.heap [] := va_S.rf
  have hl := lv_entry ([.int (iI x)]) (n := 1) (Nat.le_of_ble_eq_true rfl)
  rw [lg_entry_eq]
  generalize (lg_sl ([.int (iI x)]) ++ List.replicate (1 - (lg_sl ([.int (iI x)])).length) Slot.unset).toArray = ls at hl ⊢
  have hl : lv_has ls 1 [(0, .int (iI x))] := hl
  refine lv_iload_n hx hb dX8_needNotNegative_0 rfl (lv_at hl 0 rfl) ?_
  refine lv_if_ge (tgt := 15) hx hb dX8_needNotNegative_1 (by decide) (fun c_1 => ?_) (fun c_1 => ?_)
  · have nc_1 := (iLe (a := 0) (b := x) (by decide) rfl (by omega)).mp c_1
    exact W.vret hx hb hr (fun t ht hW => ⟨⟨(), rfl, (by first | trivial | rfl | assumption | omega), trivial⟩, hS.F ht⟩) hS.2.2 dX8_needNotNegative_15
  · have nc_1 := mt (iLe (a := 0) (b := x) (by decide) rfl (by omega)).mpr c_1
    (exfalso; omega)
theorem dX8_needSlot_0 : decode cX8_needSlot 0 = .ok (.iload_n 0, 1) := by decide +kernel
theorem dX8_needSlot_1 : decode cX8_needSlot 1 = .ok (.ifCond .lt 9, 3) := by decide +kernel
theorem dX8_needSlot_4 : decode cX8_needSlot 4 = .ok (.iload_n 0, 1) := by decide +kernel
theorem dX8_needSlot_5 : decode cX8_needSlot 5 = .ok (.bipush 16, 2) := by decide +kernel
theorem dX8_needSlot_7 : decode cX8_needSlot 7 = .ok (.if_icmp .lt 14, 3) := by decide +kernel
theorem dX8_needSlot_21 : decode cX8_needSlot 21 = .ok (.return_, 1) := by decide +kernel
set_option maxHeartbeats 4000000 in
set_option maxRecDepth 100000 in
theorem n_slot (l : Launch) (g : xG) (sz : Nat) (x : Int)  (h1 : 0 ≤ x ∧ x < 16) : Met l yX8_needSlot wsX8_needSlot ({ frames := 0, cells := 0, slots := 0, locals := 0 }) (va_Pc [.int (iI x)] (fun U => xB g [] sz U)) (va_Qv (fun (_ : Unit) => True) (fun (_ : Unit) (_ : State) => True) (va_A [] sz)) 0 0 (va_A [] sz) := by
  refine Met.ofW (cc := cX8_needSlot) (maxL := 1) (ret := none) (by decide) rfl ?_
  intro p e s m args below meth c s₁ B hml hv
  obtain ⟨rfl, hsz, hP, hK, hD0⟩ := hv
  have hx := B.exec
  have hb := B.bytes
  have hr := B.returns
  have hts := atoms_spec (ws := wsX8_needSlot) B.pre
  have hown : s.vm.findClass RX8 = some m.cls := findClass_of_methodNamed B.named
  have hlocks := B.notSynchronized
  subst hsz
  have hD := hD0
  generalize hAe : va_A [] s.heap.size = A
  have hA : ∀ q : Nat, s.heap.size ≤ q → A q := fun q h => by rw [← hAe]; exact Or.inr h
  have hS : va_S A s.heap s.heap [] := va_S.rf
  have hl := lv_entry ([.int (iI x)]) (n := 1) (Nat.le_of_ble_eq_true rfl)
  rw [lg_entry_eq]
  generalize (lg_sl ([.int (iI x)]) ++ List.replicate (1 - (lg_sl ([.int (iI x)])).length) Slot.unset).toArray = ls at hl ⊢
  have hl : lv_has ls 1 [(0, .int (iI x))] := hl
  refine lv_iload_n hx hb dX8_needSlot_0 rfl (lv_at hl 0 rfl) ?_
  refine lv_if_lt (tgt := 10) hx hb dX8_needSlot_1 (by decide) (fun c_1 => ?_) (fun c_1 => ?_)
  · have nc_1 := (iLt (a := x) (b := 0) rfl (by decide) (by omega)).mp c_1
    (exfalso; omega)
  · have nc_1 := mt (iLt (a := x) (b := 0) rfl (by decide) (by omega)).mpr c_1
    refine lv_iload_n hx hb dX8_needSlot_4 rfl (lv_at hl 0 rfl) ?_
    refine lv_bipush (v := 16) hx hb dX8_needSlot_5 (by decide) ?_
    refine lv_icmp_lt (tgt := 21) hx hb dX8_needSlot_7 (by decide) (fun c_2 => ?_) (fun c_2 => ?_)
    · have nc_2 := (iLt (a := x) (b := 16) rfl (by decide) (by omega)).mp c_2
      exact W.vret hx hb hr (fun t ht hW => ⟨⟨(), rfl, (by first | trivial | rfl | assumption | omega), trivial⟩, hS.F ht⟩) hS.2.2 dX8_needSlot_21
    · have nc_2 := mt (iLt (a := x) (b := 16) rfl (by decide) (by omega)).mpr c_2
      (exfalso; omega)
theorem dX8_needVessel_0 : decode cX8_needVessel 0 = .ok (.iload_n 1, 1) := by decide +kernel
theorem dX8_needVessel_1 : decode cX8_needVessel 1 = .ok (.ifCond .lt 11, 3) := by decide +kernel
theorem dX8_needVessel_4 : decode cX8_needVessel 4 = .ok (.iload_n 1, 1) := by decide +kernel
theorem dX8_needVessel_5 : decode cX8_needVessel 5 = .ok (.aload_n 0, 1) := by decide +kernel
theorem dX8_needVessel_6 : decode cX8_needVessel 6 = .ok (.getfield 95, 3) := by decide +kernel
theorem dX8_needVessel_9 : decode cX8_needVessel 9 = .ok (.if_icmp .lt 14, 3) := by decide +kernel
theorem dX8_needVessel_23 : decode cX8_needVessel 23 = .ok (.return_, 1) := by decide +kernel
set_option maxHeartbeats 4000000 in
set_option maxRecDepth 100000 in
theorem n_vessel (l : Launch) (g : xG) (sz : Nat) (st : Nat) (vc : Nat) (v : Nat) (s0 : Value) (s1 : Value) (s3 : Value) (s4 : Value) (s5 : Value) (s6 : Value) (s7 : Value) (s8 : Value) (s9 : Value) (s10 : Value) (s11 : Value) (s12 : Value) (s13 : Value) (s14 : Value)  (hv : v < vc) (hvc : vc ≤ 6) : Met l yX8_needVessel wsX8_needVessel ({ frames := 0, cells := 0, slots := 0, locals := 0 }) (va_Pc [.ref st, .int (nI v)] (fun U => xB g [(st, .inr (8, [s0, s1, .int (nI vc), s3, s4, s5, s6, s7, s8, s9, s10, s11, s12, s13, s14]))] sz U)) (va_Qv (fun (_ : Unit) => True) (fun (_ : Unit) (_ : State) => True) (va_A [] sz)) 0 0 (va_A [] sz) := by
  refine Met.ofW (cc := cX8_needVessel) (maxL := 2) (ret := none) (by decide) rfl ?_
  intro p e s m args below meth c s₁ B hml hv
  obtain ⟨rfl, hsz, hP, hK, hD0⟩ := hv
  have hx := B.exec
  have hb := B.bytes
  have hr := B.returns
  have hts := atoms_spec (ws := wsX8_needVessel) B.pre
  have hown : s.vm.findClass RX8 = some m.cls := findClass_of_methodNamed B.named
  have hlocks := B.notSynchronized
  subst hsz
  have hD := hD0
  generalize hAe : va_A [] s.heap.size = A
  have hA : ∀ q : Nat, s.heap.size ≤ q → A q := fun q h => by rw [← hAe]; exact Or.inr h
  have hS : va_S A s.heap s.heap [] := va_S.rf
  have hl := lv_entry ([.ref st, .int (nI v)]) (n := 2) (Nat.le_of_ble_eq_true rfl)
  rw [lg_entry_eq]
  generalize (lg_sl ([.ref st, .int (nI v)]) ++ List.replicate (2 - (lg_sl ([.ref st, .int (nI v)])).length) Slot.unset).toArray = ls at hl ⊢
  have hl : lv_has ls 2 [(0, .ref st), (1, .int (nI v))] := hl
  have hFX8 : ∀ w ∈ u_ws RX8 TX8 15, w ∈ wsX8_needVessel := by decide +kernel
  refine lv_iload_n hx hb dX8_needVessel_0 rfl (lv_at hl 1 rfl) ?_
  refine lv_if_lt (tgt := 12) hx hb dX8_needVessel_1 (by decide) (fun c_1 => ?_) (fun c_1 => ?_)
  · have nc_1 := (nI_ltI (a := v) (b := 0) (by omega) (by omega)).mp c_1
    (exfalso; omega)
  · have nc_1 := mt (nI_ltI (a := v) (b := 0) (by omega) (by omega)).mpr c_1
    refine lv_iload_n hx hb dX8_needVessel_4 rfl (lv_at hl 1 rfl) ?_
    refine lv_aload_n hx hb dX8_needVessel_5 rfl (lv_at hl 0 rfl) ?_
    refine va_get (D := xD g) (ci := 8) (v := .int (nI vc)) (C := RX8) (T := TX8) (N := 15) hx hb hts hFX8 hown hK hP 0 rfl rfl 2 (by decide) (hts (.fieldLink RX8 95 "Stevedore" "vesselCount" "I") (by decide +kernel)) (fun _ h9 => h9) rfl dX8_needVessel_6 ?_
    refine lv_icmp_lt (tgt := 23) hx hb dX8_needVessel_9 (by decide) (fun c_2 => ?_) (fun c_2 => ?_)
    · have nc_2 := (nI_ltI (a := v) (b := vc) (by omega) (by omega)).mp c_2
      exact W.vret hx hb hr (fun t ht hW => ⟨⟨(), rfl, (by first | trivial | rfl | assumption | omega), trivial⟩, hS.F ht⟩) hS.2.2 dX8_needVessel_23
    · have nc_2 := mt (nI_ltI (a := v) (b := vc) (by omega) (by omega)).mpr c_2
      (exfalso; omega)
theorem dX8_needBay_0 : decode cX8_needBay 0 = .ok (.aload_n 0, 1) := by decide +kernel
theorem dX8_needBay_1 : decode cX8_needBay 1 = .ok (.iload_n 1, 1) := by decide +kernel
theorem dX8_needBay_2 : decode cX8_needBay 2 = .ok (.invokevirtual 121, 3) := by decide +kernel
set_option maxRecDepth 20000 in
theorem ggX8_needBay_X8_needVessel : GoodIn wsX8_needBay wsX8_needVessel := goodIn_ca (goodIn_r _ [9, 1, 2, 10, 11, 12, 13, 14, 15, 16, 17, 18, 19, 20, 21, 22, 23, 24, 25] rfl (by decide +kernel)) (goodIn_sub (fun _ h => List.mem_cons_of_mem _ (List.mem_append_right _ h)) (by decide +kernel))
set_option maxRecDepth 20000 in
theorem gX8_needBay_X8_needVessel : GoodIn wsX8_needBay (wsV RX8 121 RX8 yX8_needVessel wsX8_needVessel) := goodIn_app (goodIn_of _ (by decide +kernel)) ggX8_needBay_X8_needVessel
theorem dX8_needBay_5 : decode cX8_needBay 5 = .ok (.iload_n 2, 1) := by decide +kernel
theorem dX8_needBay_6 : decode cX8_needBay 6 = .ok (.ifCond .lt 16, 3) := by decide +kernel
theorem dX8_needBay_9 : decode cX8_needBay 9 = .ok (.iload_n 2, 1) := by decide +kernel
theorem dX8_needBay_10 : decode cX8_needBay 10 = .ok (.aload_n 0, 1) := by decide +kernel
theorem dX8_needBay_11 : decode cX8_needBay 11 = .ok (.getfield 18, 3) := by decide +kernel
theorem dX8_needBay_14 : decode cX8_needBay 14 = .ok (.iload_n 1, 1) := by decide +kernel
theorem dX8_needBay_15 : decode cX8_needBay 15 = .ok (.aaload, 1) := by decide +kernel
theorem dX8_needBay_16 : decode cX8_needBay 16 = .ok (.getfield 108, 3) := by decide +kernel
theorem dX8_needBay_19 : decode cX8_needBay 19 = .ok (.if_icmp .lt 14, 3) := by decide +kernel
theorem dX8_needBay_33 : decode cX8_needBay 33 = .ok (.return_, 1) := by decide +kernel
set_option maxHeartbeats 4000000 in
set_option maxRecDepth 100000 in
theorem n_bay (l : Launch) (g : xG) (sz : Nat) (st : Nat) (fl : Nat) (vc : Nat) (v : Nat) (b : Nat) (vr : Nat → Nat) (wb : Nat → Nat) (fr : Nat → Nat) (bg : Nat → Nat) (s0 : Value) (s1 : Value) (s4 : Value) (s5 : Value) (s6 : Value) (s7 : Value) (s8 : Value) (s9 : Value) (s10 : Value) (s11 : Value) (s12 : Value) (s13 : Value) (s14 : Value) (Var : Nat → Int) (Vba : Nat → Nat) (Vrk : Nat → Int) (Vwa : Nat → Nat) (Vrc : Nat → Nat) (Vgl : Nat → Int) (Vhd : Nat → Int) (Vwt : Nat → Int)  (hv : v < vc) (hvc : vc ≤ 6) (hb9 : b < Vba v) (hV : ∀ j, (0 ≤ Var j ∧ Var j ≤ 400) ∧ Vba j ≤ 10 ∧ (0 ≤ Vrk j ∧ Vrk j ≤ 9) ∧ Vwa j ≤ 4 ∧ Vrc j ≤ 4 ∧ (0 ≤ Vhd j ∧ Vhd j ≤ 10100) ∧ (0 ≤ Vwt j ∧ Vwt j ≤ 40000)) : Met l yX8_needBay wsX8_needBay ({ frames := 1, cells := 0, slots := 0, locals := 21 }) (va_Pc [.ref st, .int (nI v), .int (nI b)] (fun U => xB g ([(st, .inr (8, [s0, s1, .int (nI vc), .ref fl, s4, s5, s6, s7, s8, s9, s10, s11, s12, s13, s14])), (fl, .inl (xV g, 6, .inr (.inr (.inr (.inr (fun i => if i < 6 then some (vr i) else none))))))] ++ (xR 6 (fun i => (vr i, .inr (6, [.int (iI (Var i)), .int (nI (Vba i)), .int (iI (Vrk i)), .int (nI (Vwa i)), .int (nI (Vrc i)), .int (iI (Vgl i)), .int (iI (Vhd i)), .int (iI (Vwt i)), .ref (wb i), .ref (fr i), .ref (bg i)]))) ++ [])) sz U)) (va_Qv (fun (_ : Unit) => True) (fun (_ : Unit) (_ : State) => True) (va_A [] sz)) 0 0 (va_A [] sz) := by
  refine Met.ofW (cc := cX8_needBay) (maxL := 3) (ret := none) (by decide) rfl ?_
  intro p e s m args below meth c s₁ B hml hv
  obtain ⟨rfl, hsz, hP, hK, hD0⟩ := hv
  have hx := B.exec
  have hb := B.bytes
  have hr := B.returns
  have hts := atoms_spec (ws := wsX8_needBay) B.pre
  have hown : s.vm.findClass RX8 = some m.cls := findClass_of_methodNamed B.named
  have hlocks := B.notSynchronized
  subst hsz
  have hD := hD0
  generalize hAe : va_A [] s.heap.size = A
  have hA : ∀ q : Nat, s.heap.size ≤ q → A q := fun q h => by rw [← hAe]; exact Or.inr h
  have hS : va_S A s.heap s.heap [] := va_S.rf
  have hl := lv_entry ([.ref st, .int (nI v), .int (nI b)]) (n := 3) (Nat.le_of_ble_eq_true rfl)
  rw [lg_entry_eq]
  generalize (lg_sl ([.ref st, .int (nI v), .int (nI b)]) ++ List.replicate (3 - (lg_sl ([.ref st, .int (nI v), .int (nI b)])).length) Slot.unset).toArray = ls at hl ⊢
  have hl : lv_has ls 3 [(0, .ref st), (1, .int (nI v)), (2, .int (nI b))] := hl
  have hFX6 : ∀ w ∈ u_ws RX6 TX6 11, w ∈ wsX8_needBay := by decide +kernel
  have hFX8 : ∀ w ∈ u_ws RX8 TX8 15, w ∈ wsX8_needBay := by decide +kernel
  refine lv_aload_n hx hb dX8_needBay_0 rfl (lv_at hl 0 rfl) ?_
  refine lv_iload_n hx hb dX8_needBay_1 rfl (lv_at hl 1 rfl) ?_
  have hPc := hP.sub (ws' := [(st, .inr (8, [s0, s1, .int (nI vc), .ref fl, s4, s5, s6, s7, s8, s9, s10, s11, s12, s13, s14]))]) [0] rfl
  have hDc := hD.sub (ws' := [(st, .inr (8, [s0, s1, .int (nI vc), .ref fl, s4, s5, s6, s7, s8, s9, s10, s11, s12, s13, s14]))]) [0] (by decide) rfl
  have hFc := xFree hS hA
  refine va_callv (va_runV (As := [.int (nI v)]) (rest := []) ⟨hx, hb, hml, hown, hts⟩ (n_vessel l g s.heap.size st vc v s0 s1 (.ref fl) s4 s5 s6 s7 s8 s9 s10 s11 s12 s13 s14 (by first | assumption | omega) (by first | assumption | omega)) (cwV 1 hts gX8_needBay_X8_needVessel rfl rfl rfl (by decide +kernel) ⟨Nat.le_of_ble_eq_true rfl, Nat.le_of_ble_eq_true rfl⟩) ⟨xB.blind, va_recv hK hPc (ci := 8) (q0 := 0) rfl rfl, fun U9 hU9 hW9 => ⟨rfl, xB.mk hPc hK hDc hU9 hW9⟩⟩ rfl rfl hl.1 rfl (lv_room (Nat.le_of_ble_eq_true rfl)) dX8_needBay_2 ⟨Nat.le_of_ble_eq_true rfl, Nat.le_of_ble_eq_true rfl⟩) hS (fun q _ h => hFc q h) hFc (fun _ t H1 locs ht hvm hw_2 hB hz1 hk1 hS => ?_)
  have hP := xSame hP hk1
  generalize H1 = H at hP hS ⊢
  have hP : va_P (xD g) vwCl ([(st, .inr (8, [s0, s1, .int (nI vc), .ref fl, s4, s5, s6, s7, s8, s9, s10, s11, s12, s13, s14])), (fl, .inl (xV g, 6, .inr (.inr (.inr (.inr (fun i => if i < 6 then some (vr i) else none))))))] ++ (xR 6 (fun i => (vr i, .inr (6, [.int (iI (Var i)), .int (nI (Vba i)), .int (iI (Vrk i)), .int (nI (Vwa i)), .int (nI (Vrc i)), .int (iI (Vgl i)), .int (iI (Vhd i)), .int (iI (Vwt i)), .ref (wb i), .ref (fr i), .ref (bg i)]))) ++ [])) H := hP
  have hD : va_D (fun _ => True) ([(st, .inr (8, [s0, s1, .int (nI vc), .ref fl, s4, s5, s6, s7, s8, s9, s10, s11, s12, s13, s14])), (fl, .inl (xV g, 6, .inr (.inr (.inr (.inr (fun i => if i < 6 then some (vr i) else none))))))] ++ (xR 6 (fun i => (vr i, .inr (6, [.int (iI (Var i)), .int (nI (Vba i)), .int (iI (Vrk i)), .int (nI (Vwa i)), .int (nI (Vrc i)), .int (iI (Vgl i)), .int (iI (Vhd i)), .int (iI (Vwt i)), .ref (wb i), .ref (fr i), .ref (bg i)]))) ++ [])) := hD
  try dsimp only at hw_2
  have hVv := hV v
  refine lv_iload_n hx hb dX8_needBay_5 rfl (lv_at hl 2 rfl) ?_
  refine lv_if_lt (tgt := 22) hx hb dX8_needBay_6 (by decide) (fun c_3 => ?_) (fun c_3 => ?_)
  · have nc_3 := (nI_ltI (a := b) (b := 0) (by omega) (by omega)).mp c_3
    (exfalso; omega)
  · have nc_3 := mt (nI_ltI (a := b) (b := 0) (by omega) (by omega)).mpr c_3
    refine lv_iload_n hx hb dX8_needBay_9 rfl (lv_at hl 2 rfl) ?_
    refine lv_aload_n hx hb dX8_needBay_10 rfl (lv_at hl 0 rfl) ?_
    refine va_get (D := xD g) (ci := 8) (v := .ref fl) (C := RX8) (T := TX8) (N := 15) hx hb hts hFX8 hown hK hP 0 rfl rfl 3 (by decide) (hts (.fieldLink RX8 18 "Stevedore" "fleet" "[LStevedore$Vessel;") (by decide +kernel)) (fun _ h9 => h9) rfl dX8_needBay_11 ?_
    refine lv_iload_n hx hb dX8_needBay_14 rfl (lv_at hl 1 rfl) ?_
    refine va_aldq hx hb hK hP 1 2 rfl rfl (vp_in_nI (by omega) (by omega)) dX8_needBay_15 ?_
    refine W.eq (g2 := F0 m 16 ls (.ref (vr v) :: .int (nI b) :: [])) (congrArg (fun q9 => F0 m 16 ls (q9 :: .int (nI b) :: [])) (xRow (n := 6) (k := v) (nI_clamp (by omega)) (by omega))) ?_
    refine va_get (D := xD g) (ci := 6) (v := .int (nI (Vba v))) (C := RX6) (T := TX6) (N := 11) hx hb hts hFX6 hown hK hP _ (xR_ap (X := [(st, .inr (8, [s0, s1, .int (nI vc), .ref fl, s4, s5, s6, s7, s8, s9, s10, s11, s12, s13, s14])), (fl, .inl (xV g, 6, .inr (.inr (.inr (.inr (fun i => if i < 6 then some (vr i) else none))))))]) (xR_get0 (i := v) (by omega))) rfl 1 (by decide) (hts (.fieldLink RX8 108 "Stevedore$Vessel" "bays" "I") (by decide +kernel)) (fun _ h9 => h9) rfl dX8_needBay_16 ?_
    refine lv_icmp_lt (tgt := 33) hx hb dX8_needBay_19 (by decide) (fun c_4 => ?_) (fun c_4 => ?_)
    · have nc_4 := (nI_ltI (a := b) (b := Vba v) (by omega) (by omega)).mp c_4
      exact W.vret hx hb hr (fun t ht hW => ⟨⟨(), rfl, (by first | trivial | rfl | assumption | omega), trivial⟩, hS.F ht⟩) hS.2.2 dX8_needBay_33
    · have nc_4 := mt (nI_ltI (a := b) (b := Vba v) (by omega) (by omega)).mpr c_4
      (exfalso; omega)
theorem dX8_needContainer_0 : decode cX8_needContainer 0 = .ok (.iload_n 1, 1) := by decide +kernel
theorem dX8_needContainer_1 : decode cX8_needContainer 1 = .ok (.ifCond .lt 14, 3) := by decide +kernel
theorem dX8_needContainer_4 : decode cX8_needContainer 4 = .ok (.iload_n 1, 1) := by decide +kernel
theorem dX8_needContainer_5 : decode cX8_needContainer 5 = .ok (.aload_n 0, 1) := by decide +kernel
theorem dX8_needContainer_6 : decode cX8_needContainer 6 = .ok (.getfield 26, 3) := by decide +kernel
theorem dX8_needContainer_9 : decode cX8_needContainer 9 = .ok (.getfield 129, 3) := by decide +kernel
theorem dX8_needContainer_12 : decode cX8_needContainer 12 = .ok (.if_icmp .lt 14, 3) := by decide +kernel
theorem dX8_needContainer_26 : decode cX8_needContainer 26 = .ok (.return_, 1) := by decide +kernel
set_option maxHeartbeats 4000000 in
set_option maxRecDepth 100000 in
theorem n_container (l : Launch) (g : xG) (sz : Nat) (st : Nat) (ca : Nat) (n : Nat) (c_ : Nat) (s0 : Value) (s1 : Value) (s2 : Value) (s3 : Value) (s5 : Value) (s6 : Value) (s7 : Value) (s8 : Value) (s9 : Value) (s10 : Value) (s11 : Value) (s12 : Value) (s13 : Value) (s14 : Value) (c1 : Value) (c2 : Value) (c3 : Value) (c4 : Value) (c5 : Value)  (hc : c_ < n) (hn : n ≤ 24) : Met l yX8_needContainer wsX8_needContainer ({ frames := 0, cells := 0, slots := 0, locals := 0 }) (va_Pc [.ref st, .int (nI c_)] (fun U => xB g [(st, .inr (8, [s0, s1, s2, s3, .ref ca, s5, s6, s7, s8, s9, s10, s11, s12, s13, s14])), (ca, .inr (2, [.int (nI n), c1, c2, c3, c4, c5]))] sz U)) (va_Qv (fun (_ : Unit) => True) (fun (_ : Unit) (_ : State) => True) (va_A [] sz)) 0 0 (va_A [] sz) := by
  refine Met.ofW (cc := cX8_needContainer) (maxL := 2) (ret := none) (by decide) rfl ?_
  intro p e s m args below meth c s₁ B hml hv
  obtain ⟨rfl, hsz, hP, hK, hD0⟩ := hv
  have hx := B.exec
  have hb := B.bytes
  have hr := B.returns
  have hts := atoms_spec (ws := wsX8_needContainer) B.pre
  have hown : s.vm.findClass RX8 = some m.cls := findClass_of_methodNamed B.named
  have hlocks := B.notSynchronized
  subst hsz
  have hD := hD0
  generalize hAe : va_A [] s.heap.size = A
  have hA : ∀ q : Nat, s.heap.size ≤ q → A q := fun q h => by rw [← hAe]; exact Or.inr h
  have hS : va_S A s.heap s.heap [] := va_S.rf
  have hl := lv_entry ([.ref st, .int (nI c_)]) (n := 2) (Nat.le_of_ble_eq_true rfl)
  rw [lg_entry_eq]
  generalize (lg_sl ([.ref st, .int (nI c_)]) ++ List.replicate (2 - (lg_sl ([.ref st, .int (nI c_)])).length) Slot.unset).toArray = ls at hl ⊢
  have hl : lv_has ls 2 [(0, .ref st), (1, .int (nI c_))] := hl
  have hFX2 : ∀ w ∈ u_ws RX2 TX2 6, w ∈ wsX8_needContainer := by decide +kernel
  have hFX8 : ∀ w ∈ u_ws RX8 TX8 15, w ∈ wsX8_needContainer := by decide +kernel
  refine lv_iload_n hx hb dX8_needContainer_0 rfl (lv_at hl 1 rfl) ?_
  refine lv_if_lt (tgt := 15) hx hb dX8_needContainer_1 (by decide) (fun c_1 => ?_) (fun c_1 => ?_)
  · have nc_1 := (nI_ltI (a := c_) (b := 0) (by omega) (by omega)).mp c_1
    (exfalso; omega)
  · have nc_1 := mt (nI_ltI (a := c_) (b := 0) (by omega) (by omega)).mpr c_1
    refine lv_iload_n hx hb dX8_needContainer_4 rfl (lv_at hl 1 rfl) ?_
    refine lv_aload_n hx hb dX8_needContainer_5 rfl (lv_at hl 0 rfl) ?_
    refine va_get (D := xD g) (ci := 8) (v := .ref ca) (C := RX8) (T := TX8) (N := 15) hx hb hts hFX8 hown hK hP 0 rfl rfl 4 (by decide) (hts (.fieldLink RX8 26 "Stevedore" "cargo" "LStevedore$Cargo;") (by decide +kernel)) (fun _ h9 => h9) rfl dX8_needContainer_6 ?_
    refine va_get (D := xD g) (ci := 2) (v := .int (nI n)) (C := RX2) (T := TX2) (N := 6) hx hb hts hFX2 hown hK hP 1 rfl rfl 0 (by decide) (hts (.fieldLink RX8 129 "Stevedore$Cargo" "count" "I") (by decide +kernel)) (fun _ h9 => h9) rfl dX8_needContainer_9 ?_
    refine lv_icmp_lt (tgt := 26) hx hb dX8_needContainer_12 (by decide) (fun c_2 => ?_) (fun c_2 => ?_)
    · have nc_2 := (nI_ltI (a := c_) (b := n) (by omega) (by omega)).mp c_2
      exact W.vret hx hb hr (fun t ht hW => ⟨⟨(), rfl, (by first | trivial | rfl | assumption | omega), trivial⟩, hS.F ht⟩) hS.2.2 dX8_needContainer_26
    · have nc_2 := mt (nI_ltI (a := c_) (b := n) (by omega) (by omega)).mpr c_2
      (exfalso; omega)
theorem dX8_needStack_0 : decode cX8_needStack 0 = .ok (.iload_n 1, 1) := by decide +kernel
theorem dX8_needStack_1 : decode cX8_needStack 1 = .ok (.ifCond .lt 14, 3) := by decide +kernel
theorem dX8_needStack_4 : decode cX8_needStack 4 = .ok (.iload_n 1, 1) := by decide +kernel
theorem dX8_needStack_5 : decode cX8_needStack 5 = .ok (.aload_n 0, 1) := by decide +kernel
theorem dX8_needStack_6 : decode cX8_needStack 6 = .ok (.getfield 81, 3) := by decide +kernel
theorem dX8_needStack_9 : decode cX8_needStack 9 = .ok (.getfield 162, 3) := by decide +kernel
theorem dX8_needStack_12 : decode cX8_needStack 12 = .ok (.if_icmp .lt 14, 3) := by decide +kernel
theorem dX8_needStack_26 : decode cX8_needStack 26 = .ok (.return_, 1) := by decide +kernel
set_option maxHeartbeats 4000000 in
set_option maxRecDepth 100000 in
theorem n_stack (l : Launch) (g : xG) (sz : Nat) (st : Nat) (ya : Nat) (sc : Nat) (t_ : Nat) (s0 : Value) (s1 : Value) (s2 : Value) (s3 : Value) (s4 : Value) (s5 : Value) (s6 : Value) (s7 : Value) (s8 : Value) (s9 : Value) (s10 : Value) (s11 : Value) (s12 : Value) (s14 : Value) (y1 : Value) (y2 : Value) (y3 : Value) (y4 : Value) (y5 : Value) (y6 : Value) (y7 : Value) (y8 : Value) (y9 : Value) (y10 : Value)  (ht : t_ < sc) (hsc : sc ≤ 12) : Met l yX8_needStack wsX8_needStack ({ frames := 0, cells := 0, slots := 0, locals := 0 }) (va_Pc [.ref st, .int (nI t_)] (fun U => xB g [(st, .inr (8, [s0, s1, s2, s3, s4, s5, s6, s7, s8, s9, s10, s11, s12, .ref ya, s14])), (ya, .inr (7, [.int (nI sc), y1, y2, y3, y4, y5, y6, y7, y8, y9, y10]))] sz U)) (va_Qv (fun (_ : Unit) => True) (fun (_ : Unit) (_ : State) => True) (va_A [] sz)) 0 0 (va_A [] sz) := by
  refine Met.ofW (cc := cX8_needStack) (maxL := 2) (ret := none) (by decide) rfl ?_
  intro p e s m args below meth c s₁ B hml hv
  obtain ⟨rfl, hsz, hP, hK, hD0⟩ := hv
  have hx := B.exec
  have hb := B.bytes
  have hr := B.returns
  have hts := atoms_spec (ws := wsX8_needStack) B.pre
  have hown : s.vm.findClass RX8 = some m.cls := findClass_of_methodNamed B.named
  have hlocks := B.notSynchronized
  subst hsz
  have hD := hD0
  generalize hAe : va_A [] s.heap.size = A
  have hA : ∀ q : Nat, s.heap.size ≤ q → A q := fun q h => by rw [← hAe]; exact Or.inr h
  have hS : va_S A s.heap s.heap [] := va_S.rf
  have hl := lv_entry ([.ref st, .int (nI t_)]) (n := 2) (Nat.le_of_ble_eq_true rfl)
  rw [lg_entry_eq]
  generalize (lg_sl ([.ref st, .int (nI t_)]) ++ List.replicate (2 - (lg_sl ([.ref st, .int (nI t_)])).length) Slot.unset).toArray = ls at hl ⊢
  have hl : lv_has ls 2 [(0, .ref st), (1, .int (nI t_))] := hl
  have hFX7 : ∀ w ∈ u_ws RX7 TX7 11, w ∈ wsX8_needStack := by decide +kernel
  have hFX8 : ∀ w ∈ u_ws RX8 TX8 15, w ∈ wsX8_needStack := by decide +kernel
  refine lv_iload_n hx hb dX8_needStack_0 rfl (lv_at hl 1 rfl) ?_
  refine lv_if_lt (tgt := 15) hx hb dX8_needStack_1 (by decide) (fun c_1 => ?_) (fun c_1 => ?_)
  · have nc_1 := (nI_ltI (a := t_) (b := 0) (by omega) (by omega)).mp c_1
    (exfalso; omega)
  · have nc_1 := mt (nI_ltI (a := t_) (b := 0) (by omega) (by omega)).mpr c_1
    refine lv_iload_n hx hb dX8_needStack_4 rfl (lv_at hl 1 rfl) ?_
    refine lv_aload_n hx hb dX8_needStack_5 rfl (lv_at hl 0 rfl) ?_
    refine va_get (D := xD g) (ci := 8) (v := .ref ya) (C := RX8) (T := TX8) (N := 15) hx hb hts hFX8 hown hK hP 0 rfl rfl 13 (by decide) (hts (.fieldLink RX8 81 "Stevedore" "yard" "LStevedore$Yard;") (by decide +kernel)) (fun _ h9 => h9) rfl dX8_needStack_6 ?_
    refine va_get (D := xD g) (ci := 7) (v := .int (nI sc)) (C := RX7) (T := TX7) (N := 11) hx hb hts hFX7 hown hK hP 1 rfl rfl 0 (by decide) (hts (.fieldLink RX8 162 "Stevedore$Yard" "stackCount" "I") (by decide +kernel)) (fun _ h9 => h9) rfl dX8_needStack_9 ?_
    refine lv_icmp_lt (tgt := 26) hx hb dX8_needStack_12 (by decide) (fun c_2 => ?_) (fun c_2 => ?_)
    · have nc_2 := (nI_ltI (a := t_) (b := sc) (by omega) (by omega)).mp c_2
      exact W.vret hx hb hr (fun t ht hW => ⟨⟨(), rfl, (by first | trivial | rfl | assumption | omega), trivial⟩, hS.F ht⟩) hS.2.2 dX8_needStack_26
    · have nc_2 := mt (nI_ltI (a := t_) (b := sc) (by omega) (by omega)).mpr c_2
      (exfalso; omega)
theorem dX8_needEvent_0 : decode cX8_needEvent 0 = .ok (.iload_n 1, 1) := by decide +kernel
theorem dX8_needEvent_1 : decode cX8_needEvent 1 = .ok (.ifCond .lt 14, 3) := by decide +kernel
theorem dX8_needEvent_4 : decode cX8_needEvent 4 = .ok (.iload_n 1, 1) := by decide +kernel
theorem dX8_needEvent_5 : decode cX8_needEvent 5 = .ok (.aload_n 0, 1) := by decide +kernel
theorem dX8_needEvent_6 : decode cX8_needEvent 6 = .ok (.getfield 74, 3) := by decide +kernel
theorem dX8_needEvent_9 : decode cX8_needEvent 9 = .ok (.getfield 278, 3) := by decide +kernel
theorem dX8_needEvent_12 : decode cX8_needEvent 12 = .ok (.if_icmp .lt 14, 3) := by decide +kernel
theorem dX8_needEvent_26 : decode cX8_needEvent 26 = .ok (.return_, 1) := by decide +kernel
set_option maxHeartbeats 4000000 in
set_option maxRecDepth 100000 in
theorem n_event (l : Launch) (g : xG) (sz : Nat) (st : Nat) (ag : Nat) (cnt : Nat) (en : Nat) (s0 : Value) (s1 : Value) (s2 : Value) (s3 : Value) (s4 : Value) (s5 : Value) (s6 : Value) (s7 : Value) (s8 : Value) (s9 : Value) (s10 : Value) (s11 : Value) (s13 : Value) (s14 : Value) (g1 : Value)  (hen : en < cnt) (hcn : cnt ≤ 48) : Met l yX8_needEvent wsX8_needEvent ({ frames := 0, cells := 0, slots := 0, locals := 0 }) (va_Pc [.ref st, .int (nI en)] (fun U => xB g [(st, .inr (8, [s0, s1, s2, s3, s4, s5, s6, s7, s8, s9, s10, s11, .ref ag, s13, s14])), (ag, .inr (0, [.int (nI cnt), g1]))] sz U)) (va_Qv (fun (_ : Unit) => True) (fun (_ : Unit) (_ : State) => True) (va_A [] sz)) 0 0 (va_A [] sz) := by
  refine Met.ofW (cc := cX8_needEvent) (maxL := 2) (ret := none) (by decide) rfl ?_
  intro p e s m args below meth c s₁ B hml hv
  obtain ⟨rfl, hsz, hP, hK, hD0⟩ := hv
  have hx := B.exec
  have hb := B.bytes
  have hr := B.returns
  have hts := atoms_spec (ws := wsX8_needEvent) B.pre
  have hown : s.vm.findClass RX8 = some m.cls := findClass_of_methodNamed B.named
  have hlocks := B.notSynchronized
  subst hsz
  have hD := hD0
  generalize hAe : va_A [] s.heap.size = A
  have hA : ∀ q : Nat, s.heap.size ≤ q → A q := fun q h => by rw [← hAe]; exact Or.inr h
  have hS : va_S A s.heap s.heap [] := va_S.rf
  have hl := lv_entry ([.ref st, .int (nI en)]) (n := 2) (Nat.le_of_ble_eq_true rfl)
  rw [lg_entry_eq]
  generalize (lg_sl ([.ref st, .int (nI en)]) ++ List.replicate (2 - (lg_sl ([.ref st, .int (nI en)])).length) Slot.unset).toArray = ls at hl ⊢
  have hl : lv_has ls 2 [(0, .ref st), (1, .int (nI en))] := hl
  have hFX0 : ∀ w ∈ u_ws RX0 TX0 2, w ∈ wsX8_needEvent := by decide +kernel
  have hFX8 : ∀ w ∈ u_ws RX8 TX8 15, w ∈ wsX8_needEvent := by decide +kernel
  refine lv_iload_n hx hb dX8_needEvent_0 rfl (lv_at hl 1 rfl) ?_
  refine lv_if_lt (tgt := 15) hx hb dX8_needEvent_1 (by decide) (fun c_1 => ?_) (fun c_1 => ?_)
  · have nc_1 := (nI_ltI (a := en) (b := 0) (by omega) (by omega)).mp c_1
    (exfalso; omega)
  · have nc_1 := mt (nI_ltI (a := en) (b := 0) (by omega) (by omega)).mpr c_1
    refine lv_iload_n hx hb dX8_needEvent_4 rfl (lv_at hl 1 rfl) ?_
    refine lv_aload_n hx hb dX8_needEvent_5 rfl (lv_at hl 0 rfl) ?_
    refine va_get (D := xD g) (ci := 8) (v := .ref ag) (C := RX8) (T := TX8) (N := 15) hx hb hts hFX8 hown hK hP 0 rfl rfl 12 (by decide) (hts (.fieldLink RX8 74 "Stevedore" "agenda" "LStevedore$Agenda;") (by decide +kernel)) (fun _ h9 => h9) rfl dX8_needEvent_6 ?_
    refine va_get (D := xD g) (ci := 0) (v := .int (nI cnt)) (C := RX0) (T := TX0) (N := 2) hx hb hts hFX0 hown hK hP 1 rfl rfl 0 (by decide) (hts (.fieldLink RX8 278 "Stevedore$Agenda" "count" "I") (by decide +kernel)) (fun _ h9 => h9) rfl dX8_needEvent_9 ?_
    refine lv_icmp_lt (tgt := 26) hx hb dX8_needEvent_12 (by decide) (fun c_2 => ?_) (fun c_2 => ?_)
    · have nc_2 := (nI_ltI (a := en) (b := cnt) (by omega) (by omega)).mp c_2
      exact W.vret hx hb hr (fun t ht hW => ⟨⟨(), rfl, (by first | trivial | rfl | assumption | omega), trivial⟩, hS.F ht⟩) hS.2.2 dX8_needEvent_26
    · have nc_2 := mt (nI_ltI (a := en) (b := cnt) (by omega) (by omega)).mpr c_2
      (exfalso; omega)
theorem dX8_needSomeVessel_0 : decode cX8_needSomeVessel 0 = .ok (.aload_n 0, 1) := by decide +kernel
theorem dX8_needSomeVessel_1 : decode cX8_needSomeVessel 1 = .ok (.getfield 95, 3) := by decide +kernel
theorem dX8_needSomeVessel_4 : decode cX8_needSomeVessel 4 = .ok (.ifCond .gt 14, 3) := by decide +kernel
theorem dX8_needSomeVessel_18 : decode cX8_needSomeVessel 18 = .ok (.return_, 1) := by decide +kernel
set_option maxHeartbeats 4000000 in
set_option maxRecDepth 100000 in
theorem n_someVessel (l : Launch) (g : xG) (sz : Nat) (st : Nat) (vc : Nat) (s0 : Value) (s1 : Value) (s3 : Value) (s4 : Value) (s5 : Value) (s6 : Value) (s7 : Value) (s8 : Value) (s9 : Value) (s10 : Value) (s11 : Value) (s12 : Value) (s13 : Value) (s14 : Value)  (hv : 0 < vc) (hvc : vc ≤ 6) : Met l yX8_needSomeVessel wsX8_needSomeVessel ({ frames := 0, cells := 0, slots := 0, locals := 0 }) (va_Pc [.ref st] (fun U => xB g [(st, .inr (8, [s0, s1, .int (nI vc), s3, s4, s5, s6, s7, s8, s9, s10, s11, s12, s13, s14]))] sz U)) (va_Qv (fun (_ : Unit) => True) (fun (_ : Unit) (_ : State) => True) (va_A [] sz)) 0 0 (va_A [] sz) := by
  refine Met.ofW (cc := cX8_needSomeVessel) (maxL := 1) (ret := none) (by decide) rfl ?_
  intro p e s m args below meth c s₁ B hml hv
  obtain ⟨rfl, hsz, hP, hK, hD0⟩ := hv
  have hx := B.exec
  have hb := B.bytes
  have hr := B.returns
  have hts := atoms_spec (ws := wsX8_needSomeVessel) B.pre
  have hown : s.vm.findClass RX8 = some m.cls := findClass_of_methodNamed B.named
  have hlocks := B.notSynchronized
  subst hsz
  have hD := hD0
  generalize hAe : va_A [] s.heap.size = A
  have hA : ∀ q : Nat, s.heap.size ≤ q → A q := fun q h => by rw [← hAe]; exact Or.inr h
  have hS : va_S A s.heap s.heap [] := va_S.rf
  have hl := lv_entry ([.ref st]) (n := 1) (Nat.le_of_ble_eq_true rfl)
  rw [lg_entry_eq]
  generalize (lg_sl ([.ref st]) ++ List.replicate (1 - (lg_sl ([.ref st])).length) Slot.unset).toArray = ls at hl ⊢
  have hl : lv_has ls 1 [(0, .ref st)] := hl
  have hFX8 : ∀ w ∈ u_ws RX8 TX8 15, w ∈ wsX8_needSomeVessel := by decide +kernel
  refine lv_aload_n hx hb dX8_needSomeVessel_0 rfl (lv_at hl 0 rfl) ?_
  refine va_get (D := xD g) (ci := 8) (v := .int (nI vc)) (C := RX8) (T := TX8) (N := 15) hx hb hts hFX8 hown hK hP 0 rfl rfl 2 (by decide) (hts (.fieldLink RX8 95 "Stevedore" "vesselCount" "I") (by decide +kernel)) (fun _ h9 => h9) rfl dX8_needSomeVessel_1 ?_
  refine lv_if_gt (tgt := 18) hx hb dX8_needSomeVessel_4 (by decide) (fun c_1 => ?_) (fun c_1 => ?_)
  · have nc_1 := (nI_ltI (a := 0) (b := vc) (by omega) (by omega)).mp c_1
    exact W.vret hx hb hr (fun t ht hW => ⟨⟨(), rfl, (by first | trivial | rfl | assumption | omega), trivial⟩, hS.F ht⟩) hS.2.2 dX8_needSomeVessel_18
  · have nc_1 := mt (nI_ltI (a := 0) (b := vc) (by omega) (by omega)).mpr c_1
    (exfalso; omega)
theorem dX8_needPlan_0 : decode cX8_needPlan 0 = .ok (.aload_n 0, 1) := by decide +kernel
theorem dX8_needPlan_1 : decode cX8_needPlan 1 = .ok (.getfield 57, 3) := by decide +kernel
theorem dX8_needPlan_4 : decode cX8_needPlan 4 = .ok (.getfield 218, 3) := by decide +kernel
theorem dX8_needPlan_7 : decode cX8_needPlan 7 = .ok (.ifCond .ne 14, 3) := by decide +kernel
theorem dX8_needPlan_21 : decode cX8_needPlan 21 = .ok (.return_, 1) := by decide +kernel
set_option maxHeartbeats 4000000 in
set_option maxRecDepth 100000 in
theorem n_plan (l : Launch) (g : xG) (sz : Nat) (st : Nat) (pn : Nat) (s0 : Value) (s1 : Value) (s2 : Value) (s3 : Value) (s4 : Value) (s5 : Value) (s6 : Value) (s7 : Value) (s9 : Value) (s10 : Value) (s11 : Value) (s12 : Value) (s13 : Value) (s14 : Value) (q1 : Value) (q2 : Value) (q3 : Value)  : Met l yX8_needPlan wsX8_needPlan ({ frames := 0, cells := 0, slots := 0, locals := 0 }) (va_Pc [.ref st] (fun U => xB g [(st, .inr (8, [s0, s1, s2, s3, s4, s5, s6, s7, .ref pn, s9, s10, s11, s12, s13, s14])), (pn, .inr (4, [.int 1, q1, q2, q3]))] sz U)) (va_Qv (fun (_ : Unit) => True) (fun (_ : Unit) (_ : State) => True) (va_A [] sz)) 0 0 (va_A [] sz) := by
  refine Met.ofW (cc := cX8_needPlan) (maxL := 1) (ret := none) (by decide) rfl ?_
  intro p e s m args below meth c s₁ B hml hv
  obtain ⟨rfl, hsz, hP, hK, hD0⟩ := hv
  have hx := B.exec
  have hb := B.bytes
  have hr := B.returns
  have hts := atoms_spec (ws := wsX8_needPlan) B.pre
  have hown : s.vm.findClass RX8 = some m.cls := findClass_of_methodNamed B.named
  have hlocks := B.notSynchronized
  subst hsz
  have hD := hD0
  generalize hAe : va_A [] s.heap.size = A
  have hA : ∀ q : Nat, s.heap.size ≤ q → A q := fun q h => by rw [← hAe]; exact Or.inr h
  have hS : va_S A s.heap s.heap [] := va_S.rf
  have hl := lv_entry ([.ref st]) (n := 1) (Nat.le_of_ble_eq_true rfl)
  rw [lg_entry_eq]
  generalize (lg_sl ([.ref st]) ++ List.replicate (1 - (lg_sl ([.ref st])).length) Slot.unset).toArray = ls at hl ⊢
  have hl : lv_has ls 1 [(0, .ref st)] := hl
  have hFX4 : ∀ w ∈ u_ws RX4 TX4 4, w ∈ wsX8_needPlan := by decide +kernel
  have hFX8 : ∀ w ∈ u_ws RX8 TX8 15, w ∈ wsX8_needPlan := by decide +kernel
  refine lv_aload_n hx hb dX8_needPlan_0 rfl (lv_at hl 0 rfl) ?_
  refine va_get (D := xD g) (ci := 8) (v := .ref pn) (C := RX8) (T := TX8) (N := 15) hx hb hts hFX8 hown hK hP 0 rfl rfl 8 (by decide) (hts (.fieldLink RX8 57 "Stevedore" "plan" "LStevedore$Plan;") (by decide +kernel)) (fun _ h9 => h9) rfl dX8_needPlan_1 ?_
  refine va_get (D := xD g) (ci := 4) (v := .int 1) (C := RX4) (T := TX4) (N := 4) hx hb hts hFX4 hown hK hP 1 rfl rfl 0 (by decide) (hts (.fieldLink RX8 218 "Stevedore$Plan" "isMade" "Z") (by decide +kernel)) (fun _ h9 => h9) rfl dX8_needPlan_4 ?_
  refine lv_if_ne (tgt := 21) hx hb dX8_needPlan_7 (by decide) (fun _ => ?_) (fun c0 => absurd c0 (by decide))
  exact W.vret hx hb hr (fun t ht hW => ⟨⟨(), rfl, (by first | trivial | rfl | assumption | omega), trivial⟩, hS.F ht⟩) hS.2.2 dX8_needPlan_21
theorem dX8_needSlots_0 : decode cX8_needSlots 0 = .ok (.aload_n 0, 1) := by decide +kernel
theorem dX8_needSlots_1 : decode cX8_needSlots 1 = .ok (.getfield 268, 3) := by decide +kernel
theorem dX8_needSlots_4 : decode cX8_needSlots 4 = .ok (.ifCond .ne 14, 3) := by decide +kernel
theorem dX8_needSlots_18 : decode cX8_needSlots 18 = .ok (.return_, 1) := by decide +kernel
set_option maxHeartbeats 4000000 in
set_option maxRecDepth 100000 in
theorem n_slots (l : Launch) (g : xG) (sz : Nat) (st : Nat) (s0 : Value) (s1 : Value) (s2 : Value) (s3 : Value) (s4 : Value) (s5 : Value) (s6 : Value) (s7 : Value) (s8 : Value) (s9 : Value) (s11 : Value) (s12 : Value) (s13 : Value) (s14 : Value)  : Met l yX8_needSlots wsX8_needSlots ({ frames := 0, cells := 0, slots := 0, locals := 0 }) (va_Pc [.ref st] (fun U => xB g [(st, .inr (8, [s0, s1, s2, s3, s4, s5, s6, s7, s8, s9, .int 1, s11, s12, s13, s14]))] sz U)) (va_Qv (fun (_ : Unit) => True) (fun (_ : Unit) (_ : State) => True) (va_A [] sz)) 0 0 (va_A [] sz) := by
  refine Met.ofW (cc := cX8_needSlots) (maxL := 1) (ret := none) (by decide) rfl ?_
  intro p e s m args below meth c s₁ B hml hv
  obtain ⟨rfl, hsz, hP, hK, hD0⟩ := hv
  have hx := B.exec
  have hb := B.bytes
  have hr := B.returns
  have hts := atoms_spec (ws := wsX8_needSlots) B.pre
  have hown : s.vm.findClass RX8 = some m.cls := findClass_of_methodNamed B.named
  have hlocks := B.notSynchronized
  subst hsz
  have hD := hD0
  generalize hAe : va_A [] s.heap.size = A
  have hA : ∀ q : Nat, s.heap.size ≤ q → A q := fun q h => by rw [← hAe]; exact Or.inr h
  have hS : va_S A s.heap s.heap [] := va_S.rf
  have hl := lv_entry ([.ref st]) (n := 1) (Nat.le_of_ble_eq_true rfl)
  rw [lg_entry_eq]
  generalize (lg_sl ([.ref st]) ++ List.replicate (1 - (lg_sl ([.ref st])).length) Slot.unset).toArray = ls at hl ⊢
  have hl : lv_has ls 1 [(0, .ref st)] := hl
  have hFX8 : ∀ w ∈ u_ws RX8 TX8 15, w ∈ wsX8_needSlots := by decide +kernel
  refine lv_aload_n hx hb dX8_needSlots_0 rfl (lv_at hl 0 rfl) ?_
  refine va_get (D := xD g) (ci := 8) (v := .int 1) (C := RX8) (T := TX8) (N := 15) hx hb hts hFX8 hown hK hP 0 rfl rfl 10 (by decide) (hts (.fieldLink RX8 268 "Stevedore" "hasSlots" "Z") (by decide +kernel)) (fun _ h9 => h9) rfl dX8_needSlots_1 ?_
  refine lv_if_ne (tgt := 18) hx hb dX8_needSlots_4 (by decide) (fun _ => ?_) (fun c0 => absurd c0 (by decide))
  exact W.vret hx hb hr (fun t ht hW => ⟨⟨(), rfl, (by first | trivial | rfl | assumption | omega), trivial⟩, hS.F ht⟩) hS.2.2 dX8_needSlots_18
