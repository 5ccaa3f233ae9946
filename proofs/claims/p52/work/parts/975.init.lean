theorem dX0_init_0 : decode cX0_init 0 = .ok (.aload_n 0, 1) := by decide +kernel
theorem dX0_init_1 : decode cX0_init 1 = .ok (.invokespecial 3, 3) := by decide +kernel
theorem dX0_init_4 : decode cX0_init 4 = .ok (.aload_n 0, 1) := by decide +kernel
theorem dX0_init_5 : decode cX0_init 5 = .ok (.bipush 48, 2) := by decide +kernel
theorem dX0_init_7 : decode cX0_init 7 = .ok (.newarray .int, 2) := by decide +kernel
theorem dX0_init_9 : decode cX0_init 9 = .ok (.putfield 9, 3) := by decide +kernel
theorem dX0_init_12 : decode cX0_init 12 = .ok (.return_, 1) := by decide +kernel
set_option maxHeartbeats 4000000 in
set_option maxRecDepth 100000 in
theorem i_X0 (l : Launch) (g : xG) (sz : Nat) (h0 : Nat)  : Met l yX0_init wsX0_init ({ frames := 1, cells := 1, slots := 48, locals := 20 }) (va_Pc [.ref h0] (fun U => xB g [(h0, .inr (0, [.int 0, .null]))] sz U)) (va_Qv (fun (_ : Unit) => True) (fun (_ : Unit) (t : State) => ∃ (ky : Nat), xE g [(h0, .inr (0, [.int 0, .ref ky])), (ky, .inl (xI g, 48, .inl (fun j => nI ((fun (_ : Nat) => (0 : Nat)) j))))] (va_A [(h0, .inr (0, [.int 0, .null]))] sz) t) (va_A [(h0, .inr (0, [.int 0, .null]))] sz)) 1 48 (va_A [(h0, .inr (0, [.int 0, .null]))] sz) := by
  refine Met.ofW (cc := cX0_init) (maxL := 1) (ret := none) (by decide) rfl ?_
  intro p e s m args below meth c s₁ B hml hv
  obtain ⟨rfl, hsz, hP, hK, hD0⟩ := hv
  have hx := B.exec
  have hb := B.bytes
  have hr := B.returns
  have hts := atoms_spec (ws := wsX0_init) B.pre
  have hown : s.vm.findClass RX0 = some m.cls := findClass_of_methodNamed B.named
  have hlocks := B.notSynchronized
  have hin : meth.name = "<init>" := (name_of_methodNamed B.named B.method).1
  subst hsz
  have hD := hD0.self (sz := s.heap.size)
  generalize hAe : va_A [(h0, .inr (0, [.int 0, .null]))] s.heap.size = A at hD ⊢
  have hA : ∀ q : Nat, s.heap.size ≤ q → A q := fun q h => by rw [← hAe]; exact Or.inr h
  have hS : va_S A s.heap s.heap [] := va_S.rf
  have hl := lv_entry ([.ref h0]) (n := 1) (Nat.le_of_ble_eq_true rfl)
  rw [lg_entry_eq]
  generalize (lg_sl ([.ref h0]) ++ List.replicate (1 - (lg_sl ([.ref h0])).length) Slot.unset).toArray = ls at hl ⊢
  have hl : lv_has ls 1 [(0, .ref h0)] := hl
  have hFX0 : ∀ w ∈ u_ws RX0 TX0 2, w ∈ wsX0_init := by decide +kernel
  refine lv_aload_n hx hb dX0_init_0 rfl (lv_at hl 0 rfl) ?_
  refine W.objInit hx hb hown (hts (.methodLink RX0 3 objectInit) (by decide +kernel)) (hts (.instanceMethod objectInit) (by decide +kernel)) (hts (.code objectInit ⟨#[0xb1]⟩ 1 none) (by decide +kernel)) rfl (by rw [hml]; exact hl.1) rfl dX0_init_1 (Nat.le_of_ble_eq_true rfl) (Nat.le_of_ble_eq_true rfl) ?_
  refine W.eq (g2 := F0 m 4 ls []) rfl ?_
  refine lv_aload_n hx hb dX0_init_4 rfl (lv_at hl 0 rfl) ?_
  refine lv_bipush (v := 48) hx hb dX0_init_5 (by decide) ?_
  refine va_newa (atype := .int) (ty := .int) (N' := 48) (a0 := (48, .inl (fun _ => 0))) hx hb (hts (.arrayClass .int) (by decide +kernel)) rfl hK hP hD hS hA (fun cA => by rfl) (by decide) (by decide) (by decide) (Nat.le_of_ble_eq_true rfl) (Nat.le_of_ble_eq_true rfl) dX0_init_7 (fun q_1 cA H hK9 hP hD hS => ?_)
  obtain rfl := xIEq hK9
  refine W.widen (k := 1) (n := 48) (by omega) (by omega) ?_
  have hP : va_P (xD g) vwCl [(h0, .inr (0, [.int 0, .null])), (q_1, .inl (xI g, 48, .inl (fun j => nI ((fun (_ : Nat) => (0 : Nat)) j))))] H := hP
  have hD : va_D A [(h0, .inr (0, [.int 0, .null])), (q_1, .inl (xI g, 48, .inl (fun j => nI ((fun (_ : Nat) => (0 : Nat)) j))))] := hD
  refine va_putF (D := xD g) (ci := 0) (v := .ref q_1) (ty := .array .int) (C := RX0) (T := TX0) (N := 2) hx hb hts hFX0 tyX0 tyX0_ok nmX0 hown hK hP hD hS 0 rfl rfl 1 (by decide) (hts (.fieldLink RX0 9 "Stevedore$Agenda" "key" "[I") (by decide +kernel)) (fun _ h9 => h9) rfl hin rfl (by decide +kernel) rfl rfl (Nat.le_of_ble_eq_true rfl) dX0_init_9 (fun H locs hP hD hS => ?_)
  have hP : va_P (xD g) vwCl [(h0, .inr (0, [.int 0, .ref q_1])), (q_1, .inl (xI g, 48, .inl (fun j => nI ((fun (_ : Nat) => (0 : Nat)) j))))] H := hP
  have hD : va_D A [(h0, .inr (0, [.int 0, .ref q_1])), (q_1, .inl (xI g, 48, .inl (fun j => nI ((fun (_ : Nat) => (0 : Nat)) j))))] := hD
  have hP9 := hP
  have hD9 := hD
  exact W.vret hx hb hr (fun t ht hW => ⟨⟨(), rfl, (by first | trivial | rfl | assumption | omega), ⟨q_1, by rw [ht]; exact hP9, va_K.moved hW.alike hK, hD9⟩⟩, hS.F ht⟩) hS.2.2 dX0_init_12
theorem dX2_init_0 : decode cX2_init 0 = .ok (.aload_n 0, 1) := by decide +kernel
theorem dX2_init_1 : decode cX2_init 1 = .ok (.invokespecial 3, 3) := by decide +kernel
theorem dX2_init_4 : decode cX2_init 4 = .ok (.aload_n 0, 1) := by decide +kernel
theorem dX2_init_5 : decode cX2_init 5 = .ok (.bipush 24, 2) := by decide +kernel
theorem dX2_init_7 : decode cX2_init 7 = .ok (.newarray .int, 2) := by decide +kernel
theorem dX2_init_9 : decode cX2_init 9 = .ok (.putfield 9, 3) := by decide +kernel
theorem dX2_init_12 : decode cX2_init 12 = .ok (.aload_n 0, 1) := by decide +kernel
theorem dX2_init_13 : decode cX2_init 13 = .ok (.bipush 24, 2) := by decide +kernel
theorem dX2_init_15 : decode cX2_init 15 = .ok (.newarray .int, 2) := by decide +kernel
theorem dX2_init_17 : decode cX2_init 17 = .ok (.putfield 15, 3) := by decide +kernel
theorem dX2_init_20 : decode cX2_init 20 = .ok (.aload_n 0, 1) := by decide +kernel
theorem dX2_init_21 : decode cX2_init 21 = .ok (.bipush 24, 2) := by decide +kernel
theorem dX2_init_23 : decode cX2_init 23 = .ok (.newarray .boolean, 2) := by decide +kernel
theorem dX2_init_25 : decode cX2_init 25 = .ok (.putfield 18, 3) := by decide +kernel
theorem dX2_init_28 : decode cX2_init 28 = .ok (.aload_n 0, 1) := by decide +kernel
theorem dX2_init_29 : decode cX2_init 29 = .ok (.bipush 24, 2) := by decide +kernel
theorem dX2_init_31 : decode cX2_init 31 = .ok (.newarray .int, 2) := by decide +kernel
theorem dX2_init_33 : decode cX2_init 33 = .ok (.putfield 22, 3) := by decide +kernel
theorem dX2_init_36 : decode cX2_init 36 = .ok (.aload_n 0, 1) := by decide +kernel
theorem dX2_init_37 : decode cX2_init 37 = .ok (.bipush 24, 2) := by decide +kernel
theorem dX2_init_39 : decode cX2_init 39 = .ok (.newarray .int, 2) := by decide +kernel
theorem dX2_init_41 : decode cX2_init 41 = .ok (.putfield 25, 3) := by decide +kernel
theorem dX2_init_44 : decode cX2_init 44 = .ok (.return_, 1) := by decide +kernel
set_option maxHeartbeats 4000000 in
set_option maxRecDepth 100000 in
theorem i_X2 (l : Launch) (g : xG) (sz : Nat) (h0 : Nat)  : Met l yX2_init wsX2_init ({ frames := 1, cells := 5, slots := 120, locals := 20 }) (va_Pc [.ref h0] (fun U => xB g [(h0, .inr (2, [.int 0, .null, .null, .null, .null, .null]))] sz U)) (va_Qv (fun (_ : Unit) => True) (fun (_ : Unit) (t : State) => ∃ (cv : Nat) (cb : Nat) (ce : Nat) (cw_ : Nat) (ci_ : Nat), xE g [(h0, .inr (2, [.int 0, .ref cv, .ref cb, .ref ce, .ref cw_, .ref ci_])), (cv, .inl (xI g, 24, .inl (fun j => nI ((fun (_ : Nat) => (0 : Nat)) j)))), (cb, .inl (xI g, 24, .inl (fun j => nI ((fun (_ : Nat) => (0 : Nat)) j)))), (ce, .inl (xZ g, 24, .inl (fun j => iI ((fun (_ : Nat) => (0 : Int)) j)))), (cw_, .inl (xI g, 24, .inl (fun j => iI ((fun (_ : Nat) => (0 : Int)) j)))), (ci_, .inl (xI g, 24, .inl (fun j => iI ((fun (_ : Nat) => (0 : Int)) j))))] (va_A [(h0, .inr (2, [.int 0, .null, .null, .null, .null, .null]))] sz) t) (va_A [(h0, .inr (2, [.int 0, .null, .null, .null, .null, .null]))] sz)) 5 120 (va_A [(h0, .inr (2, [.int 0, .null, .null, .null, .null, .null]))] sz) := by
  refine Met.ofW (cc := cX2_init) (maxL := 1) (ret := none) (by decide) rfl ?_
  intro p e s m args below meth c s₁ B hml hv
  obtain ⟨rfl, hsz, hP, hK, hD0⟩ := hv
  have hx := B.exec
  have hb := B.bytes
  have hr := B.returns
  have hts := atoms_spec (ws := wsX2_init) B.pre
  have hown : s.vm.findClass RX2 = some m.cls := findClass_of_methodNamed B.named
  have hlocks := B.notSynchronized
  have hin : meth.name = "<init>" := (name_of_methodNamed B.named B.method).1
  subst hsz
  have hD := hD0.self (sz := s.heap.size)
  generalize hAe : va_A [(h0, .inr (2, [.int 0, .null, .null, .null, .null, .null]))] s.heap.size = A at hD ⊢
  have hA : ∀ q : Nat, s.heap.size ≤ q → A q := fun q h => by rw [← hAe]; exact Or.inr h
  have hS : va_S A s.heap s.heap [] := va_S.rf
  have hl := lv_entry ([.ref h0]) (n := 1) (Nat.le_of_ble_eq_true rfl)
  rw [lg_entry_eq]
  generalize (lg_sl ([.ref h0]) ++ List.replicate (1 - (lg_sl ([.ref h0])).length) Slot.unset).toArray = ls at hl ⊢
  have hl : lv_has ls 1 [(0, .ref h0)] := hl
  have hFX2 : ∀ w ∈ u_ws RX2 TX2 6, w ∈ wsX2_init := by decide +kernel
  refine lv_aload_n hx hb dX2_init_0 rfl (lv_at hl 0 rfl) ?_
  refine W.objInit hx hb hown (hts (.methodLink RX2 3 objectInit) (by decide +kernel)) (hts (.instanceMethod objectInit) (by decide +kernel)) (hts (.code objectInit ⟨#[0xb1]⟩ 1 none) (by decide +kernel)) rfl (by rw [hml]; exact hl.1) rfl dX2_init_1 (Nat.le_of_ble_eq_true rfl) (Nat.le_of_ble_eq_true rfl) ?_
  refine W.eq (g2 := F0 m 4 ls []) rfl ?_
  refine lv_aload_n hx hb dX2_init_4 rfl (lv_at hl 0 rfl) ?_
  refine lv_bipush (v := 24) hx hb dX2_init_5 (by decide) ?_
  refine va_newa (atype := .int) (ty := .int) (N' := 24) (a0 := (24, .inl (fun _ => 0))) hx hb (hts (.arrayClass .int) (by decide +kernel)) rfl hK hP hD hS hA (fun cA => by rfl) (by decide) (by decide) (by decide) (Nat.le_of_ble_eq_true rfl) (Nat.le_of_ble_eq_true rfl) dX2_init_7 (fun q_1 cA H hK9 hP hD hS => ?_)
  obtain rfl := xIEq hK9
  refine W.widen (k := 1) (n := 24) (by omega) (by omega) ?_
  have hP : va_P (xD g) vwCl [(h0, .inr (2, [.int 0, .null, .null, .null, .null, .null])), (q_1, .inl (xI g, 24, .inl (fun j => nI ((fun (_ : Nat) => (0 : Nat)) j))))] H := hP
  have hD : va_D A [(h0, .inr (2, [.int 0, .null, .null, .null, .null, .null])), (q_1, .inl (xI g, 24, .inl (fun j => nI ((fun (_ : Nat) => (0 : Nat)) j))))] := hD
  refine va_putF (D := xD g) (ci := 2) (v := .ref q_1) (ty := .array .int) (C := RX2) (T := TX2) (N := 6) hx hb hts hFX2 tyX2 tyX2_ok nmX2 hown hK hP hD hS 0 rfl rfl 1 (by decide) (hts (.fieldLink RX2 9 "Stevedore$Cargo" "vessel" "[I") (by decide +kernel)) (fun _ h9 => h9) rfl hin rfl (by decide +kernel) rfl rfl (Nat.le_of_ble_eq_true rfl) dX2_init_9 (fun H locs hP hD hS => ?_)
  have hP : va_P (xD g) vwCl [(h0, .inr (2, [.int 0, .ref q_1, .null, .null, .null, .null])), (q_1, .inl (xI g, 24, .inl (fun j => nI ((fun (_ : Nat) => (0 : Nat)) j))))] H := hP
  have hD : va_D A [(h0, .inr (2, [.int 0, .ref q_1, .null, .null, .null, .null])), (q_1, .inl (xI g, 24, .inl (fun j => nI ((fun (_ : Nat) => (0 : Nat)) j))))] := hD
  refine lv_aload_n hx hb dX2_init_12 rfl (lv_at hl 0 rfl) ?_
  refine lv_bipush (v := 24) hx hb dX2_init_13 (by decide) ?_
  refine va_newa (atype := .int) (ty := .int) (N' := 24) (a0 := (24, .inl (fun _ => 0))) hx hb (hts (.arrayClass .int) (by decide +kernel)) rfl hK hP hD hS hA (fun cA => by rfl) (by decide) (by decide) (by decide) (Nat.le_of_ble_eq_true rfl) (Nat.le_of_ble_eq_true rfl) dX2_init_15 (fun q_2 cA H hK9 hP hD hS => ?_)
  obtain rfl := xIEq hK9
  refine W.widen (k := 2) (n := 48) (by omega) (by omega) ?_
  have hP : va_P (xD g) vwCl [(h0, .inr (2, [.int 0, .ref q_1, .null, .null, .null, .null])), (q_1, .inl (xI g, 24, .inl (fun j => nI ((fun (_ : Nat) => (0 : Nat)) j)))), (q_2, .inl (xI g, 24, .inl (fun j => nI ((fun (_ : Nat) => (0 : Nat)) j))))] H := hP
  have hD : va_D A [(h0, .inr (2, [.int 0, .ref q_1, .null, .null, .null, .null])), (q_1, .inl (xI g, 24, .inl (fun j => nI ((fun (_ : Nat) => (0 : Nat)) j)))), (q_2, .inl (xI g, 24, .inl (fun j => nI ((fun (_ : Nat) => (0 : Nat)) j))))] := hD
  refine va_putF (D := xD g) (ci := 2) (v := .ref q_2) (ty := .array .int) (C := RX2) (T := TX2) (N := 6) hx hb hts hFX2 tyX2 tyX2_ok nmX2 hown hK hP hD hS 0 rfl rfl 2 (by decide) (hts (.fieldLink RX2 15 "Stevedore$Cargo" "bay" "[I") (by decide +kernel)) (fun _ h9 => h9) rfl hin rfl (by decide +kernel) rfl rfl (Nat.le_of_ble_eq_true rfl) dX2_init_17 (fun H locs hP hD hS => ?_)
  have hP : va_P (xD g) vwCl [(h0, .inr (2, [.int 0, .ref q_1, .ref q_2, .null, .null, .null])), (q_1, .inl (xI g, 24, .inl (fun j => nI ((fun (_ : Nat) => (0 : Nat)) j)))), (q_2, .inl (xI g, 24, .inl (fun j => nI ((fun (_ : Nat) => (0 : Nat)) j))))] H := hP
  have hD : va_D A [(h0, .inr (2, [.int 0, .ref q_1, .ref q_2, .null, .null, .null])), (q_1, .inl (xI g, 24, .inl (fun j => nI ((fun (_ : Nat) => (0 : Nat)) j)))), (q_2, .inl (xI g, 24, .inl (fun j => nI ((fun (_ : Nat) => (0 : Nat)) j))))] := hD
  refine lv_aload_n hx hb dX2_init_20 rfl (lv_at hl 0 rfl) ?_
  refine lv_bipush (v := 24) hx hb dX2_init_21 (by decide) ?_
  refine va_newa (atype := .boolean) (ty := .boolean) (N' := 24) (a0 := (24, .inl (fun _ => 0))) hx hb (hts (.arrayClass .boolean) (by decide +kernel)) rfl hK hP hD hS hA (fun cA => by rfl) (by decide) (by decide) (by decide) (Nat.le_of_ble_eq_true rfl) (Nat.le_of_ble_eq_true rfl) dX2_init_23 (fun q_3 cA H hK9 hP hD hS => ?_)
  obtain rfl := xZEq hK9
  refine W.widen (k := 3) (n := 72) (by omega) (by omega) ?_
  have hP : va_P (xD g) vwCl [(h0, .inr (2, [.int 0, .ref q_1, .ref q_2, .null, .null, .null])), (q_1, .inl (xI g, 24, .inl (fun j => nI ((fun (_ : Nat) => (0 : Nat)) j)))), (q_2, .inl (xI g, 24, .inl (fun j => nI ((fun (_ : Nat) => (0 : Nat)) j)))), (q_3, .inl (xZ g, 24, .inl (fun j => iI ((fun (_ : Nat) => (0 : Int)) j))))] H := hP
  have hD : va_D A [(h0, .inr (2, [.int 0, .ref q_1, .ref q_2, .null, .null, .null])), (q_1, .inl (xI g, 24, .inl (fun j => nI ((fun (_ : Nat) => (0 : Nat)) j)))), (q_2, .inl (xI g, 24, .inl (fun j => nI ((fun (_ : Nat) => (0 : Nat)) j)))), (q_3, .inl (xZ g, 24, .inl (fun j => iI ((fun (_ : Nat) => (0 : Int)) j))))] := hD
  refine va_putF (D := xD g) (ci := 2) (v := .ref q_3) (ty := .array .boolean) (C := RX2) (T := TX2) (N := 6) hx hb hts hFX2 tyX2 tyX2_ok nmX2 hown hK hP hD hS 0 rfl rfl 3 (by decide) (hts (.fieldLink RX2 18 "Stevedore$Cargo" "isExport" "[Z") (by decide +kernel)) (fun _ h9 => h9) rfl hin rfl (by decide +kernel) rfl rfl (Nat.le_of_ble_eq_true rfl) dX2_init_25 (fun H locs hP hD hS => ?_)
  have hP : va_P (xD g) vwCl [(h0, .inr (2, [.int 0, .ref q_1, .ref q_2, .ref q_3, .null, .null])), (q_1, .inl (xI g, 24, .inl (fun j => nI ((fun (_ : Nat) => (0 : Nat)) j)))), (q_2, .inl (xI g, 24, .inl (fun j => nI ((fun (_ : Nat) => (0 : Nat)) j)))), (q_3, .inl (xZ g, 24, .inl (fun j => iI ((fun (_ : Nat) => (0 : Int)) j))))] H := hP
  have hD : va_D A [(h0, .inr (2, [.int 0, .ref q_1, .ref q_2, .ref q_3, .null, .null])), (q_1, .inl (xI g, 24, .inl (fun j => nI ((fun (_ : Nat) => (0 : Nat)) j)))), (q_2, .inl (xI g, 24, .inl (fun j => nI ((fun (_ : Nat) => (0 : Nat)) j)))), (q_3, .inl (xZ g, 24, .inl (fun j => iI ((fun (_ : Nat) => (0 : Int)) j))))] := hD
  refine lv_aload_n hx hb dX2_init_28 rfl (lv_at hl 0 rfl) ?_
  refine lv_bipush (v := 24) hx hb dX2_init_29 (by decide) ?_
  refine va_newa (atype := .int) (ty := .int) (N' := 24) (a0 := (24, .inl (fun _ => 0))) hx hb (hts (.arrayClass .int) (by decide +kernel)) rfl hK hP hD hS hA (fun cA => by rfl) (by decide) (by decide) (by decide) (Nat.le_of_ble_eq_true rfl) (Nat.le_of_ble_eq_true rfl) dX2_init_31 (fun q_4 cA H hK9 hP hD hS => ?_)
  obtain rfl := xIEq hK9
  refine W.widen (k := 4) (n := 96) (by omega) (by omega) ?_
  have hP : va_P (xD g) vwCl [(h0, .inr (2, [.int 0, .ref q_1, .ref q_2, .ref q_3, .null, .null])), (q_1, .inl (xI g, 24, .inl (fun j => nI ((fun (_ : Nat) => (0 : Nat)) j)))), (q_2, .inl (xI g, 24, .inl (fun j => nI ((fun (_ : Nat) => (0 : Nat)) j)))), (q_3, .inl (xZ g, 24, .inl (fun j => iI ((fun (_ : Nat) => (0 : Int)) j)))), (q_4, .inl (xI g, 24, .inl (fun j => iI ((fun (_ : Nat) => (0 : Int)) j))))] H := hP
  have hD : va_D A [(h0, .inr (2, [.int 0, .ref q_1, .ref q_2, .ref q_3, .null, .null])), (q_1, .inl (xI g, 24, .inl (fun j => nI ((fun (_ : Nat) => (0 : Nat)) j)))), (q_2, .inl (xI g, 24, .inl (fun j => nI ((fun (_ : Nat) => (0 : Nat)) j)))), (q_3, .inl (xZ g, 24, .inl (fun j => iI ((fun (_ : Nat) => (0 : Int)) j)))), (q_4, .inl (xI g, 24, .inl (fun j => iI ((fun (_ : Nat) => (0 : Int)) j))))] := hD
  refine va_putF (D := xD g) (ci := 2) (v := .ref q_4) (ty := .array .int) (C := RX2) (T := TX2) (N := 6) hx hb hts hFX2 tyX2 tyX2_ok nmX2 hown hK hP hD hS 0 rfl rfl 4 (by decide) (hts (.fieldLink RX2 22 "Stevedore$Cargo" "weight" "[I") (by decide +kernel)) (fun _ h9 => h9) rfl hin rfl (by decide +kernel) rfl rfl (Nat.le_of_ble_eq_true rfl) dX2_init_33 (fun H locs hP hD hS => ?_)
  have hP : va_P (xD g) vwCl [(h0, .inr (2, [.int 0, .ref q_1, .ref q_2, .ref q_3, .ref q_4, .null])), (q_1, .inl (xI g, 24, .inl (fun j => nI ((fun (_ : Nat) => (0 : Nat)) j)))), (q_2, .inl (xI g, 24, .inl (fun j => nI ((fun (_ : Nat) => (0 : Nat)) j)))), (q_3, .inl (xZ g, 24, .inl (fun j => iI ((fun (_ : Nat) => (0 : Int)) j)))), (q_4, .inl (xI g, 24, .inl (fun j => iI ((fun (_ : Nat) => (0 : Int)) j))))] H := hP
  have hD : va_D A [(h0, .inr (2, [.int 0, .ref q_1, .ref q_2, .ref q_3, .ref q_4, .null])), (q_1, .inl (xI g, 24, .inl (fun j => nI ((fun (_ : Nat) => (0 : Nat)) j)))), (q_2, .inl (xI g, 24, .inl (fun j => nI ((fun (_ : Nat) => (0 : Nat)) j)))), (q_3, .inl (xZ g, 24, .inl (fun j => iI ((fun (_ : Nat) => (0 : Int)) j)))), (q_4, .inl (xI g, 24, .inl (fun j => iI ((fun (_ : Nat) => (0 : Int)) j))))] := hD
  refine lv_aload_n hx hb dX2_init_36 rfl (lv_at hl 0 rfl) ?_
  refine lv_bipush (v := 24) hx hb dX2_init_37 (by decide) ?_
  refine va_newa (atype := .int) (ty := .int) (N' := 24) (a0 := (24, .inl (fun _ => 0))) hx hb (hts (.arrayClass .int) (by decide +kernel)) rfl hK hP hD hS hA (fun cA => by rfl) (by decide) (by decide) (by decide) (Nat.le_of_ble_eq_true rfl) (Nat.le_of_ble_eq_true rfl) dX2_init_39 (fun q_5 cA H hK9 hP hD hS => ?_)
  obtain rfl := xIEq hK9
  refine W.widen (k := 5) (n := 120) (by omega) (by omega) ?_
  have hP : va_P (xD g) vwCl [(h0, .inr (2, [.int 0, .ref q_1, .ref q_2, .ref q_3, .ref q_4, .null])), (q_1, .inl (xI g, 24, .inl (fun j => nI ((fun (_ : Nat) => (0 : Nat)) j)))), (q_2, .inl (xI g, 24, .inl (fun j => nI ((fun (_ : Nat) => (0 : Nat)) j)))), (q_3, .inl (xZ g, 24, .inl (fun j => iI ((fun (_ : Nat) => (0 : Int)) j)))), (q_4, .inl (xI g, 24, .inl (fun j => iI ((fun (_ : Nat) => (0 : Int)) j)))), (q_5, .inl (xI g, 24, .inl (fun j => iI ((fun (_ : Nat) => (0 : Int)) j))))] H := hP
  have hD : va_D A [(h0, .inr (2, [.int 0, .ref q_1, .ref q_2, .ref q_3, .ref q_4, .null])), (q_1, .inl (xI g, 24, .inl (fun j => nI ((fun (_ : Nat) => (0 : Nat)) j)))), (q_2, .inl (xI g, 24, .inl (fun j => nI ((fun (_ : Nat) => (0 : Nat)) j)))), (q_3, .inl (xZ g, 24, .inl (fun j => iI ((fun (_ : Nat) => (0 : Int)) j)))), (q_4, .inl (xI g, 24, .inl (fun j => iI ((fun (_ : Nat) => (0 : Int)) j)))), (q_5, .inl (xI g, 24, .inl (fun j => iI ((fun (_ : Nat) => (0 : Int)) j))))] := hD
  refine va_putF (D := xD g) (ci := 2) (v := .ref q_5) (ty := .array .int) (C := RX2) (T := TX2) (N := 6) hx hb hts hFX2 tyX2 tyX2_ok nmX2 hown hK hP hD hS 0 rfl rfl 5 (by decide) (hts (.fieldLink RX2 25 "Stevedore$Cargo" "wish" "[I") (by decide +kernel)) (fun _ h9 => h9) rfl hin rfl (by decide +kernel) rfl rfl (Nat.le_of_ble_eq_true rfl) dX2_init_41 (fun H locs hP hD hS => ?_)
  have hP : va_P (xD g) vwCl [(h0, .inr (2, [.int 0, .ref q_1, .ref q_2, .ref q_3, .ref q_4, .ref q_5])), (q_1, .inl (xI g, 24, .inl (fun j => nI ((fun (_ : Nat) => (0 : Nat)) j)))), (q_2, .inl (xI g, 24, .inl (fun j => nI ((fun (_ : Nat) => (0 : Nat)) j)))), (q_3, .inl (xZ g, 24, .inl (fun j => iI ((fun (_ : Nat) => (0 : Int)) j)))), (q_4, .inl (xI g, 24, .inl (fun j => iI ((fun (_ : Nat) => (0 : Int)) j)))), (q_5, .inl (xI g, 24, .inl (fun j => iI ((fun (_ : Nat) => (0 : Int)) j))))] H := hP
  have hD : va_D A [(h0, .inr (2, [.int 0, .ref q_1, .ref q_2, .ref q_3, .ref q_4, .ref q_5])), (q_1, .inl (xI g, 24, .inl (fun j => nI ((fun (_ : Nat) => (0 : Nat)) j)))), (q_2, .inl (xI g, 24, .inl (fun j => nI ((fun (_ : Nat) => (0 : Nat)) j)))), (q_3, .inl (xZ g, 24, .inl (fun j => iI ((fun (_ : Nat) => (0 : Int)) j)))), (q_4, .inl (xI g, 24, .inl (fun j => iI ((fun (_ : Nat) => (0 : Int)) j)))), (q_5, .inl (xI g, 24, .inl (fun j => iI ((fun (_ : Nat) => (0 : Int)) j))))] := hD
  have hP9 := hP
  have hD9 := hD
  exact W.vret hx hb hr (fun t ht hW => ⟨⟨(), rfl, (by first | trivial | rfl | assumption | omega), ⟨q_1, q_2, q_3, q_4, q_5, by rw [ht]; exact hP9, va_K.moved hW.alike hK, hD9⟩⟩, hS.F ht⟩) hS.2.2 dX2_init_44
theorem dX4_init_0 : decode cX4_init 0 = .ok (.aload_n 0, 1) := by decide +kernel
theorem dX4_init_1 : decode cX4_init 1 = .ok (.invokespecial 3, 3) := by decide +kernel
theorem dX4_init_4 : decode cX4_init 4 = .ok (.aload_n 0, 1) := by decide +kernel
theorem dX4_init_5 : decode cX4_init 5 = .ok (.bipush 6, 2) := by decide +kernel
theorem dX4_init_7 : decode cX4_init 7 = .ok (.newarray .int, 2) := by decide +kernel
theorem dX4_init_9 : decode cX4_init 9 = .ok (.putfield 9, 3) := by decide +kernel
theorem dX4_init_12 : decode cX4_init 12 = .ok (.aload_n 0, 1) := by decide +kernel
theorem dX4_init_13 : decode cX4_init 13 = .ok (.bipush 6, 2) := by decide +kernel
theorem dX4_init_15 : decode cX4_init 15 = .ok (.newarray .int, 2) := by decide +kernel
theorem dX4_init_17 : decode cX4_init 17 = .ok (.putfield 15, 3) := by decide +kernel
theorem dX4_init_20 : decode cX4_init 20 = .ok (.aload_n 0, 1) := by decide +kernel
theorem dX4_init_21 : decode cX4_init 21 = .ok (.bipush 6, 2) := by decide +kernel
theorem dX4_init_23 : decode cX4_init 23 = .ok (.newarray .int, 2) := by decide +kernel
theorem dX4_init_25 : decode cX4_init 25 = .ok (.putfield 18, 3) := by decide +kernel
theorem dX4_init_28 : decode cX4_init 28 = .ok (.return_, 1) := by decide +kernel
set_option maxHeartbeats 4000000 in
set_option maxRecDepth 100000 in
theorem i_X4 (l : Launch) (g : xG) (sz : Nat) (h0 : Nat)  : Met l yX4_init wsX4_init ({ frames := 1, cells := 3, slots := 18, locals := 20 }) (va_Pc [.ref h0] (fun U => xB g [(h0, .inr (4, [.int 0, .null, .null, .null]))] sz U)) (va_Qv (fun (_ : Unit) => True) (fun (_ : Unit) (t : State) => ∃ (po : Nat) (ps : Nat) (pp : Nat), xE g [(h0, .inr (4, [.int 0, .ref po, .ref ps, .ref pp])), (po, .inl (xI g, 6, .inl (fun j => nI ((fun (_ : Nat) => (0 : Nat)) j)))), (ps, .inl (xI g, 6, .inl (fun j => iI ((fun (_ : Nat) => (0 : Int)) j)))), (pp, .inl (xI g, 6, .inl (fun j => iI ((fun (_ : Nat) => (0 : Int)) j))))] (va_A [(h0, .inr (4, [.int 0, .null, .null, .null]))] sz) t) (va_A [(h0, .inr (4, [.int 0, .null, .null, .null]))] sz)) 3 18 (va_A [(h0, .inr (4, [.int 0, .null, .null, .null]))] sz) := by
  refine Met.ofW (cc := cX4_init) (maxL := 1) (ret := none) (by decide) rfl ?_
  intro p e s m args below meth c s₁ B hml hv
  obtain ⟨rfl, hsz, hP, hK, hD0⟩ := hv
  have hx := B.exec
  have hb := B.bytes
  have hr := B.returns
  have hts := atoms_spec (ws := wsX4_init) B.pre
  have hown : s.vm.findClass RX4 = some m.cls := findClass_of_methodNamed B.named
  have hlocks := B.notSynchronized
  have hin : meth.name = "<init>" := (name_of_methodNamed B.named B.method).1
  subst hsz
  have hD := hD0.self (sz := s.heap.size)
  generalize hAe : va_A [(h0, .inr (4, [.int 0, .null, .null, .null]))] s.heap.size = A at hD ⊢
  have hA : ∀ q : Nat, s.heap.size ≤ q → A q := fun q h => by rw [← hAe]; exact Or.inr h
  have hS : va_S A s.heap s.heap [] := va_S.rf
  have hl := lv_entry ([.ref h0]) (n := 1) (Nat.le_of_ble_eq_true rfl)
  rw [lg_entry_eq]
  generalize (lg_sl ([.ref h0]) ++ List.replicate (1 - (lg_sl ([.ref h0])).length) Slot.unset).toArray = ls at hl ⊢
  have hl : lv_has ls 1 [(0, .ref h0)] := hl
  have hFX4 : ∀ w ∈ u_ws RX4 TX4 4, w ∈ wsX4_init := by decide +kernel
  refine lv_aload_n hx hb dX4_init_0 rfl (lv_at hl 0 rfl) ?_
  refine W.objInit hx hb hown (hts (.methodLink RX4 3 objectInit) (by decide +kernel)) (hts (.instanceMethod objectInit) (by decide +kernel)) (hts (.code objectInit ⟨#[0xb1]⟩ 1 none) (by decide +kernel)) rfl (by rw [hml]; exact hl.1) rfl dX4_init_1 (Nat.le_of_ble_eq_true rfl) (Nat.le_of_ble_eq_true rfl) ?_
  refine W.eq (g2 := F0 m 4 ls []) rfl ?_
  refine lv_aload_n hx hb dX4_init_4 rfl (lv_at hl 0 rfl) ?_
  refine lv_bipush (v := 6) hx hb dX4_init_5 (by decide) ?_
  refine va_newa (atype := .int) (ty := .int) (N' := 6) (a0 := (6, .inl (fun _ => 0))) hx hb (hts (.arrayClass .int) (by decide +kernel)) rfl hK hP hD hS hA (fun cA => by rfl) (by decide) (by decide) (by decide) (Nat.le_of_ble_eq_true rfl) (Nat.le_of_ble_eq_true rfl) dX4_init_7 (fun q_1 cA H hK9 hP hD hS => ?_)
  obtain rfl := xIEq hK9
  refine W.widen (k := 1) (n := 6) (by omega) (by omega) ?_
  have hP : va_P (xD g) vwCl [(h0, .inr (4, [.int 0, .null, .null, .null])), (q_1, .inl (xI g, 6, .inl (fun j => nI ((fun (_ : Nat) => (0 : Nat)) j))))] H := hP
  have hD : va_D A [(h0, .inr (4, [.int 0, .null, .null, .null])), (q_1, .inl (xI g, 6, .inl (fun j => nI ((fun (_ : Nat) => (0 : Nat)) j))))] := hD
  refine va_putF (D := xD g) (ci := 4) (v := .ref q_1) (ty := .array .int) (C := RX4) (T := TX4) (N := 4) hx hb hts hFX4 tyX4 tyX4_ok nmX4 hown hK hP hD hS 0 rfl rfl 1 (by decide) (hts (.fieldLink RX4 9 "Stevedore$Plan" "order" "[I") (by decide +kernel)) (fun _ h9 => h9) rfl hin rfl (by decide +kernel) rfl rfl (Nat.le_of_ble_eq_true rfl) dX4_init_9 (fun H locs hP hD hS => ?_)
  have hP : va_P (xD g) vwCl [(h0, .inr (4, [.int 0, .ref q_1, .null, .null])), (q_1, .inl (xI g, 6, .inl (fun j => nI ((fun (_ : Nat) => (0 : Nat)) j))))] H := hP
  have hD : va_D A [(h0, .inr (4, [.int 0, .ref q_1, .null, .null])), (q_1, .inl (xI g, 6, .inl (fun j => nI ((fun (_ : Nat) => (0 : Nat)) j))))] := hD
  refine lv_aload_n hx hb dX4_init_12 rfl (lv_at hl 0 rfl) ?_
  refine lv_bipush (v := 6) hx hb dX4_init_13 (by decide) ?_
  refine va_newa (atype := .int) (ty := .int) (N' := 6) (a0 := (6, .inl (fun _ => 0))) hx hb (hts (.arrayClass .int) (by decide +kernel)) rfl hK hP hD hS hA (fun cA => by rfl) (by decide) (by decide) (by decide) (Nat.le_of_ble_eq_true rfl) (Nat.le_of_ble_eq_true rfl) dX4_init_15 (fun q_2 cA H hK9 hP hD hS => ?_)
  obtain rfl := xIEq hK9
  refine W.widen (k := 2) (n := 12) (by omega) (by omega) ?_
  have hP : va_P (xD g) vwCl [(h0, .inr (4, [.int 0, .ref q_1, .null, .null])), (q_1, .inl (xI g, 6, .inl (fun j => nI ((fun (_ : Nat) => (0 : Nat)) j)))), (q_2, .inl (xI g, 6, .inl (fun j => iI ((fun (_ : Nat) => (0 : Int)) j))))] H := hP
  have hD : va_D A [(h0, .inr (4, [.int 0, .ref q_1, .null, .null])), (q_1, .inl (xI g, 6, .inl (fun j => nI ((fun (_ : Nat) => (0 : Nat)) j)))), (q_2, .inl (xI g, 6, .inl (fun j => iI ((fun (_ : Nat) => (0 : Int)) j))))] := hD
  refine va_putF (D := xD g) (ci := 4) (v := .ref q_2) (ty := .array .int) (C := RX4) (T := TX4) (N := 4) hx hb hts hFX4 tyX4 tyX4_ok nmX4 hown hK hP hD hS 0 rfl rfl 2 (by decide) (hts (.fieldLink RX4 15 "Stevedore$Plan" "start" "[I") (by decide +kernel)) (fun _ h9 => h9) rfl hin rfl (by decide +kernel) rfl rfl (Nat.le_of_ble_eq_true rfl) dX4_init_17 (fun H locs hP hD hS => ?_)
  have hP : va_P (xD g) vwCl [(h0, .inr (4, [.int 0, .ref q_1, .ref q_2, .null])), (q_1, .inl (xI g, 6, .inl (fun j => nI ((fun (_ : Nat) => (0 : Nat)) j)))), (q_2, .inl (xI g, 6, .inl (fun j => iI ((fun (_ : Nat) => (0 : Int)) j))))] H := hP
  have hD : va_D A [(h0, .inr (4, [.int 0, .ref q_1, .ref q_2, .null])), (q_1, .inl (xI g, 6, .inl (fun j => nI ((fun (_ : Nat) => (0 : Nat)) j)))), (q_2, .inl (xI g, 6, .inl (fun j => iI ((fun (_ : Nat) => (0 : Int)) j))))] := hD
  refine lv_aload_n hx hb dX4_init_20 rfl (lv_at hl 0 rfl) ?_
  refine lv_bipush (v := 6) hx hb dX4_init_21 (by decide) ?_
  refine va_newa (atype := .int) (ty := .int) (N' := 6) (a0 := (6, .inl (fun _ => 0))) hx hb (hts (.arrayClass .int) (by decide +kernel)) rfl hK hP hD hS hA (fun cA => by rfl) (by decide) (by decide) (by decide) (Nat.le_of_ble_eq_true rfl) (Nat.le_of_ble_eq_true rfl) dX4_init_23 (fun q_3 cA H hK9 hP hD hS => ?_)
  obtain rfl := xIEq hK9
  refine W.widen (k := 3) (n := 18) (by omega) (by omega) ?_
  have hP : va_P (xD g) vwCl [(h0, .inr (4, [.int 0, .ref q_1, .ref q_2, .null])), (q_1, .inl (xI g, 6, .inl (fun j => nI ((fun (_ : Nat) => (0 : Nat)) j)))), (q_2, .inl (xI g, 6, .inl (fun j => iI ((fun (_ : Nat) => (0 : Int)) j)))), (q_3, .inl (xI g, 6, .inl (fun j => iI ((fun (_ : Nat) => (0 : Int)) j))))] H := hP
  have hD : va_D A [(h0, .inr (4, [.int 0, .ref q_1, .ref q_2, .null])), (q_1, .inl (xI g, 6, .inl (fun j => nI ((fun (_ : Nat) => (0 : Nat)) j)))), (q_2, .inl (xI g, 6, .inl (fun j => iI ((fun (_ : Nat) => (0 : Int)) j)))), (q_3, .inl (xI g, 6, .inl (fun j => iI ((fun (_ : Nat) => (0 : Int)) j))))] := hD
  refine va_putF (D := xD g) (ci := 4) (v := .ref q_3) (ty := .array .int) (C := RX4) (T := TX4) (N := 4) hx hb hts hFX4 tyX4 tyX4_ok nmX4 hown hK hP hD hS 0 rfl rfl 3 (by decide) (hts (.fieldLink RX4 18 "Stevedore$Plan" "place" "[I") (by decide +kernel)) (fun _ h9 => h9) rfl hin rfl (by decide +kernel) rfl rfl (Nat.le_of_ble_eq_true rfl) dX4_init_25 (fun H locs hP hD hS => ?_)
  have hP : va_P (xD g) vwCl [(h0, .inr (4, [.int 0, .ref q_1, .ref q_2, .ref q_3])), (q_1, .inl (xI g, 6, .inl (fun j => nI ((fun (_ : Nat) => (0 : Nat)) j)))), (q_2, .inl (xI g, 6, .inl (fun j => iI ((fun (_ : Nat) => (0 : Int)) j)))), (q_3, .inl (xI g, 6, .inl (fun j => iI ((fun (_ : Nat) => (0 : Int)) j))))] H := hP
  have hD : va_D A [(h0, .inr (4, [.int 0, .ref q_1, .ref q_2, .ref q_3])), (q_1, .inl (xI g, 6, .inl (fun j => nI ((fun (_ : Nat) => (0 : Nat)) j)))), (q_2, .inl (xI g, 6, .inl (fun j => iI ((fun (_ : Nat) => (0 : Int)) j)))), (q_3, .inl (xI g, 6, .inl (fun j => iI ((fun (_ : Nat) => (0 : Int)) j))))] := hD
  have hP9 := hP
  have hD9 := hD
  exact W.vret hx hb hr (fun t ht hW => ⟨⟨(), rfl, (by first | trivial | rfl | assumption | omega), ⟨q_1, q_2, q_3, by rw [ht]; exact hP9, va_K.moved hW.alike hK, hD9⟩⟩, hS.F ht⟩) hS.2.2 dX4_init_28
theorem dX6_init_0 : decode cX6_init 0 = .ok (.aload_n 0, 1) := by decide +kernel
theorem dX6_init_1 : decode cX6_init 1 = .ok (.invokespecial 3, 3) := by decide +kernel
theorem dX6_init_4 : decode cX6_init 4 = .ok (.aload_n 0, 1) := by decide +kernel
theorem dX6_init_5 : decode cX6_init 5 = .ok (.bipush 10, 2) := by decide +kernel
theorem dX6_init_7 : decode cX6_init 7 = .ok (.newarray .int, 2) := by decide +kernel
theorem dX6_init_9 : decode cX6_init 9 = .ok (.putfield 9, 3) := by decide +kernel
theorem dX6_init_12 : decode cX6_init 12 = .ok (.aload_n 0, 1) := by decide +kernel
theorem dX6_init_13 : decode cX6_init 13 = .ok (.iconst 4, 1) := by decide +kernel
theorem dX6_init_14 : decode cX6_init 14 = .ok (.newarray .int, 2) := by decide +kernel
theorem dX6_init_16 : decode cX6_init 16 = .ok (.putfield 15, 3) := by decide +kernel
theorem dX6_init_19 : decode cX6_init 19 = .ok (.aload_n 0, 1) := by decide +kernel
theorem dX6_init_20 : decode cX6_init 20 = .ok (.bipush 10, 2) := by decide +kernel
theorem dX6_init_22 : decode cX6_init 22 = .ok (.newarray .int, 2) := by decide +kernel
theorem dX6_init_24 : decode cX6_init 24 = .ok (.putfield 18, 3) := by decide +kernel
theorem dX6_init_27 : decode cX6_init 27 = .ok (.return_, 1) := by decide +kernel
set_option maxHeartbeats 4000000 in
set_option maxRecDepth 100000 in
theorem i_X6 (l : Launch) (g : xG) (sz : Nat) (h0 : Nat)  : Met l yX6_init wsX6_init ({ frames := 1, cells := 3, slots := 24, locals := 20 }) (va_Pc [.ref h0] (fun U => xB g [(h0, .inr (6, [.int 0, .int 0, .int 0, .int 0, .int 0, .int 0, .int 0, .int 0, .null, .null, .null]))] sz U)) (va_Qv (fun (_ : Unit) => True) (fun (_ : Unit) (t : State) => ∃ (wb : Nat) (fr : Nat) (bg : Nat), xE g [(h0, .inr (6, [.int 0, .int 0, .int 0, .int 0, .int 0, .int 0, .int 0, .int 0, .ref wb, .ref fr, .ref bg])), (wb, .inl (xI g, 10, .inl (fun j => iI ((fun (_ : Nat) => (0 : Int)) j)))), (fr, .inl (xI g, 4, .inl (fun j => nI ((fun (_ : Nat) => (0 : Nat)) j)))), (bg, .inl (xI g, 10, .inl (fun j => iI ((fun (_ : Nat) => (0 : Int)) j))))] (va_A [(h0, .inr (6, [.int 0, .int 0, .int 0, .int 0, .int 0, .int 0, .int 0, .int 0, .null, .null, .null]))] sz) t) (va_A [(h0, .inr (6, [.int 0, .int 0, .int 0, .int 0, .int 0, .int 0, .int 0, .int 0, .null, .null, .null]))] sz)) 3 24 (va_A [(h0, .inr (6, [.int 0, .int 0, .int 0, .int 0, .int 0, .int 0, .int 0, .int 0, .null, .null, .null]))] sz) := by
  refine Met.ofW (cc := cX6_init) (maxL := 1) (ret := none) (by decide) rfl ?_
  intro p e s m args below meth c s₁ B hml hv
  obtain ⟨rfl, hsz, hP, hK, hD0⟩ := hv
  have hx := B.exec
  have hb := B.bytes
  have hr := B.returns
  have hts := atoms_spec (ws := wsX6_init) B.pre
  have hown : s.vm.findClass RX6 = some m.cls := findClass_of_methodNamed B.named
  have hlocks := B.notSynchronized
  have hin : meth.name = "<init>" := (name_of_methodNamed B.named B.method).1
  subst hsz
  have hD := hD0.self (sz := s.heap.size)
  generalize hAe : va_A [(h0, .inr (6, [.int 0, .int 0, .int 0, .int 0, .int 0, .int 0, .int 0, .int 0, .null, .null, .null]))] s.heap.size = A at hD ⊢
  have hA : ∀ q : Nat, s.heap.size ≤ q → A q := fun q h => by rw [← hAe]; exact Or.inr h
  have hS : va_S A s.heap s.heap [] := va_S.rf
  have hl := lv_entry ([.ref h0]) (n := 1) (Nat.le_of_ble_eq_true rfl)
  rw [lg_entry_eq]
  generalize (lg_sl ([.ref h0]) ++ List.replicate (1 - (lg_sl ([.ref h0])).length) Slot.unset).toArray = ls at hl ⊢
  have hl : lv_has ls 1 [(0, .ref h0)] := hl
  have hFX6 : ∀ w ∈ u_ws RX6 TX6 11, w ∈ wsX6_init := by decide +kernel
  refine lv_aload_n hx hb dX6_init_0 rfl (lv_at hl 0 rfl) ?_
  refine W.objInit hx hb hown (hts (.methodLink RX6 3 objectInit) (by decide +kernel)) (hts (.instanceMethod objectInit) (by decide +kernel)) (hts (.code objectInit ⟨#[0xb1]⟩ 1 none) (by decide +kernel)) rfl (by rw [hml]; exact hl.1) rfl dX6_init_1 (Nat.le_of_ble_eq_true rfl) (Nat.le_of_ble_eq_true rfl) ?_
  refine W.eq (g2 := F0 m 4 ls []) rfl ?_
  refine lv_aload_n hx hb dX6_init_4 rfl (lv_at hl 0 rfl) ?_
  refine lv_bipush (v := 10) hx hb dX6_init_5 (by decide) ?_
  refine va_newa (atype := .int) (ty := .int) (N' := 10) (a0 := (10, .inl (fun _ => 0))) hx hb (hts (.arrayClass .int) (by decide +kernel)) rfl hK hP hD hS hA (fun cA => by rfl) (by decide) (by decide) (by decide) (Nat.le_of_ble_eq_true rfl) (Nat.le_of_ble_eq_true rfl) dX6_init_7 (fun q_1 cA H hK9 hP hD hS => ?_)
  obtain rfl := xIEq hK9
  refine W.widen (k := 1) (n := 10) (by omega) (by omega) ?_
  have hP : va_P (xD g) vwCl [(h0, .inr (6, [.int 0, .int 0, .int 0, .int 0, .int 0, .int 0, .int 0, .int 0, .null, .null, .null])), (q_1, .inl (xI g, 10, .inl (fun j => iI ((fun (_ : Nat) => (0 : Int)) j))))] H := hP
  have hD : va_D A [(h0, .inr (6, [.int 0, .int 0, .int 0, .int 0, .int 0, .int 0, .int 0, .int 0, .null, .null, .null])), (q_1, .inl (xI g, 10, .inl (fun j => iI ((fun (_ : Nat) => (0 : Int)) j))))] := hD
  refine va_putF (D := xD g) (ci := 6) (v := .ref q_1) (ty := .array .int) (C := RX6) (T := TX6) (N := 11) hx hb hts hFX6 tyX6 tyX6_ok nmX6 hown hK hP hD hS 0 rfl rfl 8 (by decide) (hts (.fieldLink RX6 9 "Stevedore$Vessel" "workOfBay" "[I") (by decide +kernel)) (fun _ h9 => h9) rfl hin rfl (by decide +kernel) rfl rfl (Nat.le_of_ble_eq_true rfl) dX6_init_9 (fun H locs hP hD hS => ?_)
  have hP : va_P (xD g) vwCl [(h0, .inr (6, [.int 0, .int 0, .int 0, .int 0, .int 0, .int 0, .int 0, .int 0, .ref q_1, .null, .null])), (q_1, .inl (xI g, 10, .inl (fun j => iI ((fun (_ : Nat) => (0 : Int)) j))))] H := hP
  have hD : va_D A [(h0, .inr (6, [.int 0, .int 0, .int 0, .int 0, .int 0, .int 0, .int 0, .int 0, .ref q_1, .null, .null])), (q_1, .inl (xI g, 10, .inl (fun j => iI ((fun (_ : Nat) => (0 : Int)) j))))] := hD
  refine lv_aload_n hx hb dX6_init_12 rfl (lv_at hl 0 rfl) ?_
  refine lv_iconst (v := 4) hx hb dX6_init_13 (by decide) ?_
  refine va_newa (atype := .int) (ty := .int) (N' := 4) (a0 := (4, .inl (fun _ => 0))) hx hb (hts (.arrayClass .int) (by decide +kernel)) rfl hK hP hD hS hA (fun cA => by rfl) (by decide) (by decide) (by decide) (Nat.le_of_ble_eq_true rfl) (Nat.le_of_ble_eq_true rfl) dX6_init_14 (fun q_2 cA H hK9 hP hD hS => ?_)
  obtain rfl := xIEq hK9
  refine W.widen (k := 2) (n := 14) (by omega) (by omega) ?_
  have hP : va_P (xD g) vwCl [(h0, .inr (6, [.int 0, .int 0, .int 0, .int 0, .int 0, .int 0, .int 0, .int 0, .ref q_1, .null, .null])), (q_1, .inl (xI g, 10, .inl (fun j => iI ((fun (_ : Nat) => (0 : Int)) j)))), (q_2, .inl (xI g, 4, .inl (fun j => nI ((fun (_ : Nat) => (0 : Nat)) j))))] H := hP
  have hD : va_D A [(h0, .inr (6, [.int 0, .int 0, .int 0, .int 0, .int 0, .int 0, .int 0, .int 0, .ref q_1, .null, .null])), (q_1, .inl (xI g, 10, .inl (fun j => iI ((fun (_ : Nat) => (0 : Int)) j)))), (q_2, .inl (xI g, 4, .inl (fun j => nI ((fun (_ : Nat) => (0 : Nat)) j))))] := hD
  refine va_putF (D := xD g) (ci := 6) (v := .ref q_2) (ty := .array .int) (C := RX6) (T := TX6) (N := 11) hx hb hts hFX6 tyX6 tyX6_ok nmX6 hown hK hP hD hS 0 rfl rfl 9 (by decide) (hts (.fieldLink RX6 15 "Stevedore$Vessel" "firstOfRange" "[I") (by decide +kernel)) (fun _ h9 => h9) rfl hin rfl (by decide +kernel) rfl rfl (Nat.le_of_ble_eq_true rfl) dX6_init_16 (fun H locs hP hD hS => ?_)
  have hP : va_P (xD g) vwCl [(h0, .inr (6, [.int 0, .int 0, .int 0, .int 0, .int 0, .int 0, .int 0, .int 0, .ref q_1, .ref q_2, .null])), (q_1, .inl (xI g, 10, .inl (fun j => iI ((fun (_ : Nat) => (0 : Int)) j)))), (q_2, .inl (xI g, 4, .inl (fun j => nI ((fun (_ : Nat) => (0 : Nat)) j))))] H := hP
  have hD : va_D A [(h0, .inr (6, [.int 0, .int 0, .int 0, .int 0, .int 0, .int 0, .int 0, .int 0, .ref q_1, .ref q_2, .null])), (q_1, .inl (xI g, 10, .inl (fun j => iI ((fun (_ : Nat) => (0 : Int)) j)))), (q_2, .inl (xI g, 4, .inl (fun j => nI ((fun (_ : Nat) => (0 : Nat)) j))))] := hD
  refine lv_aload_n hx hb dX6_init_19 rfl (lv_at hl 0 rfl) ?_
  refine lv_bipush (v := 10) hx hb dX6_init_20 (by decide) ?_
  refine va_newa (atype := .int) (ty := .int) (N' := 10) (a0 := (10, .inl (fun _ => 0))) hx hb (hts (.arrayClass .int) (by decide +kernel)) rfl hK hP hD hS hA (fun cA => by rfl) (by decide) (by decide) (by decide) (Nat.le_of_ble_eq_true rfl) (Nat.le_of_ble_eq_true rfl) dX6_init_22 (fun q_3 cA H hK9 hP hD hS => ?_)
  obtain rfl := xIEq hK9
  refine W.widen (k := 3) (n := 24) (by omega) (by omega) ?_
  have hP : va_P (xD g) vwCl [(h0, .inr (6, [.int 0, .int 0, .int 0, .int 0, .int 0, .int 0, .int 0, .int 0, .ref q_1, .ref q_2, .null])), (q_1, .inl (xI g, 10, .inl (fun j => iI ((fun (_ : Nat) => (0 : Int)) j)))), (q_2, .inl (xI g, 4, .inl (fun j => nI ((fun (_ : Nat) => (0 : Nat)) j)))), (q_3, .inl (xI g, 10, .inl (fun j => iI ((fun (_ : Nat) => (0 : Int)) j))))] H := hP
  have hD : va_D A [(h0, .inr (6, [.int 0, .int 0, .int 0, .int 0, .int 0, .int 0, .int 0, .int 0, .ref q_1, .ref q_2, .null])), (q_1, .inl (xI g, 10, .inl (fun j => iI ((fun (_ : Nat) => (0 : Int)) j)))), (q_2, .inl (xI g, 4, .inl (fun j => nI ((fun (_ : Nat) => (0 : Nat)) j)))), (q_3, .inl (xI g, 10, .inl (fun j => iI ((fun (_ : Nat) => (0 : Int)) j))))] := hD
  refine va_putF (D := xD g) (ci := 6) (v := .ref q_3) (ty := .array .int) (C := RX6) (T := TX6) (N := 11) hx hb hts hFX6 tyX6 tyX6_ok nmX6 hown hK hP hD hS 0 rfl rfl 10 (by decide) (hts (.fieldLink RX6 18 "Stevedore$Vessel" "begin" "[I") (by decide +kernel)) (fun _ h9 => h9) rfl hin rfl (by decide +kernel) rfl rfl (Nat.le_of_ble_eq_true rfl) dX6_init_24 (fun H locs hP hD hS => ?_)
  have hP : va_P (xD g) vwCl [(h0, .inr (6, [.int 0, .int 0, .int 0, .int 0, .int 0, .int 0, .int 0, .int 0, .ref q_1, .ref q_2, .ref q_3])), (q_1, .inl (xI g, 10, .inl (fun j => iI ((fun (_ : Nat) => (0 : Int)) j)))), (q_2, .inl (xI g, 4, .inl (fun j => nI ((fun (_ : Nat) => (0 : Nat)) j)))), (q_3, .inl (xI g, 10, .inl (fun j => iI ((fun (_ : Nat) => (0 : Int)) j))))] H := hP
  have hD : va_D A [(h0, .inr (6, [.int 0, .int 0, .int 0, .int 0, .int 0, .int 0, .int 0, .int 0, .ref q_1, .ref q_2, .ref q_3])), (q_1, .inl (xI g, 10, .inl (fun j => iI ((fun (_ : Nat) => (0 : Int)) j)))), (q_2, .inl (xI g, 4, .inl (fun j => nI ((fun (_ : Nat) => (0 : Nat)) j)))), (q_3, .inl (xI g, 10, .inl (fun j => iI ((fun (_ : Nat) => (0 : Int)) j))))] := hD
  have hP9 := hP
  have hD9 := hD
  exact W.vret hx hb hr (fun t ht hW => ⟨⟨(), rfl, (by first | trivial | rfl | assumption | omega), ⟨q_1, q_2, q_3, by rw [ht]; exact hP9, va_K.moved hW.alike hK, hD9⟩⟩, hS.F ht⟩) hS.2.2 dX6_init_27
theorem dX3_init_0 : decode cX3_init 0 = .ok (.aload_n 0, 1) := by decide +kernel
theorem dX3_init_1 : decode cX3_init 1 = .ok (.invokespecial 3, 3) := by decide +kernel
theorem dX3_init_4 : decode cX3_init 4 = .ok (.aload_n 0, 1) := by decide +kernel
theorem dX3_init_5 : decode cX3_init 5 = .ok (.iconst 5, 1) := by decide +kernel
theorem dX3_init_6 : decode cX3_init 6 = .ok (.bipush 11, 2) := by decide +kernel
theorem dX3_init_8 : decode cX3_init 8 = .ok (.multianewarray 9 2, 4) := by decide +kernel
theorem dX3_init_12 : decode cX3_init 12 = .ok (.putfield 11, 3) := by decide +kernel
theorem dX3_init_15 : decode cX3_init 15 = .ok (.aload_n 0, 1) := by decide +kernel
theorem dX3_init_16 : decode cX3_init 16 = .ok (.iconst 4, 1) := by decide +kernel
theorem dX3_init_17 : decode cX3_init 17 = .ok (.newarray .int, 2) := by decide +kernel
theorem dX3_init_19 : decode cX3_init 19 = .ok (.putfield 16, 3) := by decide +kernel
theorem dX3_init_22 : decode cX3_init 22 = .ok (.aload_n 0, 1) := by decide +kernel
theorem dX3_init_23 : decode cX3_init 23 = .ok (.iconst 4, 1) := by decide +kernel
theorem dX3_init_24 : decode cX3_init 24 = .ok (.newarray .boolean, 2) := by decide +kernel
theorem dX3_init_26 : decode cX3_init 26 = .ok (.putfield 20, 3) := by decide +kernel
theorem dX3_init_29 : decode cX3_init 29 = .ok (.aload_n 0, 1) := by decide +kernel
theorem dX3_init_30 : decode cX3_init 30 = .ok (.iconst 4, 1) := by decide +kernel
theorem dX3_init_31 : decode cX3_init 31 = .ok (.newarray .int, 2) := by decide +kernel
theorem dX3_init_33 : decode cX3_init 33 = .ok (.putfield 24, 3) := by decide +kernel
theorem dX3_init_36 : decode cX3_init 36 = .ok (.return_, 1) := by decide +kernel
set_option maxHeartbeats 4000000 in
set_option maxRecDepth 100000 in
theorem i_X3 (l : Launch) (g : xG) (sz : Nat) (h0 : Nat)  : Met l yX3_init wsX3_init ({ frames := 1, cells := 9, slots := 72, locals := 20 }) (va_Pc [.ref h0] (fun U => xB g [(h0, .inr (3, [.null, .null, .null, .null]))] sz U ∧ xO U)) (va_Qv (fun (_ : Unit) => True) (fun (_ : Unit) (t : State) => ∃ (lo_ : Nat) (lr : Nat → Nat) (bc : Nat) (ii : Nat) (wl : Nat), xE g ([(h0, .inr (3, [.ref lo_, .ref bc, .ref ii, .ref wl])), (lo_, .inl (xM g, 5, .inr (.inr (.inr (.inr (fun i => if i < 5 then some (lr i) else none))))))] ++ (xRI (xI g) 5 11 lr (fun (_ _ : Nat) => (0 : Int)) ++ [(bc, .inl (xI g, 4, .inl (fun j => nI ((fun (_ : Nat) => (0 : Nat)) j)))), (ii, .inl (xZ g, 4, .inl (fun j => iI ((fun (_ : Nat) => (0 : Int)) j)))), (wl, .inl (xI g, 4, .inl (fun j => iI ((fun (_ : Nat) => (0 : Int)) j))))])) (va_A [(h0, .inr (3, [.null, .null, .null, .null]))] sz) t) (va_A [(h0, .inr (3, [.null, .null, .null, .null]))] sz)) 9 72 (va_A [(h0, .inr (3, [.null, .null, .null, .null]))] sz) := by
  refine Met.ofW (cc := cX3_init) (maxL := 1) (ret := none) (by decide) rfl ?_
  intro p e s m args below meth c s₁ B hml hv
  obtain ⟨rfl, ⟨hsz, hP, hK, hD0⟩, hO⟩ := hv
  have hx := B.exec
  have hb := B.bytes
  have hr := B.returns
  have hts := atoms_spec (ws := wsX3_init) B.pre
  have hown : s.vm.findClass RX3 = some m.cls := findClass_of_methodNamed B.named
  have hlocks := B.notSynchronized
  have hin : meth.name = "<init>" := (name_of_methodNamed B.named B.method).1
  subst hsz
  have hD := hD0.self (sz := s.heap.size)
  generalize hAe : va_A [(h0, .inr (3, [.null, .null, .null, .null]))] s.heap.size = A at hD ⊢
  have hA : ∀ q : Nat, s.heap.size ≤ q → A q := fun q h => by rw [← hAe]; exact Or.inr h
  have hS : va_S A s.heap s.heap [] := va_S.rf
  have hl := lv_entry ([.ref h0]) (n := 1) (Nat.le_of_ble_eq_true rfl)
  rw [lg_entry_eq]
  generalize (lg_sl ([.ref h0]) ++ List.replicate (1 - (lg_sl ([.ref h0])).length) Slot.unset).toArray = ls at hl ⊢
  have hl : lv_has ls 1 [(0, .ref h0)] := hl
  have hFX3 : ∀ w ∈ u_ws RX3 TX3 4, w ∈ wsX3_init := by decide +kernel
  refine lv_aload_n hx hb dX3_init_0 rfl (lv_at hl 0 rfl) ?_
  refine W.objInit hx hb hown (hts (.methodLink RX3 3 objectInit) (by decide +kernel)) (hts (.instanceMethod objectInit) (by decide +kernel)) (hts (.code objectInit ⟨#[0xb1]⟩ 1 none) (by decide +kernel)) rfl (by rw [hml]; exact hl.1) rfl dX3_init_1 (Nat.le_of_ble_eq_true rfl) (Nat.le_of_ble_eq_true rfl) ?_
  refine W.eq (g2 := F0 m 4 ls []) rfl ?_
  refine lv_aload_n hx hb dX3_init_4 rfl (lv_at hl 0 rfl) ?_
  refine lv_iconst (v := 5) hx hb dX3_init_5 (by decide) ?_
  refine lv_bipush (v := 11) hx hb dX3_init_6 (by decide) ?_
  refine xMna (N' := 5) (K' := 11) hx hb hown (hts (.classLink RX3 9 ("[" ++ (FieldType.array .int).toString)) (by decide +kernel)) hO.1 (hts (.arrayClass .int) (by decide +kernel)) hK hP hD hS hA (by decide) (by decide) (by decide) (by decide) (by decide) (by decide) (by decide) (Nat.le_of_ble_eq_true rfl) (Nat.le_of_ble_eq_true rfl) dX3_init_8 (fun q_1 r_2 H hP hD hS => ?_)
  refine W.widen (k := 6) (n := 60) (by omega) (by omega) ?_
  have hP : va_P (xD g) vwCl ([(h0, .inr (3, [.null, .null, .null, .null])), (q_1, .inl (xM g, 5, .inr (.inr (.inr (.inr (fun i => if i < 5 then some (r_2 i) else none))))))] ++ (xRI (xI g) 5 11 r_2 (fun (_ _ : Nat) => (0 : Int)) ++ [])) H := hP
  have hD : va_D A ([(h0, .inr (3, [.null, .null, .null, .null])), (q_1, .inl (xM g, 5, .inr (.inr (.inr (.inr (fun i => if i < 5 then some (r_2 i) else none))))))] ++ (xRI (xI g) 5 11 r_2 (fun (_ _ : Nat) => (0 : Int)) ++ [])) := hD
  refine va_putF (D := xD g) (ci := 3) (v := .ref q_1) (ty := .array (.array .int)) (C := RX3) (T := TX3) (N := 4) hx hb hts hFX3 tyX3 tyX3_ok nmX3 hown hK hP hD hS 0 rfl rfl 0 (by decide) (hts (.fieldLink RX3 11 "Stevedore$CraneWalk" "least" "[[I") (by decide +kernel)) (fun _ h9 => h9) rfl hin rfl (by decide +kernel) rfl rfl (Nat.le_of_ble_eq_true rfl) dX3_init_12 (fun H locs hP hD hS => ?_)
  have hP : va_P (xD g) vwCl ([(h0, .inr (3, [.ref q_1, .null, .null, .null])), (q_1, .inl (xM g, 5, .inr (.inr (.inr (.inr (fun i => if i < 5 then some (r_2 i) else none))))))] ++ (xRI (xI g) 5 11 r_2 (fun (_ _ : Nat) => (0 : Int)) ++ [])) H := hP
  have hD : va_D A ([(h0, .inr (3, [.ref q_1, .null, .null, .null])), (q_1, .inl (xM g, 5, .inr (.inr (.inr (.inr (fun i => if i < 5 then some (r_2 i) else none))))))] ++ (xRI (xI g) 5 11 r_2 (fun (_ _ : Nat) => (0 : Int)) ++ [])) := hD
  refine lv_aload_n hx hb dX3_init_15 rfl (lv_at hl 0 rfl) ?_
  refine lv_iconst (v := 4) hx hb dX3_init_16 (by decide) ?_
  refine va_newa (atype := .int) (ty := .int) (N' := 4) (a0 := (4, .inl (fun _ => 0))) hx hb (hts (.arrayClass .int) (by decide +kernel)) rfl hK hP hD hS hA (fun cA => by rfl) (by decide) (by decide) (by decide) (Nat.le_of_ble_eq_true rfl) (Nat.le_of_ble_eq_true rfl) dX3_init_17 (fun q_3 cA H hK9 hP hD hS => ?_)
  obtain rfl := xIEq hK9
  refine W.widen (k := 7) (n := 64) (by omega) (by omega) ?_
  have hP : va_P (xD g) vwCl ([(h0, .inr (3, [.ref q_1, .null, .null, .null])), (q_1, .inl (xM g, 5, .inr (.inr (.inr (.inr (fun i => if i < 5 then some (r_2 i) else none))))))] ++ (xRI (xI g) 5 11 r_2 (fun (_ _ : Nat) => (0 : Int)) ++ [(q_3, .inl (xI g, 4, .inl (fun j => nI ((fun (_ : Nat) => (0 : Nat)) j))))])) H := hP
  have hD : va_D A ([(h0, .inr (3, [.ref q_1, .null, .null, .null])), (q_1, .inl (xM g, 5, .inr (.inr (.inr (.inr (fun i => if i < 5 then some (r_2 i) else none))))))] ++ (xRI (xI g) 5 11 r_2 (fun (_ _ : Nat) => (0 : Int)) ++ [(q_3, .inl (xI g, 4, .inl (fun j => nI ((fun (_ : Nat) => (0 : Nat)) j))))])) := hD
  refine va_putF (D := xD g) (ci := 3) (v := .ref q_3) (ty := .array .int) (C := RX3) (T := TX3) (N := 4) hx hb hts hFX3 tyX3 tyX3_ok nmX3 hown hK hP hD hS 0 rfl rfl 1 (by decide) (hts (.fieldLink RX3 16 "Stevedore$CraneWalk" "bayOfCrane" "[I") (by decide +kernel)) (fun _ h9 => h9) rfl hin rfl (by decide +kernel) rfl rfl (Nat.le_of_ble_eq_true rfl) dX3_init_19 (fun H locs hP hD hS => ?_)
  have hP : va_P (xD g) vwCl ([(h0, .inr (3, [.ref q_1, .ref q_3, .null, .null])), (q_1, .inl (xM g, 5, .inr (.inr (.inr (.inr (fun i => if i < 5 then some (r_2 i) else none))))))] ++ (xRI (xI g) 5 11 r_2 (fun (_ _ : Nat) => (0 : Int)) ++ [(q_3, .inl (xI g, 4, .inl (fun j => nI ((fun (_ : Nat) => (0 : Nat)) j))))])) H := hP
  have hD : va_D A ([(h0, .inr (3, [.ref q_1, .ref q_3, .null, .null])), (q_1, .inl (xM g, 5, .inr (.inr (.inr (.inr (fun i => if i < 5 then some (r_2 i) else none))))))] ++ (xRI (xI g) 5 11 r_2 (fun (_ _ : Nat) => (0 : Int)) ++ [(q_3, .inl (xI g, 4, .inl (fun j => nI ((fun (_ : Nat) => (0 : Nat)) j))))])) := hD
  refine lv_aload_n hx hb dX3_init_22 rfl (lv_at hl 0 rfl) ?_
  refine lv_iconst (v := 4) hx hb dX3_init_23 (by decide) ?_
  refine va_newa (atype := .boolean) (ty := .boolean) (N' := 4) (a0 := (4, .inl (fun _ => 0))) hx hb (hts (.arrayClass .boolean) (by decide +kernel)) rfl hK hP hD hS hA (fun cA => by rfl) (by decide) (by decide) (by decide) (Nat.le_of_ble_eq_true rfl) (Nat.le_of_ble_eq_true rfl) dX3_init_24 (fun q_4 cA H hK9 hP hD hS => ?_)
  obtain rfl := xZEq hK9
  refine W.widen (k := 8) (n := 68) (by omega) (by omega) ?_
  have hP : va_P (xD g) vwCl ([(h0, .inr (3, [.ref q_1, .ref q_3, .null, .null])), (q_1, .inl (xM g, 5, .inr (.inr (.inr (.inr (fun i => if i < 5 then some (r_2 i) else none))))))] ++ (xRI (xI g) 5 11 r_2 (fun (_ _ : Nat) => (0 : Int)) ++ [(q_3, .inl (xI g, 4, .inl (fun j => nI ((fun (_ : Nat) => (0 : Nat)) j)))), (q_4, .inl (xZ g, 4, .inl (fun j => iI ((fun (_ : Nat) => (0 : Int)) j))))])) H := hP
  have hD : va_D A ([(h0, .inr (3, [.ref q_1, .ref q_3, .null, .null])), (q_1, .inl (xM g, 5, .inr (.inr (.inr (.inr (fun i => if i < 5 then some (r_2 i) else none))))))] ++ (xRI (xI g) 5 11 r_2 (fun (_ _ : Nat) => (0 : Int)) ++ [(q_3, .inl (xI g, 4, .inl (fun j => nI ((fun (_ : Nat) => (0 : Nat)) j)))), (q_4, .inl (xZ g, 4, .inl (fun j => iI ((fun (_ : Nat) => (0 : Int)) j))))])) := hD
  refine va_putF (D := xD g) (ci := 3) (v := .ref q_4) (ty := .array .boolean) (C := RX3) (T := TX3) (N := 4) hx hb hts hFX3 tyX3 tyX3_ok nmX3 hown hK hP hD hS 0 rfl rfl 2 (by decide) (hts (.fieldLink RX3 20 "Stevedore$CraneWalk" "isInside" "[Z") (by decide +kernel)) (fun _ h9 => h9) rfl hin rfl (by decide +kernel) rfl rfl (Nat.le_of_ble_eq_true rfl) dX3_init_26 (fun H locs hP hD hS => ?_)
  have hP : va_P (xD g) vwCl ([(h0, .inr (3, [.ref q_1, .ref q_3, .ref q_4, .null])), (q_1, .inl (xM g, 5, .inr (.inr (.inr (.inr (fun i => if i < 5 then some (r_2 i) else none))))))] ++ (xRI (xI g) 5 11 r_2 (fun (_ _ : Nat) => (0 : Int)) ++ [(q_3, .inl (xI g, 4, .inl (fun j => nI ((fun (_ : Nat) => (0 : Nat)) j)))), (q_4, .inl (xZ g, 4, .inl (fun j => iI ((fun (_ : Nat) => (0 : Int)) j))))])) H := hP
  have hD : va_D A ([(h0, .inr (3, [.ref q_1, .ref q_3, .ref q_4, .null])), (q_1, .inl (xM g, 5, .inr (.inr (.inr (.inr (fun i => if i < 5 then some (r_2 i) else none))))))] ++ (xRI (xI g) 5 11 r_2 (fun (_ _ : Nat) => (0 : Int)) ++ [(q_3, .inl (xI g, 4, .inl (fun j => nI ((fun (_ : Nat) => (0 : Nat)) j)))), (q_4, .inl (xZ g, 4, .inl (fun j => iI ((fun (_ : Nat) => (0 : Int)) j))))])) := hD
  refine lv_aload_n hx hb dX3_init_29 rfl (lv_at hl 0 rfl) ?_
  refine lv_iconst (v := 4) hx hb dX3_init_30 (by decide) ?_
  refine va_newa (atype := .int) (ty := .int) (N' := 4) (a0 := (4, .inl (fun _ => 0))) hx hb (hts (.arrayClass .int) (by decide +kernel)) rfl hK hP hD hS hA (fun cA => by rfl) (by decide) (by decide) (by decide) (Nat.le_of_ble_eq_true rfl) (Nat.le_of_ble_eq_true rfl) dX3_init_31 (fun q_5 cA H hK9 hP hD hS => ?_)
  obtain rfl := xIEq hK9
  refine W.widen (k := 9) (n := 72) (by omega) (by omega) ?_
  have hP : va_P (xD g) vwCl ([(h0, .inr (3, [.ref q_1, .ref q_3, .ref q_4, .null])), (q_1, .inl (xM g, 5, .inr (.inr (.inr (.inr (fun i => if i < 5 then some (r_2 i) else none))))))] ++ (xRI (xI g) 5 11 r_2 (fun (_ _ : Nat) => (0 : Int)) ++ [(q_3, .inl (xI g, 4, .inl (fun j => nI ((fun (_ : Nat) => (0 : Nat)) j)))), (q_4, .inl (xZ g, 4, .inl (fun j => iI ((fun (_ : Nat) => (0 : Int)) j)))), (q_5, .inl (xI g, 4, .inl (fun j => iI ((fun (_ : Nat) => (0 : Int)) j))))])) H := hP
  have hD : va_D A ([(h0, .inr (3, [.ref q_1, .ref q_3, .ref q_4, .null])), (q_1, .inl (xM g, 5, .inr (.inr (.inr (.inr (fun i => if i < 5 then some (r_2 i) else none))))))] ++ (xRI (xI g) 5 11 r_2 (fun (_ _ : Nat) => (0 : Int)) ++ [(q_3, .inl (xI g, 4, .inl (fun j => nI ((fun (_ : Nat) => (0 : Nat)) j)))), (q_4, .inl (xZ g, 4, .inl (fun j => iI ((fun (_ : Nat) => (0 : Int)) j)))), (q_5, .inl (xI g, 4, .inl (fun j => iI ((fun (_ : Nat) => (0 : Int)) j))))])) := hD
  refine va_putF (D := xD g) (ci := 3) (v := .ref q_5) (ty := .array .int) (C := RX3) (T := TX3) (N := 4) hx hb hts hFX3 tyX3 tyX3_ok nmX3 hown hK hP hD hS 0 rfl rfl 3 (by decide) (hts (.fieldLink RX3 24 "Stevedore$CraneWalk" "workLeft" "[I") (by decide +kernel)) (fun _ h9 => h9) rfl hin rfl (by decide +kernel) rfl rfl (Nat.le_of_ble_eq_true rfl) dX3_init_33 (fun H locs hP hD hS => ?_)
  have hP : va_P (xD g) vwCl ([(h0, .inr (3, [.ref q_1, .ref q_3, .ref q_4, .ref q_5])), (q_1, .inl (xM g, 5, .inr (.inr (.inr (.inr (fun i => if i < 5 then some (r_2 i) else none))))))] ++ (xRI (xI g) 5 11 r_2 (fun (_ _ : Nat) => (0 : Int)) ++ [(q_3, .inl (xI g, 4, .inl (fun j => nI ((fun (_ : Nat) => (0 : Nat)) j)))), (q_4, .inl (xZ g, 4, .inl (fun j => iI ((fun (_ : Nat) => (0 : Int)) j)))), (q_5, .inl (xI g, 4, .inl (fun j => iI ((fun (_ : Nat) => (0 : Int)) j))))])) H := hP
  have hD : va_D A ([(h0, .inr (3, [.ref q_1, .ref q_3, .ref q_4, .ref q_5])), (q_1, .inl (xM g, 5, .inr (.inr (.inr (.inr (fun i => if i < 5 then some (r_2 i) else none))))))] ++ (xRI (xI g) 5 11 r_2 (fun (_ _ : Nat) => (0 : Int)) ++ [(q_3, .inl (xI g, 4, .inl (fun j => nI ((fun (_ : Nat) => (0 : Nat)) j)))), (q_4, .inl (xZ g, 4, .inl (fun j => iI ((fun (_ : Nat) => (0 : Int)) j)))), (q_5, .inl (xI g, 4, .inl (fun j => iI ((fun (_ : Nat) => (0 : Int)) j))))])) := hD
  have hP9 := hP
  have hD9 := hD
  exact W.vret hx hb hr (fun t ht hW => ⟨⟨(), rfl, (by first | trivial | rfl | assumption | omega), ⟨q_1, r_2, q_3, q_4, q_5, by rw [ht]; exact hP9, va_K.moved hW.alike hK, hD9⟩⟩, hS.F ht⟩) hS.2.2 dX3_init_36
theorem dX1_init_0 : decode cX1_init 0 = .ok (.aload_n 0, 1) := by decide +kernel
theorem dX1_init_1 : decode cX1_init 1 = .ok (.invokespecial 3, 3) := by decide +kernel
theorem dX1_init_4 : decode cX1_init 4 = .ok (.aload_n 0, 1) := by decide +kernel
theorem dX1_init_5 : decode cX1_init 5 = .ok (.bipush 6, 2) := by decide +kernel
theorem dX1_init_7 : decode cX1_init 7 = .ok (.newarray .int, 2) := by decide +kernel
theorem dX1_init_9 : decode cX1_init 9 = .ok (.putfield 9, 3) := by decide +kernel
theorem dX1_init_12 : decode cX1_init 12 = .ok (.aload_n 0, 1) := by decide +kernel
theorem dX1_init_13 : decode cX1_init 13 = .ok (.bipush 6, 2) := by decide +kernel
theorem dX1_init_15 : decode cX1_init 15 = .ok (.newarray .int, 2) := by decide +kernel
theorem dX1_init_17 : decode cX1_init 17 = .ok (.putfield 15, 3) := by decide +kernel
theorem dX1_init_20 : decode cX1_init 20 = .ok (.aload_n 0, 1) := by decide +kernel
theorem dX1_init_21 : decode cX1_init 21 = .ok (.bipush 6, 2) := by decide +kernel
theorem dX1_init_23 : decode cX1_init 23 = .ok (.newarray .int, 2) := by decide +kernel
theorem dX1_init_25 : decode cX1_init 25 = .ok (.putfield 18, 3) := by decide +kernel
theorem dX1_init_28 : decode cX1_init 28 = .ok (.aload_n 0, 1) := by decide +kernel
theorem dX1_init_29 : decode cX1_init 29 = .ok (.bipush 6, 2) := by decide +kernel
theorem dX1_init_31 : decode cX1_init 31 = .ok (.newarray .int, 2) := by decide +kernel
theorem dX1_init_33 : decode cX1_init 33 = .ok (.putfield 21, 3) := by decide +kernel
theorem dX1_init_36 : decode cX1_init 36 = .ok (.aload_n 0, 1) := by decide +kernel
theorem dX1_init_37 : decode cX1_init 37 = .ok (.bipush 6, 2) := by decide +kernel
theorem dX1_init_39 : decode cX1_init 39 = .ok (.newarray .int, 2) := by decide +kernel
theorem dX1_init_41 : decode cX1_init 41 = .ok (.putfield 24, 3) := by decide +kernel
theorem dX1_init_44 : decode cX1_init 44 = .ok (.aload_n 0, 1) := by decide +kernel
theorem dX1_init_45 : decode cX1_init 45 = .ok (.new 27, 3) := by decide +kernel
theorem dX1_init_48 : decode cX1_init 48 = .ok (.dup, 1) := by decide +kernel
theorem dX1_init_49 : decode cX1_init 49 = .ok (.invokespecial 29, 3) := by decide +kernel
set_option maxRecDepth 20000 in
theorem ggX1_init_X4_init : GoodIn wsX1_init wsX4_init := goodIn_r _ [20, 21, 2, 3, 4, 22, 23, 24, 39, 40, 41, 42] rfl (by decide +kernel)
set_option maxRecDepth 20000 in
theorem gX1_init_X4_init : GoodIn wsX1_init (wsX4_init) := ggX1_init_X4_init
theorem dX1_init_52 : decode cX1_init 52 = .ok (.putfield 30, 3) := by decide +kernel
theorem dX1_init_55 : decode cX1_init 55 = .ok (.aload_n 0, 1) := by decide +kernel
theorem dX1_init_56 : decode cX1_init 56 = .ok (.bipush 6, 2) := by decide +kernel
theorem dX1_init_58 : decode cX1_init 58 = .ok (.newarray .int, 2) := by decide +kernel
theorem dX1_init_60 : decode cX1_init 60 = .ok (.putfield 34, 3) := by decide +kernel
theorem dX1_init_63 : decode cX1_init 63 = .ok (.aload_n 0, 1) := by decide +kernel
theorem dX1_init_64 : decode cX1_init 64 = .ok (.bipush 6, 2) := by decide +kernel
theorem dX1_init_66 : decode cX1_init 66 = .ok (.newarray .boolean, 2) := by decide +kernel
theorem dX1_init_68 : decode cX1_init 68 = .ok (.putfield 37, 3) := by decide +kernel
theorem dX1_init_71 : decode cX1_init 71 = .ok (.aload_n 0, 1) := by decide +kernel
theorem dX1_init_72 : decode cX1_init 72 = .ok (.new 27, 3) := by decide +kernel
theorem dX1_init_75 : decode cX1_init 75 = .ok (.dup, 1) := by decide +kernel
theorem dX1_init_76 : decode cX1_init 76 = .ok (.invokespecial 29, 3) := by decide +kernel
theorem dX1_init_79 : decode cX1_init 79 = .ok (.putfield 41, 3) := by decide +kernel
theorem dX1_init_82 : decode cX1_init 82 = .ok (.return_, 1) := by decide +kernel
set_option maxHeartbeats 4000000 in
set_option maxRecDepth 100000 in
theorem i_X1 (l : Launch) (g : xG) (sz : Nat) (h0 : Nat)  : Met l yX1_init wsX1_init ({ frames := 2, cells := 15, slots := 86, locals := 40 }) (va_Pc [.ref h0] (fun U => xB g [(h0, .inr (1, [.int 0, .int 0, .int 0, .null, .null, .null, .null, .null, .null, .null, .null, .null, .int 0, .int 0]))] sz U)) (va_Qv (fun (_ : Unit) => True) (fun (_ : Unit) (t : State) => ∃ (ar : Nat) (ha : Nat) (ba : Nat) (rk : Nat) (wa : Nat) (tr : Nat) (un : Nat) (ip : Nat) (bn : Nat) (to_ : Nat) (ts : Nat) (tp : Nat) (bo : Nat) (bs : Nat) (bq : Nat), xE g [(h0, .inr (1, [.int 0, .int 0, .int 0, .ref ar, .ref ha, .ref ba, .ref rk, .ref wa, .ref tr, .ref un, .ref ip, .ref bn, .int 0, .int 0])), (ar, .inl (xI g, 6, .inl (fun j => iI ((fun (_ : Nat) => (0 : Int)) j)))), (ha, .inl (xI g, 6, .inl (fun j => iI ((fun (_ : Nat) => (0 : Int)) j)))), (ba, .inl (xI g, 6, .inl (fun j => iI ((fun (_ : Nat) => (0 : Int)) j)))), (rk, .inl (xI g, 6, .inl (fun j => iI ((fun (_ : Nat) => (0 : Int)) j)))), (wa, .inl (xI g, 6, .inl (fun j => iI ((fun (_ : Nat) => (0 : Int)) j)))), (tr, .inr (4, [.int 0, .ref to_, .ref ts, .ref tp])), (to_, .inl (xI g, 6, .inl (fun j => nI ((fun (_ : Nat) => (0 : Nat)) j)))), (ts, .inl (xI g, 6, .inl (fun j => iI ((fun (_ : Nat) => (0 : Int)) j)))), (tp, .inl (xI g, 6, .inl (fun j => iI ((fun (_ : Nat) => (0 : Int)) j)))), (un, .inl (xI g, 6, .inl (fun j => iI ((fun (_ : Nat) => (0 : Int)) j)))), (ip, .inl (xZ g, 6, .inl (fun j => iI ((fun (_ : Nat) => (0 : Int)) j)))), (bn, .inr (4, [.int 0, .ref bo, .ref bs, .ref bq])), (bo, .inl (xI g, 6, .inl (fun j => nI ((fun (_ : Nat) => (0 : Nat)) j)))), (bs, .inl (xI g, 6, .inl (fun j => iI ((fun (_ : Nat) => (0 : Int)) j)))), (bq, .inl (xI g, 6, .inl (fun j => iI ((fun (_ : Nat) => (0 : Int)) j))))] (va_A [(h0, .inr (1, [.int 0, .int 0, .int 0, .null, .null, .null, .null, .null, .null, .null, .null, .null, .int 0, .int 0]))] sz) t) (va_A [(h0, .inr (1, [.int 0, .int 0, .int 0, .null, .null, .null, .null, .null, .null, .null, .null, .null, .int 0, .int 0]))] sz)) 15 86 (va_A [(h0, .inr (1, [.int 0, .int 0, .int 0, .null, .null, .null, .null, .null, .null, .null, .null, .null, .int 0, .int 0]))] sz) := by
  refine Met.ofW (cc := cX1_init) (maxL := 1) (ret := none) (by decide) rfl ?_
  intro p e s m args below meth c s₁ B hml hv
  obtain ⟨rfl, hsz, hP, hK, hD0⟩ := hv
  have hx := B.exec
  have hb := B.bytes
  have hr := B.returns
  have hts := atoms_spec (ws := wsX1_init) B.pre
  have hown : s.vm.findClass RX1 = some m.cls := findClass_of_methodNamed B.named
  have hlocks := B.notSynchronized
  have hin : meth.name = "<init>" := (name_of_methodNamed B.named B.method).1
  subst hsz
  have hD := hD0.self (sz := s.heap.size)
  generalize hAe : va_A [(h0, .inr (1, [.int 0, .int 0, .int 0, .null, .null, .null, .null, .null, .null, .null, .null, .null, .int 0, .int 0]))] s.heap.size = A at hD ⊢
  have hA : ∀ q : Nat, s.heap.size ≤ q → A q := fun q h => by rw [← hAe]; exact Or.inr h
  have hS : va_S A s.heap s.heap [] := va_S.rf
  have hl := lv_entry ([.ref h0]) (n := 1) (Nat.le_of_ble_eq_true rfl)
  rw [lg_entry_eq]
  generalize (lg_sl ([.ref h0]) ++ List.replicate (1 - (lg_sl ([.ref h0])).length) Slot.unset).toArray = ls at hl ⊢
  have hl : lv_has ls 1 [(0, .ref h0)] := hl
  have hFX1 : ∀ w ∈ u_ws RX1 TX1 14, w ∈ wsX1_init := by decide +kernel
  have hFX4 : ∀ w ∈ u_ws RX4 TX4 4, w ∈ wsX1_init := by decide +kernel
  refine lv_aload_n hx hb dX1_init_0 rfl (lv_at hl 0 rfl) ?_
  refine W.objInit hx hb hown (hts (.methodLink RX1 3 objectInit) (by decide +kernel)) (hts (.instanceMethod objectInit) (by decide +kernel)) (hts (.code objectInit ⟨#[0xb1]⟩ 1 none) (by decide +kernel)) rfl (by rw [hml]; exact hl.1) rfl dX1_init_1 (Nat.le_of_ble_eq_true rfl) (Nat.le_of_ble_eq_true rfl) ?_
  refine W.eq (g2 := F0 m 4 ls []) rfl ?_
  refine lv_aload_n hx hb dX1_init_4 rfl (lv_at hl 0 rfl) ?_
  refine lv_bipush (v := 6) hx hb dX1_init_5 (by decide) ?_
  refine va_newa (atype := .int) (ty := .int) (N' := 6) (a0 := (6, .inl (fun _ => 0))) hx hb (hts (.arrayClass .int) (by decide +kernel)) rfl hK hP hD hS hA (fun cA => by rfl) (by decide) (by decide) (by decide) (Nat.le_of_ble_eq_true rfl) (Nat.le_of_ble_eq_true rfl) dX1_init_7 (fun q_1 cA H hK9 hP hD hS => ?_)
  obtain rfl := xIEq hK9
  refine W.widen (k := 1) (n := 6) (by omega) (by omega) ?_
  have hP : va_P (xD g) vwCl [(h0, .inr (1, [.int 0, .int 0, .int 0, .null, .null, .null, .null, .null, .null, .null, .null, .null, .int 0, .int 0])), (q_1, .inl (xI g, 6, .inl (fun j => iI ((fun (_ : Nat) => (0 : Int)) j))))] H := hP
  have hD : va_D A [(h0, .inr (1, [.int 0, .int 0, .int 0, .null, .null, .null, .null, .null, .null, .null, .null, .null, .int 0, .int 0])), (q_1, .inl (xI g, 6, .inl (fun j => iI ((fun (_ : Nat) => (0 : Int)) j))))] := hD
  refine va_putF (D := xD g) (ci := 1) (v := .ref q_1) (ty := .array .int) (C := RX1) (T := TX1) (N := 14) hx hb hts hFX1 tyX1 tyX1_ok nmX1 hown hK hP hD hS 0 rfl rfl 3 (by decide) (hts (.fieldLink RX1 9 "Stevedore$BerthPlanner" "arrival" "[I") (by decide +kernel)) (fun _ h9 => h9) rfl hin rfl (by decide +kernel) rfl rfl (Nat.le_of_ble_eq_true rfl) dX1_init_9 (fun H locs hP hD hS => ?_)
  have hP : va_P (xD g) vwCl [(h0, .inr (1, [.int 0, .int 0, .int 0, .ref q_1, .null, .null, .null, .null, .null, .null, .null, .null, .int 0, .int 0])), (q_1, .inl (xI g, 6, .inl (fun j => iI ((fun (_ : Nat) => (0 : Int)) j))))] H := hP
  have hD : va_D A [(h0, .inr (1, [.int 0, .int 0, .int 0, .ref q_1, .null, .null, .null, .null, .null, .null, .null, .null, .int 0, .int 0])), (q_1, .inl (xI g, 6, .inl (fun j => iI ((fun (_ : Nat) => (0 : Int)) j))))] := hD
  refine lv_aload_n hx hb dX1_init_12 rfl (lv_at hl 0 rfl) ?_
  refine lv_bipush (v := 6) hx hb dX1_init_13 (by decide) ?_
  refine va_newa (atype := .int) (ty := .int) (N' := 6) (a0 := (6, .inl (fun _ => 0))) hx hb (hts (.arrayClass .int) (by decide +kernel)) rfl hK hP hD hS hA (fun cA => by rfl) (by decide) (by decide) (by decide) (Nat.le_of_ble_eq_true rfl) (Nat.le_of_ble_eq_true rfl) dX1_init_15 (fun q_2 cA H hK9 hP hD hS => ?_)
  obtain rfl := xIEq hK9
  refine W.widen (k := 2) (n := 12) (by omega) (by omega) ?_
  have hP : va_P (xD g) vwCl [(h0, .inr (1, [.int 0, .int 0, .int 0, .ref q_1, .null, .null, .null, .null, .null, .null, .null, .null, .int 0, .int 0])), (q_1, .inl (xI g, 6, .inl (fun j => iI ((fun (_ : Nat) => (0 : Int)) j)))), (q_2, .inl (xI g, 6, .inl (fun j => iI ((fun (_ : Nat) => (0 : Int)) j))))] H := hP
  have hD : va_D A [(h0, .inr (1, [.int 0, .int 0, .int 0, .ref q_1, .null, .null, .null, .null, .null, .null, .null, .null, .int 0, .int 0])), (q_1, .inl (xI g, 6, .inl (fun j => iI ((fun (_ : Nat) => (0 : Int)) j)))), (q_2, .inl (xI g, 6, .inl (fun j => iI ((fun (_ : Nat) => (0 : Int)) j))))] := hD
  refine va_putF (D := xD g) (ci := 1) (v := .ref q_2) (ty := .array .int) (C := RX1) (T := TX1) (N := 14) hx hb hts hFX1 tyX1 tyX1_ok nmX1 hown hK hP hD hS 0 rfl rfl 4 (by decide) (hts (.fieldLink RX1 15 "Stevedore$BerthPlanner" "handling" "[I") (by decide +kernel)) (fun _ h9 => h9) rfl hin rfl (by decide +kernel) rfl rfl (Nat.le_of_ble_eq_true rfl) dX1_init_17 (fun H locs hP hD hS => ?_)
  have hP : va_P (xD g) vwCl [(h0, .inr (1, [.int 0, .int 0, .int 0, .ref q_1, .ref q_2, .null, .null, .null, .null, .null, .null, .null, .int 0, .int 0])), (q_1, .inl (xI g, 6, .inl (fun j => iI ((fun (_ : Nat) => (0 : Int)) j)))), (q_2, .inl (xI g, 6, .inl (fun j => iI ((fun (_ : Nat) => (0 : Int)) j))))] H := hP
  have hD : va_D A [(h0, .inr (1, [.int 0, .int 0, .int 0, .ref q_1, .ref q_2, .null, .null, .null, .null, .null, .null, .null, .int 0, .int 0])), (q_1, .inl (xI g, 6, .inl (fun j => iI ((fun (_ : Nat) => (0 : Int)) j)))), (q_2, .inl (xI g, 6, .inl (fun j => iI ((fun (_ : Nat) => (0 : Int)) j))))] := hD
  refine lv_aload_n hx hb dX1_init_20 rfl (lv_at hl 0 rfl) ?_
  refine lv_bipush (v := 6) hx hb dX1_init_21 (by decide) ?_
  refine va_newa (atype := .int) (ty := .int) (N' := 6) (a0 := (6, .inl (fun _ => 0))) hx hb (hts (.arrayClass .int) (by decide +kernel)) rfl hK hP hD hS hA (fun cA => by rfl) (by decide) (by decide) (by decide) (Nat.le_of_ble_eq_true rfl) (Nat.le_of_ble_eq_true rfl) dX1_init_23 (fun q_3 cA H hK9 hP hD hS => ?_)
  obtain rfl := xIEq hK9
  refine W.widen (k := 3) (n := 18) (by omega) (by omega) ?_
  have hP : va_P (xD g) vwCl [(h0, .inr (1, [.int 0, .int 0, .int 0, .ref q_1, .ref q_2, .null, .null, .null, .null, .null, .null, .null, .int 0, .int 0])), (q_1, .inl (xI g, 6, .inl (fun j => iI ((fun (_ : Nat) => (0 : Int)) j)))), (q_2, .inl (xI g, 6, .inl (fun j => iI ((fun (_ : Nat) => (0 : Int)) j)))), (q_3, .inl (xI g, 6, .inl (fun j => iI ((fun (_ : Nat) => (0 : Int)) j))))] H := hP
  have hD : va_D A [(h0, .inr (1, [.int 0, .int 0, .int 0, .ref q_1, .ref q_2, .null, .null, .null, .null, .null, .null, .null, .int 0, .int 0])), (q_1, .inl (xI g, 6, .inl (fun j => iI ((fun (_ : Nat) => (0 : Int)) j)))), (q_2, .inl (xI g, 6, .inl (fun j => iI ((fun (_ : Nat) => (0 : Int)) j)))), (q_3, .inl (xI g, 6, .inl (fun j => iI ((fun (_ : Nat) => (0 : Int)) j))))] := hD
  refine va_putF (D := xD g) (ci := 1) (v := .ref q_3) (ty := .array .int) (C := RX1) (T := TX1) (N := 14) hx hb hts hFX1 tyX1 tyX1_ok nmX1 hown hK hP hD hS 0 rfl rfl 5 (by decide) (hts (.fieldLink RX1 18 "Stevedore$BerthPlanner" "bays" "[I") (by decide +kernel)) (fun _ h9 => h9) rfl hin rfl (by decide +kernel) rfl rfl (Nat.le_of_ble_eq_true rfl) dX1_init_25 (fun H locs hP hD hS => ?_)
  have hP : va_P (xD g) vwCl [(h0, .inr (1, [.int 0, .int 0, .int 0, .ref q_1, .ref q_2, .ref q_3, .null, .null, .null, .null, .null, .null, .int 0, .int 0])), (q_1, .inl (xI g, 6, .inl (fun j => iI ((fun (_ : Nat) => (0 : Int)) j)))), (q_2, .inl (xI g, 6, .inl (fun j => iI ((fun (_ : Nat) => (0 : Int)) j)))), (q_3, .inl (xI g, 6, .inl (fun j => iI ((fun (_ : Nat) => (0 : Int)) j))))] H := hP
  have hD : va_D A [(h0, .inr (1, [.int 0, .int 0, .int 0, .ref q_1, .ref q_2, .ref q_3, .null, .null, .null, .null, .null, .null, .int 0, .int 0])), (q_1, .inl (xI g, 6, .inl (fun j => iI ((fun (_ : Nat) => (0 : Int)) j)))), (q_2, .inl (xI g, 6, .inl (fun j => iI ((fun (_ : Nat) => (0 : Int)) j)))), (q_3, .inl (xI g, 6, .inl (fun j => iI ((fun (_ : Nat) => (0 : Int)) j))))] := hD
  refine lv_aload_n hx hb dX1_init_28 rfl (lv_at hl 0 rfl) ?_
  refine lv_bipush (v := 6) hx hb dX1_init_29 (by decide) ?_
  refine va_newa (atype := .int) (ty := .int) (N' := 6) (a0 := (6, .inl (fun _ => 0))) hx hb (hts (.arrayClass .int) (by decide +kernel)) rfl hK hP hD hS hA (fun cA => by rfl) (by decide) (by decide) (by decide) (Nat.le_of_ble_eq_true rfl) (Nat.le_of_ble_eq_true rfl) dX1_init_31 (fun q_4 cA H hK9 hP hD hS => ?_)
  obtain rfl := xIEq hK9
  refine W.widen (k := 4) (n := 24) (by omega) (by omega) ?_
  have hP : va_P (xD g) vwCl [(h0, .inr (1, [.int 0, .int 0, .int 0, .ref q_1, .ref q_2, .ref q_3, .null, .null, .null, .null, .null, .null, .int 0, .int 0])), (q_1, .inl (xI g, 6, .inl (fun j => iI ((fun (_ : Nat) => (0 : Int)) j)))), (q_2, .inl (xI g, 6, .inl (fun j => iI ((fun (_ : Nat) => (0 : Int)) j)))), (q_3, .inl (xI g, 6, .inl (fun j => iI ((fun (_ : Nat) => (0 : Int)) j)))), (q_4, .inl (xI g, 6, .inl (fun j => iI ((fun (_ : Nat) => (0 : Int)) j))))] H := hP
  have hD : va_D A [(h0, .inr (1, [.int 0, .int 0, .int 0, .ref q_1, .ref q_2, .ref q_3, .null, .null, .null, .null, .null, .null, .int 0, .int 0])), (q_1, .inl (xI g, 6, .inl (fun j => iI ((fun (_ : Nat) => (0 : Int)) j)))), (q_2, .inl (xI g, 6, .inl (fun j => iI ((fun (_ : Nat) => (0 : Int)) j)))), (q_3, .inl (xI g, 6, .inl (fun j => iI ((fun (_ : Nat) => (0 : Int)) j)))), (q_4, .inl (xI g, 6, .inl (fun j => iI ((fun (_ : Nat) => (0 : Int)) j))))] := hD
  refine va_putF (D := xD g) (ci := 1) (v := .ref q_4) (ty := .array .int) (C := RX1) (T := TX1) (N := 14) hx hb hts hFX1 tyX1 tyX1_ok nmX1 hown hK hP hD hS 0 rfl rfl 6 (by decide) (hts (.fieldLink RX1 21 "Stevedore$BerthPlanner" "rank" "[I") (by decide +kernel)) (fun _ h9 => h9) rfl hin rfl (by decide +kernel) rfl rfl (Nat.le_of_ble_eq_true rfl) dX1_init_33 (fun H locs hP hD hS => ?_)
  have hP : va_P (xD g) vwCl [(h0, .inr (1, [.int 0, .int 0, .int 0, .ref q_1, .ref q_2, .ref q_3, .ref q_4, .null, .null, .null, .null, .null, .int 0, .int 0])), (q_1, .inl (xI g, 6, .inl (fun j => iI ((fun (_ : Nat) => (0 : Int)) j)))), (q_2, .inl (xI g, 6, .inl (fun j => iI ((fun (_ : Nat) => (0 : Int)) j)))), (q_3, .inl (xI g, 6, .inl (fun j => iI ((fun (_ : Nat) => (0 : Int)) j)))), (q_4, .inl (xI g, 6, .inl (fun j => iI ((fun (_ : Nat) => (0 : Int)) j))))] H := hP
  have hD : va_D A [(h0, .inr (1, [.int 0, .int 0, .int 0, .ref q_1, .ref q_2, .ref q_3, .ref q_4, .null, .null, .null, .null, .null, .int 0, .int 0])), (q_1, .inl (xI g, 6, .inl (fun j => iI ((fun (_ : Nat) => (0 : Int)) j)))), (q_2, .inl (xI g, 6, .inl (fun j => iI ((fun (_ : Nat) => (0 : Int)) j)))), (q_3, .inl (xI g, 6, .inl (fun j => iI ((fun (_ : Nat) => (0 : Int)) j)))), (q_4, .inl (xI g, 6, .inl (fun j => iI ((fun (_ : Nat) => (0 : Int)) j))))] := hD
  refine lv_aload_n hx hb dX1_init_36 rfl (lv_at hl 0 rfl) ?_
  refine lv_bipush (v := 6) hx hb dX1_init_37 (by decide) ?_
  refine va_newa (atype := .int) (ty := .int) (N' := 6) (a0 := (6, .inl (fun _ => 0))) hx hb (hts (.arrayClass .int) (by decide +kernel)) rfl hK hP hD hS hA (fun cA => by rfl) (by decide) (by decide) (by decide) (Nat.le_of_ble_eq_true rfl) (Nat.le_of_ble_eq_true rfl) dX1_init_39 (fun q_5 cA H hK9 hP hD hS => ?_)
  obtain rfl := xIEq hK9
  refine W.widen (k := 5) (n := 30) (by omega) (by omega) ?_
  have hP : va_P (xD g) vwCl [(h0, .inr (1, [.int 0, .int 0, .int 0, .ref q_1, .ref q_2, .ref q_3, .ref q_4, .null, .null, .null, .null, .null, .int 0, .int 0])), (q_1, .inl (xI g, 6, .inl (fun j => iI ((fun (_ : Nat) => (0 : Int)) j)))), (q_2, .inl (xI g, 6, .inl (fun j => iI ((fun (_ : Nat) => (0 : Int)) j)))), (q_3, .inl (xI g, 6, .inl (fun j => iI ((fun (_ : Nat) => (0 : Int)) j)))), (q_4, .inl (xI g, 6, .inl (fun j => iI ((fun (_ : Nat) => (0 : Int)) j)))), (q_5, .inl (xI g, 6, .inl (fun j => iI ((fun (_ : Nat) => (0 : Int)) j))))] H := hP
  have hD : va_D A [(h0, .inr (1, [.int 0, .int 0, .int 0, .ref q_1, .ref q_2, .ref q_3, .ref q_4, .null, .null, .null, .null, .null, .int 0, .int 0])), (q_1, .inl (xI g, 6, .inl (fun j => iI ((fun (_ : Nat) => (0 : Int)) j)))), (q_2, .inl (xI g, 6, .inl (fun j => iI ((fun (_ : Nat) => (0 : Int)) j)))), (q_3, .inl (xI g, 6, .inl (fun j => iI ((fun (_ : Nat) => (0 : Int)) j)))), (q_4, .inl (xI g, 6, .inl (fun j => iI ((fun (_ : Nat) => (0 : Int)) j)))), (q_5, .inl (xI g, 6, .inl (fun j => iI ((fun (_ : Nat) => (0 : Int)) j))))] := hD
  refine va_putF (D := xD g) (ci := 1) (v := .ref q_5) (ty := .array .int) (C := RX1) (T := TX1) (N := 14) hx hb hts hFX1 tyX1 tyX1_ok nmX1 hown hK hP hD hS 0 rfl rfl 7 (by decide) (hts (.fieldLink RX1 24 "Stevedore$BerthPlanner" "wanted" "[I") (by decide +kernel)) (fun _ h9 => h9) rfl hin rfl (by decide +kernel) rfl rfl (Nat.le_of_ble_eq_true rfl) dX1_init_41 (fun H locs hP hD hS => ?_)
  have hP : va_P (xD g) vwCl [(h0, .inr (1, [.int 0, .int 0, .int 0, .ref q_1, .ref q_2, .ref q_3, .ref q_4, .ref q_5, .null, .null, .null, .null, .int 0, .int 0])), (q_1, .inl (xI g, 6, .inl (fun j => iI ((fun (_ : Nat) => (0 : Int)) j)))), (q_2, .inl (xI g, 6, .inl (fun j => iI ((fun (_ : Nat) => (0 : Int)) j)))), (q_3, .inl (xI g, 6, .inl (fun j => iI ((fun (_ : Nat) => (0 : Int)) j)))), (q_4, .inl (xI g, 6, .inl (fun j => iI ((fun (_ : Nat) => (0 : Int)) j)))), (q_5, .inl (xI g, 6, .inl (fun j => iI ((fun (_ : Nat) => (0 : Int)) j))))] H := hP
  have hD : va_D A [(h0, .inr (1, [.int 0, .int 0, .int 0, .ref q_1, .ref q_2, .ref q_3, .ref q_4, .ref q_5, .null, .null, .null, .null, .int 0, .int 0])), (q_1, .inl (xI g, 6, .inl (fun j => iI ((fun (_ : Nat) => (0 : Int)) j)))), (q_2, .inl (xI g, 6, .inl (fun j => iI ((fun (_ : Nat) => (0 : Int)) j)))), (q_3, .inl (xI g, 6, .inl (fun j => iI ((fun (_ : Nat) => (0 : Int)) j)))), (q_4, .inl (xI g, 6, .inl (fun j => iI ((fun (_ : Nat) => (0 : Int)) j)))), (q_5, .inl (xI g, 6, .inl (fun j => iI ((fun (_ : Nat) => (0 : Int)) j))))] := hD
  refine lv_aload_n hx hb dX1_init_44 rfl (lv_at hl 0 rfl) ?_
  refine va_new (ci := 4) (fs := [.int 0, .null, .null, .null]) (C := RX4) (T := TX4) (N := 4) hx hb hts hFX4 tyX4 tyX4_ok hown (hts (.classLink RX1 27 RX4) (by decide +kernel)) (hts (.instantiable RX4 4) (by decide +kernel)) (hts (.initialized RX4) (by decide +kernel)) hK hP hD hS hA rfl (fun j hj => by rcases (show j = 0 ∨ j = 1 ∨ j = 2 ∨ j = 3 by omega) with rfl | rfl | rfl | rfl <;> rfl) (Nat.le_of_ble_eq_true rfl) (Nat.le_of_ble_eq_true rfl) dX1_init_45 (fun q_6 H hP hD hS => ?_)
  refine W.widen (k := 6) (n := 34) (by omega) (by omega) ?_
  have hP : va_P (xD g) vwCl [(h0, .inr (1, [.int 0, .int 0, .int 0, .ref q_1, .ref q_2, .ref q_3, .ref q_4, .ref q_5, .null, .null, .null, .null, .int 0, .int 0])), (q_1, .inl (xI g, 6, .inl (fun j => iI ((fun (_ : Nat) => (0 : Int)) j)))), (q_2, .inl (xI g, 6, .inl (fun j => iI ((fun (_ : Nat) => (0 : Int)) j)))), (q_3, .inl (xI g, 6, .inl (fun j => iI ((fun (_ : Nat) => (0 : Int)) j)))), (q_4, .inl (xI g, 6, .inl (fun j => iI ((fun (_ : Nat) => (0 : Int)) j)))), (q_5, .inl (xI g, 6, .inl (fun j => iI ((fun (_ : Nat) => (0 : Int)) j)))), (q_6, .inr (4, [.int 0, .null, .null, .null]))] H := hP
  have hD : va_D A [(h0, .inr (1, [.int 0, .int 0, .int 0, .ref q_1, .ref q_2, .ref q_3, .ref q_4, .ref q_5, .null, .null, .null, .null, .int 0, .int 0])), (q_1, .inl (xI g, 6, .inl (fun j => iI ((fun (_ : Nat) => (0 : Int)) j)))), (q_2, .inl (xI g, 6, .inl (fun j => iI ((fun (_ : Nat) => (0 : Int)) j)))), (q_3, .inl (xI g, 6, .inl (fun j => iI ((fun (_ : Nat) => (0 : Int)) j)))), (q_4, .inl (xI g, 6, .inl (fun j => iI ((fun (_ : Nat) => (0 : Int)) j)))), (q_5, .inl (xI g, 6, .inl (fun j => iI ((fun (_ : Nat) => (0 : Int)) j)))), (q_6, .inr (4, [.int 0, .null, .null, .null]))] := hD
  refine lv_dup hx hb dX1_init_48 rfl ?_
  have hPc := hP.sub (ws' := [(q_6, .inr (4, [.int 0, .null, .null, .null]))]) [6] rfl
  have hDc := hD.sub (ws' := [(q_6, .inr (4, [.int 0, .null, .null, .null]))]) [6] (by decide) rfl
  have hFc := va_free (wc := [(q_6, .inr (4, [.int 0, .null, .null, .null]))]) hD hS hA [6] rfl
  refine va_callv (va_runI (As := []) (rest := [.ref q_6, .ref h0]) ⟨hx, hb, hml, hown, hts⟩ (i_X4 l g H.size q_6) (cwI 0 hts ggX1_init_X4_init rfl rfl rfl (hts (.initialized RX4) (by decide +kernel)) (hts (.methodLink RX1 29 yX4_init) (by decide +kernel)) (hts (.instanceMethod yX4_init) (by decide +kernel)) rfl (by decide +kernel) ⟨Nat.le_of_ble_eq_true rfl, Nat.le_of_ble_eq_true rfl⟩) ⟨xB.blind, fun U9 hU9 hW9 => ⟨rfl, xB.mk hPc hK hDc hU9 hW9⟩⟩ rfl rfl hl.1 rfl (lv_room (Nat.le_of_ble_eq_true rfl)) dX1_init_49 ⟨Nat.le_of_ble_eq_true rfl, Nat.le_of_ble_eq_true rfl⟩) hS (fun q _ h => hFc q h) hFc (fun _ t H1 locs ht hvm hw_8 hB hz1 hk1 hS => ?_)
  obtain ⟨po_9, ps_10, pp_11, hP1, hK1, hD1⟩ := hB
  rw [ht] at hP1
  obtain ⟨hP, hD⟩ := va_join (wr := [(h0, .inr (1, [.int 0, .int 0, .int 0, .ref q_1, .ref q_2, .ref q_3, .ref q_4, .ref q_5, .null, .null, .null, .null, .int 0, .int 0])), (q_1, .inl (xI g, 6, .inl (fun j => iI ((fun (_ : Nat) => (0 : Int)) j)))), (q_2, .inl (xI g, 6, .inl (fun j => iI ((fun (_ : Nat) => (0 : Int)) j)))), (q_3, .inl (xI g, 6, .inl (fun j => iI ((fun (_ : Nat) => (0 : Int)) j)))), (q_4, .inl (xI g, 6, .inl (fun j => iI ((fun (_ : Nat) => (0 : Int)) j)))), (q_5, .inl (xI g, 6, .inl (fun j => iI ((fun (_ : Nat) => (0 : Int)) j))))]) (w1 := [(q_6, .inr (4, [.int 0, .ref po_9, .ref ps_10, .ref pp_11])), (po_9, .inl (xI g, 6, .inl (fun j => nI ((fun (_ : Nat) => (0 : Nat)) j)))), (ps_10, .inl (xI g, 6, .inl (fun j => iI ((fun (_ : Nat) => (0 : Int)) j)))), (pp_11, .inl (xI g, 6, .inl (fun j => iI ((fun (_ : Nat) => (0 : Int)) j))))]) hP hD [6] [0, 1, 2, 3, 4, 5] rfl rfl (by decide) (by decide) hk1 hFc hP1 hD1
  generalize H1 = H at hP hS ⊢
  have hP : va_P (xD g) vwCl [(h0, .inr (1, [.int 0, .int 0, .int 0, .ref q_1, .ref q_2, .ref q_3, .ref q_4, .ref q_5, .null, .null, .null, .null, .int 0, .int 0])), (q_1, .inl (xI g, 6, .inl (fun j => iI ((fun (_ : Nat) => (0 : Int)) j)))), (q_2, .inl (xI g, 6, .inl (fun j => iI ((fun (_ : Nat) => (0 : Int)) j)))), (q_3, .inl (xI g, 6, .inl (fun j => iI ((fun (_ : Nat) => (0 : Int)) j)))), (q_4, .inl (xI g, 6, .inl (fun j => iI ((fun (_ : Nat) => (0 : Int)) j)))), (q_5, .inl (xI g, 6, .inl (fun j => iI ((fun (_ : Nat) => (0 : Int)) j)))), (q_6, .inr (4, [.int 0, .ref po_9, .ref ps_10, .ref pp_11])), (po_9, .inl (xI g, 6, .inl (fun j => nI ((fun (_ : Nat) => (0 : Nat)) j)))), (ps_10, .inl (xI g, 6, .inl (fun j => iI ((fun (_ : Nat) => (0 : Int)) j)))), (pp_11, .inl (xI g, 6, .inl (fun j => iI ((fun (_ : Nat) => (0 : Int)) j))))] H := hP
  have hD : va_D A [(h0, .inr (1, [.int 0, .int 0, .int 0, .ref q_1, .ref q_2, .ref q_3, .ref q_4, .ref q_5, .null, .null, .null, .null, .int 0, .int 0])), (q_1, .inl (xI g, 6, .inl (fun j => iI ((fun (_ : Nat) => (0 : Int)) j)))), (q_2, .inl (xI g, 6, .inl (fun j => iI ((fun (_ : Nat) => (0 : Int)) j)))), (q_3, .inl (xI g, 6, .inl (fun j => iI ((fun (_ : Nat) => (0 : Int)) j)))), (q_4, .inl (xI g, 6, .inl (fun j => iI ((fun (_ : Nat) => (0 : Int)) j)))), (q_5, .inl (xI g, 6, .inl (fun j => iI ((fun (_ : Nat) => (0 : Int)) j)))), (q_6, .inr (4, [.int 0, .ref po_9, .ref ps_10, .ref pp_11])), (po_9, .inl (xI g, 6, .inl (fun j => nI ((fun (_ : Nat) => (0 : Nat)) j)))), (ps_10, .inl (xI g, 6, .inl (fun j => iI ((fun (_ : Nat) => (0 : Int)) j)))), (pp_11, .inl (xI g, 6, .inl (fun j => iI ((fun (_ : Nat) => (0 : Int)) j))))] := hD
  refine W.widen (k := 9) (n := 52) (by omega) (by omega) ?_
  try dsimp only at hw_8
  refine va_putF (D := xD g) (ci := 1) (v := .ref q_6) (ty := .object "Stevedore$Plan") (C := RX1) (T := TX1) (N := 14) hx hb hts hFX1 tyX1 tyX1_ok nmX1 hown hK hP hD hS 0 rfl rfl 8 (by decide) (hts (.fieldLink RX1 30 "Stevedore$BerthPlanner" "trial" "LStevedore$Plan;") (by decide +kernel)) (fun _ h9 => h9) rfl hin rfl (by decide +kernel) rfl rfl (Nat.le_of_ble_eq_true rfl) dX1_init_52 (fun H locs hP hD hS => ?_)
  have hP : va_P (xD g) vwCl [(h0, .inr (1, [.int 0, .int 0, .int 0, .ref q_1, .ref q_2, .ref q_3, .ref q_4, .ref q_5, .ref q_6, .null, .null, .null, .int 0, .int 0])), (q_1, .inl (xI g, 6, .inl (fun j => iI ((fun (_ : Nat) => (0 : Int)) j)))), (q_2, .inl (xI g, 6, .inl (fun j => iI ((fun (_ : Nat) => (0 : Int)) j)))), (q_3, .inl (xI g, 6, .inl (fun j => iI ((fun (_ : Nat) => (0 : Int)) j)))), (q_4, .inl (xI g, 6, .inl (fun j => iI ((fun (_ : Nat) => (0 : Int)) j)))), (q_5, .inl (xI g, 6, .inl (fun j => iI ((fun (_ : Nat) => (0 : Int)) j)))), (q_6, .inr (4, [.int 0, .ref po_9, .ref ps_10, .ref pp_11])), (po_9, .inl (xI g, 6, .inl (fun j => nI ((fun (_ : Nat) => (0 : Nat)) j)))), (ps_10, .inl (xI g, 6, .inl (fun j => iI ((fun (_ : Nat) => (0 : Int)) j)))), (pp_11, .inl (xI g, 6, .inl (fun j => iI ((fun (_ : Nat) => (0 : Int)) j))))] H := hP
  have hD : va_D A [(h0, .inr (1, [.int 0, .int 0, .int 0, .ref q_1, .ref q_2, .ref q_3, .ref q_4, .ref q_5, .ref q_6, .null, .null, .null, .int 0, .int 0])), (q_1, .inl (xI g, 6, .inl (fun j => iI ((fun (_ : Nat) => (0 : Int)) j)))), (q_2, .inl (xI g, 6, .inl (fun j => iI ((fun (_ : Nat) => (0 : Int)) j)))), (q_3, .inl (xI g, 6, .inl (fun j => iI ((fun (_ : Nat) => (0 : Int)) j)))), (q_4, .inl (xI g, 6, .inl (fun j => iI ((fun (_ : Nat) => (0 : Int)) j)))), (q_5, .inl (xI g, 6, .inl (fun j => iI ((fun (_ : Nat) => (0 : Int)) j)))), (q_6, .inr (4, [.int 0, .ref po_9, .ref ps_10, .ref pp_11])), (po_9, .inl (xI g, 6, .inl (fun j => nI ((fun (_ : Nat) => (0 : Nat)) j)))), (ps_10, .inl (xI g, 6, .inl (fun j => iI ((fun (_ : Nat) => (0 : Int)) j)))), (pp_11, .inl (xI g, 6, .inl (fun j => iI ((fun (_ : Nat) => (0 : Int)) j))))] := hD
  refine lv_aload_n hx hb dX1_init_55 rfl (lv_at hl 0 rfl) ?_
  refine lv_bipush (v := 6) hx hb dX1_init_56 (by decide) ?_
  refine va_newa (atype := .int) (ty := .int) (N' := 6) (a0 := (6, .inl (fun _ => 0))) hx hb (hts (.arrayClass .int) (by decide +kernel)) rfl hK hP hD hS hA (fun cA => by rfl) (by decide) (by decide) (by decide) (Nat.le_of_ble_eq_true rfl) (Nat.le_of_ble_eq_true rfl) dX1_init_58 (fun q_12 cA H hK9 hP hD hS => ?_)
  obtain rfl := xIEq hK9
  refine W.widen (k := 10) (n := 58) (by omega) (by omega) ?_
  have hP : va_P (xD g) vwCl [(h0, .inr (1, [.int 0, .int 0, .int 0, .ref q_1, .ref q_2, .ref q_3, .ref q_4, .ref q_5, .ref q_6, .null, .null, .null, .int 0, .int 0])), (q_1, .inl (xI g, 6, .inl (fun j => iI ((fun (_ : Nat) => (0 : Int)) j)))), (q_2, .inl (xI g, 6, .inl (fun j => iI ((fun (_ : Nat) => (0 : Int)) j)))), (q_3, .inl (xI g, 6, .inl (fun j => iI ((fun (_ : Nat) => (0 : Int)) j)))), (q_4, .inl (xI g, 6, .inl (fun j => iI ((fun (_ : Nat) => (0 : Int)) j)))), (q_5, .inl (xI g, 6, .inl (fun j => iI ((fun (_ : Nat) => (0 : Int)) j)))), (q_6, .inr (4, [.int 0, .ref po_9, .ref ps_10, .ref pp_11])), (po_9, .inl (xI g, 6, .inl (fun j => nI ((fun (_ : Nat) => (0 : Nat)) j)))), (ps_10, .inl (xI g, 6, .inl (fun j => iI ((fun (_ : Nat) => (0 : Int)) j)))), (pp_11, .inl (xI g, 6, .inl (fun j => iI ((fun (_ : Nat) => (0 : Int)) j)))), (q_12, .inl (xI g, 6, .inl (fun j => iI ((fun (_ : Nat) => (0 : Int)) j))))] H := hP
  have hD : va_D A [(h0, .inr (1, [.int 0, .int 0, .int 0, .ref q_1, .ref q_2, .ref q_3, .ref q_4, .ref q_5, .ref q_6, .null, .null, .null, .int 0, .int 0])), (q_1, .inl (xI g, 6, .inl (fun j => iI ((fun (_ : Nat) => (0 : Int)) j)))), (q_2, .inl (xI g, 6, .inl (fun j => iI ((fun (_ : Nat) => (0 : Int)) j)))), (q_3, .inl (xI g, 6, .inl (fun j => iI ((fun (_ : Nat) => (0 : Int)) j)))), (q_4, .inl (xI g, 6, .inl (fun j => iI ((fun (_ : Nat) => (0 : Int)) j)))), (q_5, .inl (xI g, 6, .inl (fun j => iI ((fun (_ : Nat) => (0 : Int)) j)))), (q_6, .inr (4, [.int 0, .ref po_9, .ref ps_10, .ref pp_11])), (po_9, .inl (xI g, 6, .inl (fun j => nI ((fun (_ : Nat) => (0 : Nat)) j)))), (ps_10, .inl (xI g, 6, .inl (fun j => iI ((fun (_ : Nat) => (0 : Int)) j)))), (pp_11, .inl (xI g, 6, .inl (fun j => iI ((fun (_ : Nat) => (0 : Int)) j)))), (q_12, .inl (xI g, 6, .inl (fun j => iI ((fun (_ : Nat) => (0 : Int)) j))))] := hD
  refine va_putF (D := xD g) (ci := 1) (v := .ref q_12) (ty := .array .int) (C := RX1) (T := TX1) (N := 14) hx hb hts hFX1 tyX1 tyX1_ok nmX1 hown hK hP hD hS 0 rfl rfl 9 (by decide) (hts (.fieldLink RX1 34 "Stevedore$BerthPlanner" "until" "[I") (by decide +kernel)) (fun _ h9 => h9) rfl hin rfl (by decide +kernel) rfl rfl (Nat.le_of_ble_eq_true rfl) dX1_init_60 (fun H locs hP hD hS => ?_)
  have hP : va_P (xD g) vwCl [(h0, .inr (1, [.int 0, .int 0, .int 0, .ref q_1, .ref q_2, .ref q_3, .ref q_4, .ref q_5, .ref q_6, .ref q_12, .null, .null, .int 0, .int 0])), (q_1, .inl (xI g, 6, .inl (fun j => iI ((fun (_ : Nat) => (0 : Int)) j)))), (q_2, .inl (xI g, 6, .inl (fun j => iI ((fun (_ : Nat) => (0 : Int)) j)))), (q_3, .inl (xI g, 6, .inl (fun j => iI ((fun (_ : Nat) => (0 : Int)) j)))), (q_4, .inl (xI g, 6, .inl (fun j => iI ((fun (_ : Nat) => (0 : Int)) j)))), (q_5, .inl (xI g, 6, .inl (fun j => iI ((fun (_ : Nat) => (0 : Int)) j)))), (q_6, .inr (4, [.int 0, .ref po_9, .ref ps_10, .ref pp_11])), (po_9, .inl (xI g, 6, .inl (fun j => nI ((fun (_ : Nat) => (0 : Nat)) j)))), (ps_10, .inl (xI g, 6, .inl (fun j => iI ((fun (_ : Nat) => (0 : Int)) j)))), (pp_11, .inl (xI g, 6, .inl (fun j => iI ((fun (_ : Nat) => (0 : Int)) j)))), (q_12, .inl (xI g, 6, .inl (fun j => iI ((fun (_ : Nat) => (0 : Int)) j))))] H := hP
  have hD : va_D A [(h0, .inr (1, [.int 0, .int 0, .int 0, .ref q_1, .ref q_2, .ref q_3, .ref q_4, .ref q_5, .ref q_6, .ref q_12, .null, .null, .int 0, .int 0])), (q_1, .inl (xI g, 6, .inl (fun j => iI ((fun (_ : Nat) => (0 : Int)) j)))), (q_2, .inl (xI g, 6, .inl (fun j => iI ((fun (_ : Nat) => (0 : Int)) j)))), (q_3, .inl (xI g, 6, .inl (fun j => iI ((fun (_ : Nat) => (0 : Int)) j)))), (q_4, .inl (xI g, 6, .inl (fun j => iI ((fun (_ : Nat) => (0 : Int)) j)))), (q_5, .inl (xI g, 6, .inl (fun j => iI ((fun (_ : Nat) => (0 : Int)) j)))), (q_6, .inr (4, [.int 0, .ref po_9, .ref ps_10, .ref pp_11])), (po_9, .inl (xI g, 6, .inl (fun j => nI ((fun (_ : Nat) => (0 : Nat)) j)))), (ps_10, .inl (xI g, 6, .inl (fun j => iI ((fun (_ : Nat) => (0 : Int)) j)))), (pp_11, .inl (xI g, 6, .inl (fun j => iI ((fun (_ : Nat) => (0 : Int)) j)))), (q_12, .inl (xI g, 6, .inl (fun j => iI ((fun (_ : Nat) => (0 : Int)) j))))] := hD
  refine lv_aload_n hx hb dX1_init_63 rfl (lv_at hl 0 rfl) ?_
  refine lv_bipush (v := 6) hx hb dX1_init_64 (by decide) ?_
  refine va_newa (atype := .boolean) (ty := .boolean) (N' := 6) (a0 := (6, .inl (fun _ => 0))) hx hb (hts (.arrayClass .boolean) (by decide +kernel)) rfl hK hP hD hS hA (fun cA => by rfl) (by decide) (by decide) (by decide) (Nat.le_of_ble_eq_true rfl) (Nat.le_of_ble_eq_true rfl) dX1_init_66 (fun q_13 cA H hK9 hP hD hS => ?_)
  obtain rfl := xZEq hK9
  refine W.widen (k := 11) (n := 64) (by omega) (by omega) ?_
  have hP : va_P (xD g) vwCl [(h0, .inr (1, [.int 0, .int 0, .int 0, .ref q_1, .ref q_2, .ref q_3, .ref q_4, .ref q_5, .ref q_6, .ref q_12, .null, .null, .int 0, .int 0])), (q_1, .inl (xI g, 6, .inl (fun j => iI ((fun (_ : Nat) => (0 : Int)) j)))), (q_2, .inl (xI g, 6, .inl (fun j => iI ((fun (_ : Nat) => (0 : Int)) j)))), (q_3, .inl (xI g, 6, .inl (fun j => iI ((fun (_ : Nat) => (0 : Int)) j)))), (q_4, .inl (xI g, 6, .inl (fun j => iI ((fun (_ : Nat) => (0 : Int)) j)))), (q_5, .inl (xI g, 6, .inl (fun j => iI ((fun (_ : Nat) => (0 : Int)) j)))), (q_6, .inr (4, [.int 0, .ref po_9, .ref ps_10, .ref pp_11])), (po_9, .inl (xI g, 6, .inl (fun j => nI ((fun (_ : Nat) => (0 : Nat)) j)))), (ps_10, .inl (xI g, 6, .inl (fun j => iI ((fun (_ : Nat) => (0 : Int)) j)))), (pp_11, .inl (xI g, 6, .inl (fun j => iI ((fun (_ : Nat) => (0 : Int)) j)))), (q_12, .inl (xI g, 6, .inl (fun j => iI ((fun (_ : Nat) => (0 : Int)) j)))), (q_13, .inl (xZ g, 6, .inl (fun j => iI ((fun (_ : Nat) => (0 : Int)) j))))] H := hP
  have hD : va_D A [(h0, .inr (1, [.int 0, .int 0, .int 0, .ref q_1, .ref q_2, .ref q_3, .ref q_4, .ref q_5, .ref q_6, .ref q_12, .null, .null, .int 0, .int 0])), (q_1, .inl (xI g, 6, .inl (fun j => iI ((fun (_ : Nat) => (0 : Int)) j)))), (q_2, .inl (xI g, 6, .inl (fun j => iI ((fun (_ : Nat) => (0 : Int)) j)))), (q_3, .inl (xI g, 6, .inl (fun j => iI ((fun (_ : Nat) => (0 : Int)) j)))), (q_4, .inl (xI g, 6, .inl (fun j => iI ((fun (_ : Nat) => (0 : Int)) j)))), (q_5, .inl (xI g, 6, .inl (fun j => iI ((fun (_ : Nat) => (0 : Int)) j)))), (q_6, .inr (4, [.int 0, .ref po_9, .ref ps_10, .ref pp_11])), (po_9, .inl (xI g, 6, .inl (fun j => nI ((fun (_ : Nat) => (0 : Nat)) j)))), (ps_10, .inl (xI g, 6, .inl (fun j => iI ((fun (_ : Nat) => (0 : Int)) j)))), (pp_11, .inl (xI g, 6, .inl (fun j => iI ((fun (_ : Nat) => (0 : Int)) j)))), (q_12, .inl (xI g, 6, .inl (fun j => iI ((fun (_ : Nat) => (0 : Int)) j)))), (q_13, .inl (xZ g, 6, .inl (fun j => iI ((fun (_ : Nat) => (0 : Int)) j))))] := hD
  refine va_putF (D := xD g) (ci := 1) (v := .ref q_13) (ty := .array .boolean) (C := RX1) (T := TX1) (N := 14) hx hb hts hFX1 tyX1 tyX1_ok nmX1 hown hK hP hD hS 0 rfl rfl 10 (by decide) (hts (.fieldLink RX1 37 "Stevedore$BerthPlanner" "isPut" "[Z") (by decide +kernel)) (fun _ h9 => h9) rfl hin rfl (by decide +kernel) rfl rfl (Nat.le_of_ble_eq_true rfl) dX1_init_68 (fun H locs hP hD hS => ?_)
  have hP : va_P (xD g) vwCl [(h0, .inr (1, [.int 0, .int 0, .int 0, .ref q_1, .ref q_2, .ref q_3, .ref q_4, .ref q_5, .ref q_6, .ref q_12, .ref q_13, .null, .int 0, .int 0])), (q_1, .inl (xI g, 6, .inl (fun j => iI ((fun (_ : Nat) => (0 : Int)) j)))), (q_2, .inl (xI g, 6, .inl (fun j => iI ((fun (_ : Nat) => (0 : Int)) j)))), (q_3, .inl (xI g, 6, .inl (fun j => iI ((fun (_ : Nat) => (0 : Int)) j)))), (q_4, .inl (xI g, 6, .inl (fun j => iI ((fun (_ : Nat) => (0 : Int)) j)))), (q_5, .inl (xI g, 6, .inl (fun j => iI ((fun (_ : Nat) => (0 : Int)) j)))), (q_6, .inr (4, [.int 0, .ref po_9, .ref ps_10, .ref pp_11])), (po_9, .inl (xI g, 6, .inl (fun j => nI ((fun (_ : Nat) => (0 : Nat)) j)))), (ps_10, .inl (xI g, 6, .inl (fun j => iI ((fun (_ : Nat) => (0 : Int)) j)))), (pp_11, .inl (xI g, 6, .inl (fun j => iI ((fun (_ : Nat) => (0 : Int)) j)))), (q_12, .inl (xI g, 6, .inl (fun j => iI ((fun (_ : Nat) => (0 : Int)) j)))), (q_13, .inl (xZ g, 6, .inl (fun j => iI ((fun (_ : Nat) => (0 : Int)) j))))] H := hP
  have hD : va_D A [(h0, .inr (1, [.int 0, .int 0, .int 0, .ref q_1, .ref q_2, .ref q_3, .ref q_4, .ref q_5, .ref q_6, .ref q_12, .ref q_13, .null, .int 0, .int 0])), (q_1, .inl (xI g, 6, .inl (fun j => iI ((fun (_ : Nat) => (0 : Int)) j)))), (q_2, .inl (xI g, 6, .inl (fun j => iI ((fun (_ : Nat) => (0 : Int)) j)))), (q_3, .inl (xI g, 6, .inl (fun j => iI ((fun (_ : Nat) => (0 : Int)) j)))), (q_4, .inl (xI g, 6, .inl (fun j => iI ((fun (_ : Nat) => (0 : Int)) j)))), (q_5, .inl (xI g, 6, .inl (fun j => iI ((fun (_ : Nat) => (0 : Int)) j)))), (q_6, .inr (4, [.int 0, .ref po_9, .ref ps_10, .ref pp_11])), (po_9, .inl (xI g, 6, .inl (fun j => nI ((fun (_ : Nat) => (0 : Nat)) j)))), (ps_10, .inl (xI g, 6, .inl (fun j => iI ((fun (_ : Nat) => (0 : Int)) j)))), (pp_11, .inl (xI g, 6, .inl (fun j => iI ((fun (_ : Nat) => (0 : Int)) j)))), (q_12, .inl (xI g, 6, .inl (fun j => iI ((fun (_ : Nat) => (0 : Int)) j)))), (q_13, .inl (xZ g, 6, .inl (fun j => iI ((fun (_ : Nat) => (0 : Int)) j))))] := hD
  refine lv_aload_n hx hb dX1_init_71 rfl (lv_at hl 0 rfl) ?_
  refine va_new (ci := 4) (fs := [.int 0, .null, .null, .null]) (C := RX4) (T := TX4) (N := 4) hx hb hts hFX4 tyX4 tyX4_ok hown (hts (.classLink RX1 27 RX4) (by decide +kernel)) (hts (.instantiable RX4 4) (by decide +kernel)) (hts (.initialized RX4) (by decide +kernel)) hK hP hD hS hA rfl (fun j hj => by rcases (show j = 0 ∨ j = 1 ∨ j = 2 ∨ j = 3 by omega) with rfl | rfl | rfl | rfl <;> rfl) (Nat.le_of_ble_eq_true rfl) (Nat.le_of_ble_eq_true rfl) dX1_init_72 (fun q_14 H hP hD hS => ?_)
  refine W.widen (k := 12) (n := 68) (by omega) (by omega) ?_
  have hP : va_P (xD g) vwCl [(h0, .inr (1, [.int 0, .int 0, .int 0, .ref q_1, .ref q_2, .ref q_3, .ref q_4, .ref q_5, .ref q_6, .ref q_12, .ref q_13, .null, .int 0, .int 0])), (q_1, .inl (xI g, 6, .inl (fun j => iI ((fun (_ : Nat) => (0 : Int)) j)))), (q_2, .inl (xI g, 6, .inl (fun j => iI ((fun (_ : Nat) => (0 : Int)) j)))), (q_3, .inl (xI g, 6, .inl (fun j => iI ((fun (_ : Nat) => (0 : Int)) j)))), (q_4, .inl (xI g, 6, .inl (fun j => iI ((fun (_ : Nat) => (0 : Int)) j)))), (q_5, .inl (xI g, 6, .inl (fun j => iI ((fun (_ : Nat) => (0 : Int)) j)))), (q_6, .inr (4, [.int 0, .ref po_9, .ref ps_10, .ref pp_11])), (po_9, .inl (xI g, 6, .inl (fun j => nI ((fun (_ : Nat) => (0 : Nat)) j)))), (ps_10, .inl (xI g, 6, .inl (fun j => iI ((fun (_ : Nat) => (0 : Int)) j)))), (pp_11, .inl (xI g, 6, .inl (fun j => iI ((fun (_ : Nat) => (0 : Int)) j)))), (q_12, .inl (xI g, 6, .inl (fun j => iI ((fun (_ : Nat) => (0 : Int)) j)))), (q_13, .inl (xZ g, 6, .inl (fun j => iI ((fun (_ : Nat) => (0 : Int)) j)))), (q_14, .inr (4, [.int 0, .null, .null, .null]))] H := hP
  have hD : va_D A [(h0, .inr (1, [.int 0, .int 0, .int 0, .ref q_1, .ref q_2, .ref q_3, .ref q_4, .ref q_5, .ref q_6, .ref q_12, .ref q_13, .null, .int 0, .int 0])), (q_1, .inl (xI g, 6, .inl (fun j => iI ((fun (_ : Nat) => (0 : Int)) j)))), (q_2, .inl (xI g, 6, .inl (fun j => iI ((fun (_ : Nat) => (0 : Int)) j)))), (q_3, .inl (xI g, 6, .inl (fun j => iI ((fun (_ : Nat) => (0 : Int)) j)))), (q_4, .inl (xI g, 6, .inl (fun j => iI ((fun (_ : Nat) => (0 : Int)) j)))), (q_5, .inl (xI g, 6, .inl (fun j => iI ((fun (_ : Nat) => (0 : Int)) j)))), (q_6, .inr (4, [.int 0, .ref po_9, .ref ps_10, .ref pp_11])), (po_9, .inl (xI g, 6, .inl (fun j => nI ((fun (_ : Nat) => (0 : Nat)) j)))), (ps_10, .inl (xI g, 6, .inl (fun j => iI ((fun (_ : Nat) => (0 : Int)) j)))), (pp_11, .inl (xI g, 6, .inl (fun j => iI ((fun (_ : Nat) => (0 : Int)) j)))), (q_12, .inl (xI g, 6, .inl (fun j => iI ((fun (_ : Nat) => (0 : Int)) j)))), (q_13, .inl (xZ g, 6, .inl (fun j => iI ((fun (_ : Nat) => (0 : Int)) j)))), (q_14, .inr (4, [.int 0, .null, .null, .null]))] := hD
  refine lv_dup hx hb dX1_init_75 rfl ?_
  have hPc := hP.sub (ws' := [(q_14, .inr (4, [.int 0, .null, .null, .null]))]) [12] rfl
  have hDc := hD.sub (ws' := [(q_14, .inr (4, [.int 0, .null, .null, .null]))]) [12] (by decide) rfl
  have hFc := va_free (wc := [(q_14, .inr (4, [.int 0, .null, .null, .null]))]) hD hS hA [12] rfl
  refine va_callv (va_runI (As := []) (rest := [.ref q_14, .ref h0]) ⟨hx, hb, hml, hown, hts⟩ (i_X4 l g H.size q_14) (cwI 0 hts ggX1_init_X4_init rfl rfl rfl (hts (.initialized RX4) (by decide +kernel)) (hts (.methodLink RX1 29 yX4_init) (by decide +kernel)) (hts (.instanceMethod yX4_init) (by decide +kernel)) rfl (by decide +kernel) ⟨Nat.le_of_ble_eq_true rfl, Nat.le_of_ble_eq_true rfl⟩) ⟨xB.blind, fun U9 hU9 hW9 => ⟨rfl, xB.mk hPc hK hDc hU9 hW9⟩⟩ rfl rfl hl.1 rfl (lv_room (Nat.le_of_ble_eq_true rfl)) dX1_init_76 ⟨Nat.le_of_ble_eq_true rfl, Nat.le_of_ble_eq_true rfl⟩) hS (fun q _ h => hFc q h) hFc (fun _ t H1 locs ht hvm hw_16 hB hz1 hk1 hS => ?_)
  obtain ⟨po_17, ps_18, pp_19, hP1, hK1, hD1⟩ := hB
  rw [ht] at hP1
  obtain ⟨hP, hD⟩ := va_join (wr := [(h0, .inr (1, [.int 0, .int 0, .int 0, .ref q_1, .ref q_2, .ref q_3, .ref q_4, .ref q_5, .ref q_6, .ref q_12, .ref q_13, .null, .int 0, .int 0])), (q_1, .inl (xI g, 6, .inl (fun j => iI ((fun (_ : Nat) => (0 : Int)) j)))), (q_2, .inl (xI g, 6, .inl (fun j => iI ((fun (_ : Nat) => (0 : Int)) j)))), (q_3, .inl (xI g, 6, .inl (fun j => iI ((fun (_ : Nat) => (0 : Int)) j)))), (q_4, .inl (xI g, 6, .inl (fun j => iI ((fun (_ : Nat) => (0 : Int)) j)))), (q_5, .inl (xI g, 6, .inl (fun j => iI ((fun (_ : Nat) => (0 : Int)) j)))), (q_6, .inr (4, [.int 0, .ref po_9, .ref ps_10, .ref pp_11])), (po_9, .inl (xI g, 6, .inl (fun j => nI ((fun (_ : Nat) => (0 : Nat)) j)))), (ps_10, .inl (xI g, 6, .inl (fun j => iI ((fun (_ : Nat) => (0 : Int)) j)))), (pp_11, .inl (xI g, 6, .inl (fun j => iI ((fun (_ : Nat) => (0 : Int)) j)))), (q_12, .inl (xI g, 6, .inl (fun j => iI ((fun (_ : Nat) => (0 : Int)) j)))), (q_13, .inl (xZ g, 6, .inl (fun j => iI ((fun (_ : Nat) => (0 : Int)) j))))]) (w1 := [(q_14, .inr (4, [.int 0, .ref po_17, .ref ps_18, .ref pp_19])), (po_17, .inl (xI g, 6, .inl (fun j => nI ((fun (_ : Nat) => (0 : Nat)) j)))), (ps_18, .inl (xI g, 6, .inl (fun j => iI ((fun (_ : Nat) => (0 : Int)) j)))), (pp_19, .inl (xI g, 6, .inl (fun j => iI ((fun (_ : Nat) => (0 : Int)) j))))]) hP hD [12] [0, 1, 2, 3, 4, 5, 6, 7, 8, 9, 10, 11] rfl rfl (by decide) (by decide) hk1 hFc hP1 hD1
  generalize H1 = H at hP hS ⊢
  have hP : va_P (xD g) vwCl [(h0, .inr (1, [.int 0, .int 0, .int 0, .ref q_1, .ref q_2, .ref q_3, .ref q_4, .ref q_5, .ref q_6, .ref q_12, .ref q_13, .null, .int 0, .int 0])), (q_1, .inl (xI g, 6, .inl (fun j => iI ((fun (_ : Nat) => (0 : Int)) j)))), (q_2, .inl (xI g, 6, .inl (fun j => iI ((fun (_ : Nat) => (0 : Int)) j)))), (q_3, .inl (xI g, 6, .inl (fun j => iI ((fun (_ : Nat) => (0 : Int)) j)))), (q_4, .inl (xI g, 6, .inl (fun j => iI ((fun (_ : Nat) => (0 : Int)) j)))), (q_5, .inl (xI g, 6, .inl (fun j => iI ((fun (_ : Nat) => (0 : Int)) j)))), (q_6, .inr (4, [.int 0, .ref po_9, .ref ps_10, .ref pp_11])), (po_9, .inl (xI g, 6, .inl (fun j => nI ((fun (_ : Nat) => (0 : Nat)) j)))), (ps_10, .inl (xI g, 6, .inl (fun j => iI ((fun (_ : Nat) => (0 : Int)) j)))), (pp_11, .inl (xI g, 6, .inl (fun j => iI ((fun (_ : Nat) => (0 : Int)) j)))), (q_12, .inl (xI g, 6, .inl (fun j => iI ((fun (_ : Nat) => (0 : Int)) j)))), (q_13, .inl (xZ g, 6, .inl (fun j => iI ((fun (_ : Nat) => (0 : Int)) j)))), (q_14, .inr (4, [.int 0, .ref po_17, .ref ps_18, .ref pp_19])), (po_17, .inl (xI g, 6, .inl (fun j => nI ((fun (_ : Nat) => (0 : Nat)) j)))), (ps_18, .inl (xI g, 6, .inl (fun j => iI ((fun (_ : Nat) => (0 : Int)) j)))), (pp_19, .inl (xI g, 6, .inl (fun j => iI ((fun (_ : Nat) => (0 : Int)) j))))] H := hP
  have hD : va_D A [(h0, .inr (1, [.int 0, .int 0, .int 0, .ref q_1, .ref q_2, .ref q_3, .ref q_4, .ref q_5, .ref q_6, .ref q_12, .ref q_13, .null, .int 0, .int 0])), (q_1, .inl (xI g, 6, .inl (fun j => iI ((fun (_ : Nat) => (0 : Int)) j)))), (q_2, .inl (xI g, 6, .inl (fun j => iI ((fun (_ : Nat) => (0 : Int)) j)))), (q_3, .inl (xI g, 6, .inl (fun j => iI ((fun (_ : Nat) => (0 : Int)) j)))), (q_4, .inl (xI g, 6, .inl (fun j => iI ((fun (_ : Nat) => (0 : Int)) j)))), (q_5, .inl (xI g, 6, .inl (fun j => iI ((fun (_ : Nat) => (0 : Int)) j)))), (q_6, .inr (4, [.int 0, .ref po_9, .ref ps_10, .ref pp_11])), (po_9, .inl (xI g, 6, .inl (fun j => nI ((fun (_ : Nat) => (0 : Nat)) j)))), (ps_10, .inl (xI g, 6, .inl (fun j => iI ((fun (_ : Nat) => (0 : Int)) j)))), (pp_11, .inl (xI g, 6, .inl (fun j => iI ((fun (_ : Nat) => (0 : Int)) j)))), (q_12, .inl (xI g, 6, .inl (fun j => iI ((fun (_ : Nat) => (0 : Int)) j)))), (q_13, .inl (xZ g, 6, .inl (fun j => iI ((fun (_ : Nat) => (0 : Int)) j)))), (q_14, .inr (4, [.int 0, .ref po_17, .ref ps_18, .ref pp_19])), (po_17, .inl (xI g, 6, .inl (fun j => nI ((fun (_ : Nat) => (0 : Nat)) j)))), (ps_18, .inl (xI g, 6, .inl (fun j => iI ((fun (_ : Nat) => (0 : Int)) j)))), (pp_19, .inl (xI g, 6, .inl (fun j => iI ((fun (_ : Nat) => (0 : Int)) j))))] := hD
  refine W.widen (k := 15) (n := 86) (by omega) (by omega) ?_
  try dsimp only at hw_16
  refine va_putF (D := xD g) (ci := 1) (v := .ref q_14) (ty := .object "Stevedore$Plan") (C := RX1) (T := TX1) (N := 14) hx hb hts hFX1 tyX1 tyX1_ok nmX1 hown hK hP hD hS 0 rfl rfl 11 (by decide) (hts (.fieldLink RX1 41 "Stevedore$BerthPlanner" "best" "LStevedore$Plan;") (by decide +kernel)) (fun _ h9 => h9) rfl hin rfl (by decide +kernel) rfl rfl (Nat.le_of_ble_eq_true rfl) dX1_init_79 (fun H locs hP hD hS => ?_)
  have hP : va_P (xD g) vwCl [(h0, .inr (1, [.int 0, .int 0, .int 0, .ref q_1, .ref q_2, .ref q_3, .ref q_4, .ref q_5, .ref q_6, .ref q_12, .ref q_13, .ref q_14, .int 0, .int 0])), (q_1, .inl (xI g, 6, .inl (fun j => iI ((fun (_ : Nat) => (0 : Int)) j)))), (q_2, .inl (xI g, 6, .inl (fun j => iI ((fun (_ : Nat) => (0 : Int)) j)))), (q_3, .inl (xI g, 6, .inl (fun j => iI ((fun (_ : Nat) => (0 : Int)) j)))), (q_4, .inl (xI g, 6, .inl (fun j => iI ((fun (_ : Nat) => (0 : Int)) j)))), (q_5, .inl (xI g, 6, .inl (fun j => iI ((fun (_ : Nat) => (0 : Int)) j)))), (q_6, .inr (4, [.int 0, .ref po_9, .ref ps_10, .ref pp_11])), (po_9, .inl (xI g, 6, .inl (fun j => nI ((fun (_ : Nat) => (0 : Nat)) j)))), (ps_10, .inl (xI g, 6, .inl (fun j => iI ((fun (_ : Nat) => (0 : Int)) j)))), (pp_11, .inl (xI g, 6, .inl (fun j => iI ((fun (_ : Nat) => (0 : Int)) j)))), (q_12, .inl (xI g, 6, .inl (fun j => iI ((fun (_ : Nat) => (0 : Int)) j)))), (q_13, .inl (xZ g, 6, .inl (fun j => iI ((fun (_ : Nat) => (0 : Int)) j)))), (q_14, .inr (4, [.int 0, .ref po_17, .ref ps_18, .ref pp_19])), (po_17, .inl (xI g, 6, .inl (fun j => nI ((fun (_ : Nat) => (0 : Nat)) j)))), (ps_18, .inl (xI g, 6, .inl (fun j => iI ((fun (_ : Nat) => (0 : Int)) j)))), (pp_19, .inl (xI g, 6, .inl (fun j => iI ((fun (_ : Nat) => (0 : Int)) j))))] H := hP
  have hD : va_D A [(h0, .inr (1, [.int 0, .int 0, .int 0, .ref q_1, .ref q_2, .ref q_3, .ref q_4, .ref q_5, .ref q_6, .ref q_12, .ref q_13, .ref q_14, .int 0, .int 0])), (q_1, .inl (xI g, 6, .inl (fun j => iI ((fun (_ : Nat) => (0 : Int)) j)))), (q_2, .inl (xI g, 6, .inl (fun j => iI ((fun (_ : Nat) => (0 : Int)) j)))), (q_3, .inl (xI g, 6, .inl (fun j => iI ((fun (_ : Nat) => (0 : Int)) j)))), (q_4, .inl (xI g, 6, .inl (fun j => iI ((fun (_ : Nat) => (0 : Int)) j)))), (q_5, .inl (xI g, 6, .inl (fun j => iI ((fun (_ : Nat) => (0 : Int)) j)))), (q_6, .inr (4, [.int 0, .ref po_9, .ref ps_10, .ref pp_11])), (po_9, .inl (xI g, 6, .inl (fun j => nI ((fun (_ : Nat) => (0 : Nat)) j)))), (ps_10, .inl (xI g, 6, .inl (fun j => iI ((fun (_ : Nat) => (0 : Int)) j)))), (pp_11, .inl (xI g, 6, .inl (fun j => iI ((fun (_ : Nat) => (0 : Int)) j)))), (q_12, .inl (xI g, 6, .inl (fun j => iI ((fun (_ : Nat) => (0 : Int)) j)))), (q_13, .inl (xZ g, 6, .inl (fun j => iI ((fun (_ : Nat) => (0 : Int)) j)))), (q_14, .inr (4, [.int 0, .ref po_17, .ref ps_18, .ref pp_19])), (po_17, .inl (xI g, 6, .inl (fun j => nI ((fun (_ : Nat) => (0 : Nat)) j)))), (ps_18, .inl (xI g, 6, .inl (fun j => iI ((fun (_ : Nat) => (0 : Int)) j)))), (pp_19, .inl (xI g, 6, .inl (fun j => iI ((fun (_ : Nat) => (0 : Int)) j))))] := hD
  have hP9 := hP
  have hD9 := hD
  exact W.vret hx hb hr (fun t ht hW => ⟨⟨(), rfl, (by first | trivial | rfl | assumption | omega), ⟨q_1, q_2, q_3, q_4, q_5, q_6, q_12, q_13, q_14, po_9, ps_10, pp_11, po_17, ps_18, pp_19, by rw [ht]; exact hP9, va_K.moved hW.alike hK, hD9⟩⟩, hS.F ht⟩) hS.2.2 dX1_init_82
theorem dX5_init_0 : decode cX5_init 0 = .ok (.aload_n 0, 1) := by decide +kernel
theorem dX5_init_1 : decode cX5_init 1 = .ok (.invokespecial 3, 3) := by decide +kernel
theorem dX5_init_4 : decode cX5_init 4 = .ok (.aload_n 0, 1) := by decide +kernel
theorem dX5_init_5 : decode cX5_init 5 = .ok (.bipush 24, 2) := by decide +kernel
theorem dX5_init_7 : decode cX5_init 7 = .ok (.bipush 17, 2) := by decide +kernel
theorem dX5_init_9 : decode cX5_init 9 = .ok (.multianewarray 9 2, 4) := by decide +kernel
theorem dX5_init_13 : decode cX5_init 13 = .ok (.putfield 11, 3) := by decide +kernel
theorem dX5_init_16 : decode cX5_init 16 = .ok (.aload_n 0, 1) := by decide +kernel
theorem dX5_init_17 : decode cX5_init 17 = .ok (.bipush 17, 2) := by decide +kernel
theorem dX5_init_19 : decode cX5_init 19 = .ok (.newarray .int, 2) := by decide +kernel
theorem dX5_init_21 : decode cX5_init 21 = .ok (.putfield 16, 3) := by decide +kernel
theorem dX5_init_24 : decode cX5_init 24 = .ok (.aload_n 0, 1) := by decide +kernel
theorem dX5_init_25 : decode cX5_init 25 = .ok (.getfield 16, 3) := by decide +kernel
theorem dX5_init_28 : decode cX5_init 28 = .ok (.bipush 16, 2) := by decide +kernel
theorem dX5_init_30 : decode cX5_init 30 = .ok (.bipush 24, 2) := by decide +kernel
theorem dX5_init_32 : decode cX5_init 32 = .ok (.iastore, 1) := by decide +kernel
theorem dX5_init_33 : decode cX5_init 33 = .ok (.aload_n 0, 1) := by decide +kernel
theorem dX5_init_34 : decode cX5_init 34 = .ok (.bipush 17, 2) := by decide +kernel
theorem dX5_init_36 : decode cX5_init 36 = .ok (.newarray .int, 2) := by decide +kernel
theorem dX5_init_38 : decode cX5_init 38 = .ok (.putfield 20, 3) := by decide +kernel
theorem dX5_init_41 : decode cX5_init 41 = .ok (.aload_n 0, 1) := by decide +kernel
theorem dX5_init_42 : decode cX5_init 42 = .ok (.bipush 24, 2) := by decide +kernel
theorem dX5_init_44 : decode cX5_init 44 = .ok (.newarray .int, 2) := by decide +kernel
theorem dX5_init_46 : decode cX5_init 46 = .ok (.putfield 23, 3) := by decide +kernel
theorem dX5_init_49 : decode cX5_init 49 = .ok (.aload_n 0, 1) := by decide +kernel
theorem dX5_init_50 : decode cX5_init 50 = .ok (.bipush 18, 2) := by decide +kernel
theorem dX5_init_52 : decode cX5_init 52 = .ok (.newarray .int, 2) := by decide +kernel
theorem dX5_init_54 : decode cX5_init 54 = .ok (.putfield 26, 3) := by decide +kernel
theorem dX5_init_57 : decode cX5_init 57 = .ok (.aload_n 0, 1) := by decide +kernel
theorem dX5_init_58 : decode cX5_init 58 = .ok (.bipush 18, 2) := by decide +kernel
theorem dX5_init_60 : decode cX5_init 60 = .ok (.newarray .int, 2) := by decide +kernel
theorem dX5_init_62 : decode cX5_init 62 = .ok (.putfield 29, 3) := by decide +kernel
theorem dX5_init_65 : decode cX5_init 65 = .ok (.aload_n 0, 1) := by decide +kernel
theorem dX5_init_66 : decode cX5_init 66 = .ok (.bipush 18, 2) := by decide +kernel
theorem dX5_init_68 : decode cX5_init 68 = .ok (.newarray .int, 2) := by decide +kernel
theorem dX5_init_70 : decode cX5_init 70 = .ok (.putfield 32, 3) := by decide +kernel
theorem dX5_init_73 : decode cX5_init 73 = .ok (.return_, 1) := by decide +kernel
set_option maxHeartbeats 4000000 in
set_option maxRecDepth 100000 in
theorem i_X5 (l : Launch) (g : xG) (sz : Nat) (h0 : Nat)  : Met l yX5_init wsX5_init ({ frames := 1, cells := 31, slots := 544, locals := 20 }) (va_Pc [.ref h0] (fun U => xB g [(h0, .inr (5, [.int 0, .null, .null, .null, .null, .null, .null, .null]))] sz U ∧ xO U)) (va_Qv (fun (_ : Unit) => True) (fun (_ : Unit) (t : State) => ∃ (co : Nat) (ro : Nat) (us : Nat) (sl : Nat) (wc : Nat) (nx : Nat) (pu : Nat) (cr : Nat → Nat), xE g ([(h0, .inr (5, [.int 0, .ref co, .ref ro, .ref us, .ref sl, .ref wc, .ref nx, .ref pu])), (co, .inl (xM g, 24, .inr (.inr (.inr (.inr (fun i => if i < 24 then some (cr i) else none))))))] ++ (xRI (xI g) 24 17 cr (fun (_ _ : Nat) => (0 : Int)) ++ [(ro, .inl (xI g, 17, .inl (fun j => iI ((zU (fun (_ : Nat) => (0 : Int)) 16 24) j)))), (us, .inl (xI g, 17, .inl (fun j => iI ((fun (_ : Nat) => (0 : Int)) j)))), (sl, .inl (xI g, 24, .inl (fun j => nI ((fun (_ : Nat) => (0 : Nat)) j)))), (wc, .inl (xI g, 18, .inl (fun j => iI ((fun (_ : Nat) => (0 : Int)) j)))), (nx, .inl (xI g, 18, .inl (fun j => nI ((fun (_ : Nat) => (0 : Nat)) j)))), (pu, .inl (xI g, 18, .inl (fun j => iI ((fun (_ : Nat) => (0 : Int)) j))))])) (va_A [(h0, .inr (5, [.int 0, .null, .null, .null, .null, .null, .null, .null]))] sz) t) (va_A [(h0, .inr (5, [.int 0, .null, .null, .null, .null, .null, .null, .null]))] sz)) 31 544 (va_A [(h0, .inr (5, [.int 0, .null, .null, .null, .null, .null, .null, .null]))] sz) := by
  refine Met.ofW (cc := cX5_init) (maxL := 1) (ret := none) (by decide) rfl ?_
  intro p e s m args below meth c s₁ B hml hv
  obtain ⟨rfl, ⟨hsz, hP, hK, hD0⟩, hO⟩ := hv
  have hx := B.exec
  have hb := B.bytes
  have hr := B.returns
  have hts := atoms_spec (ws := wsX5_init) B.pre
  have hown : s.vm.findClass RX5 = some m.cls := findClass_of_methodNamed B.named
  have hlocks := B.notSynchronized
  have hin : meth.name = "<init>" := (name_of_methodNamed B.named B.method).1
  subst hsz
  have hD := hD0.self (sz := s.heap.size)
  generalize hAe : va_A [(h0, .inr (5, [.int 0, .null, .null, .null, .null, .null, .null, .null]))] s.heap.size = A at hD ⊢
  have hA : ∀ q : Nat, s.heap.size ≤ q → A q := fun q h => by rw [← hAe]; exact Or.inr h
  have hS : va_S A s.heap s.heap [] := va_S.rf
  have hl := lv_entry ([.ref h0]) (n := 1) (Nat.le_of_ble_eq_true rfl)
  rw [lg_entry_eq]
  generalize (lg_sl ([.ref h0]) ++ List.replicate (1 - (lg_sl ([.ref h0])).length) Slot.unset).toArray = ls at hl ⊢
  have hl : lv_has ls 1 [(0, .ref h0)] := hl
  have hFX5 : ∀ w ∈ u_ws RX5 TX5 8, w ∈ wsX5_init := by decide +kernel
  refine lv_aload_n hx hb dX5_init_0 rfl (lv_at hl 0 rfl) ?_
  refine W.objInit hx hb hown (hts (.methodLink RX5 3 objectInit) (by decide +kernel)) (hts (.instanceMethod objectInit) (by decide +kernel)) (hts (.code objectInit ⟨#[0xb1]⟩ 1 none) (by decide +kernel)) rfl (by rw [hml]; exact hl.1) rfl dX5_init_1 (Nat.le_of_ble_eq_true rfl) (Nat.le_of_ble_eq_true rfl) ?_
  refine W.eq (g2 := F0 m 4 ls []) rfl ?_
  refine lv_aload_n hx hb dX5_init_4 rfl (lv_at hl 0 rfl) ?_
  refine lv_bipush (v := 24) hx hb dX5_init_5 (by decide) ?_
  refine lv_bipush (v := 17) hx hb dX5_init_7 (by decide) ?_
  refine xMna (N' := 24) (K' := 17) hx hb hown (hts (.classLink RX5 9 ("[" ++ (FieldType.array .int).toString)) (by decide +kernel)) hO.1 (hts (.arrayClass .int) (by decide +kernel)) hK hP hD hS hA (by decide) (by decide) (by decide) (by decide) (by decide) (by decide) (by decide) (Nat.le_of_ble_eq_true rfl) (Nat.le_of_ble_eq_true rfl) dX5_init_9 (fun q_1 r_2 H hP hD hS => ?_)
  refine W.widen (k := 25) (n := 432) (by omega) (by omega) ?_
  have hP : va_P (xD g) vwCl ([(h0, .inr (5, [.int 0, .null, .null, .null, .null, .null, .null, .null])), (q_1, .inl (xM g, 24, .inr (.inr (.inr (.inr (fun i => if i < 24 then some (r_2 i) else none))))))] ++ (xRI (xI g) 24 17 r_2 (fun (_ _ : Nat) => (0 : Int)) ++ [])) H := hP
  have hD : va_D A ([(h0, .inr (5, [.int 0, .null, .null, .null, .null, .null, .null, .null])), (q_1, .inl (xM g, 24, .inr (.inr (.inr (.inr (fun i => if i < 24 then some (r_2 i) else none))))))] ++ (xRI (xI g) 24 17 r_2 (fun (_ _ : Nat) => (0 : Int)) ++ [])) := hD
  refine va_putF (D := xD g) (ci := 5) (v := .ref q_1) (ty := .array (.array .int)) (C := RX5) (T := TX5) (N := 8) hx hb hts hFX5 tyX5 tyX5_ok nmX5 hown hK hP hD hS 0 rfl rfl 1 (by decide) (hts (.fieldLink RX5 11 "Stevedore$SlotGiver" "cost" "[[I") (by decide +kernel)) (fun _ h9 => h9) rfl hin rfl (by decide +kernel) rfl rfl (Nat.le_of_ble_eq_true rfl) dX5_init_13 (fun H locs hP hD hS => ?_)
  have hP : va_P (xD g) vwCl ([(h0, .inr (5, [.int 0, .ref q_1, .null, .null, .null, .null, .null, .null])), (q_1, .inl (xM g, 24, .inr (.inr (.inr (.inr (fun i => if i < 24 then some (r_2 i) else none))))))] ++ (xRI (xI g) 24 17 r_2 (fun (_ _ : Nat) => (0 : Int)) ++ [])) H := hP
  have hD : va_D A ([(h0, .inr (5, [.int 0, .ref q_1, .null, .null, .null, .null, .null, .null])), (q_1, .inl (xM g, 24, .inr (.inr (.inr (.inr (fun i => if i < 24 then some (r_2 i) else none))))))] ++ (xRI (xI g) 24 17 r_2 (fun (_ _ : Nat) => (0 : Int)) ++ [])) := hD
  refine lv_aload_n hx hb dX5_init_16 rfl (lv_at hl 0 rfl) ?_
  refine lv_bipush (v := 17) hx hb dX5_init_17 (by decide) ?_
  refine va_newa (atype := .int) (ty := .int) (N' := 17) (a0 := (17, .inl (fun _ => 0))) hx hb (hts (.arrayClass .int) (by decide +kernel)) rfl hK hP hD hS hA (fun cA => by rfl) (by decide) (by decide) (by decide) (Nat.le_of_ble_eq_true rfl) (Nat.le_of_ble_eq_true rfl) dX5_init_19 (fun q_3 cA H hK9 hP hD hS => ?_)
  obtain rfl := xIEq hK9
  refine W.widen (k := 26) (n := 449) (by omega) (by omega) ?_
  have hP : va_P (xD g) vwCl ([(h0, .inr (5, [.int 0, .ref q_1, .null, .null, .null, .null, .null, .null])), (q_1, .inl (xM g, 24, .inr (.inr (.inr (.inr (fun i => if i < 24 then some (r_2 i) else none))))))] ++ (xRI (xI g) 24 17 r_2 (fun (_ _ : Nat) => (0 : Int)) ++ [(q_3, .inl (xI g, 17, .inl (fun j => iI ((fun (_ : Nat) => (0 : Int)) j))))])) H := hP
  have hD : va_D A ([(h0, .inr (5, [.int 0, .ref q_1, .null, .null, .null, .null, .null, .null])), (q_1, .inl (xM g, 24, .inr (.inr (.inr (.inr (fun i => if i < 24 then some (r_2 i) else none))))))] ++ (xRI (xI g) 24 17 r_2 (fun (_ _ : Nat) => (0 : Int)) ++ [(q_3, .inl (xI g, 17, .inl (fun j => iI ((fun (_ : Nat) => (0 : Int)) j))))])) := hD
  refine va_putF (D := xD g) (ci := 5) (v := .ref q_3) (ty := .array .int) (C := RX5) (T := TX5) (N := 8) hx hb hts hFX5 tyX5 tyX5_ok nmX5 hown hK hP hD hS 0 rfl rfl 2 (by decide) (hts (.fieldLink RX5 16 "Stevedore$SlotGiver" "room" "[I") (by decide +kernel)) (fun _ h9 => h9) rfl hin rfl (by decide +kernel) rfl rfl (Nat.le_of_ble_eq_true rfl) dX5_init_21 (fun H locs hP hD hS => ?_)
  have hP : va_P (xD g) vwCl ([(h0, .inr (5, [.int 0, .ref q_1, .ref q_3, .null, .null, .null, .null, .null])), (q_1, .inl (xM g, 24, .inr (.inr (.inr (.inr (fun i => if i < 24 then some (r_2 i) else none))))))] ++ (xRI (xI g) 24 17 r_2 (fun (_ _ : Nat) => (0 : Int)) ++ [(q_3, .inl (xI g, 17, .inl (fun j => iI ((fun (_ : Nat) => (0 : Int)) j))))])) H := hP
  have hD : va_D A ([(h0, .inr (5, [.int 0, .ref q_1, .ref q_3, .null, .null, .null, .null, .null])), (q_1, .inl (xM g, 24, .inr (.inr (.inr (.inr (fun i => if i < 24 then some (r_2 i) else none))))))] ++ (xRI (xI g) 24 17 r_2 (fun (_ _ : Nat) => (0 : Int)) ++ [(q_3, .inl (xI g, 17, .inl (fun j => iI ((fun (_ : Nat) => (0 : Int)) j))))])) := hD
  refine lv_aload_n hx hb dX5_init_24 rfl (lv_at hl 0 rfl) ?_
  refine va_get (D := xD g) (ci := 5) (v := .ref q_3) (C := RX5) (T := TX5) (N := 8) hx hb hts hFX5 hown hK hP 0 rfl rfl 2 (by decide) (hts (.fieldLink RX5 16 "Stevedore$SlotGiver" "room" "[I") (by decide +kernel)) (fun _ h9 => h9) rfl dX5_init_25 ?_
  refine lv_bipush (v := 16) hx hb dX5_init_28 (by decide) ?_
  refine lv_bipush (v := 24) hx hb dX5_init_30 (by decide) ?_
  refine va_iast (x := 24) hx hb hK hP hD hS 26 0 rfl rfl (by unfold vp_in; decide) dX5_init_32 (fun H locs hP hD hS => ?_)
  rw [iU (f := (fun (_ : Nat) => (0 : Int))) (k := 16) (v := 24) (by decide) (by decide)] at hP hD
  have hP : va_P (xD g) vwCl ([(h0, .inr (5, [.int 0, .ref q_1, .ref q_3, .null, .null, .null, .null, .null])), (q_1, .inl (xM g, 24, .inr (.inr (.inr (.inr (fun i => if i < 24 then some (r_2 i) else none))))))] ++ (xRI (xI g) 24 17 r_2 (fun (_ _ : Nat) => (0 : Int)) ++ [(q_3, .inl (xI g, 17, .inl (fun j => iI ((zU (fun (_ : Nat) => (0 : Int)) 16 24) j))))])) H := hP
  have hD : va_D A ([(h0, .inr (5, [.int 0, .ref q_1, .ref q_3, .null, .null, .null, .null, .null])), (q_1, .inl (xM g, 24, .inr (.inr (.inr (.inr (fun i => if i < 24 then some (r_2 i) else none))))))] ++ (xRI (xI g) 24 17 r_2 (fun (_ _ : Nat) => (0 : Int)) ++ [(q_3, .inl (xI g, 17, .inl (fun j => iI ((zU (fun (_ : Nat) => (0 : Int)) 16 24) j))))])) := hD
  refine lv_aload_n hx hb dX5_init_33 rfl (lv_at hl 0 rfl) ?_
  refine lv_bipush (v := 17) hx hb dX5_init_34 (by decide) ?_
  refine va_newa (atype := .int) (ty := .int) (N' := 17) (a0 := (17, .inl (fun _ => 0))) hx hb (hts (.arrayClass .int) (by decide +kernel)) rfl hK hP hD hS hA (fun cA => by rfl) (by decide) (by decide) (by decide) (Nat.le_of_ble_eq_true rfl) (Nat.le_of_ble_eq_true rfl) dX5_init_36 (fun q_4 cA H hK9 hP hD hS => ?_)
  obtain rfl := xIEq hK9
  refine W.widen (k := 27) (n := 466) (by omega) (by omega) ?_
  have hP : va_P (xD g) vwCl ([(h0, .inr (5, [.int 0, .ref q_1, .ref q_3, .null, .null, .null, .null, .null])), (q_1, .inl (xM g, 24, .inr (.inr (.inr (.inr (fun i => if i < 24 then some (r_2 i) else none))))))] ++ (xRI (xI g) 24 17 r_2 (fun (_ _ : Nat) => (0 : Int)) ++ [(q_3, .inl (xI g, 17, .inl (fun j => iI ((zU (fun (_ : Nat) => (0 : Int)) 16 24) j)))), (q_4, .inl (xI g, 17, .inl (fun j => iI ((fun (_ : Nat) => (0 : Int)) j))))])) H := hP
  have hD : va_D A ([(h0, .inr (5, [.int 0, .ref q_1, .ref q_3, .null, .null, .null, .null, .null])), (q_1, .inl (xM g, 24, .inr (.inr (.inr (.inr (fun i => if i < 24 then some (r_2 i) else none))))))] ++ (xRI (xI g) 24 17 r_2 (fun (_ _ : Nat) => (0 : Int)) ++ [(q_3, .inl (xI g, 17, .inl (fun j => iI ((zU (fun (_ : Nat) => (0 : Int)) 16 24) j)))), (q_4, .inl (xI g, 17, .inl (fun j => iI ((fun (_ : Nat) => (0 : Int)) j))))])) := hD
  refine va_putF (D := xD g) (ci := 5) (v := .ref q_4) (ty := .array .int) (C := RX5) (T := TX5) (N := 8) hx hb hts hFX5 tyX5 tyX5_ok nmX5 hown hK hP hD hS 0 rfl rfl 3 (by decide) (hts (.fieldLink RX5 20 "Stevedore$SlotGiver" "used" "[I") (by decide +kernel)) (fun _ h9 => h9) rfl hin rfl (by decide +kernel) rfl rfl (Nat.le_of_ble_eq_true rfl) dX5_init_38 (fun H locs hP hD hS => ?_)
  have hP : va_P (xD g) vwCl ([(h0, .inr (5, [.int 0, .ref q_1, .ref q_3, .ref q_4, .null, .null, .null, .null])), (q_1, .inl (xM g, 24, .inr (.inr (.inr (.inr (fun i => if i < 24 then some (r_2 i) else none))))))] ++ (xRI (xI g) 24 17 r_2 (fun (_ _ : Nat) => (0 : Int)) ++ [(q_3, .inl (xI g, 17, .inl (fun j => iI ((zU (fun (_ : Nat) => (0 : Int)) 16 24) j)))), (q_4, .inl (xI g, 17, .inl (fun j => iI ((fun (_ : Nat) => (0 : Int)) j))))])) H := hP
  have hD : va_D A ([(h0, .inr (5, [.int 0, .ref q_1, .ref q_3, .ref q_4, .null, .null, .null, .null])), (q_1, .inl (xM g, 24, .inr (.inr (.inr (.inr (fun i => if i < 24 then some (r_2 i) else none))))))] ++ (xRI (xI g) 24 17 r_2 (fun (_ _ : Nat) => (0 : Int)) ++ [(q_3, .inl (xI g, 17, .inl (fun j => iI ((zU (fun (_ : Nat) => (0 : Int)) 16 24) j)))), (q_4, .inl (xI g, 17, .inl (fun j => iI ((fun (_ : Nat) => (0 : Int)) j))))])) := hD
  refine lv_aload_n hx hb dX5_init_41 rfl (lv_at hl 0 rfl) ?_
  refine lv_bipush (v := 24) hx hb dX5_init_42 (by decide) ?_
  refine va_newa (atype := .int) (ty := .int) (N' := 24) (a0 := (24, .inl (fun _ => 0))) hx hb (hts (.arrayClass .int) (by decide +kernel)) rfl hK hP hD hS hA (fun cA => by rfl) (by decide) (by decide) (by decide) (Nat.le_of_ble_eq_true rfl) (Nat.le_of_ble_eq_true rfl) dX5_init_44 (fun q_5 cA H hK9 hP hD hS => ?_)
  obtain rfl := xIEq hK9
  refine W.widen (k := 28) (n := 490) (by omega) (by omega) ?_
  have hP : va_P (xD g) vwCl ([(h0, .inr (5, [.int 0, .ref q_1, .ref q_3, .ref q_4, .null, .null, .null, .null])), (q_1, .inl (xM g, 24, .inr (.inr (.inr (.inr (fun i => if i < 24 then some (r_2 i) else none))))))] ++ (xRI (xI g) 24 17 r_2 (fun (_ _ : Nat) => (0 : Int)) ++ [(q_3, .inl (xI g, 17, .inl (fun j => iI ((zU (fun (_ : Nat) => (0 : Int)) 16 24) j)))), (q_4, .inl (xI g, 17, .inl (fun j => iI ((fun (_ : Nat) => (0 : Int)) j)))), (q_5, .inl (xI g, 24, .inl (fun j => nI ((fun (_ : Nat) => (0 : Nat)) j))))])) H := hP
  have hD : va_D A ([(h0, .inr (5, [.int 0, .ref q_1, .ref q_3, .ref q_4, .null, .null, .null, .null])), (q_1, .inl (xM g, 24, .inr (.inr (.inr (.inr (fun i => if i < 24 then some (r_2 i) else none))))))] ++ (xRI (xI g) 24 17 r_2 (fun (_ _ : Nat) => (0 : Int)) ++ [(q_3, .inl (xI g, 17, .inl (fun j => iI ((zU (fun (_ : Nat) => (0 : Int)) 16 24) j)))), (q_4, .inl (xI g, 17, .inl (fun j => iI ((fun (_ : Nat) => (0 : Int)) j)))), (q_5, .inl (xI g, 24, .inl (fun j => nI ((fun (_ : Nat) => (0 : Nat)) j))))])) := hD
  refine va_putF (D := xD g) (ci := 5) (v := .ref q_5) (ty := .array .int) (C := RX5) (T := TX5) (N := 8) hx hb hts hFX5 tyX5 tyX5_ok nmX5 hown hK hP hD hS 0 rfl rfl 4 (by decide) (hts (.fieldLink RX5 23 "Stevedore$SlotGiver" "slot" "[I") (by decide +kernel)) (fun _ h9 => h9) rfl hin rfl (by decide +kernel) rfl rfl (Nat.le_of_ble_eq_true rfl) dX5_init_46 (fun H locs hP hD hS => ?_)
  have hP : va_P (xD g) vwCl ([(h0, .inr (5, [.int 0, .ref q_1, .ref q_3, .ref q_4, .ref q_5, .null, .null, .null])), (q_1, .inl (xM g, 24, .inr (.inr (.inr (.inr (fun i => if i < 24 then some (r_2 i) else none))))))] ++ (xRI (xI g) 24 17 r_2 (fun (_ _ : Nat) => (0 : Int)) ++ [(q_3, .inl (xI g, 17, .inl (fun j => iI ((zU (fun (_ : Nat) => (0 : Int)) 16 24) j)))), (q_4, .inl (xI g, 17, .inl (fun j => iI ((fun (_ : Nat) => (0 : Int)) j)))), (q_5, .inl (xI g, 24, .inl (fun j => nI ((fun (_ : Nat) => (0 : Nat)) j))))])) H := hP
  have hD : va_D A ([(h0, .inr (5, [.int 0, .ref q_1, .ref q_3, .ref q_4, .ref q_5, .null, .null, .null])), (q_1, .inl (xM g, 24, .inr (.inr (.inr (.inr (fun i => if i < 24 then some (r_2 i) else none))))))] ++ (xRI (xI g) 24 17 r_2 (fun (_ _ : Nat) => (0 : Int)) ++ [(q_3, .inl (xI g, 17, .inl (fun j => iI ((zU (fun (_ : Nat) => (0 : Int)) 16 24) j)))), (q_4, .inl (xI g, 17, .inl (fun j => iI ((fun (_ : Nat) => (0 : Int)) j)))), (q_5, .inl (xI g, 24, .inl (fun j => nI ((fun (_ : Nat) => (0 : Nat)) j))))])) := hD
  refine lv_aload_n hx hb dX5_init_49 rfl (lv_at hl 0 rfl) ?_
  refine lv_bipush (v := 18) hx hb dX5_init_50 (by decide) ?_
  refine va_newa (atype := .int) (ty := .int) (N' := 18) (a0 := (18, .inl (fun _ => 0))) hx hb (hts (.arrayClass .int) (by decide +kernel)) rfl hK hP hD hS hA (fun cA => by rfl) (by decide) (by decide) (by decide) (Nat.le_of_ble_eq_true rfl) (Nat.le_of_ble_eq_true rfl) dX5_init_52 (fun q_6 cA H hK9 hP hD hS => ?_)
  obtain rfl := xIEq hK9
  refine W.widen (k := 29) (n := 508) (by omega) (by omega) ?_
  have hP : va_P (xD g) vwCl ([(h0, .inr (5, [.int 0, .ref q_1, .ref q_3, .ref q_4, .ref q_5, .null, .null, .null])), (q_1, .inl (xM g, 24, .inr (.inr (.inr (.inr (fun i => if i < 24 then some (r_2 i) else none))))))] ++ (xRI (xI g) 24 17 r_2 (fun (_ _ : Nat) => (0 : Int)) ++ [(q_3, .inl (xI g, 17, .inl (fun j => iI ((zU (fun (_ : Nat) => (0 : Int)) 16 24) j)))), (q_4, .inl (xI g, 17, .inl (fun j => iI ((fun (_ : Nat) => (0 : Int)) j)))), (q_5, .inl (xI g, 24, .inl (fun j => nI ((fun (_ : Nat) => (0 : Nat)) j)))), (q_6, .inl (xI g, 18, .inl (fun j => iI ((fun (_ : Nat) => (0 : Int)) j))))])) H := hP
  have hD : va_D A ([(h0, .inr (5, [.int 0, .ref q_1, .ref q_3, .ref q_4, .ref q_5, .null, .null, .null])), (q_1, .inl (xM g, 24, .inr (.inr (.inr (.inr (fun i => if i < 24 then some (r_2 i) else none))))))] ++ (xRI (xI g) 24 17 r_2 (fun (_ _ : Nat) => (0 : Int)) ++ [(q_3, .inl (xI g, 17, .inl (fun j => iI ((zU (fun (_ : Nat) => (0 : Int)) 16 24) j)))), (q_4, .inl (xI g, 17, .inl (fun j => iI ((fun (_ : Nat) => (0 : Int)) j)))), (q_5, .inl (xI g, 24, .inl (fun j => nI ((fun (_ : Nat) => (0 : Nat)) j)))), (q_6, .inl (xI g, 18, .inl (fun j => iI ((fun (_ : Nat) => (0 : Int)) j))))])) := hD
  refine va_putF (D := xD g) (ci := 5) (v := .ref q_6) (ty := .array .int) (C := RX5) (T := TX5) (N := 8) hx hb hts hFX5 tyX5 tyX5_ok nmX5 hown hK hP hD hS 0 rfl rfl 5 (by decide) (hts (.fieldLink RX5 26 "Stevedore$SlotGiver" "wayCost" "[I") (by decide +kernel)) (fun _ h9 => h9) rfl hin rfl (by decide +kernel) rfl rfl (Nat.le_of_ble_eq_true rfl) dX5_init_54 (fun H locs hP hD hS => ?_)
  have hP : va_P (xD g) vwCl ([(h0, .inr (5, [.int 0, .ref q_1, .ref q_3, .ref q_4, .ref q_5, .ref q_6, .null, .null])), (q_1, .inl (xM g, 24, .inr (.inr (.inr (.inr (fun i => if i < 24 then some (r_2 i) else none))))))] ++ (xRI (xI g) 24 17 r_2 (fun (_ _ : Nat) => (0 : Int)) ++ [(q_3, .inl (xI g, 17, .inl (fun j => iI ((zU (fun (_ : Nat) => (0 : Int)) 16 24) j)))), (q_4, .inl (xI g, 17, .inl (fun j => iI ((fun (_ : Nat) => (0 : Int)) j)))), (q_5, .inl (xI g, 24, .inl (fun j => nI ((fun (_ : Nat) => (0 : Nat)) j)))), (q_6, .inl (xI g, 18, .inl (fun j => iI ((fun (_ : Nat) => (0 : Int)) j))))])) H := hP
  have hD : va_D A ([(h0, .inr (5, [.int 0, .ref q_1, .ref q_3, .ref q_4, .ref q_5, .ref q_6, .null, .null])), (q_1, .inl (xM g, 24, .inr (.inr (.inr (.inr (fun i => if i < 24 then some (r_2 i) else none))))))] ++ (xRI (xI g) 24 17 r_2 (fun (_ _ : Nat) => (0 : Int)) ++ [(q_3, .inl (xI g, 17, .inl (fun j => iI ((zU (fun (_ : Nat) => (0 : Int)) 16 24) j)))), (q_4, .inl (xI g, 17, .inl (fun j => iI ((fun (_ : Nat) => (0 : Int)) j)))), (q_5, .inl (xI g, 24, .inl (fun j => nI ((fun (_ : Nat) => (0 : Nat)) j)))), (q_6, .inl (xI g, 18, .inl (fun j => iI ((fun (_ : Nat) => (0 : Int)) j))))])) := hD
  refine lv_aload_n hx hb dX5_init_57 rfl (lv_at hl 0 rfl) ?_
  refine lv_bipush (v := 18) hx hb dX5_init_58 (by decide) ?_
  refine va_newa (atype := .int) (ty := .int) (N' := 18) (a0 := (18, .inl (fun _ => 0))) hx hb (hts (.arrayClass .int) (by decide +kernel)) rfl hK hP hD hS hA (fun cA => by rfl) (by decide) (by decide) (by decide) (Nat.le_of_ble_eq_true rfl) (Nat.le_of_ble_eq_true rfl) dX5_init_60 (fun q_7 cA H hK9 hP hD hS => ?_)
  obtain rfl := xIEq hK9
  refine W.widen (k := 30) (n := 526) (by omega) (by omega) ?_
  have hP : va_P (xD g) vwCl ([(h0, .inr (5, [.int 0, .ref q_1, .ref q_3, .ref q_4, .ref q_5, .ref q_6, .null, .null])), (q_1, .inl (xM g, 24, .inr (.inr (.inr (.inr (fun i => if i < 24 then some (r_2 i) else none))))))] ++ (xRI (xI g) 24 17 r_2 (fun (_ _ : Nat) => (0 : Int)) ++ [(q_3, .inl (xI g, 17, .inl (fun j => iI ((zU (fun (_ : Nat) => (0 : Int)) 16 24) j)))), (q_4, .inl (xI g, 17, .inl (fun j => iI ((fun (_ : Nat) => (0 : Int)) j)))), (q_5, .inl (xI g, 24, .inl (fun j => nI ((fun (_ : Nat) => (0 : Nat)) j)))), (q_6, .inl (xI g, 18, .inl (fun j => iI ((fun (_ : Nat) => (0 : Int)) j)))), (q_7, .inl (xI g, 18, .inl (fun j => nI ((fun (_ : Nat) => (0 : Nat)) j))))])) H := hP
  have hD : va_D A ([(h0, .inr (5, [.int 0, .ref q_1, .ref q_3, .ref q_4, .ref q_5, .ref q_6, .null, .null])), (q_1, .inl (xM g, 24, .inr (.inr (.inr (.inr (fun i => if i < 24 then some (r_2 i) else none))))))] ++ (xRI (xI g) 24 17 r_2 (fun (_ _ : Nat) => (0 : Int)) ++ [(q_3, .inl (xI g, 17, .inl (fun j => iI ((zU (fun (_ : Nat) => (0 : Int)) 16 24) j)))), (q_4, .inl (xI g, 17, .inl (fun j => iI ((fun (_ : Nat) => (0 : Int)) j)))), (q_5, .inl (xI g, 24, .inl (fun j => nI ((fun (_ : Nat) => (0 : Nat)) j)))), (q_6, .inl (xI g, 18, .inl (fun j => iI ((fun (_ : Nat) => (0 : Int)) j)))), (q_7, .inl (xI g, 18, .inl (fun j => nI ((fun (_ : Nat) => (0 : Nat)) j))))])) := hD
  refine va_putF (D := xD g) (ci := 5) (v := .ref q_7) (ty := .array .int) (C := RX5) (T := TX5) (N := 8) hx hb hts hFX5 tyX5 tyX5_ok nmX5 hown hK hP hD hS 0 rfl rfl 6 (by decide) (hts (.fieldLink RX5 29 "Stevedore$SlotGiver" "next" "[I") (by decide +kernel)) (fun _ h9 => h9) rfl hin rfl (by decide +kernel) rfl rfl (Nat.le_of_ble_eq_true rfl) dX5_init_62 (fun H locs hP hD hS => ?_)
  have hP : va_P (xD g) vwCl ([(h0, .inr (5, [.int 0, .ref q_1, .ref q_3, .ref q_4, .ref q_5, .ref q_6, .ref q_7, .null])), (q_1, .inl (xM g, 24, .inr (.inr (.inr (.inr (fun i => if i < 24 then some (r_2 i) else none))))))] ++ (xRI (xI g) 24 17 r_2 (fun (_ _ : Nat) => (0 : Int)) ++ [(q_3, .inl (xI g, 17, .inl (fun j => iI ((zU (fun (_ : Nat) => (0 : Int)) 16 24) j)))), (q_4, .inl (xI g, 17, .inl (fun j => iI ((fun (_ : Nat) => (0 : Int)) j)))), (q_5, .inl (xI g, 24, .inl (fun j => nI ((fun (_ : Nat) => (0 : Nat)) j)))), (q_6, .inl (xI g, 18, .inl (fun j => iI ((fun (_ : Nat) => (0 : Int)) j)))), (q_7, .inl (xI g, 18, .inl (fun j => nI ((fun (_ : Nat) => (0 : Nat)) j))))])) H := hP
  have hD : va_D A ([(h0, .inr (5, [.int 0, .ref q_1, .ref q_3, .ref q_4, .ref q_5, .ref q_6, .ref q_7, .null])), (q_1, .inl (xM g, 24, .inr (.inr (.inr (.inr (fun i => if i < 24 then some (r_2 i) else none))))))] ++ (xRI (xI g) 24 17 r_2 (fun (_ _ : Nat) => (0 : Int)) ++ [(q_3, .inl (xI g, 17, .inl (fun j => iI ((zU (fun (_ : Nat) => (0 : Int)) 16 24) j)))), (q_4, .inl (xI g, 17, .inl (fun j => iI ((fun (_ : Nat) => (0 : Int)) j)))), (q_5, .inl (xI g, 24, .inl (fun j => nI ((fun (_ : Nat) => (0 : Nat)) j)))), (q_6, .inl (xI g, 18, .inl (fun j => iI ((fun (_ : Nat) => (0 : Int)) j)))), (q_7, .inl (xI g, 18, .inl (fun j => nI ((fun (_ : Nat) => (0 : Nat)) j))))])) := hD
  refine lv_aload_n hx hb dX5_init_65 rfl (lv_at hl 0 rfl) ?_
  refine lv_bipush (v := 18) hx hb dX5_init_66 (by decide) ?_
  refine va_newa (atype := .int) (ty := .int) (N' := 18) (a0 := (18, .inl (fun _ => 0))) hx hb (hts (.arrayClass .int) (by decide +kernel)) rfl hK hP hD hS hA (fun cA => by rfl) (by decide) (by decide) (by decide) (Nat.le_of_ble_eq_true rfl) (Nat.le_of_ble_eq_true rfl) dX5_init_68 (fun q_8 cA H hK9 hP hD hS => ?_)
  obtain rfl := xIEq hK9
  refine W.widen (k := 31) (n := 544) (by omega) (by omega) ?_
  have hP : va_P (xD g) vwCl ([(h0, .inr (5, [.int 0, .ref q_1, .ref q_3, .ref q_4, .ref q_5, .ref q_6, .ref q_7, .null])), (q_1, .inl (xM g, 24, .inr (.inr (.inr (.inr (fun i => if i < 24 then some (r_2 i) else none))))))] ++ (xRI (xI g) 24 17 r_2 (fun (_ _ : Nat) => (0 : Int)) ++ [(q_3, .inl (xI g, 17, .inl (fun j => iI ((zU (fun (_ : Nat) => (0 : Int)) 16 24) j)))), (q_4, .inl (xI g, 17, .inl (fun j => iI ((fun (_ : Nat) => (0 : Int)) j)))), (q_5, .inl (xI g, 24, .inl (fun j => nI ((fun (_ : Nat) => (0 : Nat)) j)))), (q_6, .inl (xI g, 18, .inl (fun j => iI ((fun (_ : Nat) => (0 : Int)) j)))), (q_7, .inl (xI g, 18, .inl (fun j => nI ((fun (_ : Nat) => (0 : Nat)) j)))), (q_8, .inl (xI g, 18, .inl (fun j => iI ((fun (_ : Nat) => (0 : Int)) j))))])) H := hP
  have hD : va_D A ([(h0, .inr (5, [.int 0, .ref q_1, .ref q_3, .ref q_4, .ref q_5, .ref q_6, .ref q_7, .null])), (q_1, .inl (xM g, 24, .inr (.inr (.inr (.inr (fun i => if i < 24 then some (r_2 i) else none))))))] ++ (xRI (xI g) 24 17 r_2 (fun (_ _ : Nat) => (0 : Int)) ++ [(q_3, .inl (xI g, 17, .inl (fun j => iI ((zU (fun (_ : Nat) => (0 : Int)) 16 24) j)))), (q_4, .inl (xI g, 17, .inl (fun j => iI ((fun (_ : Nat) => (0 : Int)) j)))), (q_5, .inl (xI g, 24, .inl (fun j => nI ((fun (_ : Nat) => (0 : Nat)) j)))), (q_6, .inl (xI g, 18, .inl (fun j => iI ((fun (_ : Nat) => (0 : Int)) j)))), (q_7, .inl (xI g, 18, .inl (fun j => nI ((fun (_ : Nat) => (0 : Nat)) j)))), (q_8, .inl (xI g, 18, .inl (fun j => iI ((fun (_ : Nat) => (0 : Int)) j))))])) := hD
  refine va_putF (D := xD g) (ci := 5) (v := .ref q_8) (ty := .array .int) (C := RX5) (T := TX5) (N := 8) hx hb hts hFX5 tyX5 tyX5_ok nmX5 hown hK hP hD hS 0 rfl rfl 7 (by decide) (hts (.fieldLink RX5 32 "Stevedore$SlotGiver" "pushed" "[I") (by decide +kernel)) (fun _ h9 => h9) rfl hin rfl (by decide +kernel) rfl rfl (Nat.le_of_ble_eq_true rfl) dX5_init_70 (fun H locs hP hD hS => ?_)
  have hP : va_P (xD g) vwCl ([(h0, .inr (5, [.int 0, .ref q_1, .ref q_3, .ref q_4, .ref q_5, .ref q_6, .ref q_7, .ref q_8])), (q_1, .inl (xM g, 24, .inr (.inr (.inr (.inr (fun i => if i < 24 then some (r_2 i) else none))))))] ++ (xRI (xI g) 24 17 r_2 (fun (_ _ : Nat) => (0 : Int)) ++ [(q_3, .inl (xI g, 17, .inl (fun j => iI ((zU (fun (_ : Nat) => (0 : Int)) 16 24) j)))), (q_4, .inl (xI g, 17, .inl (fun j => iI ((fun (_ : Nat) => (0 : Int)) j)))), (q_5, .inl (xI g, 24, .inl (fun j => nI ((fun (_ : Nat) => (0 : Nat)) j)))), (q_6, .inl (xI g, 18, .inl (fun j => iI ((fun (_ : Nat) => (0 : Int)) j)))), (q_7, .inl (xI g, 18, .inl (fun j => nI ((fun (_ : Nat) => (0 : Nat)) j)))), (q_8, .inl (xI g, 18, .inl (fun j => iI ((fun (_ : Nat) => (0 : Int)) j))))])) H := hP
  have hD : va_D A ([(h0, .inr (5, [.int 0, .ref q_1, .ref q_3, .ref q_4, .ref q_5, .ref q_6, .ref q_7, .ref q_8])), (q_1, .inl (xM g, 24, .inr (.inr (.inr (.inr (fun i => if i < 24 then some (r_2 i) else none))))))] ++ (xRI (xI g) 24 17 r_2 (fun (_ _ : Nat) => (0 : Int)) ++ [(q_3, .inl (xI g, 17, .inl (fun j => iI ((zU (fun (_ : Nat) => (0 : Int)) 16 24) j)))), (q_4, .inl (xI g, 17, .inl (fun j => iI ((fun (_ : Nat) => (0 : Int)) j)))), (q_5, .inl (xI g, 24, .inl (fun j => nI ((fun (_ : Nat) => (0 : Nat)) j)))), (q_6, .inl (xI g, 18, .inl (fun j => iI ((fun (_ : Nat) => (0 : Int)) j)))), (q_7, .inl (xI g, 18, .inl (fun j => nI ((fun (_ : Nat) => (0 : Nat)) j)))), (q_8, .inl (xI g, 18, .inl (fun j => iI ((fun (_ : Nat) => (0 : Int)) j))))])) := hD
  have hP9 := hP
  have hD9 := hD
  exact W.vret hx hb hr (fun t ht hW => ⟨⟨(), rfl, (by first | trivial | rfl | assumption | omega), ⟨q_1, q_3, q_4, q_5, q_6, q_7, q_8, r_2, by rw [ht]; exact hP9, va_K.moved hW.alike hK, hD9⟩⟩, hS.F ht⟩) hS.2.2 dX5_init_73
theorem dX7_init_0 : decode cX7_init 0 = .ok (.aload_n 0, 1) := by decide +kernel
theorem dX7_init_1 : decode cX7_init 1 = .ok (.invokespecial 3, 3) := by decide +kernel
theorem dX7_init_4 : decode cX7_init 4 = .ok (.aload_n 0, 1) := by decide +kernel
theorem dX7_init_5 : decode cX7_init 5 = .ok (.bipush 12, 2) := by decide +kernel
theorem dX7_init_7 : decode cX7_init 7 = .ok (.newarray .int, 2) := by decide +kernel
theorem dX7_init_9 : decode cX7_init 9 = .ok (.putfield 9, 3) := by decide +kernel
theorem dX7_init_12 : decode cX7_init 12 = .ok (.aload_n 0, 1) := by decide +kernel
theorem dX7_init_13 : decode cX7_init 13 = .ok (.bipush 12, 2) := by decide +kernel
theorem dX7_init_15 : decode cX7_init 15 = .ok (.newarray .int, 2) := by decide +kernel
theorem dX7_init_17 : decode cX7_init 17 = .ok (.putfield 15, 3) := by decide +kernel
theorem dX7_init_20 : decode cX7_init 20 = .ok (.aload_n 0, 1) := by decide +kernel
theorem dX7_init_21 : decode cX7_init 21 = .ok (.bipush 12, 2) := by decide +kernel
theorem dX7_init_23 : decode cX7_init 23 = .ok (.iconst 5, 1) := by decide +kernel
theorem dX7_init_24 : decode cX7_init 24 = .ok (.multianewarray 18 2, 4) := by decide +kernel
theorem dX7_init_28 : decode cX7_init 28 = .ok (.putfield 20, 3) := by decide +kernel
theorem dX7_init_31 : decode cX7_init 31 = .ok (.aload_n 0, 1) := by decide +kernel
theorem dX7_init_32 : decode cX7_init 32 = .ok (.bipush 24, 2) := by decide +kernel
theorem dX7_init_34 : decode cX7_init 34 = .ok (.newarray .int, 2) := by decide +kernel
theorem dX7_init_36 : decode cX7_init 36 = .ok (.putfield 23, 3) := by decide +kernel
theorem dX7_init_39 : decode cX7_init 39 = .ok (.aload_n 0, 1) := by decide +kernel
theorem dX7_init_40 : decode cX7_init 40 = .ok (.bipush 24, 2) := by decide +kernel
theorem dX7_init_42 : decode cX7_init 42 = .ok (.newarray .int, 2) := by decide +kernel
theorem dX7_init_44 : decode cX7_init 44 = .ok (.putfield 26, 3) := by decide +kernel
theorem dX7_init_47 : decode cX7_init 47 = .ok (.aload_n 0, 1) := by decide +kernel
theorem dX7_init_48 : decode cX7_init 48 = .ok (.bipush 24, 2) := by decide +kernel
theorem dX7_init_50 : decode cX7_init 50 = .ok (.newarray .int, 2) := by decide +kernel
theorem dX7_init_52 : decode cX7_init 52 = .ok (.putfield 29, 3) := by decide +kernel
theorem dX7_init_55 : decode cX7_init 55 = .ok (.aload_n 0, 1) := by decide +kernel
theorem dX7_init_56 : decode cX7_init 56 = .ok (.bipush 24, 2) := by decide +kernel
theorem dX7_init_58 : decode cX7_init 58 = .ok (.newarray .int, 2) := by decide +kernel
theorem dX7_init_60 : decode cX7_init 60 = .ok (.putfield 32, 3) := by decide +kernel
theorem dX7_init_63 : decode cX7_init 63 = .ok (.aload_n 0, 1) := by decide +kernel
theorem dX7_init_64 : decode cX7_init 64 = .ok (.iconst 5, 1) := by decide +kernel
theorem dX7_init_65 : decode cX7_init 65 = .ok (.newarray .int, 2) := by decide +kernel
theorem dX7_init_67 : decode cX7_init 67 = .ok (.putfield 35, 3) := by decide +kernel
theorem dX7_init_70 : decode cX7_init 70 = .ok (.aload_n 0, 1) := by decide +kernel
theorem dX7_init_71 : decode cX7_init 71 = .ok (.getfield 32, 3) := by decide +kernel
theorem dX7_init_74 : decode cX7_init 74 = .ok (.iconst (-1), 1) := by decide +kernel
theorem dX7_init_75 : decode cX7_init 75 = .ok (.invokestatic 38, 3) := by decide +kernel
set_option maxRecDepth 20000 in
theorem ggX7_init_J7_fill_53178 : GoodIn wsX7_init wsJ7_fill_53178 := goodIn_r _ [17] rfl (by decide +kernel)
set_option maxRecDepth 20000 in
theorem gX7_init_J7_fill_53178 : GoodIn wsX7_init (va_wsS RX7 38 yJ7_fill_53178 wsJ7_fill_53178) := goodIn_app (goodIn_of _ (by decide +kernel)) ggX7_init_J7_fill_53178
theorem dX7_init_78 : decode cX7_init 78 = .ok (.return_, 1) := by decide +kernel
set_option maxHeartbeats 4000000 in
set_option maxRecDepth 100000 in
theorem i_X7 (l : Launch) (g : xG) (sz : Nat) (h0 : Nat)  : Met l yX7_init wsX7_init ({ frames := 1, cells := 20, slots := 197, locals := 23 }) (va_Pc [.ref h0] (fun U => xB g [(h0, .inr (7, [.int 0, .int 0, .int 0, .null, .null, .null, .null, .null, .null, .null, .null]))] sz U ∧ xO U)) (va_Qv (fun (_ : Unit) => True) (fun (_ : Unit) (t : State) => ∃ (li : Nat) (he : Nat) (so : Nat) (we : Nat) (le : Nat) (sa : Nat) (so2 : Nat) (wn : Nat) (rr : Nat → Nat), xE g ([(h0, .inr (7, [.int 0, .int 0, .int 0, .ref li, .ref he, .ref so, .ref we, .ref le, .ref sa, .ref so2, .ref wn])), (li, .inl (xI g, 12, .inl (fun j => nI ((fun (_ : Nat) => (0 : Nat)) j)))), (he, .inl (xI g, 12, .inl (fun j => nI ((fun (_ : Nat) => (0 : Nat)) j)))), (so, .inl (xM g, 12, .inr (.inr (.inr (.inr (fun i => if i < 12 then some (rr i) else none))))))] ++ (xRN (xI g) 12 5 rr (fun (_ _ : Nat) => (0 : Nat)) ++ [(we, .inl (xI g, 24, .inl (fun j => iI ((fun (_ : Nat) => (0 : Int)) j)))), (le, .inl (xI g, 24, .inl (fun j => iI ((fun (_ : Nat) => (0 : Int)) j)))), (sa, .inl (xI g, 24, .inl (fun j => iI ((fun (_ : Nat) => (0 : Int)) j)))), (so2, .inl (xI g, 24, .inl (fun j => iI ((fun (_ : Nat) => (-1 : Int)) j)))), (wn, .inl (xI g, 5, .inl (fun j => nI ((fun (_ : Nat) => (0 : Nat)) j))))])) (va_A [(h0, .inr (7, [.int 0, .int 0, .int 0, .null, .null, .null, .null, .null, .null, .null, .null]))] sz) t) (va_A [(h0, .inr (7, [.int 0, .int 0, .int 0, .null, .null, .null, .null, .null, .null, .null, .null]))] sz)) 20 197 (va_A [(h0, .inr (7, [.int 0, .int 0, .int 0, .null, .null, .null, .null, .null, .null, .null, .null]))] sz) := by
  refine Met.ofW (cc := cX7_init) (maxL := 1) (ret := none) (by decide) rfl ?_
  intro p e s m args below meth c s₁ B hml hv
  obtain ⟨rfl, ⟨hsz, hP, hK, hD0⟩, hO⟩ := hv
  have hx := B.exec
  have hb := B.bytes
  have hr := B.returns
  have hts := atoms_spec (ws := wsX7_init) B.pre
  have hown : s.vm.findClass RX7 = some m.cls := findClass_of_methodNamed B.named
  have hlocks := B.notSynchronized
  have hin : meth.name = "<init>" := (name_of_methodNamed B.named B.method).1
  subst hsz
  have hD := hD0.self (sz := s.heap.size)
  generalize hAe : va_A [(h0, .inr (7, [.int 0, .int 0, .int 0, .null, .null, .null, .null, .null, .null, .null, .null]))] s.heap.size = A at hD ⊢
  have hA : ∀ q : Nat, s.heap.size ≤ q → A q := fun q h => by rw [← hAe]; exact Or.inr h
  have hS : va_S A s.heap s.heap [] := va_S.rf
  have hl := lv_entry ([.ref h0]) (n := 1) (Nat.le_of_ble_eq_true rfl)
  rw [lg_entry_eq]
  generalize (lg_sl ([.ref h0]) ++ List.replicate (1 - (lg_sl ([.ref h0])).length) Slot.unset).toArray = ls at hl ⊢
  have hl : lv_has ls 1 [(0, .ref h0)] := hl
  have hFX7 : ∀ w ∈ u_ws RX7 TX7 11, w ∈ wsX7_init := by decide +kernel
  refine lv_aload_n hx hb dX7_init_0 rfl (lv_at hl 0 rfl) ?_
  refine W.objInit hx hb hown (hts (.methodLink RX7 3 objectInit) (by decide +kernel)) (hts (.instanceMethod objectInit) (by decide +kernel)) (hts (.code objectInit ⟨#[0xb1]⟩ 1 none) (by decide +kernel)) rfl (by rw [hml]; exact hl.1) rfl dX7_init_1 (Nat.le_of_ble_eq_true rfl) (Nat.le_of_ble_eq_true rfl) ?_
  refine W.eq (g2 := F0 m 4 ls []) rfl ?_
  refine lv_aload_n hx hb dX7_init_4 rfl (lv_at hl 0 rfl) ?_
  refine lv_bipush (v := 12) hx hb dX7_init_5 (by decide) ?_
  refine va_newa (atype := .int) (ty := .int) (N' := 12) (a0 := (12, .inl (fun _ => 0))) hx hb (hts (.arrayClass .int) (by decide +kernel)) rfl hK hP hD hS hA (fun cA => by rfl) (by decide) (by decide) (by decide) (Nat.le_of_ble_eq_true rfl) (Nat.le_of_ble_eq_true rfl) dX7_init_7 (fun q_1 cA H hK9 hP hD hS => ?_)
  obtain rfl := xIEq hK9
  refine W.widen (k := 1) (n := 12) (by omega) (by omega) ?_
  have hP : va_P (xD g) vwCl [(h0, .inr (7, [.int 0, .int 0, .int 0, .null, .null, .null, .null, .null, .null, .null, .null])), (q_1, .inl (xI g, 12, .inl (fun j => nI ((fun (_ : Nat) => (0 : Nat)) j))))] H := hP
  have hD : va_D A [(h0, .inr (7, [.int 0, .int 0, .int 0, .null, .null, .null, .null, .null, .null, .null, .null])), (q_1, .inl (xI g, 12, .inl (fun j => nI ((fun (_ : Nat) => (0 : Nat)) j))))] := hD
  refine va_putF (D := xD g) (ci := 7) (v := .ref q_1) (ty := .array .int) (C := RX7) (T := TX7) (N := 11) hx hb hts hFX7 tyX7 tyX7_ok nmX7 hown hK hP hD hS 0 rfl rfl 3 (by decide) (hts (.fieldLink RX7 9 "Stevedore$Yard" "limit" "[I") (by decide +kernel)) (fun _ h9 => h9) rfl hin rfl (by decide +kernel) rfl rfl (Nat.le_of_ble_eq_true rfl) dX7_init_9 (fun H locs hP hD hS => ?_)
  have hP : va_P (xD g) vwCl [(h0, .inr (7, [.int 0, .int 0, .int 0, .ref q_1, .null, .null, .null, .null, .null, .null, .null])), (q_1, .inl (xI g, 12, .inl (fun j => nI ((fun (_ : Nat) => (0 : Nat)) j))))] H := hP
  have hD : va_D A [(h0, .inr (7, [.int 0, .int 0, .int 0, .ref q_1, .null, .null, .null, .null, .null, .null, .null])), (q_1, .inl (xI g, 12, .inl (fun j => nI ((fun (_ : Nat) => (0 : Nat)) j))))] := hD
  refine lv_aload_n hx hb dX7_init_12 rfl (lv_at hl 0 rfl) ?_
  refine lv_bipush (v := 12) hx hb dX7_init_13 (by decide) ?_
  refine va_newa (atype := .int) (ty := .int) (N' := 12) (a0 := (12, .inl (fun _ => 0))) hx hb (hts (.arrayClass .int) (by decide +kernel)) rfl hK hP hD hS hA (fun cA => by rfl) (by decide) (by decide) (by decide) (Nat.le_of_ble_eq_true rfl) (Nat.le_of_ble_eq_true rfl) dX7_init_15 (fun q_2 cA H hK9 hP hD hS => ?_)
  obtain rfl := xIEq hK9
  refine W.widen (k := 2) (n := 24) (by omega) (by omega) ?_
  have hP : va_P (xD g) vwCl [(h0, .inr (7, [.int 0, .int 0, .int 0, .ref q_1, .null, .null, .null, .null, .null, .null, .null])), (q_1, .inl (xI g, 12, .inl (fun j => nI ((fun (_ : Nat) => (0 : Nat)) j)))), (q_2, .inl (xI g, 12, .inl (fun j => nI ((fun (_ : Nat) => (0 : Nat)) j))))] H := hP
  have hD : va_D A [(h0, .inr (7, [.int 0, .int 0, .int 0, .ref q_1, .null, .null, .null, .null, .null, .null, .null])), (q_1, .inl (xI g, 12, .inl (fun j => nI ((fun (_ : Nat) => (0 : Nat)) j)))), (q_2, .inl (xI g, 12, .inl (fun j => nI ((fun (_ : Nat) => (0 : Nat)) j))))] := hD
  refine va_putF (D := xD g) (ci := 7) (v := .ref q_2) (ty := .array .int) (C := RX7) (T := TX7) (N := 11) hx hb hts hFX7 tyX7 tyX7_ok nmX7 hown hK hP hD hS 0 rfl rfl 4 (by decide) (hts (.fieldLink RX7 15 "Stevedore$Yard" "height" "[I") (by decide +kernel)) (fun _ h9 => h9) rfl hin rfl (by decide +kernel) rfl rfl (Nat.le_of_ble_eq_true rfl) dX7_init_17 (fun H locs hP hD hS => ?_)
  have hP : va_P (xD g) vwCl [(h0, .inr (7, [.int 0, .int 0, .int 0, .ref q_1, .ref q_2, .null, .null, .null, .null, .null, .null])), (q_1, .inl (xI g, 12, .inl (fun j => nI ((fun (_ : Nat) => (0 : Nat)) j)))), (q_2, .inl (xI g, 12, .inl (fun j => nI ((fun (_ : Nat) => (0 : Nat)) j))))] H := hP
  have hD : va_D A [(h0, .inr (7, [.int 0, .int 0, .int 0, .ref q_1, .ref q_2, .null, .null, .null, .null, .null, .null])), (q_1, .inl (xI g, 12, .inl (fun j => nI ((fun (_ : Nat) => (0 : Nat)) j)))), (q_2, .inl (xI g, 12, .inl (fun j => nI ((fun (_ : Nat) => (0 : Nat)) j))))] := hD
  refine lv_aload_n hx hb dX7_init_20 rfl (lv_at hl 0 rfl) ?_
  refine lv_bipush (v := 12) hx hb dX7_init_21 (by decide) ?_
  refine lv_iconst (v := 5) hx hb dX7_init_23 (by decide) ?_
  refine xMna (N' := 12) (K' := 5) hx hb hown (hts (.classLink RX7 18 ("[" ++ (FieldType.array .int).toString)) (by decide +kernel)) hO.1 (hts (.arrayClass .int) (by decide +kernel)) hK hP hD hS hA (by decide) (by decide) (by decide) (by decide) (by decide) (by decide) (by decide) (Nat.le_of_ble_eq_true rfl) (Nat.le_of_ble_eq_true rfl) dX7_init_24 (fun q_3 r_4 H hP hD hS => ?_)
  refine W.widen (k := 15) (n := 96) (by omega) (by omega) ?_
  have hP : va_P (xD g) vwCl ([(h0, .inr (7, [.int 0, .int 0, .int 0, .ref q_1, .ref q_2, .null, .null, .null, .null, .null, .null])), (q_1, .inl (xI g, 12, .inl (fun j => nI ((fun (_ : Nat) => (0 : Nat)) j)))), (q_2, .inl (xI g, 12, .inl (fun j => nI ((fun (_ : Nat) => (0 : Nat)) j)))), (q_3, .inl (xM g, 12, .inr (.inr (.inr (.inr (fun i => if i < 12 then some (r_4 i) else none))))))] ++ (xRN (xI g) 12 5 r_4 (fun (_ _ : Nat) => (0 : Nat)) ++ [])) H := hP
  have hD : va_D A ([(h0, .inr (7, [.int 0, .int 0, .int 0, .ref q_1, .ref q_2, .null, .null, .null, .null, .null, .null])), (q_1, .inl (xI g, 12, .inl (fun j => nI ((fun (_ : Nat) => (0 : Nat)) j)))), (q_2, .inl (xI g, 12, .inl (fun j => nI ((fun (_ : Nat) => (0 : Nat)) j)))), (q_3, .inl (xM g, 12, .inr (.inr (.inr (.inr (fun i => if i < 12 then some (r_4 i) else none))))))] ++ (xRN (xI g) 12 5 r_4 (fun (_ _ : Nat) => (0 : Nat)) ++ [])) := hD
  refine va_putF (D := xD g) (ci := 7) (v := .ref q_3) (ty := .array (.array .int)) (C := RX7) (T := TX7) (N := 11) hx hb hts hFX7 tyX7 tyX7_ok nmX7 hown hK hP hD hS 0 rfl rfl 5 (by decide) (hts (.fieldLink RX7 20 "Stevedore$Yard" "standing" "[[I") (by decide +kernel)) (fun _ h9 => h9) rfl hin rfl (by decide +kernel) rfl rfl (Nat.le_of_ble_eq_true rfl) dX7_init_28 (fun H locs hP hD hS => ?_)
  have hP : va_P (xD g) vwCl ([(h0, .inr (7, [.int 0, .int 0, .int 0, .ref q_1, .ref q_2, .ref q_3, .null, .null, .null, .null, .null])), (q_1, .inl (xI g, 12, .inl (fun j => nI ((fun (_ : Nat) => (0 : Nat)) j)))), (q_2, .inl (xI g, 12, .inl (fun j => nI ((fun (_ : Nat) => (0 : Nat)) j)))), (q_3, .inl (xM g, 12, .inr (.inr (.inr (.inr (fun i => if i < 12 then some (r_4 i) else none))))))] ++ (xRN (xI g) 12 5 r_4 (fun (_ _ : Nat) => (0 : Nat)) ++ [])) H := hP
  have hD : va_D A ([(h0, .inr (7, [.int 0, .int 0, .int 0, .ref q_1, .ref q_2, .ref q_3, .null, .null, .null, .null, .null])), (q_1, .inl (xI g, 12, .inl (fun j => nI ((fun (_ : Nat) => (0 : Nat)) j)))), (q_2, .inl (xI g, 12, .inl (fun j => nI ((fun (_ : Nat) => (0 : Nat)) j)))), (q_3, .inl (xM g, 12, .inr (.inr (.inr (.inr (fun i => if i < 12 then some (r_4 i) else none))))))] ++ (xRN (xI g) 12 5 r_4 (fun (_ _ : Nat) => (0 : Nat)) ++ [])) := hD
  refine lv_aload_n hx hb dX7_init_31 rfl (lv_at hl 0 rfl) ?_
  refine lv_bipush (v := 24) hx hb dX7_init_32 (by decide) ?_
  refine va_newa (atype := .int) (ty := .int) (N' := 24) (a0 := (24, .inl (fun _ => 0))) hx hb (hts (.arrayClass .int) (by decide +kernel)) rfl hK hP hD hS hA (fun cA => by rfl) (by decide) (by decide) (by decide) (Nat.le_of_ble_eq_true rfl) (Nat.le_of_ble_eq_true rfl) dX7_init_34 (fun q_5 cA H hK9 hP hD hS => ?_)
  obtain rfl := xIEq hK9
  refine W.widen (k := 16) (n := 120) (by omega) (by omega) ?_
  have hP : va_P (xD g) vwCl ([(h0, .inr (7, [.int 0, .int 0, .int 0, .ref q_1, .ref q_2, .ref q_3, .null, .null, .null, .null, .null])), (q_1, .inl (xI g, 12, .inl (fun j => nI ((fun (_ : Nat) => (0 : Nat)) j)))), (q_2, .inl (xI g, 12, .inl (fun j => nI ((fun (_ : Nat) => (0 : Nat)) j)))), (q_3, .inl (xM g, 12, .inr (.inr (.inr (.inr (fun i => if i < 12 then some (r_4 i) else none))))))] ++ (xRN (xI g) 12 5 r_4 (fun (_ _ : Nat) => (0 : Nat)) ++ [(q_5, .inl (xI g, 24, .inl (fun j => iI ((fun (_ : Nat) => (0 : Int)) j))))])) H := hP
  have hD : va_D A ([(h0, .inr (7, [.int 0, .int 0, .int 0, .ref q_1, .ref q_2, .ref q_3, .null, .null, .null, .null, .null])), (q_1, .inl (xI g, 12, .inl (fun j => nI ((fun (_ : Nat) => (0 : Nat)) j)))), (q_2, .inl (xI g, 12, .inl (fun j => nI ((fun (_ : Nat) => (0 : Nat)) j)))), (q_3, .inl (xM g, 12, .inr (.inr (.inr (.inr (fun i => if i < 12 then some (r_4 i) else none))))))] ++ (xRN (xI g) 12 5 r_4 (fun (_ _ : Nat) => (0 : Nat)) ++ [(q_5, .inl (xI g, 24, .inl (fun j => iI ((fun (_ : Nat) => (0 : Int)) j))))])) := hD
  refine va_putF (D := xD g) (ci := 7) (v := .ref q_5) (ty := .array .int) (C := RX7) (T := TX7) (N := 11) hx hb hts hFX7 tyX7 tyX7_ok nmX7 hown hK hP hD hS 0 rfl rfl 6 (by decide) (hts (.fieldLink RX7 23 "Stevedore$Yard" "weight" "[I") (by decide +kernel)) (fun _ h9 => h9) rfl hin rfl (by decide +kernel) rfl rfl (Nat.le_of_ble_eq_true rfl) dX7_init_36 (fun H locs hP hD hS => ?_)
  have hP : va_P (xD g) vwCl ([(h0, .inr (7, [.int 0, .int 0, .int 0, .ref q_1, .ref q_2, .ref q_3, .ref q_5, .null, .null, .null, .null])), (q_1, .inl (xI g, 12, .inl (fun j => nI ((fun (_ : Nat) => (0 : Nat)) j)))), (q_2, .inl (xI g, 12, .inl (fun j => nI ((fun (_ : Nat) => (0 : Nat)) j)))), (q_3, .inl (xM g, 12, .inr (.inr (.inr (.inr (fun i => if i < 12 then some (r_4 i) else none))))))] ++ (xRN (xI g) 12 5 r_4 (fun (_ _ : Nat) => (0 : Nat)) ++ [(q_5, .inl (xI g, 24, .inl (fun j => iI ((fun (_ : Nat) => (0 : Int)) j))))])) H := hP
  have hD : va_D A ([(h0, .inr (7, [.int 0, .int 0, .int 0, .ref q_1, .ref q_2, .ref q_3, .ref q_5, .null, .null, .null, .null])), (q_1, .inl (xI g, 12, .inl (fun j => nI ((fun (_ : Nat) => (0 : Nat)) j)))), (q_2, .inl (xI g, 12, .inl (fun j => nI ((fun (_ : Nat) => (0 : Nat)) j)))), (q_3, .inl (xM g, 12, .inr (.inr (.inr (.inr (fun i => if i < 12 then some (r_4 i) else none))))))] ++ (xRN (xI g) 12 5 r_4 (fun (_ _ : Nat) => (0 : Nat)) ++ [(q_5, .inl (xI g, 24, .inl (fun j => iI ((fun (_ : Nat) => (0 : Int)) j))))])) := hD
  refine lv_aload_n hx hb dX7_init_39 rfl (lv_at hl 0 rfl) ?_
  refine lv_bipush (v := 24) hx hb dX7_init_40 (by decide) ?_
  refine va_newa (atype := .int) (ty := .int) (N' := 24) (a0 := (24, .inl (fun _ => 0))) hx hb (hts (.arrayClass .int) (by decide +kernel)) rfl hK hP hD hS hA (fun cA => by rfl) (by decide) (by decide) (by decide) (Nat.le_of_ble_eq_true rfl) (Nat.le_of_ble_eq_true rfl) dX7_init_42 (fun q_6 cA H hK9 hP hD hS => ?_)
  obtain rfl := xIEq hK9
  refine W.widen (k := 17) (n := 144) (by omega) (by omega) ?_
  have hP : va_P (xD g) vwCl ([(h0, .inr (7, [.int 0, .int 0, .int 0, .ref q_1, .ref q_2, .ref q_3, .ref q_5, .null, .null, .null, .null])), (q_1, .inl (xI g, 12, .inl (fun j => nI ((fun (_ : Nat) => (0 : Nat)) j)))), (q_2, .inl (xI g, 12, .inl (fun j => nI ((fun (_ : Nat) => (0 : Nat)) j)))), (q_3, .inl (xM g, 12, .inr (.inr (.inr (.inr (fun i => if i < 12 then some (r_4 i) else none))))))] ++ (xRN (xI g) 12 5 r_4 (fun (_ _ : Nat) => (0 : Nat)) ++ [(q_5, .inl (xI g, 24, .inl (fun j => iI ((fun (_ : Nat) => (0 : Int)) j)))), (q_6, .inl (xI g, 24, .inl (fun j => iI ((fun (_ : Nat) => (0 : Int)) j))))])) H := hP
  have hD : va_D A ([(h0, .inr (7, [.int 0, .int 0, .int 0, .ref q_1, .ref q_2, .ref q_3, .ref q_5, .null, .null, .null, .null])), (q_1, .inl (xI g, 12, .inl (fun j => nI ((fun (_ : Nat) => (0 : Nat)) j)))), (q_2, .inl (xI g, 12, .inl (fun j => nI ((fun (_ : Nat) => (0 : Nat)) j)))), (q_3, .inl (xM g, 12, .inr (.inr (.inr (.inr (fun i => if i < 12 then some (r_4 i) else none))))))] ++ (xRN (xI g) 12 5 r_4 (fun (_ _ : Nat) => (0 : Nat)) ++ [(q_5, .inl (xI g, 24, .inl (fun j => iI ((fun (_ : Nat) => (0 : Int)) j)))), (q_6, .inl (xI g, 24, .inl (fun j => iI ((fun (_ : Nat) => (0 : Int)) j))))])) := hD
  refine va_putF (D := xD g) (ci := 7) (v := .ref q_6) (ty := .array .int) (C := RX7) (T := TX7) (N := 11) hx hb hts hFX7 tyX7 tyX7_ok nmX7 hown hK hP hD hS 0 rfl rfl 7 (by decide) (hts (.fieldLink RX7 26 "Stevedore$Yard" "leaving" "[I") (by decide +kernel)) (fun _ h9 => h9) rfl hin rfl (by decide +kernel) rfl rfl (Nat.le_of_ble_eq_true rfl) dX7_init_44 (fun H locs hP hD hS => ?_)
  have hP : va_P (xD g) vwCl ([(h0, .inr (7, [.int 0, .int 0, .int 0, .ref q_1, .ref q_2, .ref q_3, .ref q_5, .ref q_6, .null, .null, .null])), (q_1, .inl (xI g, 12, .inl (fun j => nI ((fun (_ : Nat) => (0 : Nat)) j)))), (q_2, .inl (xI g, 12, .inl (fun j => nI ((fun (_ : Nat) => (0 : Nat)) j)))), (q_3, .inl (xM g, 12, .inr (.inr (.inr (.inr (fun i => if i < 12 then some (r_4 i) else none))))))] ++ (xRN (xI g) 12 5 r_4 (fun (_ _ : Nat) => (0 : Nat)) ++ [(q_5, .inl (xI g, 24, .inl (fun j => iI ((fun (_ : Nat) => (0 : Int)) j)))), (q_6, .inl (xI g, 24, .inl (fun j => iI ((fun (_ : Nat) => (0 : Int)) j))))])) H := hP
  have hD : va_D A ([(h0, .inr (7, [.int 0, .int 0, .int 0, .ref q_1, .ref q_2, .ref q_3, .ref q_5, .ref q_6, .null, .null, .null])), (q_1, .inl (xI g, 12, .inl (fun j => nI ((fun (_ : Nat) => (0 : Nat)) j)))), (q_2, .inl (xI g, 12, .inl (fun j => nI ((fun (_ : Nat) => (0 : Nat)) j)))), (q_3, .inl (xM g, 12, .inr (.inr (.inr (.inr (fun i => if i < 12 then some (r_4 i) else none))))))] ++ (xRN (xI g) 12 5 r_4 (fun (_ _ : Nat) => (0 : Nat)) ++ [(q_5, .inl (xI g, 24, .inl (fun j => iI ((fun (_ : Nat) => (0 : Int)) j)))), (q_6, .inl (xI g, 24, .inl (fun j => iI ((fun (_ : Nat) => (0 : Int)) j))))])) := hD
  refine lv_aload_n hx hb dX7_init_47 rfl (lv_at hl 0 rfl) ?_
  refine lv_bipush (v := 24) hx hb dX7_init_48 (by decide) ?_
  refine va_newa (atype := .int) (ty := .int) (N' := 24) (a0 := (24, .inl (fun _ => 0))) hx hb (hts (.arrayClass .int) (by decide +kernel)) rfl hK hP hD hS hA (fun cA => by rfl) (by decide) (by decide) (by decide) (Nat.le_of_ble_eq_true rfl) (Nat.le_of_ble_eq_true rfl) dX7_init_50 (fun q_7 cA H hK9 hP hD hS => ?_)
  obtain rfl := xIEq hK9
  refine W.widen (k := 18) (n := 168) (by omega) (by omega) ?_
  have hP : va_P (xD g) vwCl ([(h0, .inr (7, [.int 0, .int 0, .int 0, .ref q_1, .ref q_2, .ref q_3, .ref q_5, .ref q_6, .null, .null, .null])), (q_1, .inl (xI g, 12, .inl (fun j => nI ((fun (_ : Nat) => (0 : Nat)) j)))), (q_2, .inl (xI g, 12, .inl (fun j => nI ((fun (_ : Nat) => (0 : Nat)) j)))), (q_3, .inl (xM g, 12, .inr (.inr (.inr (.inr (fun i => if i < 12 then some (r_4 i) else none))))))] ++ (xRN (xI g) 12 5 r_4 (fun (_ _ : Nat) => (0 : Nat)) ++ [(q_5, .inl (xI g, 24, .inl (fun j => iI ((fun (_ : Nat) => (0 : Int)) j)))), (q_6, .inl (xI g, 24, .inl (fun j => iI ((fun (_ : Nat) => (0 : Int)) j)))), (q_7, .inl (xI g, 24, .inl (fun j => iI ((fun (_ : Nat) => (0 : Int)) j))))])) H := hP
  have hD : va_D A ([(h0, .inr (7, [.int 0, .int 0, .int 0, .ref q_1, .ref q_2, .ref q_3, .ref q_5, .ref q_6, .null, .null, .null])), (q_1, .inl (xI g, 12, .inl (fun j => nI ((fun (_ : Nat) => (0 : Nat)) j)))), (q_2, .inl (xI g, 12, .inl (fun j => nI ((fun (_ : Nat) => (0 : Nat)) j)))), (q_3, .inl (xM g, 12, .inr (.inr (.inr (.inr (fun i => if i < 12 then some (r_4 i) else none))))))] ++ (xRN (xI g) 12 5 r_4 (fun (_ _ : Nat) => (0 : Nat)) ++ [(q_5, .inl (xI g, 24, .inl (fun j => iI ((fun (_ : Nat) => (0 : Int)) j)))), (q_6, .inl (xI g, 24, .inl (fun j => iI ((fun (_ : Nat) => (0 : Int)) j)))), (q_7, .inl (xI g, 24, .inl (fun j => iI ((fun (_ : Nat) => (0 : Int)) j))))])) := hD
  refine va_putF (D := xD g) (ci := 7) (v := .ref q_7) (ty := .array .int) (C := RX7) (T := TX7) (N := 11) hx hb hts hFX7 tyX7 tyX7_ok nmX7 hown hK hP hD hS 0 rfl rfl 8 (by decide) (hts (.fieldLink RX7 29 "Stevedore$Yard" "state" "[I") (by decide +kernel)) (fun _ h9 => h9) rfl hin rfl (by decide +kernel) rfl rfl (Nat.le_of_ble_eq_true rfl) dX7_init_52 (fun H locs hP hD hS => ?_)
  have hP : va_P (xD g) vwCl ([(h0, .inr (7, [.int 0, .int 0, .int 0, .ref q_1, .ref q_2, .ref q_3, .ref q_5, .ref q_6, .ref q_7, .null, .null])), (q_1, .inl (xI g, 12, .inl (fun j => nI ((fun (_ : Nat) => (0 : Nat)) j)))), (q_2, .inl (xI g, 12, .inl (fun j => nI ((fun (_ : Nat) => (0 : Nat)) j)))), (q_3, .inl (xM g, 12, .inr (.inr (.inr (.inr (fun i => if i < 12 then some (r_4 i) else none))))))] ++ (xRN (xI g) 12 5 r_4 (fun (_ _ : Nat) => (0 : Nat)) ++ [(q_5, .inl (xI g, 24, .inl (fun j => iI ((fun (_ : Nat) => (0 : Int)) j)))), (q_6, .inl (xI g, 24, .inl (fun j => iI ((fun (_ : Nat) => (0 : Int)) j)))), (q_7, .inl (xI g, 24, .inl (fun j => iI ((fun (_ : Nat) => (0 : Int)) j))))])) H := hP
  have hD : va_D A ([(h0, .inr (7, [.int 0, .int 0, .int 0, .ref q_1, .ref q_2, .ref q_3, .ref q_5, .ref q_6, .ref q_7, .null, .null])), (q_1, .inl (xI g, 12, .inl (fun j => nI ((fun (_ : Nat) => (0 : Nat)) j)))), (q_2, .inl (xI g, 12, .inl (fun j => nI ((fun (_ : Nat) => (0 : Nat)) j)))), (q_3, .inl (xM g, 12, .inr (.inr (.inr (.inr (fun i => if i < 12 then some (r_4 i) else none))))))] ++ (xRN (xI g) 12 5 r_4 (fun (_ _ : Nat) => (0 : Nat)) ++ [(q_5, .inl (xI g, 24, .inl (fun j => iI ((fun (_ : Nat) => (0 : Int)) j)))), (q_6, .inl (xI g, 24, .inl (fun j => iI ((fun (_ : Nat) => (0 : Int)) j)))), (q_7, .inl (xI g, 24, .inl (fun j => iI ((fun (_ : Nat) => (0 : Int)) j))))])) := hD
  refine lv_aload_n hx hb dX7_init_55 rfl (lv_at hl 0 rfl) ?_
  refine lv_bipush (v := 24) hx hb dX7_init_56 (by decide) ?_
  refine va_newa (atype := .int) (ty := .int) (N' := 24) (a0 := (24, .inl (fun _ => 0))) hx hb (hts (.arrayClass .int) (by decide +kernel)) rfl hK hP hD hS hA (fun cA => by rfl) (by decide) (by decide) (by decide) (Nat.le_of_ble_eq_true rfl) (Nat.le_of_ble_eq_true rfl) dX7_init_58 (fun q_8 cA H hK9 hP hD hS => ?_)
  obtain rfl := xIEq hK9
  refine W.widen (k := 19) (n := 192) (by omega) (by omega) ?_
  have hP : va_P (xD g) vwCl ([(h0, .inr (7, [.int 0, .int 0, .int 0, .ref q_1, .ref q_2, .ref q_3, .ref q_5, .ref q_6, .ref q_7, .null, .null])), (q_1, .inl (xI g, 12, .inl (fun j => nI ((fun (_ : Nat) => (0 : Nat)) j)))), (q_2, .inl (xI g, 12, .inl (fun j => nI ((fun (_ : Nat) => (0 : Nat)) j)))), (q_3, .inl (xM g, 12, .inr (.inr (.inr (.inr (fun i => if i < 12 then some (r_4 i) else none))))))] ++ (xRN (xI g) 12 5 r_4 (fun (_ _ : Nat) => (0 : Nat)) ++ [(q_5, .inl (xI g, 24, .inl (fun j => iI ((fun (_ : Nat) => (0 : Int)) j)))), (q_6, .inl (xI g, 24, .inl (fun j => iI ((fun (_ : Nat) => (0 : Int)) j)))), (q_7, .inl (xI g, 24, .inl (fun j => iI ((fun (_ : Nat) => (0 : Int)) j)))), (q_8, .inl (xI g, 24, .inl (fun j => iI ((fun (_ : Nat) => (0 : Int)) j))))])) H := hP
  have hD : va_D A ([(h0, .inr (7, [.int 0, .int 0, .int 0, .ref q_1, .ref q_2, .ref q_3, .ref q_5, .ref q_6, .ref q_7, .null, .null])), (q_1, .inl (xI g, 12, .inl (fun j => nI ((fun (_ : Nat) => (0 : Nat)) j)))), (q_2, .inl (xI g, 12, .inl (fun j => nI ((fun (_ : Nat) => (0 : Nat)) j)))), (q_3, .inl (xM g, 12, .inr (.inr (.inr (.inr (fun i => if i < 12 then some (r_4 i) else none))))))] ++ (xRN (xI g) 12 5 r_4 (fun (_ _ : Nat) => (0 : Nat)) ++ [(q_5, .inl (xI g, 24, .inl (fun j => iI ((fun (_ : Nat) => (0 : Int)) j)))), (q_6, .inl (xI g, 24, .inl (fun j => iI ((fun (_ : Nat) => (0 : Int)) j)))), (q_7, .inl (xI g, 24, .inl (fun j => iI ((fun (_ : Nat) => (0 : Int)) j)))), (q_8, .inl (xI g, 24, .inl (fun j => iI ((fun (_ : Nat) => (0 : Int)) j))))])) := hD
  refine va_putF (D := xD g) (ci := 7) (v := .ref q_8) (ty := .array .int) (C := RX7) (T := TX7) (N := 11) hx hb hts hFX7 tyX7 tyX7_ok nmX7 hown hK hP hD hS 0 rfl rfl 9 (by decide) (hts (.fieldLink RX7 32 "Stevedore$Yard" "stackOfContainer" "[I") (by decide +kernel)) (fun _ h9 => h9) rfl hin rfl (by decide +kernel) rfl rfl (Nat.le_of_ble_eq_true rfl) dX7_init_60 (fun H locs hP hD hS => ?_)
  have hP : va_P (xD g) vwCl ([(h0, .inr (7, [.int 0, .int 0, .int 0, .ref q_1, .ref q_2, .ref q_3, .ref q_5, .ref q_6, .ref q_7, .ref q_8, .null])), (q_1, .inl (xI g, 12, .inl (fun j => nI ((fun (_ : Nat) => (0 : Nat)) j)))), (q_2, .inl (xI g, 12, .inl (fun j => nI ((fun (_ : Nat) => (0 : Nat)) j)))), (q_3, .inl (xM g, 12, .inr (.inr (.inr (.inr (fun i => if i < 12 then some (r_4 i) else none))))))] ++ (xRN (xI g) 12 5 r_4 (fun (_ _ : Nat) => (0 : Nat)) ++ [(q_5, .inl (xI g, 24, .inl (fun j => iI ((fun (_ : Nat) => (0 : Int)) j)))), (q_6, .inl (xI g, 24, .inl (fun j => iI ((fun (_ : Nat) => (0 : Int)) j)))), (q_7, .inl (xI g, 24, .inl (fun j => iI ((fun (_ : Nat) => (0 : Int)) j)))), (q_8, .inl (xI g, 24, .inl (fun j => iI ((fun (_ : Nat) => (0 : Int)) j))))])) H := hP
  have hD : va_D A ([(h0, .inr (7, [.int 0, .int 0, .int 0, .ref q_1, .ref q_2, .ref q_3, .ref q_5, .ref q_6, .ref q_7, .ref q_8, .null])), (q_1, .inl (xI g, 12, .inl (fun j => nI ((fun (_ : Nat) => (0 : Nat)) j)))), (q_2, .inl (xI g, 12, .inl (fun j => nI ((fun (_ : Nat) => (0 : Nat)) j)))), (q_3, .inl (xM g, 12, .inr (.inr (.inr (.inr (fun i => if i < 12 then some (r_4 i) else none))))))] ++ (xRN (xI g) 12 5 r_4 (fun (_ _ : Nat) => (0 : Nat)) ++ [(q_5, .inl (xI g, 24, .inl (fun j => iI ((fun (_ : Nat) => (0 : Int)) j)))), (q_6, .inl (xI g, 24, .inl (fun j => iI ((fun (_ : Nat) => (0 : Int)) j)))), (q_7, .inl (xI g, 24, .inl (fun j => iI ((fun (_ : Nat) => (0 : Int)) j)))), (q_8, .inl (xI g, 24, .inl (fun j => iI ((fun (_ : Nat) => (0 : Int)) j))))])) := hD
  refine lv_aload_n hx hb dX7_init_63 rfl (lv_at hl 0 rfl) ?_
  refine lv_iconst (v := 5) hx hb dX7_init_64 (by decide) ?_
  refine va_newa (atype := .int) (ty := .int) (N' := 5) (a0 := (5, .inl (fun _ => 0))) hx hb (hts (.arrayClass .int) (by decide +kernel)) rfl hK hP hD hS hA (fun cA => by rfl) (by decide) (by decide) (by decide) (Nat.le_of_ble_eq_true rfl) (Nat.le_of_ble_eq_true rfl) dX7_init_65 (fun q_9 cA H hK9 hP hD hS => ?_)
  obtain rfl := xIEq hK9
  refine W.widen (k := 20) (n := 197) (by omega) (by omega) ?_
  have hP : va_P (xD g) vwCl ([(h0, .inr (7, [.int 0, .int 0, .int 0, .ref q_1, .ref q_2, .ref q_3, .ref q_5, .ref q_6, .ref q_7, .ref q_8, .null])), (q_1, .inl (xI g, 12, .inl (fun j => nI ((fun (_ : Nat) => (0 : Nat)) j)))), (q_2, .inl (xI g, 12, .inl (fun j => nI ((fun (_ : Nat) => (0 : Nat)) j)))), (q_3, .inl (xM g, 12, .inr (.inr (.inr (.inr (fun i => if i < 12 then some (r_4 i) else none))))))] ++ (xRN (xI g) 12 5 r_4 (fun (_ _ : Nat) => (0 : Nat)) ++ [(q_5, .inl (xI g, 24, .inl (fun j => iI ((fun (_ : Nat) => (0 : Int)) j)))), (q_6, .inl (xI g, 24, .inl (fun j => iI ((fun (_ : Nat) => (0 : Int)) j)))), (q_7, .inl (xI g, 24, .inl (fun j => iI ((fun (_ : Nat) => (0 : Int)) j)))), (q_8, .inl (xI g, 24, .inl (fun j => iI ((fun (_ : Nat) => (0 : Int)) j)))), (q_9, .inl (xI g, 5, .inl (fun j => nI ((fun (_ : Nat) => (0 : Nat)) j))))])) H := hP
  have hD : va_D A ([(h0, .inr (7, [.int 0, .int 0, .int 0, .ref q_1, .ref q_2, .ref q_3, .ref q_5, .ref q_6, .ref q_7, .ref q_8, .null])), (q_1, .inl (xI g, 12, .inl (fun j => nI ((fun (_ : Nat) => (0 : Nat)) j)))), (q_2, .inl (xI g, 12, .inl (fun j => nI ((fun (_ : Nat) => (0 : Nat)) j)))), (q_3, .inl (xM g, 12, .inr (.inr (.inr (.inr (fun i => if i < 12 then some (r_4 i) else none))))))] ++ (xRN (xI g) 12 5 r_4 (fun (_ _ : Nat) => (0 : Nat)) ++ [(q_5, .inl (xI g, 24, .inl (fun j => iI ((fun (_ : Nat) => (0 : Int)) j)))), (q_6, .inl (xI g, 24, .inl (fun j => iI ((fun (_ : Nat) => (0 : Int)) j)))), (q_7, .inl (xI g, 24, .inl (fun j => iI ((fun (_ : Nat) => (0 : Int)) j)))), (q_8, .inl (xI g, 24, .inl (fun j => iI ((fun (_ : Nat) => (0 : Int)) j)))), (q_9, .inl (xI g, 5, .inl (fun j => nI ((fun (_ : Nat) => (0 : Nat)) j))))])) := hD
  refine va_putF (D := xD g) (ci := 7) (v := .ref q_9) (ty := .array .int) (C := RX7) (T := TX7) (N := 11) hx hb hts hFX7 tyX7 tyX7_ok nmX7 hown hK hP hD hS 0 rfl rfl 10 (by decide) (hts (.fieldLink RX7 35 "Stevedore$Yard" "wentTo" "[I") (by decide +kernel)) (fun _ h9 => h9) rfl hin rfl (by decide +kernel) rfl rfl (Nat.le_of_ble_eq_true rfl) dX7_init_67 (fun H locs hP hD hS => ?_)
  have hP : va_P (xD g) vwCl ([(h0, .inr (7, [.int 0, .int 0, .int 0, .ref q_1, .ref q_2, .ref q_3, .ref q_5, .ref q_6, .ref q_7, .ref q_8, .ref q_9])), (q_1, .inl (xI g, 12, .inl (fun j => nI ((fun (_ : Nat) => (0 : Nat)) j)))), (q_2, .inl (xI g, 12, .inl (fun j => nI ((fun (_ : Nat) => (0 : Nat)) j)))), (q_3, .inl (xM g, 12, .inr (.inr (.inr (.inr (fun i => if i < 12 then some (r_4 i) else none))))))] ++ (xRN (xI g) 12 5 r_4 (fun (_ _ : Nat) => (0 : Nat)) ++ [(q_5, .inl (xI g, 24, .inl (fun j => iI ((fun (_ : Nat) => (0 : Int)) j)))), (q_6, .inl (xI g, 24, .inl (fun j => iI ((fun (_ : Nat) => (0 : Int)) j)))), (q_7, .inl (xI g, 24, .inl (fun j => iI ((fun (_ : Nat) => (0 : Int)) j)))), (q_8, .inl (xI g, 24, .inl (fun j => iI ((fun (_ : Nat) => (0 : Int)) j)))), (q_9, .inl (xI g, 5, .inl (fun j => nI ((fun (_ : Nat) => (0 : Nat)) j))))])) H := hP
  have hD : va_D A ([(h0, .inr (7, [.int 0, .int 0, .int 0, .ref q_1, .ref q_2, .ref q_3, .ref q_5, .ref q_6, .ref q_7, .ref q_8, .ref q_9])), (q_1, .inl (xI g, 12, .inl (fun j => nI ((fun (_ : Nat) => (0 : Nat)) j)))), (q_2, .inl (xI g, 12, .inl (fun j => nI ((fun (_ : Nat) => (0 : Nat)) j)))), (q_3, .inl (xM g, 12, .inr (.inr (.inr (.inr (fun i => if i < 12 then some (r_4 i) else none))))))] ++ (xRN (xI g) 12 5 r_4 (fun (_ _ : Nat) => (0 : Nat)) ++ [(q_5, .inl (xI g, 24, .inl (fun j => iI ((fun (_ : Nat) => (0 : Int)) j)))), (q_6, .inl (xI g, 24, .inl (fun j => iI ((fun (_ : Nat) => (0 : Int)) j)))), (q_7, .inl (xI g, 24, .inl (fun j => iI ((fun (_ : Nat) => (0 : Int)) j)))), (q_8, .inl (xI g, 24, .inl (fun j => iI ((fun (_ : Nat) => (0 : Int)) j)))), (q_9, .inl (xI g, 5, .inl (fun j => nI ((fun (_ : Nat) => (0 : Nat)) j))))])) := hD
  refine lv_aload_n hx hb dX7_init_70 rfl (lv_at hl 0 rfl) ?_
  refine va_get (D := xD g) (ci := 7) (v := .ref q_8) (C := RX7) (T := TX7) (N := 11) hx hb hts hFX7 hown hK hP 0 rfl rfl 9 (by decide) (hts (.fieldLink RX7 32 "Stevedore$Yard" "stackOfContainer" "[I") (by decide +kernel)) (fun _ h9 => h9) rfl dX7_init_71 ?_
  refine lv_iconst (v := (-1)) hx hb dX7_init_74 (by decide) ?_
  have hPc := hP.sub (ws' := [(q_8, .inl (xI g, 24, .inl (fun j => iI ((fun (_ : Nat) => (0 : Int)) j))))]) [19] rfl
  have hDc := hD.sub (ws' := [(q_8, .inl (xI g, 24, .inl (fun j => iI ((fun (_ : Nat) => (0 : Int)) j))))]) [19] (by decide) rfl
  have hFc := va_free (wc := [(q_8, .inl (xI g, 24, .inl (fun j => iI ((fun (_ : Nat) => (0 : Int)) j))))]) hD hS hA [19] rfl
  refine va_callv (va_runS (As := [.ref q_8, .int (-1)]) (rest := []) ⟨hx, hb, hml, hown, hts⟩ (j_fill l g H.size q_8 24 (-1) (fun (_ : Nat) => (0 : Int)) (by first | assumption | omega)) (va_cwS 2 hts gX7_init_J7_fill_53178 rfl rfl rfl (by decide +kernel) ⟨Nat.le_of_ble_eq_true rfl, Nat.le_of_ble_eq_true rfl⟩) ⟨xB.blind, fun U9 hU9 hW9 => ⟨rfl, xB.mk hPc hK hDc hU9 hW9⟩⟩ rfl rfl hl.1 rfl (lv_room (Nat.le_of_ble_eq_true rfl)) dX7_init_75 ⟨Nat.le_of_ble_eq_true rfl, Nat.le_of_ble_eq_true rfl⟩) hS (fun q _ h => hFc q h) hFc (fun _ t H1 locs ht hvm hw_11 hB hz1 hk1 hS => ?_)
  obtain ⟨hP1, hK1, hD1⟩ := hB
  rw [ht] at hP1
  obtain ⟨hP, hD⟩ := va_join (wr := ([(h0, .inr (7, [.int 0, .int 0, .int 0, .ref q_1, .ref q_2, .ref q_3, .ref q_5, .ref q_6, .ref q_7, .ref q_8, .ref q_9])), (q_1, .inl (xI g, 12, .inl (fun j => nI ((fun (_ : Nat) => (0 : Nat)) j)))), (q_2, .inl (xI g, 12, .inl (fun j => nI ((fun (_ : Nat) => (0 : Nat)) j)))), (q_3, .inl (xM g, 12, .inr (.inr (.inr (.inr (fun i => if i < 12 then some (r_4 i) else none))))))] ++ (xRN (xI g) 12 5 r_4 (fun (_ _ : Nat) => (0 : Nat)) ++ [(q_5, .inl (xI g, 24, .inl (fun j => iI ((fun (_ : Nat) => (0 : Int)) j)))), (q_6, .inl (xI g, 24, .inl (fun j => iI ((fun (_ : Nat) => (0 : Int)) j)))), (q_7, .inl (xI g, 24, .inl (fun j => iI ((fun (_ : Nat) => (0 : Int)) j)))), (q_9, .inl (xI g, 5, .inl (fun j => nI ((fun (_ : Nat) => (0 : Nat)) j))))]))) (w1 := [(q_8, .inl (xI g, 24, .inl (fun j => iI ((fun (_ : Nat) => ((-1) : Int)) j))))]) hP hD [19] [0, 1, 2, 3, 4, 5, 6, 7, 8, 9, 10, 11, 12, 13, 14, 15, 16, 17, 18, 20] rfl rfl (by decide) (by decide) hk1 hFc hP1 hD1
  generalize H1 = H at hP hS ⊢
  have hP : va_P (xD g) vwCl ([(h0, .inr (7, [.int 0, .int 0, .int 0, .ref q_1, .ref q_2, .ref q_3, .ref q_5, .ref q_6, .ref q_7, .ref q_8, .ref q_9])), (q_1, .inl (xI g, 12, .inl (fun j => nI ((fun (_ : Nat) => (0 : Nat)) j)))), (q_2, .inl (xI g, 12, .inl (fun j => nI ((fun (_ : Nat) => (0 : Nat)) j)))), (q_3, .inl (xM g, 12, .inr (.inr (.inr (.inr (fun i => if i < 12 then some (r_4 i) else none))))))] ++ (xRN (xI g) 12 5 r_4 (fun (_ _ : Nat) => (0 : Nat)) ++ [(q_5, .inl (xI g, 24, .inl (fun j => iI ((fun (_ : Nat) => (0 : Int)) j)))), (q_6, .inl (xI g, 24, .inl (fun j => iI ((fun (_ : Nat) => (0 : Int)) j)))), (q_7, .inl (xI g, 24, .inl (fun j => iI ((fun (_ : Nat) => (0 : Int)) j)))), (q_9, .inl (xI g, 5, .inl (fun j => nI ((fun (_ : Nat) => (0 : Nat)) j)))), (q_8, .inl (xI g, 24, .inl (fun j => iI ((fun (_ : Nat) => ((-1) : Int)) j))))])) H := hP
  have hD : va_D A ([(h0, .inr (7, [.int 0, .int 0, .int 0, .ref q_1, .ref q_2, .ref q_3, .ref q_5, .ref q_6, .ref q_7, .ref q_8, .ref q_9])), (q_1, .inl (xI g, 12, .inl (fun j => nI ((fun (_ : Nat) => (0 : Nat)) j)))), (q_2, .inl (xI g, 12, .inl (fun j => nI ((fun (_ : Nat) => (0 : Nat)) j)))), (q_3, .inl (xM g, 12, .inr (.inr (.inr (.inr (fun i => if i < 12 then some (r_4 i) else none))))))] ++ (xRN (xI g) 12 5 r_4 (fun (_ _ : Nat) => (0 : Nat)) ++ [(q_5, .inl (xI g, 24, .inl (fun j => iI ((fun (_ : Nat) => (0 : Int)) j)))), (q_6, .inl (xI g, 24, .inl (fun j => iI ((fun (_ : Nat) => (0 : Int)) j)))), (q_7, .inl (xI g, 24, .inl (fun j => iI ((fun (_ : Nat) => (0 : Int)) j)))), (q_9, .inl (xI g, 5, .inl (fun j => nI ((fun (_ : Nat) => (0 : Nat)) j)))), (q_8, .inl (xI g, 24, .inl (fun j => iI ((fun (_ : Nat) => ((-1) : Int)) j))))])) := hD
  try dsimp only at hw_11
  have hP9 := hP.sub (ws' := ([(h0, .inr (7, [.int 0, .int 0, .int 0, .ref q_1, .ref q_2, .ref q_3, .ref q_5, .ref q_6, .ref q_7, .ref q_8, .ref q_9])), (q_1, .inl (xI g, 12, .inl (fun j => nI ((fun (_ : Nat) => (0 : Nat)) j)))), (q_2, .inl (xI g, 12, .inl (fun j => nI ((fun (_ : Nat) => (0 : Nat)) j)))), (q_3, .inl (xM g, 12, .inr (.inr (.inr (.inr (fun i => if i < 12 then some (r_4 i) else none))))))] ++ (xRN (xI g) 12 5 r_4 (fun (_ _ : Nat) => (0 : Nat)) ++ [(q_5, .inl (xI g, 24, .inl (fun j => iI ((fun (_ : Nat) => (0 : Int)) j)))), (q_6, .inl (xI g, 24, .inl (fun j => iI ((fun (_ : Nat) => (0 : Int)) j)))), (q_7, .inl (xI g, 24, .inl (fun j => iI ((fun (_ : Nat) => (0 : Int)) j)))), (q_8, .inl (xI g, 24, .inl (fun j => iI ((fun (_ : Nat) => ((-1) : Int)) j)))), (q_9, .inl (xI g, 5, .inl (fun j => nI ((fun (_ : Nat) => (0 : Nat)) j))))]))) [0, 1, 2, 3, 4, 5, 6, 7, 8, 9, 10, 11, 12, 13, 14, 15, 16, 17, 18, 20, 19] rfl
  have hD9 := hD.sub (ws' := ([(h0, .inr (7, [.int 0, .int 0, .int 0, .ref q_1, .ref q_2, .ref q_3, .ref q_5, .ref q_6, .ref q_7, .ref q_8, .ref q_9])), (q_1, .inl (xI g, 12, .inl (fun j => nI ((fun (_ : Nat) => (0 : Nat)) j)))), (q_2, .inl (xI g, 12, .inl (fun j => nI ((fun (_ : Nat) => (0 : Nat)) j)))), (q_3, .inl (xM g, 12, .inr (.inr (.inr (.inr (fun i => if i < 12 then some (r_4 i) else none))))))] ++ (xRN (xI g) 12 5 r_4 (fun (_ _ : Nat) => (0 : Nat)) ++ [(q_5, .inl (xI g, 24, .inl (fun j => iI ((fun (_ : Nat) => (0 : Int)) j)))), (q_6, .inl (xI g, 24, .inl (fun j => iI ((fun (_ : Nat) => (0 : Int)) j)))), (q_7, .inl (xI g, 24, .inl (fun j => iI ((fun (_ : Nat) => (0 : Int)) j)))), (q_8, .inl (xI g, 24, .inl (fun j => iI ((fun (_ : Nat) => ((-1) : Int)) j)))), (q_9, .inl (xI g, 5, .inl (fun j => nI ((fun (_ : Nat) => (0 : Nat)) j))))]))) [0, 1, 2, 3, 4, 5, 6, 7, 8, 9, 10, 11, 12, 13, 14, 15, 16, 17, 18, 20, 19] (by decide) rfl
  exact W.vret hx hb hr (fun t ht hW => ⟨⟨(), rfl, (by first | trivial | rfl | assumption | omega), ⟨q_1, q_2, q_3, q_5, q_6, q_7, q_8, q_9, r_4, by rw [ht]; exact hP9, va_K.moved hW.alike hK, hD9⟩⟩, hS.F ht⟩) hS.2.2 dX7_init_78
