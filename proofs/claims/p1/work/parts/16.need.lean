theorem dX8_needWithin_0 : decode cX8_needWithin 0 = .ok (.iload_n 0, 1) := by decide +kernel
theorem dX8_needWithin_1 : decode cX8_needWithin 1 = .ok (.iload_n 1, 1) := by decide +kernel
theorem dX8_needWithin_2 : decode cX8_needWithin 2 = .ok (.if_icmp .lt 8, 3) := by decide +kernel
theorem dX8_needWithin_10 : decode cX8_needWithin 10 = .ok (.new 362, 3) := by decide +kernel
theorem dX8_needWithin_13 : decode cX8_needWithin 13 = .ok (.dup, 1) := by decide +kernel
theorem dX8_needWithin_14 : decode cX8_needWithin 14 = .ok (.ldc_w 364, 3) := by decide +kernel
theorem dX8_needWithin_17 : decode cX8_needWithin 17 = .ok (.invokespecial 366, 3) := by decide +kernel
theorem dX8_needWithin_20 : decode cX8_needWithin 20 = .ok (.athrow, 1) := by decide +kernel
theorem dX8_needWithin_5 : decode cX8_needWithin 5 = .ok (.iload_n 0, 1) := by decide +kernel
theorem dX8_needWithin_6 : decode cX8_needWithin 6 = .ok (.iload_n 2, 1) := by decide +kernel
theorem dX8_needWithin_7 : decode cX8_needWithin 7 = .ok (.if_icmp .le 14, 3) := by decide +kernel
theorem dX8_needWithin_21 : decode cX8_needWithin 21 = .ok (.return_, 1) := by decide +kernel
set_option maxHeartbeats 4000000 in
set_option maxRecDepth 100000 in
/-- needWithin(value, least, most): throws but within -/
theorem x_needWithin (l : Launch) (hfl : l.stackTraces = false) (g : xG) (sz : Nat) (p0 : Int32) (p1 : Int32) (p2 : Int32)  : vx_Met l yX8_needWithin wsX8_needWithin ({ frames := 6, cells := 1, slots := 6, locals := 120 }) (va_Pc [.int p0, .int p1, .int p2] (fun U => xB g [] sz U ∧ xU (va_A [] sz) U)) (va_Qv (fun (u : Unit) => ¬ p0 < p1 ∧ ¬ p2 < p0) (fun _ _ => True) (va_A [] sz)) (vx_X (fun _ : Unit => True) (fun E _ _ => (E = "java/lang/IllegalArgumentException" ∧ (p0 < p1 ∨ p2 < p0))) (va_A [] sz)) 1 6 (va_A [] sz) := by
  refine vx_ofW (cc := cX8_needWithin) (maxL := 3) (ret := none) (by decide) rfl ?_
  intro p e s m args below meth c s₁ B hml htab hv
  obtain ⟨rfl, ⟨hsz, hP, hK, hD0⟩, hU⟩ := hv
  have hx := B.exec
  have hb := B.bytes
  have hr := B.returns
  have hts := atoms_spec (ws := wsX8_needWithin) B.pre
  have hown : s.vm.findClass RX8 = some m.cls := findClass_of_methodNamed B.named
  have hlocks := B.notSynchronized
  subst hsz
  have hD := hD0
  generalize hAe : va_A [] s.heap.size = A at hU ⊢
  have hA : ∀ q : Nat, s.heap.size ≤ q → A q := fun q h => by rw [← hAe]; exact Or.inr h
  have hS : va_S A s.heap s.heap [] := va_S.rf
  have hl := lv_entry ([.int p0, .int p1, .int p2]) (n := 3) (Nat.le_of_ble_eq_true rfl)
  rw [lg_entry_eq]
  generalize (lg_sl ([.int p0, .int p1, .int p2]) ++ List.replicate (3 - (lg_sl ([.int p0, .int p1, .int p2])).length) Slot.unset).toArray = ls at hl ⊢
  have hl : lv_has ls 3 [(0, .int p0), (1, .int p1), (2, .int p2)] := hl
  refine lv_iload_n hx hb dX8_needWithin_0 rfl (lv_at hl 0 rfl) ?_
  refine lv_iload_n hx hb dX8_needWithin_1 rfl (lv_at hl 1 rfl) ?_
  refine lv_icmp_lt (tgt := 10) hx hb dX8_needWithin_2 (by decide) (fun c_1 => ?_) (fun c_1 => ?_)
  · obtain ⟨sa, hstr⟩ := hU.2.2.1 (364, "out of its bounds") (by decide)
    refine vx_throwSW (names := xNm) (cls := "java/lang/IllegalArgumentException") (text := "out of its bounds") (ik := 362) (is := 364) (ic := 366) (A := A) hx hb hfl hown (by decide +kernel) (by decide +kernel) (hts (.classLink RX8 362 "java/lang/IllegalArgumentException") (by decide +kernel)) (hts (.initialized "java/lang/IllegalArgumentException") (by decide +kernel)) hstr (xHat hU (by decide) hts (by decide +kernel) (by decide +kernel)) (by decide +kernel) hU.1 hU.2.1 hS (by rw [hml]; exact hl.1) dX8_needWithin_10 dX8_needWithin_13 dX8_needWithin_14 dX8_needWithin_17 dX8_needWithin_20 (fun x hx => (htab x hx).elim) (Nat.le_of_ble_eq_true rfl) (Nat.le_of_ble_eq_true rfl) (Nat.le_of_ble_eq_true rfl) (Nat.le_of_ble_eq_true rfl) hlocks (fun t9 hal9 hsz9 hk9 => ⟨(), trivial, ⟨rfl, by first | trivial | assumption | simp_all⟩, xFx hS hsz9 hk9⟩) hS.2.2 (Nat.le_of_ble_eq_true rfl) (Nat.le_of_ble_eq_true rfl)
  · refine lv_iload_n hx hb dX8_needWithin_5 rfl (lv_at hl 0 rfl) ?_
    refine lv_iload_n hx hb dX8_needWithin_6 rfl (lv_at hl 2 rfl) ?_
    refine lv_icmp_le (tgt := 21) hx hb dX8_needWithin_7 (by decide) (fun c_2 => ?_) (fun c_2 => ?_)
    · refine vx_ret ?_
      refine W.widen (k := 1) (n := 6) (by omega) (by omega) ?_
      exact W.vret hx hb hr (fun t ht hW => ⟨⟨(), rfl, (by first | trivial | assumption | (refine ⟨?_, ?_⟩ <;> assumption) | (simp only [Int32.lt_iff_toInt_lt, Int32.le_iff_toInt_le, Int32.reduceToInt] at *; omega)), trivial⟩, hS.F ht⟩) hS.2.2 dX8_needWithin_21
    · obtain ⟨sa, hstr⟩ := hU.2.2.1 (364, "out of its bounds") (by decide)
      refine vx_throwSW (names := xNm) (cls := "java/lang/IllegalArgumentException") (text := "out of its bounds") (ik := 362) (is := 364) (ic := 366) (A := A) hx hb hfl hown (by decide +kernel) (by decide +kernel) (hts (.classLink RX8 362 "java/lang/IllegalArgumentException") (by decide +kernel)) (hts (.initialized "java/lang/IllegalArgumentException") (by decide +kernel)) hstr (xHat hU (by decide) hts (by decide +kernel) (by decide +kernel)) (by decide +kernel) hU.1 hU.2.1 hS (by rw [hml]; exact hl.1) dX8_needWithin_10 dX8_needWithin_13 dX8_needWithin_14 dX8_needWithin_17 dX8_needWithin_20 (fun x hx => (htab x hx).elim) (Nat.le_of_ble_eq_true rfl) (Nat.le_of_ble_eq_true rfl) (Nat.le_of_ble_eq_true rfl) (Nat.le_of_ble_eq_true rfl) hlocks (fun t9 hal9 hsz9 hk9 => ⟨(), trivial, ⟨rfl, by first | trivial | assumption | simp_all⟩, xFx hS hsz9 hk9⟩) hS.2.2 (Nat.le_of_ble_eq_true rfl) (Nat.le_of_ble_eq_true rfl)
theorem dX8_needNotNegative_0 : decode cX8_needNotNegative 0 = .ok (.iload_n 0, 1) := by decide +kernel
theorem dX8_needNotNegative_1 : decode cX8_needNotNegative 1 = .ok (.ifCond .ge 14, 3) := by decide +kernel
theorem dX8_needNotNegative_15 : decode cX8_needNotNegative 15 = .ok (.return_, 1) := by decide +kernel
theorem dX8_needNotNegative_4 : decode cX8_needNotNegative 4 = .ok (.new 362, 3) := by decide +kernel
theorem dX8_needNotNegative_7 : decode cX8_needNotNegative 7 = .ok (.dup, 1) := by decide +kernel
theorem dX8_needNotNegative_8 : decode cX8_needNotNegative 8 = .ok (.ldc_w 367, 3) := by decide +kernel
theorem dX8_needNotNegative_11 : decode cX8_needNotNegative 11 = .ok (.invokespecial 366, 3) := by decide +kernel
theorem dX8_needNotNegative_14 : decode cX8_needNotNegative 14 = .ok (.athrow, 1) := by decide +kernel
set_option maxHeartbeats 4000000 in
set_option maxRecDepth 100000 in
theorem x_needNotNegative (l : Launch) (hfl : l.stackTraces = false) (g : xG) (sz : Nat) (p0 : Int32)  : vx_Met l yX8_needNotNegative wsX8_needNotNegative ({ frames := 6, cells := 1, slots := 6, locals := 120 }) (va_Pc [.int p0] (fun U => xB g [] sz U ∧ xU (va_A [] sz) U)) (va_Qv (fun (u : Unit) => ¬ p0 < 0) (fun _ _ => True) (va_A [] sz)) (vx_X (fun _ : Unit => True) (fun E _ _ => (E = "java/lang/IllegalArgumentException" ∧ p0 < 0)) (va_A [] sz)) 1 6 (va_A [] sz) := by
  refine vx_ofW (cc := cX8_needNotNegative) (maxL := 1) (ret := none) (by decide) rfl ?_
  intro p e s m args below meth c s₁ B hml htab hv
  obtain ⟨rfl, ⟨hsz, hP, hK, hD0⟩, hU⟩ := hv
  have hx := B.exec
  have hb := B.bytes
  have hr := B.returns
  have hts := atoms_spec (ws := wsX8_needNotNegative) B.pre
  have hown : s.vm.findClass RX8 = some m.cls := findClass_of_methodNamed B.named
  have hlocks := B.notSynchronized
  subst hsz
  have hD := hD0
  generalize hAe : va_A [] s.heap.size = A at hU ⊢
  have hA : ∀ q : Nat, s.heap.size ≤ q → A q := fun q h => by rw [← hAe]; exact Or.inr h
  have hS : va_S A s.heap s.heap [] := va_S.rf
  have hl := lv_entry ([.int p0]) (n := 1) (Nat.le_of_ble_eq_true rfl)
  rw [lg_entry_eq]
  generalize (lg_sl ([.int p0]) ++ List.replicate (1 - (lg_sl ([.int p0])).length) Slot.unset).toArray = ls at hl ⊢
  have hl : lv_has ls 1 [(0, .int p0)] := hl
  refine lv_iload_n hx hb dX8_needNotNegative_0 rfl (lv_at hl 0 rfl) ?_
  refine lv_if_ge (tgt := 15) hx hb dX8_needNotNegative_1 (by decide) (fun c_1 => ?_) (fun c_1 => ?_)
  · refine vx_ret ?_
    refine W.widen (k := 1) (n := 6) (by omega) (by omega) ?_
    exact W.vret hx hb hr (fun t ht hW => ⟨⟨(), rfl, (by first | trivial | assumption | (refine ⟨?_, ?_⟩ <;> assumption) | (simp only [Int32.lt_iff_toInt_lt, Int32.le_iff_toInt_le, Int32.reduceToInt] at *; omega)), trivial⟩, hS.F ht⟩) hS.2.2 dX8_needNotNegative_15
  · obtain ⟨sa, hstr⟩ := hU.2.2.1 (367, "less than 0") (by decide)
    refine vx_throwSW (names := xNm) (cls := "java/lang/IllegalArgumentException") (text := "less than 0") (ik := 362) (is := 367) (ic := 366) (A := A) hx hb hfl hown (by decide +kernel) (by decide +kernel) (hts (.classLink RX8 362 "java/lang/IllegalArgumentException") (by decide +kernel)) (hts (.initialized "java/lang/IllegalArgumentException") (by decide +kernel)) hstr (xHat hU (by decide) hts (by decide +kernel) (by decide +kernel)) (by decide +kernel) hU.1 hU.2.1 hS (by rw [hml]; exact hl.1) dX8_needNotNegative_4 dX8_needNotNegative_7 dX8_needNotNegative_8 dX8_needNotNegative_11 dX8_needNotNegative_14 (fun x hx => (htab x hx).elim) (Nat.le_of_ble_eq_true rfl) (Nat.le_of_ble_eq_true rfl) (Nat.le_of_ble_eq_true rfl) (Nat.le_of_ble_eq_true rfl) hlocks (fun t9 hal9 hsz9 hk9 => ⟨(), trivial, ⟨rfl, by first | trivial | assumption | (simp only [Int32.lt_iff_toInt_lt, Int32.le_iff_toInt_le] at *; omega)⟩, xFx hS hsz9 hk9⟩) hS.2.2 (Nat.le_of_ble_eq_true rfl) (Nat.le_of_ble_eq_true rfl)
theorem dX8_needSlot_0 : decode cX8_needSlot 0 = .ok (.iload_n 0, 1) := by decide +kernel
theorem dX8_needSlot_1 : decode cX8_needSlot 1 = .ok (.ifCond .lt 9, 3) := by decide +kernel
theorem dX8_needSlot_10 : decode cX8_needSlot 10 = .ok (.new 176, 3) := by decide +kernel
theorem dX8_needSlot_13 : decode cX8_needSlot 13 = .ok (.dup, 1) := by decide +kernel
theorem dX8_needSlot_14 : decode cX8_needSlot 14 = .ok (.ldc_w 375, 3) := by decide +kernel
theorem dX8_needSlot_17 : decode cX8_needSlot 17 = .ok (.invokespecial 180, 3) := by decide +kernel
theorem dX8_needSlot_20 : decode cX8_needSlot 20 = .ok (.athrow, 1) := by decide +kernel
theorem dX8_needSlot_4 : decode cX8_needSlot 4 = .ok (.iload_n 0, 1) := by decide +kernel
theorem dX8_needSlot_5 : decode cX8_needSlot 5 = .ok (.bipush 16, 2) := by decide +kernel
theorem dX8_needSlot_7 : decode cX8_needSlot 7 = .ok (.if_icmp .lt 14, 3) := by decide +kernel
theorem dX8_needSlot_21 : decode cX8_needSlot 21 = .ok (.return_, 1) := by decide +kernel
set_option maxHeartbeats 4000000 in
set_option maxRecDepth 100000 in
theorem x_needSlot (l : Launch) (hfl : l.stackTraces = false) (g : xG) (sz : Nat) (p0 : Int32)  : vx_Met l yX8_needSlot wsX8_needSlot ({ frames := 6, cells := 1, slots := 6, locals := 120 }) (va_Pc [.int p0] (fun U => xB g [] sz U ∧ xU (va_A [] sz) U)) (va_Qv (fun (u : Unit) => ¬ p0 < 0 ∧ p0 < 16) (fun _ _ => True) (va_A [] sz)) (vx_X (fun _ : Unit => True) (fun E _ _ => (E = "java/lang/IndexOutOfBoundsException" ∧ (p0 < 0 ∨ ¬ p0 < 16))) (va_A [] sz)) 1 6 (va_A [] sz) := by
  refine vx_ofW (cc := cX8_needSlot) (maxL := 1) (ret := none) (by decide) rfl ?_
  intro p e s m args below meth c s₁ B hml htab hv
  obtain ⟨rfl, ⟨hsz, hP, hK, hD0⟩, hU⟩ := hv
  have hx := B.exec
  have hb := B.bytes
  have hr := B.returns
  have hts := atoms_spec (ws := wsX8_needSlot) B.pre
  have hown : s.vm.findClass RX8 = some m.cls := findClass_of_methodNamed B.named
  have hlocks := B.notSynchronized
  subst hsz
  have hD := hD0
  generalize hAe : va_A [] s.heap.size = A at hU ⊢
  have hA : ∀ q : Nat, s.heap.size ≤ q → A q := fun q h => by rw [← hAe]; exact Or.inr h
  have hS : va_S A s.heap s.heap [] := va_S.rf
  have hl := lv_entry ([.int p0]) (n := 1) (Nat.le_of_ble_eq_true rfl)
  rw [lg_entry_eq]
  generalize (lg_sl ([.int p0]) ++ List.replicate (1 - (lg_sl ([.int p0])).length) Slot.unset).toArray = ls at hl ⊢
  have hl : lv_has ls 1 [(0, .int p0)] := hl
  refine lv_iload_n hx hb dX8_needSlot_0 rfl (lv_at hl 0 rfl) ?_
  refine lv_if_lt (tgt := 10) hx hb dX8_needSlot_1 (by decide) (fun c_1 => ?_) (fun c_1 => ?_)
  · obtain ⟨sa, hstr⟩ := hU.2.2.1 (375, "no such slot") (by decide)
    refine vx_throwSW (names := xNm) (cls := "java/lang/IndexOutOfBoundsException") (text := "no such slot") (ik := 176) (is := 375) (ic := 180) (A := A) hx hb hfl hown (by decide +kernel) (by decide +kernel) (hts (.classLink RX8 176 "java/lang/IndexOutOfBoundsException") (by decide +kernel)) (hts (.initialized "java/lang/IndexOutOfBoundsException") (by decide +kernel)) hstr (xHat hU (by decide) hts (by decide +kernel) (by decide +kernel)) (by decide +kernel) hU.1 hU.2.1 hS (by rw [hml]; exact hl.1) dX8_needSlot_10 dX8_needSlot_13 dX8_needSlot_14 dX8_needSlot_17 dX8_needSlot_20 (fun x hx => (htab x hx).elim) (Nat.le_of_ble_eq_true rfl) (Nat.le_of_ble_eq_true rfl) (Nat.le_of_ble_eq_true rfl) (Nat.le_of_ble_eq_true rfl) hlocks (fun t9 hal9 hsz9 hk9 => ⟨(), trivial, ⟨rfl, by first | trivial | assumption | (simp only [Int32.lt_iff_toInt_lt, Int32.le_iff_toInt_le] at *; omega)⟩, xFx hS hsz9 hk9⟩) hS.2.2 (Nat.le_of_ble_eq_true rfl) (Nat.le_of_ble_eq_true rfl)
  · refine lv_iload_n hx hb dX8_needSlot_4 rfl (lv_at hl 0 rfl) ?_
    refine lv_bipush (v := 16) hx hb dX8_needSlot_5 (by decide) ?_
    refine lv_icmp_lt (tgt := 21) hx hb dX8_needSlot_7 (by decide) (fun c_2 => ?_) (fun c_2 => ?_)
    · refine vx_ret ?_
      refine W.widen (k := 1) (n := 6) (by omega) (by omega) ?_
      exact W.vret hx hb hr (fun t ht hW => ⟨⟨(), rfl, (by first | trivial | assumption | (refine ⟨?_, ?_⟩ <;> assumption) | (simp only [Int32.lt_iff_toInt_lt, Int32.le_iff_toInt_le, Int32.reduceToInt] at *; omega)), trivial⟩, hS.F ht⟩) hS.2.2 dX8_needSlot_21
    · obtain ⟨sa, hstr⟩ := hU.2.2.1 (375, "no such slot") (by decide)
      refine vx_throwSW (names := xNm) (cls := "java/lang/IndexOutOfBoundsException") (text := "no such slot") (ik := 176) (is := 375) (ic := 180) (A := A) hx hb hfl hown (by decide +kernel) (by decide +kernel) (hts (.classLink RX8 176 "java/lang/IndexOutOfBoundsException") (by decide +kernel)) (hts (.initialized "java/lang/IndexOutOfBoundsException") (by decide +kernel)) hstr (xHat hU (by decide) hts (by decide +kernel) (by decide +kernel)) (by decide +kernel) hU.1 hU.2.1 hS (by rw [hml]; exact hl.1) dX8_needSlot_10 dX8_needSlot_13 dX8_needSlot_14 dX8_needSlot_17 dX8_needSlot_20 (fun x hx => (htab x hx).elim) (Nat.le_of_ble_eq_true rfl) (Nat.le_of_ble_eq_true rfl) (Nat.le_of_ble_eq_true rfl) (Nat.le_of_ble_eq_true rfl) hlocks (fun t9 hal9 hsz9 hk9 => ⟨(), trivial, ⟨rfl, by first | trivial | assumption | (simp only [Int32.lt_iff_toInt_lt, Int32.le_iff_toInt_le] at *; omega)⟩, xFx hS hsz9 hk9⟩) hS.2.2 (Nat.le_of_ble_eq_true rfl) (Nat.le_of_ble_eq_true rfl)
theorem dX8_needVessel_0 : decode cX8_needVessel 0 = .ok (.iload_n 1, 1) := by decide +kernel
theorem dX8_needVessel_1 : decode cX8_needVessel 1 = .ok (.ifCond .lt 11, 3) := by decide +kernel
theorem dX8_needVessel_12 : decode cX8_needVessel 12 = .ok (.new 176, 3) := by decide +kernel
theorem dX8_needVessel_15 : decode cX8_needVessel 15 = .ok (.dup, 1) := by decide +kernel
theorem dX8_needVessel_16 : decode cX8_needVessel 16 = .ok (.ldc_w 369, 3) := by decide +kernel
theorem dX8_needVessel_19 : decode cX8_needVessel 19 = .ok (.invokespecial 180, 3) := by decide +kernel
theorem dX8_needVessel_22 : decode cX8_needVessel 22 = .ok (.athrow, 1) := by decide +kernel
theorem dX8_needVessel_4 : decode cX8_needVessel 4 = .ok (.iload_n 1, 1) := by decide +kernel
theorem dX8_needVessel_5 : decode cX8_needVessel 5 = .ok (.aload_n 0, 1) := by decide +kernel
theorem dX8_needVessel_6 : decode cX8_needVessel 6 = .ok (.getfield 95, 3) := by decide +kernel
theorem dX8_needVessel_9 : decode cX8_needVessel 9 = .ok (.if_icmp .lt 14, 3) := by decide +kernel
theorem dX8_needVessel_23 : decode cX8_needVessel 23 = .ok (.return_, 1) := by decide +kernel
set_option maxHeartbeats 4000000 in
set_option maxRecDepth 100000 in
theorem x_needVessel (l : Launch) (hfl : l.stackTraces = false) (g : xG) (sz : Nat) (h0 : Nat) (f0 : Value) (f1 : Value) (f3 : Value) (f4 : Value) (f5 : Value) (f6 : Value) (f7 : Value) (f8 : Value) (f9 : Value) (f10 : Value) (f11 : Value) (f12 : Value) (f13 : Value) (f14 : Value) (vc : Int32) (p0 : Int32)  : vx_Met l yX8_needVessel wsX8_needVessel ({ frames := 6, cells := 1, slots := 6, locals := 120 }) (va_Pc [.ref h0, .int p0] (fun U => xB g [(h0, .inr (8, [f0, f1, .int vc, f3, f4, f5, f6, f7, f8, f9, f10, f11, f12, f13, f14]))] sz U ∧ xU (va_A [] sz) U)) (va_Qv (fun (u : Unit) => ¬ p0 < 0 ∧ p0 < vc) (fun _ _ => True) (va_A [] sz)) (vx_X (fun _ : Unit => True) (fun E _ _ => (E = "java/lang/IndexOutOfBoundsException" ∧ (p0 < 0 ∨ ¬ p0 < vc))) (va_A [] sz)) 1 6 (va_A [] sz) := by
  refine vx_ofW (cc := cX8_needVessel) (maxL := 2) (ret := none) (by decide) rfl ?_
  intro p e s m args below meth c s₁ B hml htab hv
  obtain ⟨rfl, ⟨hsz, hP, hK, hD0⟩, hU⟩ := hv
  have hx := B.exec
  have hb := B.bytes
  have hr := B.returns
  have hts := atoms_spec (ws := wsX8_needVessel) B.pre
  have hown : s.vm.findClass RX8 = some m.cls := findClass_of_methodNamed B.named
  have hlocks := B.notSynchronized
  subst hsz
  have hD := hD0
  generalize hAe : va_A [] s.heap.size = A at hU ⊢
  have hA : ∀ q : Nat, s.heap.size ≤ q → A q := fun q h => by rw [← hAe]; exact Or.inr h
  have hS : va_S A s.heap s.heap [] := va_S.rf
  have hl := lv_entry ([.ref h0, .int p0]) (n := 2) (Nat.le_of_ble_eq_true rfl)
  rw [lg_entry_eq]
  generalize (lg_sl ([.ref h0, .int p0]) ++ List.replicate (2 - (lg_sl ([.ref h0, .int p0])).length) Slot.unset).toArray = ls at hl ⊢
  have hl : lv_has ls 2 [(0, .ref h0), (1, .int p0)] := hl
  have hFX8 : ∀ w ∈ u_ws RX8 TX8 15, w ∈ wsX8_needVessel := by decide +kernel
  refine lv_iload_n hx hb dX8_needVessel_0 rfl (lv_at hl 1 rfl) ?_
  refine lv_if_lt (tgt := 12) hx hb dX8_needVessel_1 (by decide) (fun c_1 => ?_) (fun c_1 => ?_)
  · obtain ⟨sa, hstr⟩ := hU.2.2.1 (369, "no such vessel") (by decide)
    refine vx_throwSW (names := xNm) (cls := "java/lang/IndexOutOfBoundsException") (text := "no such vessel") (ik := 176) (is := 369) (ic := 180) (A := A) hx hb hfl hown (by decide +kernel) (by decide +kernel) (hts (.classLink RX8 176 "java/lang/IndexOutOfBoundsException") (by decide +kernel)) (hts (.initialized "java/lang/IndexOutOfBoundsException") (by decide +kernel)) hstr (xHat hU (by decide) hts (by decide +kernel) (by decide +kernel)) (by decide +kernel) hU.1 hU.2.1 hS (by rw [hml]; exact hl.1) dX8_needVessel_12 dX8_needVessel_15 dX8_needVessel_16 dX8_needVessel_19 dX8_needVessel_22 (fun x hx => (htab x hx).elim) (Nat.le_of_ble_eq_true rfl) (Nat.le_of_ble_eq_true rfl) (Nat.le_of_ble_eq_true rfl) (Nat.le_of_ble_eq_true rfl) hlocks (fun t9 hal9 hsz9 hk9 => ⟨(), trivial, ⟨rfl, by first | trivial | assumption | (simp only [Int32.lt_iff_toInt_lt, Int32.le_iff_toInt_le] at *; omega)⟩, xFx hS hsz9 hk9⟩) hS.2.2 (Nat.le_of_ble_eq_true rfl) (Nat.le_of_ble_eq_true rfl)
  · refine lv_iload_n hx hb dX8_needVessel_4 rfl (lv_at hl 1 rfl) ?_
    refine lv_aload_n hx hb dX8_needVessel_5 rfl (lv_at hl 0 rfl) ?_
    refine va_get (D := xD g) (ci := 8) (v := .int vc) (C := RX8) (T := TX8) (N := 15) hx hb hts hFX8 hown hK hP 0 rfl rfl 2 (by decide) (hts (.fieldLink RX8 95 "Stevedore" "vesselCount" "I") (by decide +kernel)) (fun _ h9 => h9) rfl dX8_needVessel_6 ?_
    refine lv_icmp_lt (tgt := 23) hx hb dX8_needVessel_9 (by decide) (fun c_2 => ?_) (fun c_2 => ?_)
    · refine vx_ret ?_
      refine W.widen (k := 1) (n := 6) (by omega) (by omega) ?_
      exact W.vret hx hb hr (fun t ht hW => ⟨⟨(), rfl, (by first | trivial | assumption | (refine ⟨?_, ?_⟩ <;> assumption) | (simp only [Int32.lt_iff_toInt_lt, Int32.le_iff_toInt_le, Int32.reduceToInt] at *; omega)), trivial⟩, hS.F ht⟩) hS.2.2 dX8_needVessel_23
    · obtain ⟨sa, hstr⟩ := hU.2.2.1 (369, "no such vessel") (by decide)
      refine vx_throwSW (names := xNm) (cls := "java/lang/IndexOutOfBoundsException") (text := "no such vessel") (ik := 176) (is := 369) (ic := 180) (A := A) hx hb hfl hown (by decide +kernel) (by decide +kernel) (hts (.classLink RX8 176 "java/lang/IndexOutOfBoundsException") (by decide +kernel)) (hts (.initialized "java/lang/IndexOutOfBoundsException") (by decide +kernel)) hstr (xHat hU (by decide) hts (by decide +kernel) (by decide +kernel)) (by decide +kernel) hU.1 hU.2.1 hS (by rw [hml]; exact hl.1) dX8_needVessel_12 dX8_needVessel_15 dX8_needVessel_16 dX8_needVessel_19 dX8_needVessel_22 (fun x hx => (htab x hx).elim) (Nat.le_of_ble_eq_true rfl) (Nat.le_of_ble_eq_true rfl) (Nat.le_of_ble_eq_true rfl) (Nat.le_of_ble_eq_true rfl) hlocks (fun t9 hal9 hsz9 hk9 => ⟨(), trivial, ⟨rfl, by first | trivial | assumption | (simp only [Int32.lt_iff_toInt_lt, Int32.le_iff_toInt_le] at *; omega)⟩, xFx hS hsz9 hk9⟩) hS.2.2 (Nat.le_of_ble_eq_true rfl) (Nat.le_of_ble_eq_true rfl)
theorem dX8_needSomeVessel_0 : decode cX8_needSomeVessel 0 = .ok (.aload_n 0, 1) := by decide +kernel
theorem dX8_needSomeVessel_1 : decode cX8_needSomeVessel 1 = .ok (.getfield 95, 3) := by decide +kernel
theorem dX8_needSomeVessel_4 : decode cX8_needSomeVessel 4 = .ok (.ifCond .gt 14, 3) := by decide +kernel
theorem dX8_needSomeVessel_18 : decode cX8_needSomeVessel 18 = .ok (.return_, 1) := by decide +kernel
theorem dX8_needSomeVessel_7 : decode cX8_needSomeVessel 7 = .ok (.new 98, 3) := by decide +kernel
theorem dX8_needSomeVessel_10 : decode cX8_needSomeVessel 10 = .ok (.dup, 1) := by decide +kernel
theorem dX8_needSomeVessel_11 : decode cX8_needSomeVessel 11 = .ok (.ldc_w 381, 3) := by decide +kernel
theorem dX8_needSomeVessel_14 : decode cX8_needSomeVessel 14 = .ok (.invokespecial 102, 3) := by decide +kernel
theorem dX8_needSomeVessel_17 : decode cX8_needSomeVessel 17 = .ok (.athrow, 1) := by decide +kernel
set_option maxHeartbeats 4000000 in
set_option maxRecDepth 100000 in
theorem x_needSomeVessel (l : Launch) (hfl : l.stackTraces = false) (g : xG) (sz : Nat) (h0 : Nat) (f0 : Value) (f1 : Value) (f3 : Value) (f4 : Value) (f5 : Value) (f6 : Value) (f7 : Value) (f8 : Value) (f9 : Value) (f10 : Value) (f11 : Value) (f12 : Value) (f13 : Value) (f14 : Value) (vc : Int32)  : vx_Met l yX8_needSomeVessel wsX8_needSomeVessel ({ frames := 6, cells := 1, slots := 6, locals := 120 }) (va_Pc [.ref h0] (fun U => xB g [(h0, .inr (8, [f0, f1, .int vc, f3, f4, f5, f6, f7, f8, f9, f10, f11, f12, f13, f14]))] sz U ∧ xU (va_A [] sz) U)) (va_Qv (fun (u : Unit) => 0 < vc) (fun _ _ => True) (va_A [] sz)) (vx_X (fun _ : Unit => True) (fun E _ _ => (E = "java/lang/IllegalStateException" ∧ ¬ 0 < vc)) (va_A [] sz)) 1 6 (va_A [] sz) := by
  refine vx_ofW (cc := cX8_needSomeVessel) (maxL := 1) (ret := none) (by decide) rfl ?_
  intro p e s m args below meth c s₁ B hml htab hv
  obtain ⟨rfl, ⟨hsz, hP, hK, hD0⟩, hU⟩ := hv
  have hx := B.exec
  have hb := B.bytes
  have hr := B.returns
  have hts := atoms_spec (ws := wsX8_needSomeVessel) B.pre
  have hown : s.vm.findClass RX8 = some m.cls := findClass_of_methodNamed B.named
  have hlocks := B.notSynchronized
  subst hsz
  have hD := hD0
  generalize hAe : va_A [] s.heap.size = A at hU ⊢
  have hA : ∀ q : Nat, s.heap.size ≤ q → A q := fun q h => by rw [← hAe]; exact Or.inr h
  have hS : va_S A s.heap s.heap [] := va_S.rf
  have hl := lv_entry ([.ref h0]) (n := 1) (Nat.le_of_ble_eq_true rfl)
  rw [lg_entry_eq]
  generalize (lg_sl ([.ref h0]) ++ List.replicate (1 - (lg_sl ([.ref h0])).length) Slot.unset).toArray = ls at hl ⊢
  have hl : lv_has ls 1 [(0, .ref h0)] := hl
  have hFX8 : ∀ w ∈ u_ws RX8 TX8 15, w ∈ wsX8_needSomeVessel := by decide +kernel
  refine lv_aload_n hx hb dX8_needSomeVessel_0 rfl (lv_at hl 0 rfl) ?_
  refine va_get (D := xD g) (ci := 8) (v := .int vc) (C := RX8) (T := TX8) (N := 15) hx hb hts hFX8 hown hK hP 0 rfl rfl 2 (by decide) (hts (.fieldLink RX8 95 "Stevedore" "vesselCount" "I") (by decide +kernel)) (fun _ h9 => h9) rfl dX8_needSomeVessel_1 ?_
  refine lv_if_gt (tgt := 18) hx hb dX8_needSomeVessel_4 (by decide) (fun c_1 => ?_) (fun c_1 => ?_)
  · refine vx_ret ?_
    refine W.widen (k := 1) (n := 6) (by omega) (by omega) ?_
    exact W.vret hx hb hr (fun t ht hW => ⟨⟨(), rfl, (by first | trivial | assumption | (refine ⟨?_, ?_⟩ <;> assumption) | (simp only [Int32.lt_iff_toInt_lt, Int32.le_iff_toInt_le, Int32.reduceToInt] at *; omega)), trivial⟩, hS.F ht⟩) hS.2.2 dX8_needSomeVessel_18
  · obtain ⟨sa, hstr⟩ := hU.2.2.1 (381, "no vessel") (by decide)
    refine vx_throwSW (names := xNm) (cls := "java/lang/IllegalStateException") (text := "no vessel") (ik := 98) (is := 381) (ic := 102) (A := A) hx hb hfl hown (by decide +kernel) (by decide +kernel) (hts (.classLink RX8 98 "java/lang/IllegalStateException") (by decide +kernel)) (hts (.initialized "java/lang/IllegalStateException") (by decide +kernel)) hstr (xHat hU (by decide) hts (by decide +kernel) (by decide +kernel)) (by decide +kernel) hU.1 hU.2.1 hS (by rw [hml]; exact hl.1) dX8_needSomeVessel_7 dX8_needSomeVessel_10 dX8_needSomeVessel_11 dX8_needSomeVessel_14 dX8_needSomeVessel_17 (fun x hx => (htab x hx).elim) (Nat.le_of_ble_eq_true rfl) (Nat.le_of_ble_eq_true rfl) (Nat.le_of_ble_eq_true rfl) (Nat.le_of_ble_eq_true rfl) hlocks (fun t9 hal9 hsz9 hk9 => ⟨(), trivial, ⟨rfl, by first | trivial | assumption | (simp only [Int32.lt_iff_toInt_lt, Int32.le_iff_toInt_le] at *; omega)⟩, xFx hS hsz9 hk9⟩) hS.2.2 (Nat.le_of_ble_eq_true rfl) (Nat.le_of_ble_eq_true rfl)
theorem dX8_needContainer_0 : decode cX8_needContainer 0 = .ok (.iload_n 1, 1) := by decide +kernel
theorem dX8_needContainer_1 : decode cX8_needContainer 1 = .ok (.ifCond .lt 14, 3) := by decide +kernel
theorem dX8_needContainer_15 : decode cX8_needContainer 15 = .ok (.new 176, 3) := by decide +kernel
theorem dX8_needContainer_18 : decode cX8_needContainer 18 = .ok (.dup, 1) := by decide +kernel
theorem dX8_needContainer_19 : decode cX8_needContainer 19 = .ok (.ldc_w 373, 3) := by decide +kernel
theorem dX8_needContainer_22 : decode cX8_needContainer 22 = .ok (.invokespecial 180, 3) := by decide +kernel
theorem dX8_needContainer_25 : decode cX8_needContainer 25 = .ok (.athrow, 1) := by decide +kernel
theorem dX8_needContainer_4 : decode cX8_needContainer 4 = .ok (.iload_n 1, 1) := by decide +kernel
theorem dX8_needContainer_5 : decode cX8_needContainer 5 = .ok (.aload_n 0, 1) := by decide +kernel
theorem dX8_needContainer_6 : decode cX8_needContainer 6 = .ok (.getfield 26, 3) := by decide +kernel
theorem dX8_needContainer_9 : decode cX8_needContainer 9 = .ok (.getfield 129, 3) := by decide +kernel
theorem dX8_needContainer_12 : decode cX8_needContainer 12 = .ok (.if_icmp .lt 14, 3) := by decide +kernel
theorem dX8_needContainer_26 : decode cX8_needContainer 26 = .ok (.return_, 1) := by decide +kernel
set_option maxHeartbeats 4000000 in
set_option maxRecDepth 100000 in
theorem x_needContainer (l : Launch) (hfl : l.stackTraces = false) (g : xG) (sz : Nat) (h0 : Nat) (cg : Nat) (f0 : Value) (f1 : Value) (f2 : Value) (f3 : Value) (f5 : Value) (f6 : Value) (f7 : Value) (f8 : Value) (f9 : Value) (f10 : Value) (f11 : Value) (f12 : Value) (f13 : Value) (f14 : Value) (c1 : Value) (c2 : Value) (c3 : Value) (c4 : Value) (c5 : Value) (cc : Int32) (p0 : Int32)  : vx_Met l yX8_needContainer wsX8_needContainer ({ frames := 6, cells := 1, slots := 6, locals := 120 }) (va_Pc [.ref h0, .int p0] (fun U => xB g [(h0, .inr (8, [f0, f1, f2, f3, .ref cg, f5, f6, f7, f8, f9, f10, f11, f12, f13, f14])), (cg, .inr (2, [.int cc, c1, c2, c3, c4, c5]))] sz U ∧ xU (va_A [] sz) U)) (va_Qv (fun (u : Unit) => ¬ p0 < 0 ∧ p0 < cc) (fun _ _ => True) (va_A [] sz)) (vx_X (fun _ : Unit => True) (fun E _ _ => (E = "java/lang/IndexOutOfBoundsException" ∧ (p0 < 0 ∨ ¬ p0 < cc))) (va_A [] sz)) 1 6 (va_A [] sz) := by
  refine vx_ofW (cc := cX8_needContainer) (maxL := 2) (ret := none) (by decide) rfl ?_
  intro p e s m args below meth c s₁ B hml htab hv
  obtain ⟨rfl, ⟨hsz, hP, hK, hD0⟩, hU⟩ := hv
  have hx := B.exec
  have hb := B.bytes
  have hr := B.returns
  have hts := atoms_spec (ws := wsX8_needContainer) B.pre
  have hown : s.vm.findClass RX8 = some m.cls := findClass_of_methodNamed B.named
  have hlocks := B.notSynchronized
  subst hsz
  have hD := hD0
  generalize hAe : va_A [] s.heap.size = A at hU ⊢
  have hA : ∀ q : Nat, s.heap.size ≤ q → A q := fun q h => by rw [← hAe]; exact Or.inr h
  have hS : va_S A s.heap s.heap [] := va_S.rf
  have hl := lv_entry ([.ref h0, .int p0]) (n := 2) (Nat.le_of_ble_eq_true rfl)
  rw [lg_entry_eq]
  generalize (lg_sl ([.ref h0, .int p0]) ++ List.replicate (2 - (lg_sl ([.ref h0, .int p0])).length) Slot.unset).toArray = ls at hl ⊢
  have hl : lv_has ls 2 [(0, .ref h0), (1, .int p0)] := hl
  have hFX2 : ∀ w ∈ u_ws RX2 TX2 6, w ∈ wsX8_needContainer := by decide +kernel
  have hFX8 : ∀ w ∈ u_ws RX8 TX8 15, w ∈ wsX8_needContainer := by decide +kernel
  refine lv_iload_n hx hb dX8_needContainer_0 rfl (lv_at hl 1 rfl) ?_
  refine lv_if_lt (tgt := 15) hx hb dX8_needContainer_1 (by decide) (fun c_1 => ?_) (fun c_1 => ?_)
  · obtain ⟨sa, hstr⟩ := hU.2.2.1 (373, "no such container") (by decide)
    refine vx_throwSW (names := xNm) (cls := "java/lang/IndexOutOfBoundsException") (text := "no such container") (ik := 176) (is := 373) (ic := 180) (A := A) hx hb hfl hown (by decide +kernel) (by decide +kernel) (hts (.classLink RX8 176 "java/lang/IndexOutOfBoundsException") (by decide +kernel)) (hts (.initialized "java/lang/IndexOutOfBoundsException") (by decide +kernel)) hstr (xHat hU (by decide) hts (by decide +kernel) (by decide +kernel)) (by decide +kernel) hU.1 hU.2.1 hS (by rw [hml]; exact hl.1) dX8_needContainer_15 dX8_needContainer_18 dX8_needContainer_19 dX8_needContainer_22 dX8_needContainer_25 (fun x hx => (htab x hx).elim) (Nat.le_of_ble_eq_true rfl) (Nat.le_of_ble_eq_true rfl) (Nat.le_of_ble_eq_true rfl) (Nat.le_of_ble_eq_true rfl) hlocks (fun t9 hal9 hsz9 hk9 => ⟨(), trivial, ⟨rfl, by first | trivial | assumption | (simp only [Int32.lt_iff_toInt_lt, Int32.le_iff_toInt_le] at *; omega)⟩, xFx hS hsz9 hk9⟩) hS.2.2 (Nat.le_of_ble_eq_true rfl) (Nat.le_of_ble_eq_true rfl)
  · refine lv_iload_n hx hb dX8_needContainer_4 rfl (lv_at hl 1 rfl) ?_
    refine lv_aload_n hx hb dX8_needContainer_5 rfl (lv_at hl 0 rfl) ?_
    refine va_get (D := xD g) (ci := 8) (v := .ref cg) (C := RX8) (T := TX8) (N := 15) hx hb hts hFX8 hown hK hP 0 rfl rfl 4 (by decide) (hts (.fieldLink RX8 26 "Stevedore" "cargo" "LStevedore$Cargo;") (by decide +kernel)) (fun _ h9 => h9) rfl dX8_needContainer_6 ?_
    refine va_get (D := xD g) (ci := 2) (v := .int cc) (C := RX2) (T := TX2) (N := 6) hx hb hts hFX2 hown hK hP 1 rfl rfl 0 (by decide) (hts (.fieldLink RX8 129 "Stevedore$Cargo" "count" "I") (by decide +kernel)) (fun _ h9 => h9) rfl dX8_needContainer_9 ?_
    refine lv_icmp_lt (tgt := 26) hx hb dX8_needContainer_12 (by decide) (fun c_2 => ?_) (fun c_2 => ?_)
    · refine vx_ret ?_
      refine W.widen (k := 1) (n := 6) (by omega) (by omega) ?_
      exact W.vret hx hb hr (fun t ht hW => ⟨⟨(), rfl, (by first | trivial | assumption | (refine ⟨?_, ?_⟩ <;> assumption) | (simp only [Int32.lt_iff_toInt_lt, Int32.le_iff_toInt_le, Int32.reduceToInt] at *; omega)), trivial⟩, hS.F ht⟩) hS.2.2 dX8_needContainer_26
    · obtain ⟨sa, hstr⟩ := hU.2.2.1 (373, "no such container") (by decide)
      refine vx_throwSW (names := xNm) (cls := "java/lang/IndexOutOfBoundsException") (text := "no such container") (ik := 176) (is := 373) (ic := 180) (A := A) hx hb hfl hown (by decide +kernel) (by decide +kernel) (hts (.classLink RX8 176 "java/lang/IndexOutOfBoundsException") (by decide +kernel)) (hts (.initialized "java/lang/IndexOutOfBoundsException") (by decide +kernel)) hstr (xHat hU (by decide) hts (by decide +kernel) (by decide +kernel)) (by decide +kernel) hU.1 hU.2.1 hS (by rw [hml]; exact hl.1) dX8_needContainer_15 dX8_needContainer_18 dX8_needContainer_19 dX8_needContainer_22 dX8_needContainer_25 (fun x hx => (htab x hx).elim) (Nat.le_of_ble_eq_true rfl) (Nat.le_of_ble_eq_true rfl) (Nat.le_of_ble_eq_true rfl) (Nat.le_of_ble_eq_true rfl) hlocks (fun t9 hal9 hsz9 hk9 => ⟨(), trivial, ⟨rfl, by first | trivial | assumption | (simp only [Int32.lt_iff_toInt_lt, Int32.le_iff_toInt_le] at *; omega)⟩, xFx hS hsz9 hk9⟩) hS.2.2 (Nat.le_of_ble_eq_true rfl) (Nat.le_of_ble_eq_true rfl)
theorem dX8_needStack_0 : decode cX8_needStack 0 = .ok (.iload_n 1, 1) := by decide +kernel
theorem dX8_needStack_1 : decode cX8_needStack 1 = .ok (.ifCond .lt 14, 3) := by decide +kernel
theorem dX8_needStack_15 : decode cX8_needStack 15 = .ok (.new 176, 3) := by decide +kernel
theorem dX8_needStack_18 : decode cX8_needStack 18 = .ok (.dup, 1) := by decide +kernel
theorem dX8_needStack_19 : decode cX8_needStack 19 = .ok (.ldc_w 377, 3) := by decide +kernel
theorem dX8_needStack_22 : decode cX8_needStack 22 = .ok (.invokespecial 180, 3) := by decide +kernel
theorem dX8_needStack_25 : decode cX8_needStack 25 = .ok (.athrow, 1) := by decide +kernel
theorem dX8_needStack_4 : decode cX8_needStack 4 = .ok (.iload_n 1, 1) := by decide +kernel
theorem dX8_needStack_5 : decode cX8_needStack 5 = .ok (.aload_n 0, 1) := by decide +kernel
theorem dX8_needStack_6 : decode cX8_needStack 6 = .ok (.getfield 81, 3) := by decide +kernel
theorem dX8_needStack_9 : decode cX8_needStack 9 = .ok (.getfield 162, 3) := by decide +kernel
theorem dX8_needStack_12 : decode cX8_needStack 12 = .ok (.if_icmp .lt 14, 3) := by decide +kernel
theorem dX8_needStack_26 : decode cX8_needStack 26 = .ok (.return_, 1) := by decide +kernel
set_option maxHeartbeats 4000000 in
set_option maxRecDepth 100000 in
theorem x_needStack (l : Launch) (hfl : l.stackTraces = false) (g : xG) (sz : Nat) (h0 : Nat) (yd : Nat) (f0 : Value) (f1 : Value) (f2 : Value) (f3 : Value) (f4 : Value) (f5 : Value) (f6 : Value) (f7 : Value) (f8 : Value) (f9 : Value) (f10 : Value) (f11 : Value) (f12 : Value) (f14 : Value) (y1 : Value) (y2 : Value) (y3 : Value) (y4 : Value) (y5 : Value) (y6 : Value) (y7 : Value) (y8 : Value) (y9 : Value) (y10 : Value) (sc : Int32) (p0 : Int32)  : vx_Met l yX8_needStack wsX8_needStack ({ frames := 6, cells := 1, slots := 6, locals := 120 }) (va_Pc [.ref h0, .int p0] (fun U => xB g [(h0, .inr (8, [f0, f1, f2, f3, f4, f5, f6, f7, f8, f9, f10, f11, f12, .ref yd, f14])), (yd, .inr (7, [.int sc, y1, y2, y3, y4, y5, y6, y7, y8, y9, y10]))] sz U ∧ xU (va_A [] sz) U)) (va_Qv (fun (u : Unit) => ¬ p0 < 0 ∧ p0 < sc) (fun _ _ => True) (va_A [] sz)) (vx_X (fun _ : Unit => True) (fun E _ _ => (E = "java/lang/IndexOutOfBoundsException" ∧ (p0 < 0 ∨ ¬ p0 < sc))) (va_A [] sz)) 1 6 (va_A [] sz) := by
  refine vx_ofW (cc := cX8_needStack) (maxL := 2) (ret := none) (by decide) rfl ?_
  intro p e s m args below meth c s₁ B hml htab hv
  obtain ⟨rfl, ⟨hsz, hP, hK, hD0⟩, hU⟩ := hv
  have hx := B.exec
  have hb := B.bytes
  have hr := B.returns
  have hts := atoms_spec (ws := wsX8_needStack) B.pre
  have hown : s.vm.findClass RX8 = some m.cls := findClass_of_methodNamed B.named
  have hlocks := B.notSynchronized
  subst hsz
  have hD := hD0
  generalize hAe : va_A [] s.heap.size = A at hU ⊢
  have hA : ∀ q : Nat, s.heap.size ≤ q → A q := fun q h => by rw [← hAe]; exact Or.inr h
  have hS : va_S A s.heap s.heap [] := va_S.rf
  have hl := lv_entry ([.ref h0, .int p0]) (n := 2) (Nat.le_of_ble_eq_true rfl)
  rw [lg_entry_eq]
  generalize (lg_sl ([.ref h0, .int p0]) ++ List.replicate (2 - (lg_sl ([.ref h0, .int p0])).length) Slot.unset).toArray = ls at hl ⊢
  have hl : lv_has ls 2 [(0, .ref h0), (1, .int p0)] := hl
  have hFX7 : ∀ w ∈ u_ws RX7 TX7 11, w ∈ wsX8_needStack := by decide +kernel
  have hFX8 : ∀ w ∈ u_ws RX8 TX8 15, w ∈ wsX8_needStack := by decide +kernel
  refine lv_iload_n hx hb dX8_needStack_0 rfl (lv_at hl 1 rfl) ?_
  refine lv_if_lt (tgt := 15) hx hb dX8_needStack_1 (by decide) (fun c_1 => ?_) (fun c_1 => ?_)
  · obtain ⟨sa, hstr⟩ := hU.2.2.1 (377, "no such stack") (by decide)
    refine vx_throwSW (names := xNm) (cls := "java/lang/IndexOutOfBoundsException") (text := "no such stack") (ik := 176) (is := 377) (ic := 180) (A := A) hx hb hfl hown (by decide +kernel) (by decide +kernel) (hts (.classLink RX8 176 "java/lang/IndexOutOfBoundsException") (by decide +kernel)) (hts (.initialized "java/lang/IndexOutOfBoundsException") (by decide +kernel)) hstr (xHat hU (by decide) hts (by decide +kernel) (by decide +kernel)) (by decide +kernel) hU.1 hU.2.1 hS (by rw [hml]; exact hl.1) dX8_needStack_15 dX8_needStack_18 dX8_needStack_19 dX8_needStack_22 dX8_needStack_25 (fun x hx => (htab x hx).elim) (Nat.le_of_ble_eq_true rfl) (Nat.le_of_ble_eq_true rfl) (Nat.le_of_ble_eq_true rfl) (Nat.le_of_ble_eq_true rfl) hlocks (fun t9 hal9 hsz9 hk9 => ⟨(), trivial, ⟨rfl, by first | trivial | assumption | (simp only [Int32.lt_iff_toInt_lt, Int32.le_iff_toInt_le] at *; omega)⟩, xFx hS hsz9 hk9⟩) hS.2.2 (Nat.le_of_ble_eq_true rfl) (Nat.le_of_ble_eq_true rfl)
  · refine lv_iload_n hx hb dX8_needStack_4 rfl (lv_at hl 1 rfl) ?_
    refine lv_aload_n hx hb dX8_needStack_5 rfl (lv_at hl 0 rfl) ?_
    refine va_get (D := xD g) (ci := 8) (v := .ref yd) (C := RX8) (T := TX8) (N := 15) hx hb hts hFX8 hown hK hP 0 rfl rfl 13 (by decide) (hts (.fieldLink RX8 81 "Stevedore" "yard" "LStevedore$Yard;") (by decide +kernel)) (fun _ h9 => h9) rfl dX8_needStack_6 ?_
    refine va_get (D := xD g) (ci := 7) (v := .int sc) (C := RX7) (T := TX7) (N := 11) hx hb hts hFX7 hown hK hP 1 rfl rfl 0 (by decide) (hts (.fieldLink RX8 162 "Stevedore$Yard" "stackCount" "I") (by decide +kernel)) (fun _ h9 => h9) rfl dX8_needStack_9 ?_
    refine lv_icmp_lt (tgt := 26) hx hb dX8_needStack_12 (by decide) (fun c_2 => ?_) (fun c_2 => ?_)
    · refine vx_ret ?_
      refine W.widen (k := 1) (n := 6) (by omega) (by omega) ?_
      exact W.vret hx hb hr (fun t ht hW => ⟨⟨(), rfl, (by first | trivial | assumption | (refine ⟨?_, ?_⟩ <;> assumption) | (simp only [Int32.lt_iff_toInt_lt, Int32.le_iff_toInt_le, Int32.reduceToInt] at *; omega)), trivial⟩, hS.F ht⟩) hS.2.2 dX8_needStack_26
    · obtain ⟨sa, hstr⟩ := hU.2.2.1 (377, "no such stack") (by decide)
      refine vx_throwSW (names := xNm) (cls := "java/lang/IndexOutOfBoundsException") (text := "no such stack") (ik := 176) (is := 377) (ic := 180) (A := A) hx hb hfl hown (by decide +kernel) (by decide +kernel) (hts (.classLink RX8 176 "java/lang/IndexOutOfBoundsException") (by decide +kernel)) (hts (.initialized "java/lang/IndexOutOfBoundsException") (by decide +kernel)) hstr (xHat hU (by decide) hts (by decide +kernel) (by decide +kernel)) (by decide +kernel) hU.1 hU.2.1 hS (by rw [hml]; exact hl.1) dX8_needStack_15 dX8_needStack_18 dX8_needStack_19 dX8_needStack_22 dX8_needStack_25 (fun x hx => (htab x hx).elim) (Nat.le_of_ble_eq_true rfl) (Nat.le_of_ble_eq_true rfl) (Nat.le_of_ble_eq_true rfl) (Nat.le_of_ble_eq_true rfl) hlocks (fun t9 hal9 hsz9 hk9 => ⟨(), trivial, ⟨rfl, by first | trivial | assumption | (simp only [Int32.lt_iff_toInt_lt, Int32.le_iff_toInt_le] at *; omega)⟩, xFx hS hsz9 hk9⟩) hS.2.2 (Nat.le_of_ble_eq_true rfl) (Nat.le_of_ble_eq_true rfl)
theorem dX8_needEvent_0 : decode cX8_needEvent 0 = .ok (.iload_n 1, 1) := by decide +kernel
theorem dX8_needEvent_1 : decode cX8_needEvent 1 = .ok (.ifCond .lt 14, 3) := by decide +kernel
theorem dX8_needEvent_15 : decode cX8_needEvent 15 = .ok (.new 176, 3) := by decide +kernel
theorem dX8_needEvent_18 : decode cX8_needEvent 18 = .ok (.dup, 1) := by decide +kernel
theorem dX8_needEvent_19 : decode cX8_needEvent 19 = .ok (.ldc_w 379, 3) := by decide +kernel
theorem dX8_needEvent_22 : decode cX8_needEvent 22 = .ok (.invokespecial 180, 3) := by decide +kernel
theorem dX8_needEvent_25 : decode cX8_needEvent 25 = .ok (.athrow, 1) := by decide +kernel
theorem dX8_needEvent_4 : decode cX8_needEvent 4 = .ok (.iload_n 1, 1) := by decide +kernel
theorem dX8_needEvent_5 : decode cX8_needEvent 5 = .ok (.aload_n 0, 1) := by decide +kernel
theorem dX8_needEvent_6 : decode cX8_needEvent 6 = .ok (.getfield 74, 3) := by decide +kernel
theorem dX8_needEvent_9 : decode cX8_needEvent 9 = .ok (.getfield 278, 3) := by decide +kernel
theorem dX8_needEvent_12 : decode cX8_needEvent 12 = .ok (.if_icmp .lt 14, 3) := by decide +kernel
theorem dX8_needEvent_26 : decode cX8_needEvent 26 = .ok (.return_, 1) := by decide +kernel
set_option maxHeartbeats 4000000 in
set_option maxRecDepth 100000 in
theorem x_needEvent (l : Launch) (hfl : l.stackTraces = false) (g : xG) (sz : Nat) (h0 : Nat) (ag : Nat) (f0 : Value) (f1 : Value) (f2 : Value) (f3 : Value) (f4 : Value) (f5 : Value) (f6 : Value) (f7 : Value) (f8 : Value) (f9 : Value) (f10 : Value) (f11 : Value) (f13 : Value) (f14 : Value) (a1 : Value) (ac : Int32) (p0 : Int32)  : vx_Met l yX8_needEvent wsX8_needEvent ({ frames := 6, cells := 1, slots := 6, locals := 120 }) (va_Pc [.ref h0, .int p0] (fun U => xB g [(h0, .inr (8, [f0, f1, f2, f3, f4, f5, f6, f7, f8, f9, f10, f11, .ref ag, f13, f14])), (ag, .inr (0, [.int ac, a1]))] sz U ∧ xU (va_A [] sz) U)) (va_Qv (fun (u : Unit) => ¬ p0 < 0 ∧ p0 < ac) (fun _ _ => True) (va_A [] sz)) (vx_X (fun _ : Unit => True) (fun E _ _ => (E = "java/lang/IndexOutOfBoundsException" ∧ (p0 < 0 ∨ ¬ p0 < ac))) (va_A [] sz)) 1 6 (va_A [] sz) := by
  refine vx_ofW (cc := cX8_needEvent) (maxL := 2) (ret := none) (by decide) rfl ?_
  intro p e s m args below meth c s₁ B hml htab hv
  obtain ⟨rfl, ⟨hsz, hP, hK, hD0⟩, hU⟩ := hv
  have hx := B.exec
  have hb := B.bytes
  have hr := B.returns
  have hts := atoms_spec (ws := wsX8_needEvent) B.pre
  have hown : s.vm.findClass RX8 = some m.cls := findClass_of_methodNamed B.named
  have hlocks := B.notSynchronized
  subst hsz
  have hD := hD0
  generalize hAe : va_A [] s.heap.size = A at hU ⊢
  have hA : ∀ q : Nat, s.heap.size ≤ q → A q := fun q h => by rw [← hAe]; exact Or.inr h
  have hS : va_S A s.heap s.heap [] := va_S.rf
  have hl := lv_entry ([.ref h0, .int p0]) (n := 2) (Nat.le_of_ble_eq_true rfl)
  rw [lg_entry_eq]
  generalize (lg_sl ([.ref h0, .int p0]) ++ List.replicate (2 - (lg_sl ([.ref h0, .int p0])).length) Slot.unset).toArray = ls at hl ⊢
  have hl : lv_has ls 2 [(0, .ref h0), (1, .int p0)] := hl
  have hFX0 : ∀ w ∈ u_ws RX0 TX0 2, w ∈ wsX8_needEvent := by decide +kernel
  have hFX8 : ∀ w ∈ u_ws RX8 TX8 15, w ∈ wsX8_needEvent := by decide +kernel
  refine lv_iload_n hx hb dX8_needEvent_0 rfl (lv_at hl 1 rfl) ?_
  refine lv_if_lt (tgt := 15) hx hb dX8_needEvent_1 (by decide) (fun c_1 => ?_) (fun c_1 => ?_)
  · obtain ⟨sa, hstr⟩ := hU.2.2.1 (379, "no such event") (by decide)
    refine vx_throwSW (names := xNm) (cls := "java/lang/IndexOutOfBoundsException") (text := "no such event") (ik := 176) (is := 379) (ic := 180) (A := A) hx hb hfl hown (by decide +kernel) (by decide +kernel) (hts (.classLink RX8 176 "java/lang/IndexOutOfBoundsException") (by decide +kernel)) (hts (.initialized "java/lang/IndexOutOfBoundsException") (by decide +kernel)) hstr (xHat hU (by decide) hts (by decide +kernel) (by decide +kernel)) (by decide +kernel) hU.1 hU.2.1 hS (by rw [hml]; exact hl.1) dX8_needEvent_15 dX8_needEvent_18 dX8_needEvent_19 dX8_needEvent_22 dX8_needEvent_25 (fun x hx => (htab x hx).elim) (Nat.le_of_ble_eq_true rfl) (Nat.le_of_ble_eq_true rfl) (Nat.le_of_ble_eq_true rfl) (Nat.le_of_ble_eq_true rfl) hlocks (fun t9 hal9 hsz9 hk9 => ⟨(), trivial, ⟨rfl, by first | trivial | assumption | (simp only [Int32.lt_iff_toInt_lt, Int32.le_iff_toInt_le] at *; omega)⟩, xFx hS hsz9 hk9⟩) hS.2.2 (Nat.le_of_ble_eq_true rfl) (Nat.le_of_ble_eq_true rfl)
  · refine lv_iload_n hx hb dX8_needEvent_4 rfl (lv_at hl 1 rfl) ?_
    refine lv_aload_n hx hb dX8_needEvent_5 rfl (lv_at hl 0 rfl) ?_
    refine va_get (D := xD g) (ci := 8) (v := .ref ag) (C := RX8) (T := TX8) (N := 15) hx hb hts hFX8 hown hK hP 0 rfl rfl 12 (by decide) (hts (.fieldLink RX8 74 "Stevedore" "agenda" "LStevedore$Agenda;") (by decide +kernel)) (fun _ h9 => h9) rfl dX8_needEvent_6 ?_
    refine va_get (D := xD g) (ci := 0) (v := .int ac) (C := RX0) (T := TX0) (N := 2) hx hb hts hFX0 hown hK hP 1 rfl rfl 0 (by decide) (hts (.fieldLink RX8 278 "Stevedore$Agenda" "count" "I") (by decide +kernel)) (fun _ h9 => h9) rfl dX8_needEvent_9 ?_
    refine lv_icmp_lt (tgt := 26) hx hb dX8_needEvent_12 (by decide) (fun c_2 => ?_) (fun c_2 => ?_)
    · refine vx_ret ?_
      refine W.widen (k := 1) (n := 6) (by omega) (by omega) ?_
      exact W.vret hx hb hr (fun t ht hW => ⟨⟨(), rfl, (by first | trivial | assumption | (refine ⟨?_, ?_⟩ <;> assumption) | (simp only [Int32.lt_iff_toInt_lt, Int32.le_iff_toInt_le, Int32.reduceToInt] at *; omega)), trivial⟩, hS.F ht⟩) hS.2.2 dX8_needEvent_26
    · obtain ⟨sa, hstr⟩ := hU.2.2.1 (379, "no such event") (by decide)
      refine vx_throwSW (names := xNm) (cls := "java/lang/IndexOutOfBoundsException") (text := "no such event") (ik := 176) (is := 379) (ic := 180) (A := A) hx hb hfl hown (by decide +kernel) (by decide +kernel) (hts (.classLink RX8 176 "java/lang/IndexOutOfBoundsException") (by decide +kernel)) (hts (.initialized "java/lang/IndexOutOfBoundsException") (by decide +kernel)) hstr (xHat hU (by decide) hts (by decide +kernel) (by decide +kernel)) (by decide +kernel) hU.1 hU.2.1 hS (by rw [hml]; exact hl.1) dX8_needEvent_15 dX8_needEvent_18 dX8_needEvent_19 dX8_needEvent_22 dX8_needEvent_25 (fun x hx => (htab x hx).elim) (Nat.le_of_ble_eq_true rfl) (Nat.le_of_ble_eq_true rfl) (Nat.le_of_ble_eq_true rfl) (Nat.le_of_ble_eq_true rfl) hlocks (fun t9 hal9 hsz9 hk9 => ⟨(), trivial, ⟨rfl, by first | trivial | assumption | (simp only [Int32.lt_iff_toInt_lt, Int32.le_iff_toInt_le] at *; omega)⟩, xFx hS hsz9 hk9⟩) hS.2.2 (Nat.le_of_ble_eq_true rfl) (Nat.le_of_ble_eq_true rfl)
theorem dX8_needPlan_0 : decode cX8_needPlan 0 = .ok (.aload_n 0, 1) := by decide +kernel
theorem dX8_needPlan_1 : decode cX8_needPlan 1 = .ok (.getfield 57, 3) := by decide +kernel
theorem dX8_needPlan_4 : decode cX8_needPlan 4 = .ok (.getfield 218, 3) := by decide +kernel
theorem dX8_needPlan_7 : decode cX8_needPlan 7 = .ok (.ifCond .ne 14, 3) := by decide +kernel
theorem dX8_needPlan_21 : decode cX8_needPlan 21 = .ok (.return_, 1) := by decide +kernel
theorem dX8_needPlan_10 : decode cX8_needPlan 10 = .ok (.new 98, 3) := by decide +kernel
theorem dX8_needPlan_13 : decode cX8_needPlan 13 = .ok (.dup, 1) := by decide +kernel
theorem dX8_needPlan_14 : decode cX8_needPlan 14 = .ok (.ldc_w 383, 3) := by decide +kernel
theorem dX8_needPlan_17 : decode cX8_needPlan 17 = .ok (.invokespecial 102, 3) := by decide +kernel
theorem dX8_needPlan_20 : decode cX8_needPlan 20 = .ok (.athrow, 1) := by decide +kernel
set_option maxHeartbeats 4000000 in
set_option maxRecDepth 100000 in
theorem x_needPlan (l : Launch) (hfl : l.stackTraces = false) (g : xG) (sz : Nat) (h0 : Nat) (pl : Nat) (f0 : Value) (f1 : Value) (f2 : Value) (f3 : Value) (f4 : Value) (f5 : Value) (f6 : Value) (f7 : Value) (f9 : Value) (f10 : Value) (f11 : Value) (f12 : Value) (f13 : Value) (f14 : Value) (q1 : Value) (q2 : Value) (q3 : Value) (pm : Int32)  : vx_Met l yX8_needPlan wsX8_needPlan ({ frames := 6, cells := 1, slots := 6, locals := 120 }) (va_Pc [.ref h0] (fun U => xB g [(h0, .inr (8, [f0, f1, f2, f3, f4, f5, f6, f7, .ref pl, f9, f10, f11, f12, f13, f14])), (pl, .inr (4, [.int pm, q1, q2, q3]))] sz U ∧ xU (va_A [] sz) U)) (va_Qv (fun (u : Unit) => ¬ pm = 0) (fun _ _ => True) (va_A [] sz)) (vx_X (fun _ : Unit => True) (fun E _ _ => (E = "java/lang/IllegalStateException" ∧ pm = 0)) (va_A [] sz)) 1 6 (va_A [] sz) := by
  refine vx_ofW (cc := cX8_needPlan) (maxL := 1) (ret := none) (by decide) rfl ?_
  intro p e s m args below meth c s₁ B hml htab hv
  obtain ⟨rfl, ⟨hsz, hP, hK, hD0⟩, hU⟩ := hv
  have hx := B.exec
  have hb := B.bytes
  have hr := B.returns
  have hts := atoms_spec (ws := wsX8_needPlan) B.pre
  have hown : s.vm.findClass RX8 = some m.cls := findClass_of_methodNamed B.named
  have hlocks := B.notSynchronized
  subst hsz
  have hD := hD0
  generalize hAe : va_A [] s.heap.size = A at hU ⊢
  have hA : ∀ q : Nat, s.heap.size ≤ q → A q := fun q h => by rw [← hAe]; exact Or.inr h
  have hS : va_S A s.heap s.heap [] := va_S.rf
  have hl := lv_entry ([.ref h0]) (n := 1) (Nat.le_of_ble_eq_true rfl)
  rw [lg_entry_eq]
  generalize (lg_sl ([.ref h0]) ++ List.replicate (1 - (lg_sl ([.ref h0])).length) Slot.unset).toArray = ls at hl ⊢
  have hl : lv_has ls 1 [(0, .ref h0)] := hl
  have hFX4 : ∀ w ∈ u_ws RX4 TX4 4, w ∈ wsX8_needPlan := by decide +kernel
  have hFX8 : ∀ w ∈ u_ws RX8 TX8 15, w ∈ wsX8_needPlan := by decide +kernel
  refine lv_aload_n hx hb dX8_needPlan_0 rfl (lv_at hl 0 rfl) ?_
  refine va_get (D := xD g) (ci := 8) (v := .ref pl) (C := RX8) (T := TX8) (N := 15) hx hb hts hFX8 hown hK hP 0 rfl rfl 8 (by decide) (hts (.fieldLink RX8 57 "Stevedore" "plan" "LStevedore$Plan;") (by decide +kernel)) (fun _ h9 => h9) rfl dX8_needPlan_1 ?_
  refine va_get (D := xD g) (ci := 4) (v := .int pm) (C := RX4) (T := TX4) (N := 4) hx hb hts hFX4 hown hK hP 1 rfl rfl 0 (by decide) (hts (.fieldLink RX8 218 "Stevedore$Plan" "isMade" "Z") (by decide +kernel)) (fun _ h9 => h9) rfl dX8_needPlan_4 ?_
  refine lv_if_ne (tgt := 21) hx hb dX8_needPlan_7 (by decide) (fun c_1 => ?_) (fun c_1 => ?_)
  · refine vx_ret ?_
    refine W.widen (k := 1) (n := 6) (by omega) (by omega) ?_
    exact W.vret hx hb hr (fun t ht hW => ⟨⟨(), rfl, (by first | trivial | assumption | (refine ⟨?_, ?_⟩ <;> assumption) | (simp only [Int32.lt_iff_toInt_lt, Int32.le_iff_toInt_le, Int32.reduceToInt] at *; omega)), trivial⟩, hS.F ht⟩) hS.2.2 dX8_needPlan_21
  · obtain ⟨sa, hstr⟩ := hU.2.2.1 (383, "no plan") (by decide)
    refine vx_throwSW (names := xNm) (cls := "java/lang/IllegalStateException") (text := "no plan") (ik := 98) (is := 383) (ic := 102) (A := A) hx hb hfl hown (by decide +kernel) (by decide +kernel) (hts (.classLink RX8 98 "java/lang/IllegalStateException") (by decide +kernel)) (hts (.initialized "java/lang/IllegalStateException") (by decide +kernel)) hstr (xHat hU (by decide) hts (by decide +kernel) (by decide +kernel)) (by decide +kernel) hU.1 hU.2.1 hS (by rw [hml]; exact hl.1) dX8_needPlan_10 dX8_needPlan_13 dX8_needPlan_14 dX8_needPlan_17 dX8_needPlan_20 (fun x hx => (htab x hx).elim) (Nat.le_of_ble_eq_true rfl) (Nat.le_of_ble_eq_true rfl) (Nat.le_of_ble_eq_true rfl) (Nat.le_of_ble_eq_true rfl) hlocks (fun t9 hal9 hsz9 hk9 => ⟨(), trivial, ⟨rfl, by first | trivial | assumption | (simp only [Int32.lt_iff_toInt_lt, Int32.le_iff_toInt_le] at *; omega)⟩, xFx hS hsz9 hk9⟩) hS.2.2 (Nat.le_of_ble_eq_true rfl) (Nat.le_of_ble_eq_true rfl)
theorem dX8_needSlots_0 : decode cX8_needSlots 0 = .ok (.aload_n 0, 1) := by decide +kernel
theorem dX8_needSlots_1 : decode cX8_needSlots 1 = .ok (.getfield 268, 3) := by decide +kernel
theorem dX8_needSlots_4 : decode cX8_needSlots 4 = .ok (.ifCond .ne 14, 3) := by decide +kernel
theorem dX8_needSlots_18 : decode cX8_needSlots 18 = .ok (.return_, 1) := by decide +kernel
theorem dX8_needSlots_7 : decode cX8_needSlots 7 = .ok (.new 98, 3) := by decide +kernel
theorem dX8_needSlots_10 : decode cX8_needSlots 10 = .ok (.dup, 1) := by decide +kernel
theorem dX8_needSlots_11 : decode cX8_needSlots 11 = .ok (.ldc_w 385, 3) := by decide +kernel
theorem dX8_needSlots_14 : decode cX8_needSlots 14 = .ok (.invokespecial 102, 3) := by decide +kernel
theorem dX8_needSlots_17 : decode cX8_needSlots 17 = .ok (.athrow, 1) := by decide +kernel
set_option maxHeartbeats 4000000 in
set_option maxRecDepth 100000 in
theorem x_needSlots (l : Launch) (hfl : l.stackTraces = false) (g : xG) (sz : Nat) (h0 : Nat) (f0 : Value) (f1 : Value) (f2 : Value) (f3 : Value) (f4 : Value) (f5 : Value) (f6 : Value) (f7 : Value) (f8 : Value) (f9 : Value) (f11 : Value) (f12 : Value) (f13 : Value) (f14 : Value) (hs : Int32)  : vx_Met l yX8_needSlots wsX8_needSlots ({ frames := 6, cells := 1, slots := 6, locals := 120 }) (va_Pc [.ref h0] (fun U => xB g [(h0, .inr (8, [f0, f1, f2, f3, f4, f5, f6, f7, f8, f9, .int hs, f11, f12, f13, f14]))] sz U ∧ xU (va_A [] sz) U)) (va_Qv (fun (u : Unit) => ¬ hs = 0) (fun _ _ => True) (va_A [] sz)) (vx_X (fun _ : Unit => True) (fun E _ _ => (E = "java/lang/IllegalStateException" ∧ hs = 0)) (va_A [] sz)) 1 6 (va_A [] sz) := by
  refine vx_ofW (cc := cX8_needSlots) (maxL := 1) (ret := none) (by decide) rfl ?_
  intro p e s m args below meth c s₁ B hml htab hv
  obtain ⟨rfl, ⟨hsz, hP, hK, hD0⟩, hU⟩ := hv
  have hx := B.exec
  have hb := B.bytes
  have hr := B.returns
  have hts := atoms_spec (ws := wsX8_needSlots) B.pre
  have hown : s.vm.findClass RX8 = some m.cls := findClass_of_methodNamed B.named
  have hlocks := B.notSynchronized
  subst hsz
  have hD := hD0
  generalize hAe : va_A [] s.heap.size = A at hU ⊢
  have hA : ∀ q : Nat, s.heap.size ≤ q → A q := fun q h => by rw [← hAe]; exact Or.inr h
  have hS : va_S A s.heap s.heap [] := va_S.rf
  have hl := lv_entry ([.ref h0]) (n := 1) (Nat.le_of_ble_eq_true rfl)
  rw [lg_entry_eq]
  generalize (lg_sl ([.ref h0]) ++ List.replicate (1 - (lg_sl ([.ref h0])).length) Slot.unset).toArray = ls at hl ⊢
  have hl : lv_has ls 1 [(0, .ref h0)] := hl
  have hFX8 : ∀ w ∈ u_ws RX8 TX8 15, w ∈ wsX8_needSlots := by decide +kernel
  refine lv_aload_n hx hb dX8_needSlots_0 rfl (lv_at hl 0 rfl) ?_
  refine va_get (D := xD g) (ci := 8) (v := .int hs) (C := RX8) (T := TX8) (N := 15) hx hb hts hFX8 hown hK hP 0 rfl rfl 10 (by decide) (hts (.fieldLink RX8 268 "Stevedore" "hasSlots" "Z") (by decide +kernel)) (fun _ h9 => h9) rfl dX8_needSlots_1 ?_
  refine lv_if_ne (tgt := 18) hx hb dX8_needSlots_4 (by decide) (fun c_1 => ?_) (fun c_1 => ?_)
  · refine vx_ret ?_
    refine W.widen (k := 1) (n := 6) (by omega) (by omega) ?_
    exact W.vret hx hb hr (fun t ht hW => ⟨⟨(), rfl, (by first | trivial | assumption | (refine ⟨?_, ?_⟩ <;> assumption) | (simp only [Int32.lt_iff_toInt_lt, Int32.le_iff_toInt_le, Int32.reduceToInt] at *; omega)), trivial⟩, hS.F ht⟩) hS.2.2 dX8_needSlots_18
  · obtain ⟨sa, hstr⟩ := hU.2.2.1 (385, "no slots were given") (by decide)
    refine vx_throwSW (names := xNm) (cls := "java/lang/IllegalStateException") (text := "no slots were given") (ik := 98) (is := 385) (ic := 102) (A := A) hx hb hfl hown (by decide +kernel) (by decide +kernel) (hts (.classLink RX8 98 "java/lang/IllegalStateException") (by decide +kernel)) (hts (.initialized "java/lang/IllegalStateException") (by decide +kernel)) hstr (xHat hU (by decide) hts (by decide +kernel) (by decide +kernel)) (by decide +kernel) hU.1 hU.2.1 hS (by rw [hml]; exact hl.1) dX8_needSlots_7 dX8_needSlots_10 dX8_needSlots_11 dX8_needSlots_14 dX8_needSlots_17 (fun x hx => (htab x hx).elim) (Nat.le_of_ble_eq_true rfl) (Nat.le_of_ble_eq_true rfl) (Nat.le_of_ble_eq_true rfl) (Nat.le_of_ble_eq_true rfl) hlocks (fun t9 hal9 hsz9 hk9 => ⟨(), trivial, ⟨rfl, by first | trivial | assumption | (simp only [Int32.lt_iff_toInt_lt, Int32.le_iff_toInt_le] at *; omega)⟩, xFx hS hsz9 hk9⟩) hS.2.2 (Nat.le_of_ble_eq_true rfl) (Nat.le_of_ble_eq_true rfl)
