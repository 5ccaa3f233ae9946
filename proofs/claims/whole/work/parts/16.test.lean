theorem dX8_needWithin_0 : decode cX8_needWithin 0 = .ok (.iload_n 0, 1) := by decide +kernel
theorem dX8_needWithin_1 : decode cX8_needWithin 1 = .ok (.iload_n 1, 1) := by decide +kernel
theorem dX8_needWithin_2 : decode cX8_needWithin 2 = .ok (.if_icmp .lt 8, 3) := by decide +kernel
theorem dX8_needWithin_5 : decode cX8_needWithin 5 = .ok (.iload_n 0, 1) := by decide +kernel
theorem dX8_needWithin_6 : decode cX8_needWithin 6 = .ok (.iload_n 2, 1) := by decide +kernel
theorem dX8_needWithin_7 : decode cX8_needWithin 7 = .ok (.if_icmp .le 14, 3) := by decide +kernel
theorem dX8_needWithin_10 : decode cX8_needWithin 10 = .ok (.new 362, 3) := by decide +kernel
theorem dX8_needWithin_13 : decode cX8_needWithin 13 = .ok (.dup, 1) := by decide +kernel
theorem dX8_needWithin_14 : decode cX8_needWithin 14 = .ok (.ldc_w 364, 3) := by decide +kernel
theorem dX8_needWithin_17 : decode cX8_needWithin 17 = .ok (.invokespecial 366, 3) := by decide +kernel
theorem dX8_needWithin_20 : decode cX8_needWithin 20 = .ok (.athrow, 1) := by decide +kernel
theorem dX8_needWithin_21 : decode cX8_needWithin 21 = .ok (.return_, 1) := by decide +kernel
theorem dX8_needVessel_0 : decode cX8_needVessel 0 = .ok (.iload_n 1, 1) := by decide +kernel
theorem dX8_needVessel_1 : decode cX8_needVessel 1 = .ok (.ifCond .lt 11, 3) := by decide +kernel
theorem dX8_needVessel_4 : decode cX8_needVessel 4 = .ok (.iload_n 1, 1) := by decide +kernel
theorem dX8_needVessel_5 : decode cX8_needVessel 5 = .ok (.aload_n 0, 1) := by decide +kernel
theorem dX8_needVessel_6 : decode cX8_needVessel 6 = .ok (.getfield 95, 3) := by decide +kernel
theorem dX8_needVessel_9 : decode cX8_needVessel 9 = .ok (.if_icmp .lt 14, 3) := by decide +kernel
theorem dX8_needVessel_12 : decode cX8_needVessel 12 = .ok (.new 176, 3) := by decide +kernel
theorem dX8_needVessel_15 : decode cX8_needVessel 15 = .ok (.dup, 1) := by decide +kernel
theorem dX8_needVessel_16 : decode cX8_needVessel 16 = .ok (.ldc_w 369, 3) := by decide +kernel
theorem dX8_needVessel_19 : decode cX8_needVessel 19 = .ok (.invokespecial 180, 3) := by decide +kernel
theorem dX8_needVessel_22 : decode cX8_needVessel 22 = .ok (.athrow, 1) := by decide +kernel
theorem dX8_needVessel_23 : decode cX8_needVessel 23 = .ok (.return_, 1) := by decide +kernel
set_option maxHeartbeats 4000000 in
set_option maxRecDepth 100000 in
/-- needWithin(value, least, most) -/
theorem x_needWithin (l : Launch) (hfl : l.stackTraces = false) (g : xG) (sz : Nat) (p0 : Int32) (p1 : Int32) (p2 : Int32)  : vx_Met l yX8_needWithin wsX8_needWithin ({ frames := 6, cells := 1, slots := 6, locals := 120 }) (va_Pc [.int p0, .int p1, .int p2] (fun U => xB g [] sz U ∧ xU (va_A [] sz) U)) (va_Qv (fun (u : Unit) => ¬ p0 < p1 ∧ ¬ p2 < p0) (fun _ _ => True) (va_A [] sz)) (vx_X (fun _ : Unit => True) (fun E _ _ => (E = "java/lang/IllegalArgumentException" ∧ (p0 < p1 ∨ p2 < p0))) (va_A [] sz)) 1 6 (va_A [] sz) := by
  refine vx_ofW (cc := cX8_needWithin) (maxL := 3) (ret := none) (by decide) rfl ?_
  intro p e s m args below meth c s₁ B hml htab hv
  obtain ⟨rfl, ⟨hsz, hP, hK, hD0⟩, hU⟩ := hv
  have hx := B.exec
  have hb := B.bytes
  have hr := B.returns
  have hts := atoms_spec (ws := wsX8_needWithin) B.pre
  have hown : s.vm.findClass RX8 = some m.cls := findClass_of_methodNamed B.named
  have hlocks := B.notSynchronized
  subst hsz
  have hD := hD0
  generalize hAe : va_A [] s.heap.size = A at hU ⊢
  have hA : ∀ q : Nat, s.heap.size ≤ q → A q := fun q h => by rw [← hAe]; exact Or.inr h
  have hS : va_S A s.heap s.heap [] := va_S.rf
  have hl := lv_entry ([.int p0, .int p1, .int p2]) (n := 3) (Nat.le_of_ble_eq_true rfl)
  rw [lg_entry_eq]
  generalize (lg_sl ([.int p0, .int p1, .int p2]) ++ List.replicate (3 - (lg_sl ([.int p0, .int p1, .int p2])).length) Slot.unset).toArray = ls at hl ⊢
  have hl : lv_has ls 3 [(0, .int p0), (1, .int p1), (2, .int p2)] := hl
  refine lv_iload_n hx hb dX8_needWithin_0 rfl (lv_at hl 0 rfl) ?_
  refine lv_iload_n hx hb dX8_needWithin_1 rfl (lv_at hl 1 rfl) ?_
  refine lv_icmp_lt (tgt := 10) hx hb dX8_needWithin_2 (by decide) (fun c_1 => ?_) (fun c_1 => ?_)
  · obtain ⟨sa, hstr⟩ := hU.2.2.1 (364, "out of its bounds") (by decide)
    refine vx_throwSW (names := xNm) (cls := "java/lang/IllegalArgumentException") (text := "out of its bounds") (ik := 362) (is := 364) (ic := 366) (A := A) hx hb hfl hown (by decide +kernel) (by decide +kernel) (hts (.classLink RX8 362 "java/lang/IllegalArgumentException") (by decide +kernel)) (hts (.initialized "java/lang/IllegalArgumentException") (by decide +kernel)) hstr (xHat hU (by decide) hts (by decide +kernel) (by decide +kernel)) (by decide +kernel) hU.1 hU.2.1 hS (by rw [hml]; exact hl.1) dX8_needWithin_10 dX8_needWithin_13 dX8_needWithin_14 dX8_needWithin_17 dX8_needWithin_20 (fun x hx => (htab x hx).elim) (Nat.le_of_ble_eq_true rfl) (Nat.le_of_ble_eq_true rfl) (Nat.le_of_ble_eq_true rfl) (Nat.le_of_ble_eq_true rfl) hlocks (fun t9 hal9 hsz9 hk9 => ⟨(), trivial, ⟨rfl, by first | trivial | assumption | (simp only [Int32.lt_iff_toInt_lt, Int32.le_iff_toInt_le] at *; omega)⟩, xFx hS hsz9 hk9⟩) hS.2.2 (Nat.le_of_ble_eq_true rfl) (Nat.le_of_ble_eq_true rfl)
  · refine lv_iload_n hx hb dX8_needWithin_5 rfl (lv_at hl 0 rfl) ?_
    refine lv_iload_n hx hb dX8_needWithin_6 rfl (lv_at hl 2 rfl) ?_
    refine lv_icmp_le (tgt := 21) hx hb dX8_needWithin_7 (by decide) (fun c_2 => ?_) (fun c_2 => ?_)
    · refine vx_ret ?_
      refine W.widen (k := 1) (n := 6) (by omega) (by omega) ?_
      exact W.vret hx hb hr (fun t ht hW => ⟨⟨(), rfl, ⟨by assumption, by simp only [Int32.lt_iff_toInt_lt, Int32.le_iff_toInt_le] at *; omega⟩, trivial⟩, hS.F ht⟩) hS.2.2 dX8_needWithin_21
    · obtain ⟨sa, hstr⟩ := hU.2.2.1 (364, "out of its bounds") (by decide)
      refine vx_throwSW (names := xNm) (cls := "java/lang/IllegalArgumentException") (text := "out of its bounds") (ik := 362) (is := 364) (ic := 366) (A := A) hx hb hfl hown (by decide +kernel) (by decide +kernel) (hts (.classLink RX8 362 "java/lang/IllegalArgumentException") (by decide +kernel)) (hts (.initialized "java/lang/IllegalArgumentException") (by decide +kernel)) hstr (xHat hU (by decide) hts (by decide +kernel) (by decide +kernel)) (by decide +kernel) hU.1 hU.2.1 hS (by rw [hml]; exact hl.1) dX8_needWithin_10 dX8_needWithin_13 dX8_needWithin_14 dX8_needWithin_17 dX8_needWithin_20 (fun x hx => (htab x hx).elim) (Nat.le_of_ble_eq_true rfl) (Nat.le_of_ble_eq_true rfl) (Nat.le_of_ble_eq_true rfl) (Nat.le_of_ble_eq_true rfl) hlocks (fun t9 hal9 hsz9 hk9 => ⟨(), trivial, ⟨rfl, by first | trivial | assumption | (simp only [Int32.lt_iff_toInt_lt, Int32.le_iff_toInt_le] at *; omega)⟩, xFx hS hsz9 hk9⟩) hS.2.2 (Nat.le_of_ble_eq_true rfl) (Nat.le_of_ble_eq_true rfl)
set_option maxHeartbeats 4000000 in
set_option maxRecDepth 100000 in
theorem x_needVessel (l : Launch) (hfl : l.stackTraces = false) (g : xG) (sz : Nat) (h0 : Nat) (f0 : Value) (f1 : Value) (f3 : Value) (f4 : Value) (f5 : Value) (f6 : Value) (f7 : Value) (f8 : Value) (f9 : Value) (f10 : Value) (f11 : Value) (f12 : Value) (f13 : Value) (f14 : Value) (vc : Int32) (p0 : Int32)  : vx_Met l yX8_needVessel wsX8_needVessel ({ frames := 6, cells := 1, slots := 6, locals := 120 }) (va_Pc [.ref h0, .int p0] (fun U => xB g [(h0, .inr (8, [f0, f1, .int vc, f3, f4, f5, f6, f7, f8, f9, f10, f11, f12, f13, f14]))] sz U ∧ xU (va_A [] sz) U)) (va_Qv (fun (u : Unit) => ¬ p0 < 0 ∧ p0 < vc) (fun _ _ => True) (va_A [] sz)) (vx_X (fun _ : Unit => True) (fun E _ _ => (E = "java/lang/IndexOutOfBoundsException" ∧ (p0 < 0 ∨ ¬ p0 < vc))) (va_A [] sz)) 1 6 (va_A [] sz) := by
  refine vx_ofW (cc := cX8_needVessel) (maxL := 2) (ret := none) (by decide) rfl ?_
  intro p e s m args below meth c s₁ B hml htab hv
  obtain ⟨rfl, ⟨hsz, hP, hK, hD0⟩, hU⟩ := hv
  have hx := B.exec
  have hb := B.bytes
  have hr := B.returns
  have hts := atoms_spec (ws := wsX8_needVessel) B.pre
  have hown : s.vm.findClass RX8 = some m.cls := findClass_of_methodNamed B.named
  have hlocks := B.notSynchronized
  subst hsz
  have hD := hD0
  generalize hAe : va_A [] s.heap.size = A at hU ⊢
  have hA : ∀ q : Nat, s.heap.size ≤ q → A q := fun q h => by rw [← hAe]; exact Or.inr h
  have hS : va_S A s.heap s.heap [] := va_S.rf
  have hl := lv_entry ([.ref h0, .int p0]) (n := 2) (Nat.le_of_ble_eq_true rfl)
  rw [lg_entry_eq]
  generalize (lg_sl ([.ref h0, .int p0]) ++ List.replicate (2 - (lg_sl ([.ref h0, .int p0])).length) Slot.unset).toArray = ls at hl ⊢
  have hl : lv_has ls 2 [(0, .ref h0), (1, .int p0)] := hl
  have hFX8 : ∀ w ∈ u_ws RX8 TX8 15, w ∈ wsX8_needVessel := by decide +kernel
  refine lv_iload_n hx hb dX8_needVessel_0 rfl (lv_at hl 1 rfl) ?_
  refine lv_if_lt (tgt := 12) hx hb dX8_needVessel_1 (by decide) (fun c_1 => ?_) (fun c_1 => ?_)
  · obtain ⟨sa, hstr⟩ := hU.2.2.1 (369, "no such vessel") (by decide)
    refine vx_throwSW (names := xNm) (cls := "java/lang/IndexOutOfBoundsException") (text := "no such vessel") (ik := 176) (is := 369) (ic := 180) (A := A) hx hb hfl hown (by decide +kernel) (by decide +kernel) (hts (.classLink RX8 176 "java/lang/IndexOutOfBoundsException") (by decide +kernel)) (hts (.initialized "java/lang/IndexOutOfBoundsException") (by decide +kernel)) hstr (xHat hU (by decide) hts (by decide +kernel) (by decide +kernel)) (by decide +kernel) hU.1 hU.2.1 hS (by rw [hml]; exact hl.1) dX8_needVessel_12 dX8_needVessel_15 dX8_needVessel_16 dX8_needVessel_19 dX8_needVessel_22 (fun x hx => (htab x hx).elim) (Nat.le_of_ble_eq_true rfl) (Nat.le_of_ble_eq_true rfl) (Nat.le_of_ble_eq_true rfl) (Nat.le_of_ble_eq_true rfl) hlocks (fun t9 hal9 hsz9 hk9 => ⟨(), trivial, ⟨rfl, by first | trivial | assumption | (simp only [Int32.lt_iff_toInt_lt, Int32.le_iff_toInt_le] at *; omega)⟩, xFx hS hsz9 hk9⟩) hS.2.2 (Nat.le_of_ble_eq_true rfl) (Nat.le_of_ble_eq_true rfl)
  · refine lv_iload_n hx hb dX8_needVessel_4 rfl (lv_at hl 1 rfl) ?_
    refine lv_aload_n hx hb dX8_needVessel_5 rfl (lv_at hl 0 rfl) ?_
    refine va_get (D := xD g) (ci := 8) (v := .int vc) (C := RX8) (T := TX8) (N := 15) hx hb hts hFX8 hown hK hP 0 rfl rfl 2 (by decide) (hts (.fieldLink RX8 95 "Stevedore" "vesselCount" "I") (by decide +kernel)) (fun _ h9 => h9) rfl dX8_needVessel_6 ?_
    refine lv_icmp_lt (tgt := 23) hx hb dX8_needVessel_9 (by decide) (fun c_2 => ?_) (fun c_2 => ?_)
    · refine vx_ret ?_
      refine W.widen (k := 1) (n := 6) (by omega) (by omega) ?_
      exact W.vret hx hb hr (fun t ht hW => ⟨⟨(), rfl, ⟨by assumption, by assumption⟩, trivial⟩, hS.F ht⟩) hS.2.2 dX8_needVessel_23
    · obtain ⟨sa, hstr⟩ := hU.2.2.1 (369, "no such vessel") (by decide)
      refine vx_throwSW (names := xNm) (cls := "java/lang/IndexOutOfBoundsException") (text := "no such vessel") (ik := 176) (is := 369) (ic := 180) (A := A) hx hb hfl hown (by decide +kernel) (by decide +kernel) (hts (.classLink RX8 176 "java/lang/IndexOutOfBoundsException") (by decide +kernel)) (hts (.initialized "java/lang/IndexOutOfBoundsException") (by decide +kernel)) hstr (xHat hU (by decide) hts (by decide +kernel) (by decide +kernel)) (by decide +kernel) hU.1 hU.2.1 hS (by rw [hml]; exact hl.1) dX8_needVessel_12 dX8_needVessel_15 dX8_needVessel_16 dX8_needVessel_19 dX8_needVessel_22 (fun x hx => (htab x hx).elim) (Nat.le_of_ble_eq_true rfl) (Nat.le_of_ble_eq_true rfl) (Nat.le_of_ble_eq_true rfl) (Nat.le_of_ble_eq_true rfl) hlocks (fun t9 hal9 hsz9 hk9 => ⟨(), trivial, ⟨rfl, by first | trivial | assumption | (simp only [Int32.lt_iff_toInt_lt, Int32.le_iff_toInt_le] at *; omega)⟩, xFx hS hsz9 hk9⟩) hS.2.2 (Nat.le_of_ble_eq_true rfl) (Nat.le_of_ble_eq_true rfl)
