theorem dX7_uppermost_0 : decode cX7_uppermost 0 = .ok (.aload_n 0, 1) := by decide +kernel
theorem dX7_uppermost_1 : decode cX7_uppermost 1 = .ok (.getfield 15, 3) := by decide +kernel
theorem dX7_uppermost_4 : decode cX7_uppermost 4 = .ok (.iload_n 1, 1) := by decide +kernel
theorem dX7_uppermost_5 : decode cX7_uppermost 5 = .ok (.iaload, 1) := by decide +kernel
theorem dX7_uppermost_6 : decode cX7_uppermost 6 = .ok (.ifCond .le 21, 3) := by decide +kernel
theorem dX7_uppermost_9 : decode cX7_uppermost 9 = .ok (.aload_n 0, 1) := by decide +kernel
theorem dX7_uppermost_10 : decode cX7_uppermost 10 = .ok (.getfield 20, 3) := by decide +kernel
theorem dX7_uppermost_13 : decode cX7_uppermost 13 = .ok (.iload_n 1, 1) := by decide +kernel
theorem dX7_uppermost_14 : decode cX7_uppermost 14 = .ok (.aaload, 1) := by decide +kernel
theorem dX7_uppermost_15 : decode cX7_uppermost 15 = .ok (.aload_n 0, 1) := by decide +kernel
theorem dX7_uppermost_16 : decode cX7_uppermost 16 = .ok (.getfield 15, 3) := by decide +kernel
theorem dX7_uppermost_19 : decode cX7_uppermost 19 = .ok (.iload_n 1, 1) := by decide +kernel
theorem dX7_uppermost_20 : decode cX7_uppermost 20 = .ok (.iaload, 1) := by decide +kernel
theorem dX7_uppermost_21 : decode cX7_uppermost 21 = .ok (.iconst 1, 1) := by decide +kernel
theorem dX7_uppermost_22 : decode cX7_uppermost 22 = .ok (.isub, 1) := by decide +kernel
theorem dX7_uppermost_23 : decode cX7_uppermost 23 = .ok (.iaload, 1) := by decide +kernel
theorem dX7_uppermost_24 : decode cX7_uppermost 24 = .ok (.goto 4, 3) := by decide +kernel
theorem dX7_uppermost_28 : decode cX7_uppermost 28 = .ok (.ireturn, 1) := by decide +kernel
set_option maxHeartbeats 4000000 in
set_option maxRecDepth 100000 in
theorem y_uppermost (l : Launch) (g : xG) (sz : Nat) (ya : Nat) (he : Nat) (so : Nat) (sk : Nat) (rr : Nat → Nat) (y0 : Value) (y1 : Value) (y2 : Value) (y3 : Value) (y6 : Value) (y7 : Value) (y8 : Value) (y9 : Value) (y10 : Value) (hgt : Nat → Nat) (sd : Nat → Nat → Nat)  (hs : sk < 12) (h0 : 0 < hgt sk) (b_hgt : ∀ j, hgt j ≤ 5) (b_sd : ∀ i j, sd i j ≤ 23) : Met l yX7_uppermost wsX7_uppermost ({ frames := 0, cells := 0, slots := 0, locals := 0 }) (va_Pc [.ref ya, .int (nI sk)] (fun U => xB g ([(ya, .inr (7, [y0, y1, y2, y3, .ref he, .ref so, y6, y7, y8, y9, y10])), (he, .inl (xI g, 12, .inl (fun j => nI (hgt j)))), (so, .inl (xM g, 12, .inr (.inr (.inr (.inr (fun i => if i < 12 then some (rr i) else none))))))] ++ (xRN (xI g) 12 5 rr sd ++ [])) sz U)) (va_Qi (fun (r : Int32) (_ : Unit) => r = nI (yTop hgt sd sk)) (fun (_ : Unit) (_ : State) => True) (va_A [] sz)) 0 0 (va_A [] sz) := by
  refine Met.ofW (cc := cX7_uppermost) (maxL := 2) (ret := (some .int)) (by decide) rfl ?_
  intro p e s m args below meth c s₁ B hml hv
  obtain ⟨rfl, hsz, hP, hK, hD0⟩ := hv
  have hx := B.exec
  have hb := B.bytes
  have hr := B.returns
  have hts := atoms_spec (ws := wsX7_uppermost) B.pre
  have hown : s.vm.findClass RX7 = some m.cls := findClass_of_methodNamed B.named
  have hlocks := B.notSynchronized
  subst hsz
  have hD := hD0
  generalize hAe : va_A [] s.heap.size = A
  have hA : ∀ q : Nat, s.heap.size ≤ q → A q := fun q h => by rw [← hAe]; exact Or.inr h
  have hS : va_S A s.heap s.heap [] := va_S.rf
  have hl := lv_entry ([.ref ya, .int (nI sk)]) (n := 2) (Nat.le_of_ble_eq_true rfl)
  rw [lg_entry_eq]
  generalize (lg_sl ([.ref ya, .int (nI sk)]) ++ List.replicate (2 - (lg_sl ([.ref ya, .int (nI sk)])).length) Slot.unset).toArray = ls at hl ⊢
  have hl : lv_has ls 2 [(0, .ref ya), (1, .int (nI sk))] := hl
  have hFX7 : ∀ w ∈ u_ws RX7 TX7 11, w ∈ wsX7_uppermost := by decide +kernel
  refine lv_aload_n hx hb dX7_uppermost_0 rfl (lv_at hl 0 rfl) ?_
  refine va_get (D := xD g) (ci := 7) (v := .ref he) (C := RX7) (T := TX7) (N := 11) hx hb hts hFX7 hown hK hP 0 rfl rfl 4 (by decide) (hts (.fieldLink RX7 15 "Stevedore$Yard" "height" "[I") (by decide +kernel)) (fun _ h9 => h9) rfl dX7_uppermost_1 ?_
  refine lv_iload_n hx hb dX7_uppermost_4 rfl (lv_at hl 1 rfl) ?_
  refine va_iald hx hb hK hP 1 0 rfl rfl (vp_in_nI (by omega) (by omega)) dX7_uppermost_5 ?_
  refine lv_topi (fun v_1 ev => ?_)
  obtain rfl : v_1 = nI (hgt sk) := ev.trans (congrArg (fun q9 => nI (hgt q9)) (nI_clamp (by omega)))
  have b_2 := b_hgt sk
  refine lv_if_le (tgt := 27) hx hb dX7_uppermost_6 (by decide) (fun c_3 => ?_) (fun c_3 => ?_)
  · have nc_3 := (nI_leI (a := hgt sk) (b := 0) (by omega) (by omega)).mp c_3
    exfalso; omega
  · have nc_3 := mt (nI_leI (a := hgt sk) (b := 0) (by omega) (by omega)).mpr c_3
    refine lv_aload_n hx hb dX7_uppermost_9 rfl (lv_at hl 0 rfl) ?_
    refine va_get (D := xD g) (ci := 7) (v := .ref so) (C := RX7) (T := TX7) (N := 11) hx hb hts hFX7 hown hK hP 0 rfl rfl 5 (by decide) (hts (.fieldLink RX7 20 "Stevedore$Yard" "standing" "[[I") (by decide +kernel)) (fun _ h9 => h9) rfl dX7_uppermost_10 ?_
    refine lv_iload_n hx hb dX7_uppermost_13 rfl (lv_at hl 1 rfl) ?_
    refine xAldM hx hb hK hP 2 3 rfl rfl (vp_in_nI (by omega) (by omega)) dX7_uppermost_14 ?_
    refine W.eq (g2 := F0 m 15 ls (.ref (rr sk) :: [])) (congrArg (fun q9 => F0 m 15 ls (q9 :: [])) (xRow (n := 12) (k := sk) (nI_clamp (by omega)) (by omega))) ?_
    refine lv_aload_n hx hb dX7_uppermost_15 rfl (lv_at hl 0 rfl) ?_
    refine va_get (D := xD g) (ci := 7) (v := .ref he) (C := RX7) (T := TX7) (N := 11) hx hb hts hFX7 hown hK hP 0 rfl rfl 4 (by decide) (hts (.fieldLink RX7 15 "Stevedore$Yard" "height" "[I") (by decide +kernel)) (fun _ h9 => h9) rfl dX7_uppermost_16 ?_
    refine lv_iload_n hx hb dX7_uppermost_19 rfl (lv_at hl 1 rfl) ?_
    refine va_iald hx hb hK hP 1 0 rfl rfl (vp_in_nI (by omega) (by omega)) dX7_uppermost_20 ?_
    refine lv_topi (fun v_4 ev => ?_)
    obtain rfl : v_4 = nI (hgt sk) := ev.trans (congrArg (fun q9 => nI (hgt q9)) (nI_clamp (by omega)))
    have b_5 := b_hgt sk
    refine lv_iconst (v := 1) hx hb dX7_uppermost_21 (by decide) ?_
    refine lv_isub hx hb dX7_uppermost_22 ?_
    refine lv_topi (fun v_6 ev => ?_)
    obtain rfl : v_6 = nI ((hgt sk) - 1) := ev.trans (pk_sub (a := hgt sk) (b := 1) (by omega))
    refine va_iald hx hb hK hP _ 0 (xR_ap (X := [(ya, .inr (7, [y0, y1, y2, y3, .ref he, .ref so, y6, y7, y8, y9, y10])), (he, .inl (xI g, 12, .inl (fun j => nI (hgt j)))), (so, .inl (xM g, 12, .inr (.inr (.inr (.inr (fun i => if i < 12 then some (rr i) else none))))))]) (xR_get0 (i := sk) (by omega))) rfl (vp_in_nI (by omega) (by omega)) dX7_uppermost_23 ?_
    refine lv_topi (fun v_7 ev => ?_)
    obtain rfl : v_7 = nI (sd sk ((hgt sk) - 1)) := ev.trans (congrArg (fun q9 => nI (sd sk q9)) (nI_clamp (by omega)))
    have b_8 := b_sd sk ((hgt sk) - 1)
    refine lv_goto (tgt := 28) hx hb dX7_uppermost_24 (by decide) ?_
    exact W.iret (v := nI (sd sk ((hgt sk) - 1))) hx hb hr (fun t ht hW => ⟨⟨nI (sd sk ((hgt sk) - 1)), (), rfl, (by first | trivial | rfl | assumption | omega), trivial⟩, hS.F ht⟩) hS.2.2 dX7_uppermost_28
theorem dX7_firstBelow_0 : decode cX7_firstBelow 0 = .ok (.sipush 2000, 3) := by decide +kernel
theorem dX7_firstBelow_3 : decode cX7_firstBelow 3 = .ok (.istore_n 3, 1) := by decide +kernel
theorem dX7_firstBelow_4 : decode cX7_firstBelow 4 = .ok (.iconst 0, 1) := by decide +kernel
theorem dX7_firstBelow_5 : decode cX7_firstBelow 5 = .ok (.istore 4, 2) := by decide +kernel
theorem dX7_firstBelow_7 : decode cX7_firstBelow 7 = .ok (.iload 4, 2) := by decide +kernel
theorem dX7_firstBelow_9 : decode cX7_firstBelow 9 = .ok (.iload_n 2, 1) := by decide +kernel
theorem dX7_firstBelow_10 : decode cX7_firstBelow 10 = .ok (.if_icmp .ge 28, 3) := by decide +kernel
theorem dX7_firstBelow_38 : decode cX7_firstBelow 38 = .ok (.iload_n 3, 1) := by decide +kernel
theorem dX7_firstBelow_39 : decode cX7_firstBelow 39 = .ok (.ireturn, 1) := by decide +kernel
theorem dX7_firstBelow_13 : decode cX7_firstBelow 13 = .ok (.iload_n 3, 1) := by decide +kernel
theorem dX7_firstBelow_14 : decode cX7_firstBelow 14 = .ok (.aload_n 0, 1) := by decide +kernel
theorem dX7_firstBelow_15 : decode cX7_firstBelow 15 = .ok (.getfield 26, 3) := by decide +kernel
theorem dX7_firstBelow_18 : decode cX7_firstBelow 18 = .ok (.aload_n 0, 1) := by decide +kernel
theorem dX7_firstBelow_19 : decode cX7_firstBelow 19 = .ok (.getfield 20, 3) := by decide +kernel
theorem dX7_firstBelow_22 : decode cX7_firstBelow 22 = .ok (.iload_n 1, 1) := by decide +kernel
theorem dX7_firstBelow_23 : decode cX7_firstBelow 23 = .ok (.aaload, 1) := by decide +kernel
theorem dX7_firstBelow_24 : decode cX7_firstBelow 24 = .ok (.iload 4, 2) := by decide +kernel
theorem dX7_firstBelow_26 : decode cX7_firstBelow 26 = .ok (.iaload, 1) := by decide +kernel
theorem dX7_firstBelow_27 : decode cX7_firstBelow 27 = .ok (.iaload, 1) := by decide +kernel
theorem dX7_firstBelow_28 : decode cX7_firstBelow 28 = .ok (.invokestatic 114, 3) := by decide +kernel
theorem dX7_firstBelow_31 : decode cX7_firstBelow 31 = .ok (.istore_n 3, 1) := by decide +kernel
theorem dX7_firstBelow_32 : decode cX7_firstBelow 32 = .ok (.iinc 4 1, 3) := by decide +kernel
theorem dX7_firstBelow_35 : decode cX7_firstBelow 35 = .ok (.goto (-28), 3) := by decide +kernel
set_option maxHeartbeats 4000000 in
set_option maxRecDepth 100000 in
theorem y_firstBelow (l : Launch) (g : xG) (sz : Nat) (ya : Nat) (so : Nat) (le : Nat) (sk : Nat) (lev : Nat) (rr : Nat → Nat) (y0 : Value) (y1 : Value) (y2 : Value) (y3 : Value) (y4 : Value) (y6 : Value) (y8 : Value) (y9 : Value) (y10 : Value) (sd : Nat → Nat → Nat) (lv : Nat → Int)  (hs : sk < 12) (hlev : lev ≤ 5) (b_sd : ∀ i j, sd i j ≤ 23) (b_lv : ∀ j, 0 ≤ lv j ∧ lv j ≤ 1000000) : Met l yX7_firstBelow wsX7_firstBelow ({ frames := 1, cells := 0, slots := 0, locals := 24 }) (va_Pc [.ref ya, .int (nI sk), .int (nI lev)] (fun U => xB g ([(ya, .inr (7, [y0, y1, y2, y3, y4, .ref so, y6, .ref le, y8, y9, y10])), (so, .inl (xM g, 12, .inr (.inr (.inr (.inr (fun i => if i < 12 then some (rr i) else none))))))] ++ (xRN (xI g) 12 5 rr sd ++ [(le, .inl (xI g, 24, .inl (fun j => iI (lv j))))])) sz U)) (va_Qi (fun (r : Int32) (_ : Unit) => r = iI (yFst lv (sd sk) lev)) (fun (_ : Unit) (_ : State) => True) (va_A [] sz)) 0 0 (va_A [] sz) := by
  refine Met.ofW (cc := cX7_firstBelow) (maxL := 5) (ret := (some .int)) (by decide) rfl ?_
  intro p e s m args below meth c s₁ B hml hv
  obtain ⟨rfl, hsz, hP, hK, hD0⟩ := hv
  have hx := B.exec
  have hb := B.bytes
  have hr := B.returns
  have hts := atoms_spec (ws := wsX7_firstBelow) B.pre
  have hown : s.vm.findClass RX7 = some m.cls := findClass_of_methodNamed B.named
  have hlocks := B.notSynchronized
  subst hsz
  have hD := hD0
  generalize hAe : va_A [] s.heap.size = A
  have hA : ∀ q : Nat, s.heap.size ≤ q → A q := fun q h => by rw [← hAe]; exact Or.inr h
  have hS : va_S A s.heap s.heap [] := va_S.rf
  have hl := lv_entry ([.ref ya, .int (nI sk), .int (nI lev)]) (n := 5) (Nat.le_of_ble_eq_true rfl)
  rw [lg_entry_eq]
  generalize (lg_sl ([.ref ya, .int (nI sk), .int (nI lev)]) ++ List.replicate (5 - (lg_sl ([.ref ya, .int (nI sk), .int (nI lev)])).length) Slot.unset).toArray = ls at hl ⊢
  have hl : lv_has ls 5 [(0, .ref ya), (1, .int (nI sk)), (2, .int (nI lev))] := hl
  have hFX7 : ∀ w ∈ u_ws RX7 TX7 11, w ∈ wsX7_firstBelow := by decide +kernel
  refine lv_sipush (v := 2000) hx hb dX7_firstBelow_0 (by decide) ?_
  refine lv_istore_n (lv' := [(3, .int 2000), (0, .ref ya), (1, .int (nI sk)), (2, .int (nI lev))]) hx hb dX7_firstBelow_3 rfl hl (by decide) rfl (fun ls hl => ?_)
  refine lv_iconst (v := 0) hx hb dX7_firstBelow_4 (by decide) ?_
  refine lv_istore (lv' := [(4, .int 0), (3, .int 2000), (0, .ref ya), (1, .int (nI sk)), (2, .int (nI lev))]) hx hb dX7_firstBelow_5 hl (by decide) rfl (fun ls hl => ?_)
  have hloop7 : ∀ (n9 : Nat) (i : Nat) (fo : Int) (H : Heap) (locs : List Loc) (ls : Array Slot), lev - i < n9 → (i ≤ lev) → (fo = yFst lv (sd sk) i) → va_P (xD g) vwCl ([(ya, .inr (7, [y0, y1, y2, y3, y4, .ref so, y6, .ref le, y8, y9, y10])), (so, .inl (xM g, 12, .inr (.inr (.inr (.inr (fun i => if i < 12 then some (rr i) else none))))))] ++ (xRN (xI g) 12 5 rr sd ++ [(le, .inl (xI g, 24, .inl (fun j => iI (lv j))))])) H → va_D (fun _ => True) ([(ya, .inr (7, [y0, y1, y2, y3, y4, .ref so, y6, .ref le, y8, y9, y10])), (so, .inl (xM g, 12, .inr (.inr (.inr (.inr (fun i => if i < 12 then some (rr i) else none))))))] ++ (xRN (xI g) 12 5 rr sd ++ [(le, .inl (xI g, 24, .inl (fun j => iI (lv j))))])) → va_S A s.heap H locs → lv_has ls 5 [(4, .int (nI i)), (0, .ref ya), (1, .int (nI sk)), (2, .int (nI lev)), (3, .int (iI fo))] → W p l e (headSpec wsX7_firstBelow ({ frames := 1, cells := 0, slots := 0, locals := 24 })).room s m ([.ref ya, .int (nI sk), .int (nI lev)] : List Value).toArray below meth c H locs 0 0 (MQ below (va_Qi (fun (r : Int32) (_ : Unit) => r = iI (yFst lv (sd sk) lev)) (fun (_ : Unit) (_ : State) => True) (A)) ([.ref ya, .int (nI sk), .int (nI lev)] : List Value).toArray s 0 0 A) (F0 m 7 ls []) := by
    intro n9
    induction n9 with
    | zero =>
      intro i fo H locs ls hm hi hfo hP hD hS hl
      exact absurd hm (Nat.not_lt_zero _)
    | succ n9 ih7 =>
      intro i fo H locs ls hm hi hfo hP hD hS hl
      have hq := yFst_bd (sd := sd sk) b_lv i
      refine lv_iload hx hb dX7_firstBelow_7 (lv_at hl 0 rfl) ?_
      refine lv_iload_n hx hb dX7_firstBelow_9 rfl (lv_at hl 3 rfl) ?_
      refine lv_icmp_ge (tgt := 38) hx hb dX7_firstBelow_10 (by decide) (fun c_1 => ?_) (fun c_1 => ?_)
      · have nc_1 := (nI_leI (a := lev) (b := i) (by omega) (by omega)).mp c_1
        refine lv_iload_n hx hb dX7_firstBelow_38 rfl (lv_at hl 4 rfl) ?_
        exact W.iret (v := iI fo) hx hb hr (fun t ht hW => ⟨⟨iI fo, (), rfl, (by obtain rfl : i = lev := (by omega); rw [hfo]), trivial⟩, hS.F ht⟩) hS.2.2 dX7_firstBelow_39
      · have nc_1 := mt (nI_leI (a := lev) (b := i) (by omega) (by omega)).mpr c_1
        refine lv_iload_n hx hb dX7_firstBelow_13 rfl (lv_at hl 4 rfl) ?_
        refine lv_aload_n hx hb dX7_firstBelow_14 rfl (lv_at hl 1 rfl) ?_
        refine va_get (D := xD g) (ci := 7) (v := .ref le) (C := RX7) (T := TX7) (N := 11) hx hb hts hFX7 hown hK hP 0 rfl rfl 7 (by decide) (hts (.fieldLink RX7 26 "Stevedore$Yard" "leaving" "[I") (by decide +kernel)) (fun _ h9 => h9) rfl dX7_firstBelow_15 ?_
        refine lv_aload_n hx hb dX7_firstBelow_18 rfl (lv_at hl 1 rfl) ?_
        refine va_get (D := xD g) (ci := 7) (v := .ref so) (C := RX7) (T := TX7) (N := 11) hx hb hts hFX7 hown hK hP 0 rfl rfl 5 (by decide) (hts (.fieldLink RX7 20 "Stevedore$Yard" "standing" "[[I") (by decide +kernel)) (fun _ h9 => h9) rfl dX7_firstBelow_19 ?_
        refine lv_iload_n hx hb dX7_firstBelow_22 rfl (lv_at hl 2 rfl) ?_
        refine xAldM hx hb hK hP 1 3 rfl rfl (vp_in_nI (by omega) (by omega)) dX7_firstBelow_23 ?_
        refine W.eq (g2 := F0 m 24 ls (.ref (rr sk) :: .ref le :: .int (iI fo) :: [])) (congrArg (fun q9 => F0 m 24 ls (q9 :: .ref le :: .int (iI fo) :: [])) (xRow (n := 12) (k := sk) (nI_clamp (by omega)) (by omega))) ?_
        refine lv_iload hx hb dX7_firstBelow_24 (lv_at hl 0 rfl) ?_
        refine va_iald hx hb hK hP _ 0 (xR_ap (X := [(ya, .inr (7, [y0, y1, y2, y3, y4, .ref so, y6, .ref le, y8, y9, y10])), (so, .inl (xM g, 12, .inr (.inr (.inr (.inr (fun i => if i < 12 then some (rr i) else none))))))]) (xR_get0 (i := sk) (by omega))) rfl (vp_in_nI (by omega) (by omega)) dX7_firstBelow_26 ?_
        refine lv_topi (fun v_2 ev => ?_)
        obtain rfl : v_2 = nI (sd sk i) := ev.trans (congrArg (fun q9 => nI (sd sk q9)) (nI_clamp (by omega)))
        have b_3 := b_sd sk i
        refine va_iald hx hb hK hP 14 0 rfl rfl (vp_in_nI (by omega) (by omega)) dX7_firstBelow_27 ?_
        refine lv_topi (fun v_4 ev => ?_)
        obtain rfl : v_4 = iI (lv (sd sk i)) := ev.trans (congrArg (fun q9 => iI (lv q9)) (nI_clamp (by omega)))
        have b_5 := b_lv (sd sk i)
        refine va_mmin hx hb (by rw [hml]; exact hl.1.symm) hown (hts (.methodLink RX7 114 Lib.Math.min.name) (by decide +kernel)) (hts (.static Lib.Math.min.name) (by decide +kernel)) (hts (.initialized "java/lang/Math") (by decide +kernel)) (hts (.code Lib.Math.min.name Lib.Math.min.code 2 (some .int)) (by decide +kernel)) (Nat.le_of_ble_eq_true rfl) (Nat.le_of_ble_eq_true rfl) (Nat.le_of_ble_eq_true rfl) (Nat.le_of_ble_eq_true rfl) dX7_firstBelow_28 ?_
        refine lv_topi (fun v_7 ev => ?_)
        obtain rfl : v_7 = iI (if lv (sd sk i) < fo then lv (sd sk i) else fo) := ev.trans (iI_min rfl rfl (by omega))
        obtain ⟨z_6, ez_6⟩ : ∃ y : Int, y = if lv (sd sk i) < fo then lv (sd sk i) else fo := ⟨_, rfl⟩
        rw [← ez_6]
        have fz_6 : z_6 ≤ fo ∧ z_6 ≤ lv (sd sk i) ∧ (z_6 = fo ∨ z_6 = lv (sd sk i)) := by rw [ez_6]; split <;> omega
        refine lv_istore_n (lv' := [(3, .int (iI z_6)), (4, .int (nI i)), (0, .ref ya), (1, .int (nI sk)), (2, .int (nI lev))]) hx hb dX7_firstBelow_31 rfl hl (by decide) rfl (fun ls hl => ?_)
        refine lv_iinc (v := nI (i + 1)) (lv' := [(4, .int (nI (i + 1))), (3, .int (iI z_6)), (0, .ref ya), (1, .int (nI sk)), (2, .int (nI lev))]) hx hb dX7_firstBelow_32 hl (k := 1) rfl (nI_add i 1) (by decide) rfl (fun ls hl => ?_)
        refine lv_goto (tgt := 7) hx hb dX7_firstBelow_35 (by decide) ?_
        exact ih7 (i + 1) z_6 _ _ _ (by omega) (by omega) (by rw [ez_6, hfo]; rfl) hP hD hS (lv_sub hl [0, 2, 3, 4, 1] rfl)
  exact hloop7 (lev + 1) 0 2000 _ _ _ (by omega) (by omega) rfl hP hD hS (by rw [(show nI 0 = (0 : Int32) from by decide), (show iI 2000 = (2000 : Int32) from by decide)]; exact lv_sub hl [0, 2, 3, 4, 1] rfl)
theorem dX7_canStand_0 : decode cX7_canStand 0 = .ok (.aload_n 0, 1) := by decide +kernel
theorem dX7_canStand_1 : decode cX7_canStand 1 = .ok (.getfield 15, 3) := by decide +kernel
theorem dX7_canStand_4 : decode cX7_canStand 4 = .ok (.iload_n 2, 1) := by decide +kernel
theorem dX7_canStand_5 : decode cX7_canStand 5 = .ok (.iaload, 1) := by decide +kernel
theorem dX7_canStand_6 : decode cX7_canStand 6 = .ok (.aload_n 0, 1) := by decide +kernel
theorem dX7_canStand_7 : decode cX7_canStand 7 = .ok (.getfield 9, 3) := by decide +kernel
theorem dX7_canStand_10 : decode cX7_canStand 10 = .ok (.iload_n 2, 1) := by decide +kernel
theorem dX7_canStand_11 : decode cX7_canStand 11 = .ok (.iaload, 1) := by decide +kernel
theorem dX7_canStand_12 : decode cX7_canStand 12 = .ok (.if_icmp .lt 5, 3) := by decide +kernel
theorem dX7_canStand_17 : decode cX7_canStand 17 = .ok (.aload_n 0, 1) := by decide +kernel
theorem dX7_canStand_18 : decode cX7_canStand 18 = .ok (.getfield 15, 3) := by decide +kernel
theorem dX7_canStand_21 : decode cX7_canStand 21 = .ok (.iload_n 2, 1) := by decide +kernel
theorem dX7_canStand_22 : decode cX7_canStand 22 = .ok (.iaload, 1) := by decide +kernel
theorem dX7_canStand_23 : decode cX7_canStand 23 = .ok (.ifCond .eq 25, 3) := by decide +kernel
theorem dX7_canStand_48 : decode cX7_canStand 48 = .ok (.iconst 1, 1) := by decide +kernel
theorem dX7_canStand_49 : decode cX7_canStand 49 = .ok (.goto 4, 3) := by decide +kernel
theorem dX7_canStand_53 : decode cX7_canStand 53 = .ok (.ireturn, 1) := by decide +kernel
theorem dX7_canStand_26 : decode cX7_canStand 26 = .ok (.aload_n 0, 1) := by decide +kernel
theorem dX7_canStand_27 : decode cX7_canStand 27 = .ok (.getfield 23, 3) := by decide +kernel
theorem dX7_canStand_30 : decode cX7_canStand 30 = .ok (.aload_n 0, 1) := by decide +kernel
theorem dX7_canStand_31 : decode cX7_canStand 31 = .ok (.iload_n 2, 1) := by decide +kernel
theorem dX7_canStand_32 : decode cX7_canStand 32 = .ok (.invokevirtual 100, 3) := by decide +kernel
set_option maxRecDepth 20000 in
theorem ggX7_canStand_X7_uppermost : GoodIn wsX7_canStand wsX7_uppermost := goodIn_r _ [8, 1, 9, 10, 11, 12, 13, 14, 15, 16, 17, 18, 19, 20] rfl (by decide +kernel)
set_option maxRecDepth 20000 in
theorem gX7_canStand_X7_uppermost : GoodIn wsX7_canStand (wsV RX7 100 RX7 yX7_uppermost wsX7_uppermost) := goodIn_app (goodIn_of _ (by decide +kernel)) ggX7_canStand_X7_uppermost
theorem dX7_canStand_35 : decode cX7_canStand 35 = .ok (.iaload, 1) := by decide +kernel
theorem dX7_canStand_36 : decode cX7_canStand 36 = .ok (.aload_n 0, 1) := by decide +kernel
theorem dX7_canStand_37 : decode cX7_canStand 37 = .ok (.getfield 23, 3) := by decide +kernel
theorem dX7_canStand_40 : decode cX7_canStand 40 = .ok (.iload_n 1, 1) := by decide +kernel
theorem dX7_canStand_41 : decode cX7_canStand 41 = .ok (.iaload, 1) := by decide +kernel
theorem dX7_canStand_42 : decode cX7_canStand 42 = .ok (.bipush 8, 2) := by decide +kernel
theorem dX7_canStand_44 : decode cX7_canStand 44 = .ok (.isub, 1) := by decide +kernel
theorem dX7_canStand_45 : decode cX7_canStand 45 = .ok (.if_icmp .lt 7, 3) := by decide +kernel
theorem dX7_canStand_52 : decode cX7_canStand 52 = .ok (.iconst 0, 1) := by decide +kernel
theorem dX7_canStand_15 : decode cX7_canStand 15 = .ok (.iconst 0, 1) := by decide +kernel
theorem dX7_canStand_16 : decode cX7_canStand 16 = .ok (.ireturn, 1) := by decide +kernel
set_option maxHeartbeats 4000000 in
set_option maxRecDepth 100000 in
theorem y_canStand (l : Launch) (g : xG) (sz : Nat) (ya : Nat) (li : Nat) (he : Nat) (so : Nat) (we : Nat) (cn : Nat) (sk : Nat) (rr : Nat → Nat) (y0 : Value) (y1 : Value) (y2 : Value) (y7 : Value) (y8 : Value) (y9 : Value) (y10 : Value) (lim : Nat → Nat) (hgt : Nat → Nat) (sd : Nat → Nat → Nat) (wt : Nat → Int)  (hc : cn < 24) (hs : sk < 12) (b_lim : ∀ j, lim j ≤ 5) (b_hgt : ∀ j, hgt j ≤ 5) (b_sd : ∀ i j, sd i j ≤ 23) (b_wt : ∀ j, 0 ≤ wt j ∧ wt j ≤ 1000) : Met l yX7_canStand wsX7_canStand ({ frames := 1, cells := 0, slots := 0, locals := 21 }) (va_Pc [.ref ya, .int (nI cn), .int (nI sk)] (fun U => xB g ([(ya, .inr (7, [y0, y1, y2, .ref li, .ref he, .ref so, .ref we, y7, y8, y9, y10])), (li, .inl (xI g, 12, .inl (fun j => nI (lim j)))), (he, .inl (xI g, 12, .inl (fun j => nI (hgt j)))), (so, .inl (xM g, 12, .inr (.inr (.inr (.inr (fun i => if i < 12 then some (rr i) else none))))))] ++ (xRN (xI g) 12 5 rr sd ++ [(we, .inl (xI g, 24, .inl (fun j => iI (wt j))))])) sz U)) (va_Qi (fun (r : Int32) (_ : Unit) => (r = 1 ∧ (yCan lim wt hgt sd cn sk)) ∨ (r = 0 ∧ ¬ (yCan lim wt hgt sd cn sk))) (fun (_ : Unit) (_ : State) => True) (va_A [] sz)) 0 0 (va_A [] sz) := by
  refine Met.ofW (cc := cX7_canStand) (maxL := 3) (ret := (some .boolean)) (by decide) rfl ?_
  intro p e s m args below meth c s₁ B hml hv
  obtain ⟨rfl, hsz, hP, hK, hD0⟩ := hv
  have hx := B.exec
  have hb := B.bytes
  have hr := B.returns
  have hts := atoms_spec (ws := wsX7_canStand) B.pre
  have hown : s.vm.findClass RX7 = some m.cls := findClass_of_methodNamed B.named
  have hlocks := B.notSynchronized
  subst hsz
  have hD := hD0
  generalize hAe : va_A [] s.heap.size = A
  have hA : ∀ q : Nat, s.heap.size ≤ q → A q := fun q h => by rw [← hAe]; exact Or.inr h
  have hS : va_S A s.heap s.heap [] := va_S.rf
  have hl := lv_entry ([.ref ya, .int (nI cn), .int (nI sk)]) (n := 3) (Nat.le_of_ble_eq_true rfl)
  rw [lg_entry_eq]
  generalize (lg_sl ([.ref ya, .int (nI cn), .int (nI sk)]) ++ List.replicate (3 - (lg_sl ([.ref ya, .int (nI cn), .int (nI sk)])).length) Slot.unset).toArray = ls at hl ⊢
  have hl : lv_has ls 3 [(0, .ref ya), (1, .int (nI cn)), (2, .int (nI sk))] := hl
  have hFX7 : ∀ w ∈ u_ws RX7 TX7 11, w ∈ wsX7_canStand := by decide +kernel
  refine lv_aload_n hx hb dX7_canStand_0 rfl (lv_at hl 0 rfl) ?_
  refine va_get (D := xD g) (ci := 7) (v := .ref he) (C := RX7) (T := TX7) (N := 11) hx hb hts hFX7 hown hK hP 0 rfl rfl 4 (by decide) (hts (.fieldLink RX7 15 "Stevedore$Yard" "height" "[I") (by decide +kernel)) (fun _ h9 => h9) rfl dX7_canStand_1 ?_
  refine lv_iload_n hx hb dX7_canStand_4 rfl (lv_at hl 2 rfl) ?_
  refine va_iald hx hb hK hP 2 0 rfl rfl (vp_in_nI (by omega) (by omega)) dX7_canStand_5 ?_
  refine lv_topi (fun v_1 ev => ?_)
  obtain rfl : v_1 = nI (hgt sk) := ev.trans (congrArg (fun q9 => nI (hgt q9)) (nI_clamp (by omega)))
  have b_2 := b_hgt sk
  refine lv_aload_n hx hb dX7_canStand_6 rfl (lv_at hl 0 rfl) ?_
  refine va_get (D := xD g) (ci := 7) (v := .ref li) (C := RX7) (T := TX7) (N := 11) hx hb hts hFX7 hown hK hP 0 rfl rfl 3 (by decide) (hts (.fieldLink RX7 9 "Stevedore$Yard" "limit" "[I") (by decide +kernel)) (fun _ h9 => h9) rfl dX7_canStand_7 ?_
  refine lv_iload_n hx hb dX7_canStand_10 rfl (lv_at hl 2 rfl) ?_
  refine va_iald hx hb hK hP 1 0 rfl rfl (vp_in_nI (by omega) (by omega)) dX7_canStand_11 ?_
  refine lv_topi (fun v_3 ev => ?_)
  obtain rfl : v_3 = nI (lim sk) := ev.trans (congrArg (fun q9 => nI (lim q9)) (nI_clamp (by omega)))
  have b_4 := b_lim sk
  refine lv_icmp_lt (tgt := 17) hx hb dX7_canStand_12 (by decide) (fun c_5 => ?_) (fun c_5 => ?_)
  · have nc_5 := (nI_ltI (a := hgt sk) (b := lim sk) (by omega) (by omega)).mp c_5
    refine lv_aload_n hx hb dX7_canStand_17 rfl (lv_at hl 0 rfl) ?_
    refine va_get (D := xD g) (ci := 7) (v := .ref he) (C := RX7) (T := TX7) (N := 11) hx hb hts hFX7 hown hK hP 0 rfl rfl 4 (by decide) (hts (.fieldLink RX7 15 "Stevedore$Yard" "height" "[I") (by decide +kernel)) (fun _ h9 => h9) rfl dX7_canStand_18 ?_
    refine lv_iload_n hx hb dX7_canStand_21 rfl (lv_at hl 2 rfl) ?_
    refine va_iald hx hb hK hP 2 0 rfl rfl (vp_in_nI (by omega) (by omega)) dX7_canStand_22 ?_
    refine lv_topi (fun v_6 ev => ?_)
    obtain rfl : v_6 = nI (hgt sk) := ev.trans (congrArg (fun q9 => nI (hgt q9)) (nI_clamp (by omega)))
    have b_7 := b_hgt sk
    refine lv_if_eq (tgt := 48) hx hb dX7_canStand_23 (by decide) (fun c_8 => ?_) (fun c_8 => ?_)
    · have nc_8 := (nI_eq (a := hgt sk) (b := 0) (by omega) (by omega)).mp c_8
      refine lv_iconst (v := 1) hx hb dX7_canStand_48 (by decide) ?_
      refine lv_goto (tgt := 53) hx hb dX7_canStand_49 (by decide) ?_
      exact W.zret (v := 1) hx hb hr (by rfl) (fun t ht hW => ⟨⟨1, (), rfl, (by unfold yCan; first | (refine Or.inl ⟨rfl, ?_⟩; omega) | (refine Or.inr ⟨rfl, ?_⟩; omega)), trivial⟩, hS.F ht⟩) hS.2.2 dX7_canStand_53
    · have nc_8 := mt (nI_eq (a := hgt sk) (b := 0) (by omega) (by omega)).mpr c_8
      refine lv_aload_n hx hb dX7_canStand_26 rfl (lv_at hl 0 rfl) ?_
      refine va_get (D := xD g) (ci := 7) (v := .ref we) (C := RX7) (T := TX7) (N := 11) hx hb hts hFX7 hown hK hP 0 rfl rfl 6 (by decide) (hts (.fieldLink RX7 23 "Stevedore$Yard" "weight" "[I") (by decide +kernel)) (fun _ h9 => h9) rfl dX7_canStand_27 ?_
      refine lv_aload_n hx hb dX7_canStand_30 rfl (lv_at hl 0 rfl) ?_
      refine lv_iload_n hx hb dX7_canStand_31 rfl (lv_at hl 2 rfl) ?_
      have hPc := hP.sub (ws' := ([(ya, .inr (7, [y0, y1, y2, .ref li, .ref he, .ref so, .ref we, y7, y8, y9, y10])), (he, .inl (xI g, 12, .inl (fun j => nI (hgt j)))), (so, .inl (xM g, 12, .inr (.inr (.inr (.inr (fun i => if i < 12 then some (rr i) else none))))))] ++ (xRN (xI g) 12 5 rr sd ++ []))) [0, 2, 3, 4, 5, 6, 7, 8, 9, 10, 11, 12, 13, 14, 15] rfl
      have hDc := hD.sub (ws' := ([(ya, .inr (7, [y0, y1, y2, .ref li, .ref he, .ref so, .ref we, y7, y8, y9, y10])), (he, .inl (xI g, 12, .inl (fun j => nI (hgt j)))), (so, .inl (xM g, 12, .inr (.inr (.inr (.inr (fun i => if i < 12 then some (rr i) else none))))))] ++ (xRN (xI g) 12 5 rr sd ++ []))) [0, 2, 3, 4, 5, 6, 7, 8, 9, 10, 11, 12, 13, 14, 15] (by decide) rfl
      have hFc := xFree hS hA
      refine va_calli (va_runV (As := [.int (nI sk)]) (rest := [.ref we]) ⟨hx, hb, hml, hown, hts⟩ (y_uppermost l g s.heap.size ya he so sk rr y0 y1 y2 (.ref li) (.ref we) y7 y8 y9 y10 hgt sd (by first | assumption | omega) (by first | assumption | omega) b_hgt b_sd) (cwV 1 hts gX7_canStand_X7_uppermost rfl rfl rfl (by decide +kernel) ⟨Nat.le_of_ble_eq_true rfl, Nat.le_of_ble_eq_true rfl⟩) ⟨xB.blind, va_recv hK hPc (ci := 7) (q0 := 0) rfl rfl, fun U9 hU9 hW9 => ⟨rfl, xB.mk hPc hK hDc hU9 hW9⟩⟩ rfl rfl hl.1 rfl (lv_room (Nat.le_of_ble_eq_true rfl)) dX7_canStand_32 ⟨Nat.le_of_ble_eq_true rfl, Nat.le_of_ble_eq_true rfl⟩) hS (fun q _ h => hFc q h) hFc (fun r_9 _ t H1 locs ht hvm hw_10 hB hz1 hk1 hS => ?_)
      have hP := xSame hP hk1
      generalize H1 = H at hP hS ⊢
      have hP : va_P (xD g) vwCl ([(ya, .inr (7, [y0, y1, y2, .ref li, .ref he, .ref so, .ref we, y7, y8, y9, y10])), (li, .inl (xI g, 12, .inl (fun j => nI (lim j)))), (he, .inl (xI g, 12, .inl (fun j => nI (hgt j)))), (so, .inl (xM g, 12, .inr (.inr (.inr (.inr (fun i => if i < 12 then some (rr i) else none))))))] ++ (xRN (xI g) 12 5 rr sd ++ [(we, .inl (xI g, 24, .inl (fun j => iI (wt j))))])) H := hP
      have hD : va_D (fun _ => True) ([(ya, .inr (7, [y0, y1, y2, .ref li, .ref he, .ref so, .ref we, y7, y8, y9, y10])), (li, .inl (xI g, 12, .inl (fun j => nI (lim j)))), (he, .inl (xI g, 12, .inl (fun j => nI (hgt j)))), (so, .inl (xM g, 12, .inr (.inr (.inr (.inr (fun i => if i < 12 then some (rr i) else none))))))] ++ (xRN (xI g) 12 5 rr sd ++ [(we, .inl (xI g, 24, .inl (fun j => iI (wt j))))])) := hD
      try dsimp only at hw_10
      obtain rfl : r_9 = nI (yTop hgt sd sk) := hw_10
      have hq_11 : yTop hgt sd sk ≤ 23 := b_sd _ _
      refine va_iald hx hb hK hP 16 0 rfl rfl (vp_in_nI (by omega) (by omega)) dX7_canStand_35 ?_
      refine lv_topi (fun v_12 ev => ?_)
      obtain rfl : v_12 = iI (wt (yTop hgt sd sk)) := ev.trans (congrArg (fun q9 => iI (wt q9)) (nI_clamp (by omega)))
      have b_13 := b_wt (yTop hgt sd sk)
      refine lv_aload_n hx hb dX7_canStand_36 rfl (lv_at hl 0 rfl) ?_
      refine va_get (D := xD g) (ci := 7) (v := .ref we) (C := RX7) (T := TX7) (N := 11) hx hb hts hFX7 hown hK hP 0 rfl rfl 6 (by decide) (hts (.fieldLink RX7 23 "Stevedore$Yard" "weight" "[I") (by decide +kernel)) (fun _ h9 => h9) rfl dX7_canStand_37 ?_
      refine lv_iload_n hx hb dX7_canStand_40 rfl (lv_at hl 1 rfl) ?_
      refine va_iald hx hb hK hP 16 0 rfl rfl (vp_in_nI (by omega) (by omega)) dX7_canStand_41 ?_
      refine lv_topi (fun v_14 ev => ?_)
      obtain rfl : v_14 = iI (wt cn) := ev.trans (congrArg (fun q9 => iI (wt q9)) (nI_clamp (by omega)))
      have b_15 := b_wt cn
      refine lv_bipush (v := 8) hx hb dX7_canStand_42 (by decide) ?_
      refine lv_isub hx hb dX7_canStand_44 ?_
      refine lv_topi (fun v_16 ev => ?_)
      obtain rfl : v_16 = iI (wt cn - 8) := ev.trans (iS rfl (by decide))
      refine lv_icmp_lt (tgt := 52) hx hb dX7_canStand_45 (by decide) (fun c_17 => ?_) (fun c_17 => ?_)
      · have nc_17 := (iLt (a := wt (yTop hgt sd sk)) (b := wt cn - 8) rfl rfl (by omega)).mp c_17
        refine lv_iconst (v := 0) hx hb dX7_canStand_52 (by decide) ?_
        exact W.zret (v := 0) hx hb hr (by rfl) (fun t ht hW => ⟨⟨0, (), rfl, (by unfold yCan; first | (refine Or.inl ⟨rfl, ?_⟩; omega) | (refine Or.inr ⟨rfl, ?_⟩; omega)), trivial⟩, hS.F ht⟩) hS.2.2 dX7_canStand_53
      · have nc_17 := mt (iLt (a := wt (yTop hgt sd sk)) (b := wt cn - 8) rfl rfl (by omega)).mpr c_17
        refine lv_iconst (v := 1) hx hb dX7_canStand_48 (by decide) ?_
        refine lv_goto (tgt := 53) hx hb dX7_canStand_49 (by decide) ?_
        exact W.zret (v := 1) hx hb hr (by rfl) (fun t ht hW => ⟨⟨1, (), rfl, (by unfold yCan; first | (refine Or.inl ⟨rfl, ?_⟩; omega) | (refine Or.inr ⟨rfl, ?_⟩; omega)), trivial⟩, hS.F ht⟩) hS.2.2 dX7_canStand_53
  · have nc_5 := mt (nI_ltI (a := hgt sk) (b := lim sk) (by omega) (by omega)).mpr c_5
    refine lv_iconst (v := 0) hx hb dX7_canStand_15 (by decide) ?_
    exact W.zret (v := 0) hx hb hr (by rfl) (fun t ht hW => ⟨⟨0, (), rfl, (by unfold yCan; first | (refine Or.inl ⟨rfl, ?_⟩; omega) | (refine Or.inr ⟨rfl, ?_⟩; omega)), trivial⟩, hS.F ht⟩) hS.2.2 dX7_canStand_16
theorem dX7_isBetterFirst_0 : decode cX7_isBetterFirst 0 = .ok (.iload_n 0, 1) := by decide +kernel
theorem dX7_isBetterFirst_1 : decode cX7_isBetterFirst 1 = .ok (.iload_n 2, 1) := by decide +kernel
theorem dX7_isBetterFirst_2 : decode cX7_isBetterFirst 2 = .ok (.if_icmp .lt 19, 3) := by decide +kernel
theorem dX7_isBetterFirst_21 : decode cX7_isBetterFirst 21 = .ok (.iload_n 1, 1) := by decide +kernel
theorem dX7_isBetterFirst_22 : decode cX7_isBetterFirst 22 = .ok (.iload_n 2, 1) := by decide +kernel
theorem dX7_isBetterFirst_23 : decode cX7_isBetterFirst 23 = .ok (.if_icmp .ge 12, 3) := by decide +kernel
theorem dX7_isBetterFirst_35 : decode cX7_isBetterFirst 35 = .ok (.iconst 0, 1) := by decide +kernel
theorem dX7_isBetterFirst_36 : decode cX7_isBetterFirst 36 = .ok (.ireturn, 1) := by decide +kernel
theorem dX7_isBetterFirst_26 : decode cX7_isBetterFirst 26 = .ok (.iload_n 0, 1) := by decide +kernel
theorem dX7_isBetterFirst_27 : decode cX7_isBetterFirst 27 = .ok (.iload_n 1, 1) := by decide +kernel
theorem dX7_isBetterFirst_28 : decode cX7_isBetterFirst 28 = .ok (.if_icmp .le 7, 3) := by decide +kernel
theorem dX7_isBetterFirst_31 : decode cX7_isBetterFirst 31 = .ok (.iconst 1, 1) := by decide +kernel
theorem dX7_isBetterFirst_32 : decode cX7_isBetterFirst 32 = .ok (.goto 4, 3) := by decide +kernel
theorem dX7_isBetterFirst_5 : decode cX7_isBetterFirst 5 = .ok (.iload_n 1, 1) := by decide +kernel
theorem dX7_isBetterFirst_6 : decode cX7_isBetterFirst 6 = .ok (.iload_n 2, 1) := by decide +kernel
theorem dX7_isBetterFirst_7 : decode cX7_isBetterFirst 7 = .ok (.if_icmp .lt 8, 3) := by decide +kernel
theorem dX7_isBetterFirst_15 : decode cX7_isBetterFirst 15 = .ok (.iconst 1, 1) := by decide +kernel
theorem dX7_isBetterFirst_16 : decode cX7_isBetterFirst 16 = .ok (.goto 4, 3) := by decide +kernel
theorem dX7_isBetterFirst_20 : decode cX7_isBetterFirst 20 = .ok (.ireturn, 1) := by decide +kernel
theorem dX7_isBetterFirst_10 : decode cX7_isBetterFirst 10 = .ok (.iload_n 0, 1) := by decide +kernel
theorem dX7_isBetterFirst_11 : decode cX7_isBetterFirst 11 = .ok (.iload_n 1, 1) := by decide +kernel
theorem dX7_isBetterFirst_12 : decode cX7_isBetterFirst 12 = .ok (.if_icmp .ge 7, 3) := by decide +kernel
theorem dX7_isBetterFirst_19 : decode cX7_isBetterFirst 19 = .ok (.iconst 0, 1) := by decide +kernel
set_option maxHeartbeats 4000000 in
set_option maxRecDepth 100000 in
theorem y_isBetterFirst (l : Launch) (g : xG) (sz : Nat) (fi : Int) (ot : Int) (ow : Int)  (h1 : 0 ≤ fi ∧ fi ≤ 1000000) (h2 : 0 ≤ ot ∧ ot ≤ 1000000) (h3 : 0 ≤ ow ∧ ow ≤ 1000000) : Met l yX7_isBetterFirst wsX7_isBetterFirst ({ frames := 0, cells := 0, slots := 0, locals := 0 }) (va_Pc [.int (iI fi), .int (iI ot), .int (iI ow)] (fun U => xB g [] sz U)) (va_Qi (fun (r : Int32) (_ : Unit) => (r = 1 ∧ (yBet fi ot ow)) ∨ (r = 0 ∧ ¬ (yBet fi ot ow))) (fun (_ : Unit) (_ : State) => True) (va_A [] sz)) 0 0 (va_A [] sz) := by
  refine Met.ofW (cc := cX7_isBetterFirst) (maxL := 3) (ret := (some .boolean)) (by decide) rfl ?_
  intro p e s m args below meth c s₁ B hml hv
  obtain ⟨rfl, hsz, hP, hK, hD0⟩ := hv
  have hx := B.exec
  have hb := B.bytes
  have hr := B.returns
  have hts := atoms_spec (ws := wsX7_isBetterFirst) B.pre
  have hown : s.vm.findClass RX7 = some m.cls := findClass_of_methodNamed B.named
  have hlocks := B.notSynchronized
  subst hsz
  have hD := hD0
  generalize hAe : va_A [] s.heap.size = A
  have hA : ∀ q : Nat, s.heap.size ≤ q → A q := fun q h => by rw [← hAe]; exact Or.inr h
  have hS : va_S A s.heap s.heap [] := va_S.rf
  have hl := lv_entry ([.int (iI fi), .int (iI ot), .int (iI ow)]) (n := 3) (Nat.le_of_ble_eq_true rfl)
  rw [lg_entry_eq]
  generalize (lg_sl ([.int (iI fi), .int (iI ot), .int (iI ow)]) ++ List.replicate (3 - (lg_sl ([.int (iI fi), .int (iI ot), .int (iI ow)])).length) Slot.unset).toArray = ls at hl ⊢
  have hl : lv_has ls 3 [(0, .int (iI fi)), (1, .int (iI ot)), (2, .int (iI ow))] := hl
  refine lv_iload_n hx hb dX7_isBetterFirst_0 rfl (lv_at hl 0 rfl) ?_
  refine lv_iload_n hx hb dX7_isBetterFirst_1 rfl (lv_at hl 2 rfl) ?_
  refine lv_icmp_lt (tgt := 21) hx hb dX7_isBetterFirst_2 (by decide) (fun c_1 => ?_) (fun c_1 => ?_)
  · have nc_1 := (iLt (a := fi) (b := ow) rfl rfl (by omega)).mp c_1
    refine lv_iload_n hx hb dX7_isBetterFirst_21 rfl (lv_at hl 1 rfl) ?_
    refine lv_iload_n hx hb dX7_isBetterFirst_22 rfl (lv_at hl 2 rfl) ?_
    refine lv_icmp_ge (tgt := 35) hx hb dX7_isBetterFirst_23 (by decide) (fun c_2 => ?_) (fun c_2 => ?_)
    · have nc_2 := (iLe (a := ow) (b := ot) rfl rfl (by omega)).mp c_2
      refine lv_iconst (v := 0) hx hb dX7_isBetterFirst_35 (by decide) ?_
      exact W.zret (v := 0) hx hb hr (by rfl) (fun t ht hW => ⟨⟨0, (), rfl, (by unfold yBet; first | (refine Or.inl ⟨rfl, ?_⟩; omega) | (refine Or.inr ⟨rfl, ?_⟩; omega)), trivial⟩, hS.F ht⟩) hS.2.2 dX7_isBetterFirst_36
    · have nc_2 := mt (iLe (a := ow) (b := ot) rfl rfl (by omega)).mpr c_2
      refine lv_iload_n hx hb dX7_isBetterFirst_26 rfl (lv_at hl 0 rfl) ?_
      refine lv_iload_n hx hb dX7_isBetterFirst_27 rfl (lv_at hl 1 rfl) ?_
      refine lv_icmp_le (tgt := 35) hx hb dX7_isBetterFirst_28 (by decide) (fun c_3 => ?_) (fun c_3 => ?_)
      · have nc_3 := (iLe (a := fi) (b := ot) rfl rfl (by omega)).mp c_3
        refine lv_iconst (v := 0) hx hb dX7_isBetterFirst_35 (by decide) ?_
        exact W.zret (v := 0) hx hb hr (by rfl) (fun t ht hW => ⟨⟨0, (), rfl, (by unfold yBet; first | (refine Or.inl ⟨rfl, ?_⟩; omega) | (refine Or.inr ⟨rfl, ?_⟩; omega)), trivial⟩, hS.F ht⟩) hS.2.2 dX7_isBetterFirst_36
      · have nc_3 := mt (iLe (a := fi) (b := ot) rfl rfl (by omega)).mpr c_3
        refine lv_iconst (v := 1) hx hb dX7_isBetterFirst_31 (by decide) ?_
        refine lv_goto (tgt := 36) hx hb dX7_isBetterFirst_32 (by decide) ?_
        exact W.zret (v := 1) hx hb hr (by rfl) (fun t ht hW => ⟨⟨1, (), rfl, (by unfold yBet; first | (refine Or.inl ⟨rfl, ?_⟩; omega) | (refine Or.inr ⟨rfl, ?_⟩; omega)), trivial⟩, hS.F ht⟩) hS.2.2 dX7_isBetterFirst_36
  · have nc_1 := mt (iLt (a := fi) (b := ow) rfl rfl (by omega)).mpr c_1
    refine lv_iload_n hx hb dX7_isBetterFirst_5 rfl (lv_at hl 1 rfl) ?_
    refine lv_iload_n hx hb dX7_isBetterFirst_6 rfl (lv_at hl 2 rfl) ?_
    refine lv_icmp_lt (tgt := 15) hx hb dX7_isBetterFirst_7 (by decide) (fun c_4 => ?_) (fun c_4 => ?_)
    · have nc_4 := (iLt (a := ot) (b := ow) rfl rfl (by omega)).mp c_4
      refine lv_iconst (v := 1) hx hb dX7_isBetterFirst_15 (by decide) ?_
      refine lv_goto (tgt := 20) hx hb dX7_isBetterFirst_16 (by decide) ?_
      exact W.zret (v := 1) hx hb hr (by rfl) (fun t ht hW => ⟨⟨1, (), rfl, (by unfold yBet; first | (refine Or.inl ⟨rfl, ?_⟩; omega) | (refine Or.inr ⟨rfl, ?_⟩; omega)), trivial⟩, hS.F ht⟩) hS.2.2 dX7_isBetterFirst_20
    · have nc_4 := mt (iLt (a := ot) (b := ow) rfl rfl (by omega)).mpr c_4
      refine lv_iload_n hx hb dX7_isBetterFirst_10 rfl (lv_at hl 0 rfl) ?_
      refine lv_iload_n hx hb dX7_isBetterFirst_11 rfl (lv_at hl 1 rfl) ?_
      refine lv_icmp_ge (tgt := 19) hx hb dX7_isBetterFirst_12 (by decide) (fun c_5 => ?_) (fun c_5 => ?_)
      · have nc_5 := (iLe (a := ot) (b := fi) rfl rfl (by omega)).mp c_5
        refine lv_iconst (v := 0) hx hb dX7_isBetterFirst_19 (by decide) ?_
        exact W.zret (v := 0) hx hb hr (by rfl) (fun t ht hW => ⟨⟨0, (), rfl, (by unfold yBet; first | (refine Or.inl ⟨rfl, ?_⟩; omega) | (refine Or.inr ⟨rfl, ?_⟩; omega)), trivial⟩, hS.F ht⟩) hS.2.2 dX7_isBetterFirst_20
      · have nc_5 := mt (iLe (a := ot) (b := fi) rfl rfl (by omega)).mpr c_5
        refine lv_iconst (v := 1) hx hb dX7_isBetterFirst_15 (by decide) ?_
        refine lv_goto (tgt := 20) hx hb dX7_isBetterFirst_16 (by decide) ?_
        exact W.zret (v := 1) hx hb hr (by rfl) (fun t ht hW => ⟨⟨1, (), rfl, (by unfold yBet; first | (refine Or.inl ⟨rfl, ?_⟩; omega) | (refine Or.inr ⟨rfl, ?_⟩; omega)), trivial⟩, hS.F ht⟩) hS.2.2 dX7_isBetterFirst_20
theorem dX7_stackFor_0 : decode cX7_stackFor 0 = .ok (.iconst (-1), 1) := by decide +kernel
theorem dX7_stackFor_1 : decode cX7_stackFor 1 = .ok (.istore_n 3, 1) := by decide +kernel
theorem dX7_stackFor_2 : decode cX7_stackFor 2 = .ok (.iconst 0, 1) := by decide +kernel
theorem dX7_stackFor_3 : decode cX7_stackFor 3 = .ok (.istore 4, 2) := by decide +kernel
theorem dX7_stackFor_5 : decode cX7_stackFor 5 = .ok (.iconst 0, 1) := by decide +kernel
theorem dX7_stackFor_6 : decode cX7_stackFor 6 = .ok (.istore 5, 2) := by decide +kernel
theorem dX7_stackFor_8 : decode cX7_stackFor 8 = .ok (.iload 5, 2) := by decide +kernel
theorem dX7_stackFor_10 : decode cX7_stackFor 10 = .ok (.aload_n 0, 1) := by decide +kernel
theorem dX7_stackFor_11 : decode cX7_stackFor 11 = .ok (.getfield 51, 3) := by decide +kernel
theorem dX7_stackFor_14 : decode cX7_stackFor 14 = .ok (.if_icmp .ge 67, 3) := by decide +kernel
theorem dX7_stackFor_81 : decode cX7_stackFor 81 = .ok (.iload_n 3, 1) := by decide +kernel
theorem dX7_stackFor_82 : decode cX7_stackFor 82 = .ok (.ireturn, 1) := by decide +kernel
theorem dX7_stackFor_17 : decode cX7_stackFor 17 = .ok (.iload 5, 2) := by decide +kernel
theorem dX7_stackFor_19 : decode cX7_stackFor 19 = .ok (.iload_n 2, 1) := by decide +kernel
theorem dX7_stackFor_20 : decode cX7_stackFor 20 = .ok (.if_icmp .eq 55, 3) := by decide +kernel
theorem dX7_stackFor_75 : decode cX7_stackFor 75 = .ok (.iinc 5 1, 3) := by decide +kernel
theorem dX7_stackFor_78 : decode cX7_stackFor 78 = .ok (.goto (-70), 3) := by decide +kernel
theorem dX7_stackFor_23 : decode cX7_stackFor 23 = .ok (.aload_n 0, 1) := by decide +kernel
theorem dX7_stackFor_24 : decode cX7_stackFor 24 = .ok (.iload_n 1, 1) := by decide +kernel
theorem dX7_stackFor_25 : decode cX7_stackFor 25 = .ok (.iload 5, 2) := by decide +kernel
theorem dX7_stackFor_27 : decode cX7_stackFor 27 = .ok (.invokevirtual 103, 3) := by decide +kernel
set_option maxRecDepth 20000 in
theorem ggX7_stackFor_X7_canStand : GoodIn wsX7_stackFor wsX7_canStand := goodIn_r _ [8, 2, 9, 10, 11, 12, 13, 7, 14, 15, 27, 28, 29, 30, 31, 32, 33, 34, 35, 36, 37] rfl (by decide +kernel)
set_option maxRecDepth 20000 in
theorem gX7_stackFor_X7_canStand : GoodIn wsX7_stackFor (wsV RX7 103 RX7 yX7_canStand wsX7_canStand) := goodIn_app (goodIn_of _ (by decide +kernel)) ggX7_stackFor_X7_canStand
theorem dX7_stackFor_30 : decode cX7_stackFor 30 = .ok (.ifCond .eq 45, 3) := by decide +kernel
theorem dX7_stackFor_33 : decode cX7_stackFor 33 = .ok (.aload_n 0, 1) := by decide +kernel
theorem dX7_stackFor_34 : decode cX7_stackFor 34 = .ok (.iload 5, 2) := by decide +kernel
theorem dX7_stackFor_36 : decode cX7_stackFor 36 = .ok (.aload_n 0, 1) := by decide +kernel
theorem dX7_stackFor_37 : decode cX7_stackFor 37 = .ok (.getfield 15, 3) := by decide +kernel
theorem dX7_stackFor_40 : decode cX7_stackFor 40 = .ok (.iload 5, 2) := by decide +kernel
theorem dX7_stackFor_42 : decode cX7_stackFor 42 = .ok (.iaload, 1) := by decide +kernel
theorem dX7_stackFor_43 : decode cX7_stackFor 43 = .ok (.invokevirtual 107, 3) := by decide +kernel
set_option maxRecDepth 20000 in
theorem ggX7_stackFor_X7_firstBelow : GoodIn wsX7_stackFor wsX7_firstBelow := goodIn_r _ [19, 3, 15, 20, 21, 22, 23, 27, 28, 29, 30, 31, 32, 33, 34, 35, 36, 37] rfl (by decide +kernel)
set_option maxRecDepth 20000 in
theorem gX7_stackFor_X7_firstBelow : GoodIn wsX7_stackFor (wsV RX7 107 RX7 yX7_firstBelow wsX7_firstBelow) := goodIn_app (goodIn_of _ (by decide +kernel)) ggX7_stackFor_X7_firstBelow
theorem dX7_stackFor_46 : decode cX7_stackFor 46 = .ok (.istore 6, 2) := by decide +kernel
theorem dX7_stackFor_48 : decode cX7_stackFor 48 = .ok (.iload_n 3, 1) := by decide +kernel
theorem dX7_stackFor_49 : decode cX7_stackFor 49 = .ok (.ifCond .lt 19, 3) := by decide +kernel
theorem dX7_stackFor_68 : decode cX7_stackFor 68 = .ok (.iload 5, 2) := by decide +kernel
theorem dX7_stackFor_70 : decode cX7_stackFor 70 = .ok (.istore_n 3, 1) := by decide +kernel
theorem dX7_stackFor_71 : decode cX7_stackFor 71 = .ok (.iload 6, 2) := by decide +kernel
theorem dX7_stackFor_73 : decode cX7_stackFor 73 = .ok (.istore 4, 2) := by decide +kernel
theorem dX7_stackFor_52 : decode cX7_stackFor 52 = .ok (.iload 6, 2) := by decide +kernel
theorem dX7_stackFor_54 : decode cX7_stackFor 54 = .ok (.iload 4, 2) := by decide +kernel
theorem dX7_stackFor_56 : decode cX7_stackFor 56 = .ok (.aload_n 0, 1) := by decide +kernel
theorem dX7_stackFor_57 : decode cX7_stackFor 57 = .ok (.getfield 26, 3) := by decide +kernel
theorem dX7_stackFor_60 : decode cX7_stackFor 60 = .ok (.iload_n 1, 1) := by decide +kernel
theorem dX7_stackFor_61 : decode cX7_stackFor 61 = .ok (.iaload, 1) := by decide +kernel
theorem dX7_stackFor_62 : decode cX7_stackFor 62 = .ok (.invokestatic 110, 3) := by decide +kernel
set_option maxRecDepth 20000 in
theorem ggX7_stackFor_X7_isBetterFirst : GoodIn wsX7_stackFor wsX7_isBetterFirst := goodIn_r _ [26] rfl (by decide +kernel)
set_option maxRecDepth 20000 in
theorem gX7_stackFor_X7_isBetterFirst : GoodIn wsX7_stackFor (va_wsS RX7 110 yX7_isBetterFirst wsX7_isBetterFirst) := goodIn_app (goodIn_of _ (by decide +kernel)) ggX7_stackFor_X7_isBetterFirst
theorem dX7_stackFor_65 : decode cX7_stackFor 65 = .ok (.ifCond .eq 10, 3) := by decide +kernel
set_option maxHeartbeats 4000000 in
set_option maxRecDepth 100000 in
theorem y_stackFor (l : Launch) (g : xG) (sz : Nat) (ya : Nat) (li : Nat) (he : Nat) (so : Nat) (we : Nat) (le : Nat) (sc : Nat) (cn : Nat) (ex : Int) (rr : Nat → Nat) (y1 : Value) (y2 : Value) (y8 : Value) (y9 : Value) (y10 : Value) (lim : Nat → Nat) (hgt : Nat → Nat) (sd : Nat → Nat → Nat) (wt : Nat → Int) (lv : Nat → Int)  (hc : cn < 24) (hsc : sc ≤ 12) (hex : -1 ≤ ex ∧ ex ≤ 11) (b_lim : ∀ j, lim j ≤ 5) (b_hgt : ∀ j, hgt j ≤ 5) (b_sd : ∀ i j, sd i j ≤ 23) (b_wt : ∀ j, 0 ≤ wt j ∧ wt j ≤ 1000) (b_lv : ∀ j, 0 ≤ lv j ∧ lv j ≤ 1000000) : Met l yX7_stackFor wsX7_stackFor ({ frames := 2, cells := 0, slots := 0, locals := 48 }) (va_Pc [.ref ya, .int (nI cn), .int (iI ex)] (fun U => xB g ([(ya, .inr (7, [.int (nI sc), y1, y2, .ref li, .ref he, .ref so, .ref we, .ref le, y8, y9, y10])), (li, .inl (xI g, 12, .inl (fun j => nI (lim j)))), (he, .inl (xI g, 12, .inl (fun j => nI (hgt j)))), (so, .inl (xM g, 12, .inr (.inr (.inr (.inr (fun i => if i < 12 then some (rr i) else none))))))] ++ (xRN (xI g) 12 5 rr sd ++ [(we, .inl (xI g, 24, .inl (fun j => iI (wt j)))), (le, .inl (xI g, 24, .inl (fun j => iI (lv j))))])) sz U)) (va_Qi (fun (r : Int32) (_ : Unit) => r = iI (yFor lim wt lv hgt sd cn ex sc).1) (fun (_ : Unit) (_ : State) => True) (va_A [] sz)) 0 0 (va_A [] sz) := by
  refine Met.ofW (cc := cX7_stackFor) (maxL := 7) (ret := (some .int)) (by decide) rfl ?_
  intro p e s m args below meth c s₁ B hml hv
  obtain ⟨rfl, hsz, hP, hK, hD0⟩ := hv
  have hx := B.exec
  have hb := B.bytes
  have hr := B.returns
  have hts := atoms_spec (ws := wsX7_stackFor) B.pre
  have hown : s.vm.findClass RX7 = some m.cls := findClass_of_methodNamed B.named
  have hlocks := B.notSynchronized
  subst hsz
  have hD := hD0
  generalize hAe : va_A [] s.heap.size = A
  have hA : ∀ q : Nat, s.heap.size ≤ q → A q := fun q h => by rw [← hAe]; exact Or.inr h
  have hS : va_S A s.heap s.heap [] := va_S.rf
  have hl := lv_entry ([.ref ya, .int (nI cn), .int (iI ex)]) (n := 7) (Nat.le_of_ble_eq_true rfl)
  rw [lg_entry_eq]
  generalize (lg_sl ([.ref ya, .int (nI cn), .int (iI ex)]) ++ List.replicate (7 - (lg_sl ([.ref ya, .int (nI cn), .int (iI ex)])).length) Slot.unset).toArray = ls at hl ⊢
  have hl : lv_has ls 7 [(0, .ref ya), (1, .int (nI cn)), (2, .int (iI ex))] := hl
  have hFX7 : ∀ w ∈ u_ws RX7 TX7 11, w ∈ wsX7_stackFor := by decide +kernel
  refine lv_iconst (v := (-1)) hx hb dX7_stackFor_0 (by decide) ?_
  refine lv_istore_n (lv' := [(3, .int (-1)), (0, .ref ya), (1, .int (nI cn)), (2, .int (iI ex))]) hx hb dX7_stackFor_1 rfl hl (by decide) rfl (fun ls hl => ?_)
  refine lv_iconst (v := 0) hx hb dX7_stackFor_2 (by decide) ?_
  refine lv_istore (lv' := [(4, .int 0), (3, .int (-1)), (0, .ref ya), (1, .int (nI cn)), (2, .int (iI ex))]) hx hb dX7_stackFor_3 hl (by decide) rfl (fun ls hl => ?_)
  refine lv_iconst (v := 0) hx hb dX7_stackFor_5 (by decide) ?_
  refine lv_istore (lv' := [(5, .int 0), (4, .int 0), (3, .int (-1)), (0, .ref ya), (1, .int (nI cn)), (2, .int (iI ex))]) hx hb dX7_stackFor_6 hl (by decide) rfl (fun ls hl => ?_)
  have hloop8 : ∀ (n9 : Nat) (k : Nat) (ch : Int) (fo : Int) (H : Heap) (locs : List Loc) (ls : Array Slot), sc - k < n9 → (k ≤ sc) → (yFor lim wt lv hgt sd cn ex k = (ch, fo)) → va_P (xD g) vwCl ([(ya, .inr (7, [.int (nI sc), y1, y2, .ref li, .ref he, .ref so, .ref we, .ref le, y8, y9, y10])), (li, .inl (xI g, 12, .inl (fun j => nI (lim j)))), (he, .inl (xI g, 12, .inl (fun j => nI (hgt j)))), (so, .inl (xM g, 12, .inr (.inr (.inr (.inr (fun i => if i < 12 then some (rr i) else none))))))] ++ (xRN (xI g) 12 5 rr sd ++ [(we, .inl (xI g, 24, .inl (fun j => iI (wt j)))), (le, .inl (xI g, 24, .inl (fun j => iI (lv j))))])) H → va_D (fun _ => True) ([(ya, .inr (7, [.int (nI sc), y1, y2, .ref li, .ref he, .ref so, .ref we, .ref le, y8, y9, y10])), (li, .inl (xI g, 12, .inl (fun j => nI (lim j)))), (he, .inl (xI g, 12, .inl (fun j => nI (hgt j)))), (so, .inl (xM g, 12, .inr (.inr (.inr (.inr (fun i => if i < 12 then some (rr i) else none))))))] ++ (xRN (xI g) 12 5 rr sd ++ [(we, .inl (xI g, 24, .inl (fun j => iI (wt j)))), (le, .inl (xI g, 24, .inl (fun j => iI (lv j))))])) → va_S A s.heap H locs → lv_has ls 7 [(5, .int (nI k)), (0, .ref ya), (1, .int (nI cn)), (2, .int (iI ex)), (3, .int (iI ch)), (4, .int (iI fo))] → W p l e (headSpec wsX7_stackFor ({ frames := 2, cells := 0, slots := 0, locals := 48 })).room s m ([.ref ya, .int (nI cn), .int (iI ex)] : List Value).toArray below meth c H locs 0 0 (MQ below (va_Qi (fun (r : Int32) (_ : Unit) => r = iI (yFor lim wt lv hgt sd cn ex sc).1) (fun (_ : Unit) (_ : State) => True) (A)) ([.ref ya, .int (nI cn), .int (iI ex)] : List Value).toArray s 0 0 A) (F0 m 8 ls []) := by
    intro n9
    induction n9 with
    | zero =>
      intro k ch fo H locs ls hm hk hf hP hD hS hl
      exact absurd hm (Nat.not_lt_zero _)
    | succ n9 ih8 =>
      intro k ch fo H locs ls hm hk hf hP hD hS hl
      have hq := yFor_bd (lim := lim) (wt := wt) (ht := hgt) (sd := sd) (c := cn) (ex := ex) b_lv k
      rw [hf] at hq; dsimp only at hq
      refine lv_iload hx hb dX7_stackFor_8 (lv_at hl 0 rfl) ?_
      refine lv_aload_n hx hb dX7_stackFor_10 rfl (lv_at hl 1 rfl) ?_
      refine va_get (D := xD g) (ci := 7) (v := .int (nI sc)) (C := RX7) (T := TX7) (N := 11) hx hb hts hFX7 hown hK hP 0 rfl rfl 0 (by decide) (hts (.fieldLink RX7 51 "Stevedore$Yard" "stackCount" "I") (by decide +kernel)) (fun _ h9 => h9) rfl dX7_stackFor_11 ?_
      refine lv_icmp_ge (tgt := 81) hx hb dX7_stackFor_14 (by decide) (fun c_1 => ?_) (fun c_1 => ?_)
      · have nc_1 := (nI_leI (a := sc) (b := k) (by omega) (by omega)).mp c_1
        refine lv_iload_n hx hb dX7_stackFor_81 rfl (lv_at hl 4 rfl) ?_
        exact W.iret (v := iI ch) hx hb hr (fun t ht hW => ⟨⟨iI ch, (), rfl, (by obtain rfl : k = sc := (by omega); rw [hf]), trivial⟩, hS.F ht⟩) hS.2.2 dX7_stackFor_82
      · have nc_1 := mt (nI_leI (a := sc) (b := k) (by omega) (by omega)).mpr c_1
        refine lv_iload hx hb dX7_stackFor_17 (lv_at hl 0 rfl) ?_
        refine lv_iload_n hx hb dX7_stackFor_19 rfl (lv_at hl 3 rfl) ?_
        refine lv_icmp_eq (tgt := 75) hx hb dX7_stackFor_20 (by decide) (fun c_2 => ?_) (fun c_2 => ?_)
        · have nc_2 := (iEq (a := ((k : Nat) : Int)) (b := ex) (iI_nI _) rfl (by omega)).mp c_2
          refine lv_iinc (v := nI (k + 1)) (lv' := [(5, .int (nI (k + 1))), (0, .ref ya), (1, .int (nI cn)), (2, .int (iI ex)), (3, .int (iI ch)), (4, .int (iI fo))]) hx hb dX7_stackFor_75 hl (k := 0) rfl (nI_add k 1) (by decide) rfl (fun ls hl => ?_)
          refine lv_goto (tgt := 8) hx hb dX7_stackFor_78 (by decide) ?_
          exact ih8 (k + 1) ch fo _ _ _ (by omega) (by omega) (by rw [yFor_s, hf]; dsimp only; first | (rw [yIf_t ⟨by omega, by assumption, by first | (left; omega) | (right; assumption)⟩]) | (rw [yIf_f (by rintro ⟨q1, q2, q3⟩; first | omega | contradiction | (rcases q3 with q3 | q3 <;> first | omega | contradiction))])) hP hD hS (lv_sub hl [0, 1, 2, 3, 4, 5] rfl)
        · have nc_2 := mt (iEq (a := ((k : Nat) : Int)) (b := ex) (iI_nI _) rfl (by omega)).mpr c_2
          refine lv_aload_n hx hb dX7_stackFor_23 rfl (lv_at hl 1 rfl) ?_
          refine lv_iload_n hx hb dX7_stackFor_24 rfl (lv_at hl 2 rfl) ?_
          refine lv_iload hx hb dX7_stackFor_25 (lv_at hl 0 rfl) ?_
          have hPc := hP.sub (ws' := ([(ya, .inr (7, [.int (nI sc), y1, y2, .ref li, .ref he, .ref so, .ref we, .ref le, y8, y9, y10])), (li, .inl (xI g, 12, .inl (fun j => nI (lim j)))), (he, .inl (xI g, 12, .inl (fun j => nI (hgt j)))), (so, .inl (xM g, 12, .inr (.inr (.inr (.inr (fun i => if i < 12 then some (rr i) else none))))))] ++ (xRN (xI g) 12 5 rr sd ++ [(we, .inl (xI g, 24, .inl (fun j => iI (wt j))))]))) [0, 1, 2, 3, 4, 5, 6, 7, 8, 9, 10, 11, 12, 13, 14, 15, 16] rfl
          have hDc := hD.sub (ws' := ([(ya, .inr (7, [.int (nI sc), y1, y2, .ref li, .ref he, .ref so, .ref we, .ref le, y8, y9, y10])), (li, .inl (xI g, 12, .inl (fun j => nI (lim j)))), (he, .inl (xI g, 12, .inl (fun j => nI (hgt j)))), (so, .inl (xM g, 12, .inr (.inr (.inr (.inr (fun i => if i < 12 then some (rr i) else none))))))] ++ (xRN (xI g) 12 5 rr sd ++ [(we, .inl (xI g, 24, .inl (fun j => iI (wt j))))]))) [0, 1, 2, 3, 4, 5, 6, 7, 8, 9, 10, 11, 12, 13, 14, 15, 16] (by decide) rfl
          have hFc := xFree hS hA
          refine va_calli (va_runV (As := [.int (nI cn), .int (nI k)]) (rest := []) ⟨hx, hb, hml, hown, hts⟩ (y_canStand l g H.size ya li he so we cn k rr (.int (nI sc)) y1 y2 (.ref le) y8 y9 y10 lim hgt sd wt (by first | assumption | omega) (by first | assumption | omega) b_lim b_hgt b_sd b_wt) (cwV 2 hts gX7_stackFor_X7_canStand rfl rfl rfl (by decide +kernel) ⟨Nat.le_of_ble_eq_true rfl, Nat.le_of_ble_eq_true rfl⟩) ⟨xB.blind, va_recv hK hPc (ci := 7) (q0 := 0) rfl rfl, fun U9 hU9 hW9 => ⟨rfl, xB.mk hPc hK hDc hU9 hW9⟩⟩ rfl rfl hl.1 rfl (lv_room (Nat.le_of_ble_eq_true rfl)) dX7_stackFor_27 ⟨Nat.le_of_ble_eq_true rfl, Nat.le_of_ble_eq_true rfl⟩) hS (fun q _ h => hFc q h) hFc (fun r_3 _ t H1 locs ht hvm hw_4 hB hz1 hk1 hS => ?_)
          have hP := xSame hP hk1
          generalize H1 = H at hP hS ⊢
          have hP : va_P (xD g) vwCl ([(ya, .inr (7, [.int (nI sc), y1, y2, .ref li, .ref he, .ref so, .ref we, .ref le, y8, y9, y10])), (li, .inl (xI g, 12, .inl (fun j => nI (lim j)))), (he, .inl (xI g, 12, .inl (fun j => nI (hgt j)))), (so, .inl (xM g, 12, .inr (.inr (.inr (.inr (fun i => if i < 12 then some (rr i) else none))))))] ++ (xRN (xI g) 12 5 rr sd ++ [(we, .inl (xI g, 24, .inl (fun j => iI (wt j)))), (le, .inl (xI g, 24, .inl (fun j => iI (lv j))))])) H := hP
          have hD : va_D (fun _ => True) ([(ya, .inr (7, [.int (nI sc), y1, y2, .ref li, .ref he, .ref so, .ref we, .ref le, y8, y9, y10])), (li, .inl (xI g, 12, .inl (fun j => nI (lim j)))), (he, .inl (xI g, 12, .inl (fun j => nI (hgt j)))), (so, .inl (xM g, 12, .inr (.inr (.inr (.inr (fun i => if i < 12 then some (rr i) else none))))))] ++ (xRN (xI g) 12 5 rr sd ++ [(we, .inl (xI g, 24, .inl (fun j => iI (wt j)))), (le, .inl (xI g, 24, .inl (fun j => iI (lv j))))])) := hD
          try dsimp only at hw_4
          rcases hw_4 with ⟨rfl, hw_4⟩ | ⟨rfl, hw_4⟩
          · refine lv_if_eq (tgt := 75) hx hb dX7_stackFor_30 (by decide) (fun c0 => absurd c0 (by decide)) (fun _ => ?_)
            refine lv_aload_n hx hb dX7_stackFor_33 rfl (lv_at hl 1 rfl) ?_
            refine lv_iload hx hb dX7_stackFor_34 (lv_at hl 0 rfl) ?_
            refine lv_aload_n hx hb dX7_stackFor_36 rfl (lv_at hl 1 rfl) ?_
            refine va_get (D := xD g) (ci := 7) (v := .ref he) (C := RX7) (T := TX7) (N := 11) hx hb hts hFX7 hown hK hP 0 rfl rfl 4 (by decide) (hts (.fieldLink RX7 15 "Stevedore$Yard" "height" "[I") (by decide +kernel)) (fun _ h9 => h9) rfl dX7_stackFor_37 ?_
            refine lv_iload hx hb dX7_stackFor_40 (lv_at hl 0 rfl) ?_
            refine va_iald hx hb hK hP 2 0 rfl rfl (vp_in_nI (by omega) (by omega)) dX7_stackFor_42 ?_
            refine lv_topi (fun v_5 ev => ?_)
            obtain rfl : v_5 = nI (hgt k) := ev.trans (congrArg (fun q9 => nI (hgt q9)) (nI_clamp (by omega)))
            have b_6 := b_hgt k
            have hPc := hP.sub (ws' := ([(ya, .inr (7, [.int (nI sc), y1, y2, .ref li, .ref he, .ref so, .ref we, .ref le, y8, y9, y10])), (so, .inl (xM g, 12, .inr (.inr (.inr (.inr (fun i => if i < 12 then some (rr i) else none))))))] ++ (xRN (xI g) 12 5 rr sd ++ [(le, .inl (xI g, 24, .inl (fun j => iI (lv j))))]))) [0, 3, 4, 5, 6, 7, 8, 9, 10, 11, 12, 13, 14, 15, 17] rfl
            have hDc := hD.sub (ws' := ([(ya, .inr (7, [.int (nI sc), y1, y2, .ref li, .ref he, .ref so, .ref we, .ref le, y8, y9, y10])), (so, .inl (xM g, 12, .inr (.inr (.inr (.inr (fun i => if i < 12 then some (rr i) else none))))))] ++ (xRN (xI g) 12 5 rr sd ++ [(le, .inl (xI g, 24, .inl (fun j => iI (lv j))))]))) [0, 3, 4, 5, 6, 7, 8, 9, 10, 11, 12, 13, 14, 15, 17] (by decide) rfl
            have hFc := xFree hS hA
            refine va_calli (va_runV (As := [.int (nI k), .int (nI (hgt k))]) (rest := []) ⟨hx, hb, hml, hown, hts⟩ (y_firstBelow l g H.size ya so le k (hgt k) rr (.int (nI sc)) y1 y2 (.ref li) (.ref he) (.ref we) y8 y9 y10 sd lv (by first | assumption | omega) (by first | assumption | omega) b_sd b_lv) (cwV 2 hts gX7_stackFor_X7_firstBelow rfl rfl rfl (by decide +kernel) ⟨Nat.le_of_ble_eq_true rfl, Nat.le_of_ble_eq_true rfl⟩) ⟨xB.blind, va_recv hK hPc (ci := 7) (q0 := 0) rfl rfl, fun U9 hU9 hW9 => ⟨rfl, xB.mk hPc hK hDc hU9 hW9⟩⟩ rfl rfl hl.1 rfl (lv_room (Nat.le_of_ble_eq_true rfl)) dX7_stackFor_43 ⟨Nat.le_of_ble_eq_true rfl, Nat.le_of_ble_eq_true rfl⟩) hS (fun q _ h => hFc q h) hFc (fun r_7 _ t H1 locs ht hvm hw_8 hB hz1 hk1 hS => ?_)
            have hP := xSame hP hk1
            generalize H1 = H at hP hS ⊢
            have hP : va_P (xD g) vwCl ([(ya, .inr (7, [.int (nI sc), y1, y2, .ref li, .ref he, .ref so, .ref we, .ref le, y8, y9, y10])), (li, .inl (xI g, 12, .inl (fun j => nI (lim j)))), (he, .inl (xI g, 12, .inl (fun j => nI (hgt j)))), (so, .inl (xM g, 12, .inr (.inr (.inr (.inr (fun i => if i < 12 then some (rr i) else none))))))] ++ (xRN (xI g) 12 5 rr sd ++ [(we, .inl (xI g, 24, .inl (fun j => iI (wt j)))), (le, .inl (xI g, 24, .inl (fun j => iI (lv j))))])) H := hP
            have hD : va_D (fun _ => True) ([(ya, .inr (7, [.int (nI sc), y1, y2, .ref li, .ref he, .ref so, .ref we, .ref le, y8, y9, y10])), (li, .inl (xI g, 12, .inl (fun j => nI (lim j)))), (he, .inl (xI g, 12, .inl (fun j => nI (hgt j)))), (so, .inl (xM g, 12, .inr (.inr (.inr (.inr (fun i => if i < 12 then some (rr i) else none))))))] ++ (xRN (xI g) 12 5 rr sd ++ [(we, .inl (xI g, 24, .inl (fun j => iI (wt j)))), (le, .inl (xI g, 24, .inl (fun j => iI (lv j))))])) := hD
            try dsimp only at hw_8
            obtain rfl : r_7 = iI (yFst lv (sd k) (hgt k)) := hw_8
            have hq2 := yFst_bd (sd := sd k) b_lv (hgt k)
            refine lv_istore (lv' := [(6, .int (iI (yFst lv (sd k) (hgt k)))), (5, .int (nI k)), (0, .ref ya), (1, .int (nI cn)), (2, .int (iI ex)), (3, .int (iI ch)), (4, .int (iI fo))]) hx hb dX7_stackFor_46 hl (by decide) rfl (fun ls hl => ?_)
            refine lv_iload_n hx hb dX7_stackFor_48 rfl (lv_at hl 5 rfl) ?_
            refine lv_if_lt (tgt := 68) hx hb dX7_stackFor_49 (by decide) (fun c_9 => ?_) (fun c_9 => ?_)
            · have nc_9 := (iLt (a := ch) (b := 0) rfl (by decide) (by omega)).mp c_9
              refine lv_iload hx hb dX7_stackFor_68 (lv_at hl 1 rfl) ?_
              refine lv_istore_n (lv' := [(3, .int (nI k)), (6, .int (iI (yFst lv (sd k) (hgt k)))), (5, .int (nI k)), (0, .ref ya), (1, .int (nI cn)), (2, .int (iI ex)), (4, .int (iI fo))]) hx hb dX7_stackFor_70 rfl hl (by decide) rfl (fun ls hl => ?_)
              refine lv_iload hx hb dX7_stackFor_71 (lv_at hl 1 rfl) ?_
              refine lv_istore (lv' := [(4, .int (iI (yFst lv (sd k) (hgt k)))), (3, .int (nI k)), (6, .int (iI (yFst lv (sd k) (hgt k)))), (5, .int (nI k)), (0, .ref ya), (1, .int (nI cn)), (2, .int (iI ex))]) hx hb dX7_stackFor_73 hl (by decide) rfl (fun ls hl => ?_)
              refine lv_iinc (v := nI (k + 1)) (lv' := [(5, .int (nI (k + 1))), (4, .int (iI (yFst lv (sd k) (hgt k)))), (3, .int (nI k)), (6, .int (iI (yFst lv (sd k) (hgt k)))), (0, .ref ya), (1, .int (nI cn)), (2, .int (iI ex))]) hx hb dX7_stackFor_75 hl (k := 3) rfl (nI_add k 1) (by decide) rfl (fun ls hl => ?_)
              refine lv_goto (tgt := 8) hx hb dX7_stackFor_78 (by decide) ?_
              exact ih8 (k + 1) ((k : Nat) : Int) (yFst lv (sd k) (hgt k)) _ _ _ (by omega) (by omega) (by rw [yFor_s, hf]; dsimp only; first | (rw [yIf_t ⟨by omega, by assumption, by first | (left; omega) | (right; assumption)⟩]) | (rw [yIf_f (by rintro ⟨q1, q2, q3⟩; first | omega | contradiction | (rcases q3 with q3 | q3 <;> first | omega | contradiction))])) hP hD hS (by rw [(show iI ((k : Nat) : Int) = nI k from (iI_nI _).symm)]; exact lv_sub hl [0, 4, 5, 6, 2, 1] rfl)
            · have nc_9 := mt (iLt (a := ch) (b := 0) rfl (by decide) (by omega)).mpr c_9
              refine lv_iload hx hb dX7_stackFor_52 (lv_at hl 0 rfl) ?_
              refine lv_iload hx hb dX7_stackFor_54 (lv_at hl 6 rfl) ?_
              refine lv_aload_n hx hb dX7_stackFor_56 rfl (lv_at hl 2 rfl) ?_
              refine va_get (D := xD g) (ci := 7) (v := .ref le) (C := RX7) (T := TX7) (N := 11) hx hb hts hFX7 hown hK hP 0 rfl rfl 7 (by decide) (hts (.fieldLink RX7 26 "Stevedore$Yard" "leaving" "[I") (by decide +kernel)) (fun _ h9 => h9) rfl dX7_stackFor_57 ?_
              refine lv_iload_n hx hb dX7_stackFor_60 rfl (lv_at hl 3 rfl) ?_
              refine va_iald hx hb hK hP 17 0 rfl rfl (vp_in_nI (by omega) (by omega)) dX7_stackFor_61 ?_
              refine lv_topi (fun v_10 ev => ?_)
              obtain rfl : v_10 = iI (lv cn) := ev.trans (congrArg (fun q9 => iI (lv q9)) (nI_clamp (by omega)))
              have b_11 := b_lv cn
              have hPc := hP.sub (ws' := []) [] rfl
              have hDc := hD.sub (ws' := []) [] (by decide) rfl
              have hFc := xFree hS hA
              refine va_calli (va_runS (As := [.int (iI (yFst lv (sd k) (hgt k))), .int (iI fo), .int (iI (lv cn))]) (rest := []) ⟨hx, hb, hml, hown, hts⟩ (y_isBetterFirst l g H.size (yFst lv (sd k) (hgt k)) fo (lv cn) (by first | assumption | omega) (by first | assumption | omega) (by first | assumption | omega)) (va_cwS 3 hts gX7_stackFor_X7_isBetterFirst rfl rfl rfl (by decide +kernel) ⟨Nat.le_of_ble_eq_true rfl, Nat.le_of_ble_eq_true rfl⟩) ⟨xB.blind, fun U9 hU9 hW9 => ⟨rfl, xB.mk hPc hK hDc hU9 hW9⟩⟩ rfl rfl hl.1 rfl (lv_room (Nat.le_of_ble_eq_true rfl)) dX7_stackFor_62 ⟨Nat.le_of_ble_eq_true rfl, Nat.le_of_ble_eq_true rfl⟩) hS (fun q _ h => hFc q h) hFc (fun r_12 _ t H1 locs ht hvm hw_13 hB hz1 hk1 hS => ?_)
              have hP := xSame hP hk1
              generalize H1 = H at hP hS ⊢
              have hP : va_P (xD g) vwCl ([(ya, .inr (7, [.int (nI sc), y1, y2, .ref li, .ref he, .ref so, .ref we, .ref le, y8, y9, y10])), (li, .inl (xI g, 12, .inl (fun j => nI (lim j)))), (he, .inl (xI g, 12, .inl (fun j => nI (hgt j)))), (so, .inl (xM g, 12, .inr (.inr (.inr (.inr (fun i => if i < 12 then some (rr i) else none))))))] ++ (xRN (xI g) 12 5 rr sd ++ [(we, .inl (xI g, 24, .inl (fun j => iI (wt j)))), (le, .inl (xI g, 24, .inl (fun j => iI (lv j))))])) H := hP
              have hD : va_D (fun _ => True) ([(ya, .inr (7, [.int (nI sc), y1, y2, .ref li, .ref he, .ref so, .ref we, .ref le, y8, y9, y10])), (li, .inl (xI g, 12, .inl (fun j => nI (lim j)))), (he, .inl (xI g, 12, .inl (fun j => nI (hgt j)))), (so, .inl (xM g, 12, .inr (.inr (.inr (.inr (fun i => if i < 12 then some (rr i) else none))))))] ++ (xRN (xI g) 12 5 rr sd ++ [(we, .inl (xI g, 24, .inl (fun j => iI (wt j)))), (le, .inl (xI g, 24, .inl (fun j => iI (lv j))))])) := hD
              try dsimp only at hw_13
              rcases hw_13 with ⟨rfl, hw_13⟩ | ⟨rfl, hw_13⟩
              · refine lv_if_eq (tgt := 75) hx hb dX7_stackFor_65 (by decide) (fun c0 => absurd c0 (by decide)) (fun _ => ?_)
                refine lv_iload hx hb dX7_stackFor_68 (lv_at hl 1 rfl) ?_
                refine lv_istore_n (lv' := [(3, .int (nI k)), (6, .int (iI (yFst lv (sd k) (hgt k)))), (5, .int (nI k)), (0, .ref ya), (1, .int (nI cn)), (2, .int (iI ex)), (4, .int (iI fo))]) hx hb dX7_stackFor_70 rfl hl (by decide) rfl (fun ls hl => ?_)
                refine lv_iload hx hb dX7_stackFor_71 (lv_at hl 1 rfl) ?_
                refine lv_istore (lv' := [(4, .int (iI (yFst lv (sd k) (hgt k)))), (3, .int (nI k)), (6, .int (iI (yFst lv (sd k) (hgt k)))), (5, .int (nI k)), (0, .ref ya), (1, .int (nI cn)), (2, .int (iI ex))]) hx hb dX7_stackFor_73 hl (by decide) rfl (fun ls hl => ?_)
                refine lv_iinc (v := nI (k + 1)) (lv' := [(5, .int (nI (k + 1))), (4, .int (iI (yFst lv (sd k) (hgt k)))), (3, .int (nI k)), (6, .int (iI (yFst lv (sd k) (hgt k)))), (0, .ref ya), (1, .int (nI cn)), (2, .int (iI ex))]) hx hb dX7_stackFor_75 hl (k := 3) rfl (nI_add k 1) (by decide) rfl (fun ls hl => ?_)
                refine lv_goto (tgt := 8) hx hb dX7_stackFor_78 (by decide) ?_
                exact ih8 (k + 1) ((k : Nat) : Int) (yFst lv (sd k) (hgt k)) _ _ _ (by omega) (by omega) (by rw [yFor_s, hf]; dsimp only; first | (rw [yIf_t ⟨by omega, by assumption, by first | (left; omega) | (right; assumption)⟩]) | (rw [yIf_f (by rintro ⟨q1, q2, q3⟩; first | omega | contradiction | (rcases q3 with q3 | q3 <;> first | omega | contradiction))])) hP hD hS (by rw [(show iI ((k : Nat) : Int) = nI k from (iI_nI _).symm)]; exact lv_sub hl [0, 4, 5, 6, 2, 1] rfl)
              · refine lv_if_eq (tgt := 75) hx hb dX7_stackFor_65 (by decide) (fun _ => ?_) (fun c0 => absurd (by decide) c0)
                refine lv_iinc (v := nI (k + 1)) (lv' := [(5, .int (nI (k + 1))), (6, .int (iI (yFst lv (sd k) (hgt k)))), (0, .ref ya), (1, .int (nI cn)), (2, .int (iI ex)), (3, .int (iI ch)), (4, .int (iI fo))]) hx hb dX7_stackFor_75 hl (k := 1) rfl (nI_add k 1) (by decide) rfl (fun ls hl => ?_)
                refine lv_goto (tgt := 8) hx hb dX7_stackFor_78 (by decide) ?_
                exact ih8 (k + 1) ch fo _ _ _ (by omega) (by omega) (by rw [yFor_s, hf]; dsimp only; first | (rw [yIf_t ⟨by omega, by assumption, by first | (left; omega) | (right; assumption)⟩]) | (rw [yIf_f (by rintro ⟨q1, q2, q3⟩; first | omega | contradiction | (rcases q3 with q3 | q3 <;> first | omega | contradiction))])) hP hD hS (lv_sub hl [0, 2, 3, 4, 5, 6] rfl)
          · refine lv_if_eq (tgt := 75) hx hb dX7_stackFor_30 (by decide) (fun _ => ?_) (fun c0 => absurd (by decide) c0)
            refine lv_iinc (v := nI (k + 1)) (lv' := [(5, .int (nI (k + 1))), (0, .ref ya), (1, .int (nI cn)), (2, .int (iI ex)), (3, .int (iI ch)), (4, .int (iI fo))]) hx hb dX7_stackFor_75 hl (k := 0) rfl (nI_add k 1) (by decide) rfl (fun ls hl => ?_)
            refine lv_goto (tgt := 8) hx hb dX7_stackFor_78 (by decide) ?_
            exact ih8 (k + 1) ch fo _ _ _ (by omega) (by omega) (by rw [yFor_s, hf]; dsimp only; first | (rw [yIf_t ⟨by omega, by assumption, by first | (left; omega) | (right; assumption)⟩]) | (rw [yIf_f (by rintro ⟨q1, q2, q3⟩; first | omega | contradiction | (rcases q3 with q3 | q3 <;> first | omega | contradiction))])) hP hD hS (lv_sub hl [0, 1, 2, 3, 4, 5] rfl)
  exact hloop8 (sc + 1) 0 (-1) 0 _ _ _ (by omega) (by omega) rfl hP hD hS (by rw [(show nI 0 = (0 : Int32) from by decide), (show iI (-1) = ((-1) : Int32) from by decide), (show iI 0 = (0 : Int32) from by decide)]; exact lv_sub hl [0, 3, 4, 5, 2, 1] rfl)
theorem dX7_putOn_0 : decode cX7_putOn 0 = .ok (.iload_n 1, 1) := by decide +kernel
theorem dX7_putOn_1 : decode cX7_putOn 1 = .ok (.ifCond .lt 13, 3) := by decide +kernel
theorem dX7_putOn_4 : decode cX7_putOn 4 = .ok (.aload_n 0, 1) := by decide +kernel
theorem dX7_putOn_5 : decode cX7_putOn 5 = .ok (.getfield 15, 3) := by decide +kernel
theorem dX7_putOn_8 : decode cX7_putOn 8 = .ok (.iload_n 2, 1) := by decide +kernel
theorem dX7_putOn_9 : decode cX7_putOn 9 = .ok (.iaload, 1) := by decide +kernel
theorem dX7_putOn_10 : decode cX7_putOn 10 = .ok (.iconst 5, 1) := by decide +kernel
theorem dX7_putOn_11 : decode cX7_putOn 11 = .ok (.if_icmp .lt 4, 3) := by decide +kernel
theorem dX7_putOn_15 : decode cX7_putOn 15 = .ok (.aload_n 0, 1) := by decide +kernel
theorem dX7_putOn_16 : decode cX7_putOn 16 = .ok (.getfield 20, 3) := by decide +kernel
theorem dX7_putOn_19 : decode cX7_putOn 19 = .ok (.iload_n 2, 1) := by decide +kernel
theorem dX7_putOn_20 : decode cX7_putOn 20 = .ok (.aaload, 1) := by decide +kernel
theorem dX7_putOn_21 : decode cX7_putOn 21 = .ok (.aload_n 0, 1) := by decide +kernel
theorem dX7_putOn_22 : decode cX7_putOn 22 = .ok (.getfield 15, 3) := by decide +kernel
theorem dX7_putOn_25 : decode cX7_putOn 25 = .ok (.iload_n 2, 1) := by decide +kernel
theorem dX7_putOn_26 : decode cX7_putOn 26 = .ok (.iaload, 1) := by decide +kernel
theorem dX7_putOn_27 : decode cX7_putOn 27 = .ok (.iload_n 1, 1) := by decide +kernel
theorem dX7_putOn_28 : decode cX7_putOn 28 = .ok (.iastore, 1) := by decide +kernel
theorem dX7_putOn_29 : decode cX7_putOn 29 = .ok (.aload_n 0, 1) := by decide +kernel
theorem dX7_putOn_30 : decode cX7_putOn 30 = .ok (.getfield 15, 3) := by decide +kernel
theorem dX7_putOn_33 : decode cX7_putOn 33 = .ok (.iload_n 2, 1) := by decide +kernel
theorem dX7_putOn_34 : decode cX7_putOn 34 = .ok (.dup2, 1) := by decide +kernel
theorem dX7_putOn_35 : decode cX7_putOn 35 = .ok (.iaload, 1) := by decide +kernel
theorem dX7_putOn_36 : decode cX7_putOn 36 = .ok (.iconst 1, 1) := by decide +kernel
theorem dX7_putOn_37 : decode cX7_putOn 37 = .ok (.iadd, 1) := by decide +kernel
theorem dX7_putOn_38 : decode cX7_putOn 38 = .ok (.iastore, 1) := by decide +kernel
theorem dX7_putOn_39 : decode cX7_putOn 39 = .ok (.aload_n 0, 1) := by decide +kernel
theorem dX7_putOn_40 : decode cX7_putOn 40 = .ok (.getfield 32, 3) := by decide +kernel
theorem dX7_putOn_43 : decode cX7_putOn 43 = .ok (.iload_n 1, 1) := by decide +kernel
theorem dX7_putOn_44 : decode cX7_putOn 44 = .ok (.iload_n 2, 1) := by decide +kernel
theorem dX7_putOn_45 : decode cX7_putOn 45 = .ok (.iastore, 1) := by decide +kernel
theorem dX7_putOn_46 : decode cX7_putOn 46 = .ok (.return_, 1) := by decide +kernel
set_option maxHeartbeats 4000000 in
set_option maxRecDepth 100000 in
theorem y_putOn (l : Launch) (g : xG) (sz : Nat) (ya : Nat) (he : Nat) (so : Nat) (so2 : Nat) (cn : Nat) (sk : Nat) (rr : Nat → Nat) (y0 : Value) (y1 : Value) (y2 : Value) (y3 : Value) (y6 : Value) (y7 : Value) (y8 : Value) (y10 : Value) (hgt : Nat → Nat) (sd : Nat → Nat → Nat) (oo : Nat → Int)  (hc : cn < 24) (hs : sk < 12) (h5 : hgt sk < 5) (b_hgt : ∀ j, hgt j ≤ 5) (b_sd : ∀ i j, sd i j ≤ 23) (b_oo : ∀ j, (-1) ≤ oo j ∧ oo j ≤ 11) : Met l yX7_putOn wsX7_putOn ({ frames := 0, cells := 0, slots := 0, locals := 0 }) (va_Pc [.ref ya, .int (nI cn), .int (nI sk)] (fun U => xB g ([(ya, .inr (7, [y0, y1, y2, y3, .ref he, .ref so, y6, y7, y8, .ref so2, y10])), (he, .inl (xI g, 12, .inl (fun j => nI (hgt j)))), (so, .inl (xM g, 12, .inr (.inr (.inr (.inr (fun i => if i < 12 then some (rr i) else none))))))] ++ (xRN (xI g) 12 5 rr sd ++ [(so2, .inl (xI g, 24, .inl (fun j => iI (oo j))))])) sz U)) (va_Qv (fun (_ : Unit) => True) (fun (_ : Unit) (t : State) => (∀ j, (nV hgt sk (hgt sk + 1)) j ≤ 5) ∧ (∀ i j, (nV2 sd sk (hgt sk) cn) i j ≤ 23) ∧ (∀ j, (-1) ≤ (zU oo cn ((sk : Nat) : Int)) j ∧ (zU oo cn ((sk : Nat) : Int)) j ≤ 11) ∧ xE g ([(ya, .inr (7, [y0, y1, y2, y3, .ref he, .ref so, y6, y7, y8, .ref so2, y10])), (he, .inl (xI g, 12, .inl (fun j => nI ((nV hgt sk (hgt sk + 1)) j)))), (so, .inl (xM g, 12, .inr (.inr (.inr (.inr (fun i => if i < 12 then some (rr i) else none))))))] ++ (xRN (xI g) 12 5 rr (nV2 sd sk (hgt sk) cn) ++ [(so2, .inl (xI g, 24, .inl (fun j => iI ((zU oo cn ((sk : Nat) : Int)) j))))])) (va_A ([(ya, .inr (7, [y0, y1, y2, y3, .ref he, .ref so, y6, y7, y8, .ref so2, y10])), (he, .inl (xI g, 12, .inl (fun j => nI (hgt j)))), (so, .inl (xM g, 12, .inr (.inr (.inr (.inr (fun i => if i < 12 then some (rr i) else none))))))] ++ (xRN (xI g) 12 5 rr sd ++ [(so2, .inl (xI g, 24, .inl (fun j => iI (oo j))))])) sz) t) (va_A ([(ya, .inr (7, [y0, y1, y2, y3, .ref he, .ref so, y6, y7, y8, .ref so2, y10])), (he, .inl (xI g, 12, .inl (fun j => nI (hgt j)))), (so, .inl (xM g, 12, .inr (.inr (.inr (.inr (fun i => if i < 12 then some (rr i) else none))))))] ++ (xRN (xI g) 12 5 rr sd ++ [(so2, .inl (xI g, 24, .inl (fun j => iI (oo j))))])) sz)) 0 0 (va_A ([(ya, .inr (7, [y0, y1, y2, y3, .ref he, .ref so, y6, y7, y8, .ref so2, y10])), (he, .inl (xI g, 12, .inl (fun j => nI (hgt j)))), (so, .inl (xM g, 12, .inr (.inr (.inr (.inr (fun i => if i < 12 then some (rr i) else none))))))] ++ (xRN (xI g) 12 5 rr sd ++ [(so2, .inl (xI g, 24, .inl (fun j => iI (oo j))))])) sz) := by
  refine Met.ofW (cc := cX7_putOn) (maxL := 3) (ret := none) (by decide) rfl ?_
  intro p e s m args below meth c s₁ B hml hv
  obtain ⟨rfl, hsz, hP, hK, hD0⟩ := hv
  have hx := B.exec
  have hb := B.bytes
  have hr := B.returns
  have hts := atoms_spec (ws := wsX7_putOn) B.pre
  have hown : s.vm.findClass RX7 = some m.cls := findClass_of_methodNamed B.named
  have hlocks := B.notSynchronized
  subst hsz
  have hD := hD0.self (sz := s.heap.size)
  generalize hAe : va_A ([(ya, .inr (7, [y0, y1, y2, y3, .ref he, .ref so, y6, y7, y8, .ref so2, y10])), (he, .inl (xI g, 12, .inl (fun j => nI (hgt j)))), (so, .inl (xM g, 12, .inr (.inr (.inr (.inr (fun i => if i < 12 then some (rr i) else none))))))] ++ (xRN (xI g) 12 5 rr sd ++ [(so2, .inl (xI g, 24, .inl (fun j => iI (oo j))))])) s.heap.size = A at hD ⊢
  have hA : ∀ q : Nat, s.heap.size ≤ q → A q := fun q h => by rw [← hAe]; exact Or.inr h
  have hS : va_S A s.heap s.heap [] := va_S.rf
  have hl := lv_entry ([.ref ya, .int (nI cn), .int (nI sk)]) (n := 3) (Nat.le_of_ble_eq_true rfl)
  rw [lg_entry_eq]
  generalize (lg_sl ([.ref ya, .int (nI cn), .int (nI sk)]) ++ List.replicate (3 - (lg_sl ([.ref ya, .int (nI cn), .int (nI sk)])).length) Slot.unset).toArray = ls at hl ⊢
  have hl : lv_has ls 3 [(0, .ref ya), (1, .int (nI cn)), (2, .int (nI sk))] := hl
  have hFX7 : ∀ w ∈ u_ws RX7 TX7 11, w ∈ wsX7_putOn := by decide +kernel
  refine lv_iload_n hx hb dX7_putOn_0 rfl (lv_at hl 1 rfl) ?_
  refine lv_if_lt (tgt := 14) hx hb dX7_putOn_1 (by decide) (fun c_1 => ?_) (fun c_1 => ?_)
  · have nc_1 := (nI_ltI (a := cn) (b := 0) (by omega) (by omega)).mp c_1
    exfalso; omega
  · have nc_1 := mt (nI_ltI (a := cn) (b := 0) (by omega) (by omega)).mpr c_1
    refine lv_aload_n hx hb dX7_putOn_4 rfl (lv_at hl 0 rfl) ?_
    refine va_get (D := xD g) (ci := 7) (v := .ref he) (C := RX7) (T := TX7) (N := 11) hx hb hts hFX7 hown hK hP 0 rfl rfl 4 (by decide) (hts (.fieldLink RX7 15 "Stevedore$Yard" "height" "[I") (by decide +kernel)) (fun _ h9 => h9) rfl dX7_putOn_5 ?_
    refine lv_iload_n hx hb dX7_putOn_8 rfl (lv_at hl 2 rfl) ?_
    refine va_iald hx hb hK hP 1 0 rfl rfl (vp_in_nI (by omega) (by omega)) dX7_putOn_9 ?_
    refine lv_topi (fun v_2 ev => ?_)
    obtain rfl : v_2 = nI (hgt sk) := ev.trans (congrArg (fun q9 => nI (hgt q9)) (nI_clamp (by omega)))
    have b_3 := b_hgt sk
    refine lv_iconst (v := 5) hx hb dX7_putOn_10 (by decide) ?_
    refine lv_icmp_lt (tgt := 15) hx hb dX7_putOn_11 (by decide) (fun c_4 => ?_) (fun c_4 => ?_)
    · have nc_4 := (nI_ltI (a := hgt sk) (b := 5) (by omega) (by omega)).mp c_4
      refine lv_aload_n hx hb dX7_putOn_15 rfl (lv_at hl 0 rfl) ?_
      refine va_get (D := xD g) (ci := 7) (v := .ref so) (C := RX7) (T := TX7) (N := 11) hx hb hts hFX7 hown hK hP 0 rfl rfl 5 (by decide) (hts (.fieldLink RX7 20 "Stevedore$Yard" "standing" "[[I") (by decide +kernel)) (fun _ h9 => h9) rfl dX7_putOn_16 ?_
      refine lv_iload_n hx hb dX7_putOn_19 rfl (lv_at hl 2 rfl) ?_
      refine xAldM hx hb hK hP 2 3 rfl rfl (vp_in_nI (by omega) (by omega)) dX7_putOn_20 ?_
      refine W.eq (g2 := F0 m 21 ls (.ref (rr sk) :: [])) (congrArg (fun q9 => F0 m 21 ls (q9 :: [])) (xRow (n := 12) (k := sk) (nI_clamp (by omega)) (by omega))) ?_
      refine lv_aload_n hx hb dX7_putOn_21 rfl (lv_at hl 0 rfl) ?_
      refine va_get (D := xD g) (ci := 7) (v := .ref he) (C := RX7) (T := TX7) (N := 11) hx hb hts hFX7 hown hK hP 0 rfl rfl 4 (by decide) (hts (.fieldLink RX7 15 "Stevedore$Yard" "height" "[I") (by decide +kernel)) (fun _ h9 => h9) rfl dX7_putOn_22 ?_
      refine lv_iload_n hx hb dX7_putOn_25 rfl (lv_at hl 2 rfl) ?_
      refine va_iald hx hb hK hP 1 0 rfl rfl (vp_in_nI (by omega) (by omega)) dX7_putOn_26 ?_
      refine lv_topi (fun v_5 ev => ?_)
      obtain rfl : v_5 = nI (hgt sk) := ev.trans (congrArg (fun q9 => nI (hgt q9)) (nI_clamp (by omega)))
      have b_6 := b_hgt sk
      refine lv_iload_n hx hb dX7_putOn_27 rfl (lv_at hl 1 rfl) ?_
      refine va_iast (x := nI cn) hx hb hK hP hD hS _ 0 (xR_ap (X := [(ya, .inr (7, [y0, y1, y2, y3, .ref he, .ref so, y6, y7, y8, .ref so2, y10])), (he, .inl (xI g, 12, .inl (fun j => nI (hgt j)))), (so, .inl (xM g, 12, .inr (.inr (.inr (.inr (fun i => if i < 12 then some (rr i) else none))))))]) (xR_get0 (i := sk) (by omega))) rfl (vp_in_nI (by omega) (by omega)) dX7_putOn_28 (fun H locs hP hD hS => ?_)
      rw [(xR_sap (X := [(ya, .inr (7, [y0, y1, y2, y3, .ref he, .ref so, y6, y7, y8, .ref so2, y10])), (he, .inl (xI g, 12, .inl (fun j => nI (hgt j)))), (so, .inl (xM g, 12, .inr (.inr (.inr (.inr (fun i => if i < 12 then some (rr i) else none))))))]) (xRN_set0 (v := cn) (by omega) (nI_clamp (by omega)) rfl))] at hP hD
      have hb_7 : ∀ i j, (nV2 sd sk (hgt sk) cn) i j ≤ 23 := nV2_all b_sd (by omega)
      have hP : va_P (xD g) vwCl ([(ya, .inr (7, [y0, y1, y2, y3, .ref he, .ref so, y6, y7, y8, .ref so2, y10])), (he, .inl (xI g, 12, .inl (fun j => nI (hgt j)))), (so, .inl (xM g, 12, .inr (.inr (.inr (.inr (fun i => if i < 12 then some (rr i) else none))))))] ++ (xRN (xI g) 12 5 rr (nV2 sd sk (hgt sk) cn) ++ [(so2, .inl (xI g, 24, .inl (fun j => iI (oo j))))])) H := hP
      have hD : va_D A ([(ya, .inr (7, [y0, y1, y2, y3, .ref he, .ref so, y6, y7, y8, .ref so2, y10])), (he, .inl (xI g, 12, .inl (fun j => nI (hgt j)))), (so, .inl (xM g, 12, .inr (.inr (.inr (.inr (fun i => if i < 12 then some (rr i) else none))))))] ++ (xRN (xI g) 12 5 rr (nV2 sd sk (hgt sk) cn) ++ [(so2, .inl (xI g, 24, .inl (fun j => iI (oo j))))])) := hD
      refine lv_aload_n hx hb dX7_putOn_29 rfl (lv_at hl 0 rfl) ?_
      refine va_get (D := xD g) (ci := 7) (v := .ref he) (C := RX7) (T := TX7) (N := 11) hx hb hts hFX7 hown hK hP 0 rfl rfl 4 (by decide) (hts (.fieldLink RX7 15 "Stevedore$Yard" "height" "[I") (by decide +kernel)) (fun _ h9 => h9) rfl dX7_putOn_30 ?_
      refine lv_iload_n hx hb dX7_putOn_33 rfl (lv_at hl 2 rfl) ?_
      refine lv_dup2_11 hx hb dX7_putOn_34 rfl rfl ?_
      refine va_iald hx hb hK hP 1 0 rfl rfl (vp_in_nI (by omega) (by omega)) dX7_putOn_35 ?_
      refine lv_topi (fun v_8 ev => ?_)
      obtain rfl : v_8 = nI (hgt sk) := ev.trans (congrArg (fun q9 => nI (hgt q9)) (nI_clamp (by omega)))
      have b_9 := b_hgt sk
      refine lv_iconst (v := 1) hx hb dX7_putOn_36 (by decide) ?_
      refine lv_iadd hx hb dX7_putOn_37 ?_
      refine lv_topi (fun v_10 ev => ?_)
      obtain rfl : v_10 = nI (hgt sk + 1) := ev.trans (nI_add (hgt sk) 1)
      refine va_iast (x := nI (hgt sk + 1)) hx hb hK hP hD hS 1 0 rfl rfl (vp_in_nI (by omega) (by omega)) dX7_putOn_38 (fun H locs hP hD hS => ?_)
      rw [nU (f := hgt) (k := sk) (v := hgt sk + 1) (nI_clamp (by omega)) rfl] at hP hD
      have hb_11 : ∀ j, (nV hgt sk (hgt sk + 1)) j ≤ 5 := nV_all (P := fun q9 => q9 ≤ 5) b_hgt (by omega)
      have hP : va_P (xD g) vwCl ([(ya, .inr (7, [y0, y1, y2, y3, .ref he, .ref so, y6, y7, y8, .ref so2, y10])), (he, .inl (xI g, 12, .inl (fun j => nI ((nV hgt sk (hgt sk + 1)) j)))), (so, .inl (xM g, 12, .inr (.inr (.inr (.inr (fun i => if i < 12 then some (rr i) else none))))))] ++ (xRN (xI g) 12 5 rr (nV2 sd sk (hgt sk) cn) ++ [(so2, .inl (xI g, 24, .inl (fun j => iI (oo j))))])) H := hP
      have hD : va_D A ([(ya, .inr (7, [y0, y1, y2, y3, .ref he, .ref so, y6, y7, y8, .ref so2, y10])), (he, .inl (xI g, 12, .inl (fun j => nI ((nV hgt sk (hgt sk + 1)) j)))), (so, .inl (xM g, 12, .inr (.inr (.inr (.inr (fun i => if i < 12 then some (rr i) else none))))))] ++ (xRN (xI g) 12 5 rr (nV2 sd sk (hgt sk) cn) ++ [(so2, .inl (xI g, 24, .inl (fun j => iI (oo j))))])) := hD
      refine lv_aload_n hx hb dX7_putOn_39 rfl (lv_at hl 0 rfl) ?_
      refine va_get (D := xD g) (ci := 7) (v := .ref so2) (C := RX7) (T := TX7) (N := 11) hx hb hts hFX7 hown hK hP 0 rfl rfl 9 (by decide) (hts (.fieldLink RX7 32 "Stevedore$Yard" "stackOfContainer" "[I") (by decide +kernel)) (fun _ h9 => h9) rfl dX7_putOn_40 ?_
      refine lv_iload_n hx hb dX7_putOn_43 rfl (lv_at hl 1 rfl) ?_
      refine lv_iload_n hx hb dX7_putOn_44 rfl (lv_at hl 2 rfl) ?_
      refine va_iast (x := nI sk) hx hb hK hP hD hS 15 0 rfl rfl (vp_in_nI (by omega) (by omega)) dX7_putOn_45 (fun H locs hP hD hS => ?_)
      rw [iU (f := oo) (k := cn) (v := ((sk : Nat) : Int)) (nI_clamp (by omega)) (iI_nI _)] at hP hD
      have hb_12 : ∀ j, (-1) ≤ (zU oo cn ((sk : Nat) : Int)) j ∧ (zU oo cn ((sk : Nat) : Int)) j ≤ 11 := zU_all (P := fun q9 => (-1) ≤ q9 ∧ q9 ≤ 11) b_oo (by omega)
      have hP : va_P (xD g) vwCl ([(ya, .inr (7, [y0, y1, y2, y3, .ref he, .ref so, y6, y7, y8, .ref so2, y10])), (he, .inl (xI g, 12, .inl (fun j => nI ((nV hgt sk (hgt sk + 1)) j)))), (so, .inl (xM g, 12, .inr (.inr (.inr (.inr (fun i => if i < 12 then some (rr i) else none))))))] ++ (xRN (xI g) 12 5 rr (nV2 sd sk (hgt sk) cn) ++ [(so2, .inl (xI g, 24, .inl (fun j => iI ((zU oo cn ((sk : Nat) : Int)) j))))])) H := hP
      have hD : va_D A ([(ya, .inr (7, [y0, y1, y2, y3, .ref he, .ref so, y6, y7, y8, .ref so2, y10])), (he, .inl (xI g, 12, .inl (fun j => nI ((nV hgt sk (hgt sk + 1)) j)))), (so, .inl (xM g, 12, .inr (.inr (.inr (.inr (fun i => if i < 12 then some (rr i) else none))))))] ++ (xRN (xI g) 12 5 rr (nV2 sd sk (hgt sk) cn) ++ [(so2, .inl (xI g, 24, .inl (fun j => iI ((zU oo cn ((sk : Nat) : Int)) j))))])) := hD
      have hP9 := hP
      have hD9 := hD
      exact W.vret hx hb hr (fun t ht hW => ⟨⟨(), rfl, (by first | trivial | rfl | assumption | omega), ⟨hb_11, hb_7, hb_12, by rw [ht]; exact hP9, va_K.moved hW.alike hK, hD9⟩⟩, hS.F ht⟩) hS.2.2 dX7_putOn_46
    · have nc_4 := mt (nI_ltI (a := hgt sk) (b := 5) (by omega) (by omega)).mpr c_4
      exfalso; omega
theorem dX7_lift_0 : decode cX7_lift 0 = .ok (.aload_n 0, 1) := by decide +kernel
theorem dX7_lift_1 : decode cX7_lift 1 = .ok (.iload_n 1, 1) := by decide +kernel
theorem dX7_lift_2 : decode cX7_lift 2 = .ok (.invokevirtual 100, 3) := by decide +kernel
set_option maxRecDepth 20000 in
theorem ggX7_lift_X7_uppermost : GoodIn wsX7_lift wsX7_uppermost := goodIn_r _ [7, 1, 8, 9, 10, 11, 12, 13, 14, 15, 16, 17, 18, 19] rfl (by decide +kernel)
set_option maxRecDepth 20000 in
theorem gX7_lift_X7_uppermost : GoodIn wsX7_lift (wsV RX7 100 RX7 yX7_uppermost wsX7_uppermost) := goodIn_app (goodIn_of _ (by decide +kernel)) ggX7_lift_X7_uppermost
theorem dX7_lift_5 : decode cX7_lift 5 = .ok (.istore_n 2, 1) := by decide +kernel
theorem dX7_lift_6 : decode cX7_lift 6 = .ok (.iload_n 2, 1) := by decide +kernel
theorem dX7_lift_7 : decode cX7_lift 7 = .ok (.ifCond .lt 20, 3) := by decide +kernel
theorem dX7_lift_10 : decode cX7_lift 10 = .ok (.aload_n 0, 1) := by decide +kernel
theorem dX7_lift_11 : decode cX7_lift 11 = .ok (.getfield 15, 3) := by decide +kernel
theorem dX7_lift_14 : decode cX7_lift 14 = .ok (.iload_n 1, 1) := by decide +kernel
theorem dX7_lift_15 : decode cX7_lift 15 = .ok (.dup2, 1) := by decide +kernel
theorem dX7_lift_16 : decode cX7_lift 16 = .ok (.iaload, 1) := by decide +kernel
theorem dX7_lift_17 : decode cX7_lift 17 = .ok (.iconst 1, 1) := by decide +kernel
theorem dX7_lift_18 : decode cX7_lift 18 = .ok (.isub, 1) := by decide +kernel
theorem dX7_lift_19 : decode cX7_lift 19 = .ok (.iastore, 1) := by decide +kernel
theorem dX7_lift_20 : decode cX7_lift 20 = .ok (.aload_n 0, 1) := by decide +kernel
theorem dX7_lift_21 : decode cX7_lift 21 = .ok (.getfield 32, 3) := by decide +kernel
theorem dX7_lift_24 : decode cX7_lift 24 = .ok (.iload_n 2, 1) := by decide +kernel
theorem dX7_lift_25 : decode cX7_lift 25 = .ok (.iconst (-1), 1) := by decide +kernel
theorem dX7_lift_26 : decode cX7_lift 26 = .ok (.iastore, 1) := by decide +kernel
theorem dX7_lift_27 : decode cX7_lift 27 = .ok (.iload_n 2, 1) := by decide +kernel
theorem dX7_lift_28 : decode cX7_lift 28 = .ok (.ireturn, 1) := by decide +kernel
set_option maxHeartbeats 4000000 in
set_option maxRecDepth 100000 in
theorem y_lift (l : Launch) (g : xG) (sz : Nat) (ya : Nat) (he : Nat) (so : Nat) (so2 : Nat) (sk : Nat) (rr : Nat → Nat) (y0 : Value) (y1 : Value) (y2 : Value) (y3 : Value) (y6 : Value) (y7 : Value) (y8 : Value) (y10 : Value) (hgt : Nat → Nat) (sd : Nat → Nat → Nat) (oo : Nat → Int)  (hs : sk < 12) (h0 : 0 < hgt sk) (b_hgt : ∀ j, hgt j ≤ 5) (b_sd : ∀ i j, sd i j ≤ 23) (b_oo : ∀ j, (-1) ≤ oo j ∧ oo j ≤ 11) : Met l yX7_lift wsX7_lift ({ frames := 1, cells := 0, slots := 0, locals := 21 }) (va_Pc [.ref ya, .int (nI sk)] (fun U => xB g ([(ya, .inr (7, [y0, y1, y2, y3, .ref he, .ref so, y6, y7, y8, .ref so2, y10])), (he, .inl (xI g, 12, .inl (fun j => nI (hgt j)))), (so, .inl (xM g, 12, .inr (.inr (.inr (.inr (fun i => if i < 12 then some (rr i) else none))))))] ++ (xRN (xI g) 12 5 rr sd ++ [(so2, .inl (xI g, 24, .inl (fun j => iI (oo j))))])) sz U)) (va_Qi (fun (r : Int32) (_ : Unit) => r = nI (yTop hgt sd sk)) (fun (_ : Unit) (t : State) => (∀ j, (nV hgt sk (hgt sk - 1)) j ≤ 5) ∧ (∀ j, (-1) ≤ (zU oo (yTop hgt sd sk) (-1)) j ∧ (zU oo (yTop hgt sd sk) (-1)) j ≤ 11) ∧ xE g ([(ya, .inr (7, [y0, y1, y2, y3, .ref he, .ref so, y6, y7, y8, .ref so2, y10])), (he, .inl (xI g, 12, .inl (fun j => nI ((nV hgt sk (hgt sk - 1)) j)))), (so, .inl (xM g, 12, .inr (.inr (.inr (.inr (fun i => if i < 12 then some (rr i) else none))))))] ++ (xRN (xI g) 12 5 rr sd ++ [(so2, .inl (xI g, 24, .inl (fun j => iI ((zU oo (yTop hgt sd sk) (-1)) j))))])) (va_A ([(ya, .inr (7, [y0, y1, y2, y3, .ref he, .ref so, y6, y7, y8, .ref so2, y10])), (he, .inl (xI g, 12, .inl (fun j => nI (hgt j)))), (so, .inl (xM g, 12, .inr (.inr (.inr (.inr (fun i => if i < 12 then some (rr i) else none))))))] ++ (xRN (xI g) 12 5 rr sd ++ [(so2, .inl (xI g, 24, .inl (fun j => iI (oo j))))])) sz) t) (va_A ([(ya, .inr (7, [y0, y1, y2, y3, .ref he, .ref so, y6, y7, y8, .ref so2, y10])), (he, .inl (xI g, 12, .inl (fun j => nI (hgt j)))), (so, .inl (xM g, 12, .inr (.inr (.inr (.inr (fun i => if i < 12 then some (rr i) else none))))))] ++ (xRN (xI g) 12 5 rr sd ++ [(so2, .inl (xI g, 24, .inl (fun j => iI (oo j))))])) sz)) 0 0 (va_A ([(ya, .inr (7, [y0, y1, y2, y3, .ref he, .ref so, y6, y7, y8, .ref so2, y10])), (he, .inl (xI g, 12, .inl (fun j => nI (hgt j)))), (so, .inl (xM g, 12, .inr (.inr (.inr (.inr (fun i => if i < 12 then some (rr i) else none))))))] ++ (xRN (xI g) 12 5 rr sd ++ [(so2, .inl (xI g, 24, .inl (fun j => iI (oo j))))])) sz) := by
  refine Met.ofW (cc := cX7_lift) (maxL := 3) (ret := (some .int)) (by decide) rfl ?_
  intro p e s m args below meth c s₁ B hml hv
  obtain ⟨rfl, hsz, hP, hK, hD0⟩ := hv
  have hx := B.exec
  have hb := B.bytes
  have hr := B.returns
  have hts := atoms_spec (ws := wsX7_lift) B.pre
  have hown : s.vm.findClass RX7 = some m.cls := findClass_of_methodNamed B.named
  have hlocks := B.notSynchronized
  subst hsz
  have hD := hD0.self (sz := s.heap.size)
  generalize hAe : va_A ([(ya, .inr (7, [y0, y1, y2, y3, .ref he, .ref so, y6, y7, y8, .ref so2, y10])), (he, .inl (xI g, 12, .inl (fun j => nI (hgt j)))), (so, .inl (xM g, 12, .inr (.inr (.inr (.inr (fun i => if i < 12 then some (rr i) else none))))))] ++ (xRN (xI g) 12 5 rr sd ++ [(so2, .inl (xI g, 24, .inl (fun j => iI (oo j))))])) s.heap.size = A at hD ⊢
  have hA : ∀ q : Nat, s.heap.size ≤ q → A q := fun q h => by rw [← hAe]; exact Or.inr h
  have hS : va_S A s.heap s.heap [] := va_S.rf
  have hl := lv_entry ([.ref ya, .int (nI sk)]) (n := 3) (Nat.le_of_ble_eq_true rfl)
  rw [lg_entry_eq]
  generalize (lg_sl ([.ref ya, .int (nI sk)]) ++ List.replicate (3 - (lg_sl ([.ref ya, .int (nI sk)])).length) Slot.unset).toArray = ls at hl ⊢
  have hl : lv_has ls 3 [(0, .ref ya), (1, .int (nI sk))] := hl
  have hFX7 : ∀ w ∈ u_ws RX7 TX7 11, w ∈ wsX7_lift := by decide +kernel
  refine lv_aload_n hx hb dX7_lift_0 rfl (lv_at hl 0 rfl) ?_
  refine lv_iload_n hx hb dX7_lift_1 rfl (lv_at hl 1 rfl) ?_
  have hPc := hP.sub (ws' := ([(ya, .inr (7, [y0, y1, y2, y3, .ref he, .ref so, y6, y7, y8, .ref so2, y10])), (he, .inl (xI g, 12, .inl (fun j => nI (hgt j)))), (so, .inl (xM g, 12, .inr (.inr (.inr (.inr (fun i => if i < 12 then some (rr i) else none))))))] ++ (xRN (xI g) 12 5 rr sd ++ []))) [0, 1, 2, 3, 4, 5, 6, 7, 8, 9, 10, 11, 12, 13, 14] rfl
  have hDc := hD.sub (ws' := ([(ya, .inr (7, [y0, y1, y2, y3, .ref he, .ref so, y6, y7, y8, .ref so2, y10])), (he, .inl (xI g, 12, .inl (fun j => nI (hgt j)))), (so, .inl (xM g, 12, .inr (.inr (.inr (.inr (fun i => if i < 12 then some (rr i) else none))))))] ++ (xRN (xI g) 12 5 rr sd ++ []))) [0, 1, 2, 3, 4, 5, 6, 7, 8, 9, 10, 11, 12, 13, 14] (by decide) rfl
  have hFc := xFree hS hA
  refine va_calli (va_runV (As := [.int (nI sk)]) (rest := []) ⟨hx, hb, hml, hown, hts⟩ (y_uppermost l g s.heap.size ya he so sk rr y0 y1 y2 y3 y6 y7 y8 (.ref so2) y10 hgt sd (by first | assumption | omega) (by first | assumption | omega) b_hgt b_sd) (cwV 1 hts gX7_lift_X7_uppermost rfl rfl rfl (by decide +kernel) ⟨Nat.le_of_ble_eq_true rfl, Nat.le_of_ble_eq_true rfl⟩) ⟨xB.blind, va_recv hK hPc (ci := 7) (q0 := 0) rfl rfl, fun U9 hU9 hW9 => ⟨rfl, xB.mk hPc hK hDc hU9 hW9⟩⟩ rfl rfl hl.1 rfl (lv_room (Nat.le_of_ble_eq_true rfl)) dX7_lift_2 ⟨Nat.le_of_ble_eq_true rfl, Nat.le_of_ble_eq_true rfl⟩) hS (fun q _ h => hFc q h) hFc (fun r_1 _ t H1 locs ht hvm hw_2 hB hz1 hk1 hS => ?_)
  have hP := xSame hP hk1
  generalize H1 = H at hP hS ⊢
  have hP : va_P (xD g) vwCl ([(ya, .inr (7, [y0, y1, y2, y3, .ref he, .ref so, y6, y7, y8, .ref so2, y10])), (he, .inl (xI g, 12, .inl (fun j => nI (hgt j)))), (so, .inl (xM g, 12, .inr (.inr (.inr (.inr (fun i => if i < 12 then some (rr i) else none))))))] ++ (xRN (xI g) 12 5 rr sd ++ [(so2, .inl (xI g, 24, .inl (fun j => iI (oo j))))])) H := hP
  have hD : va_D A ([(ya, .inr (7, [y0, y1, y2, y3, .ref he, .ref so, y6, y7, y8, .ref so2, y10])), (he, .inl (xI g, 12, .inl (fun j => nI (hgt j)))), (so, .inl (xM g, 12, .inr (.inr (.inr (.inr (fun i => if i < 12 then some (rr i) else none))))))] ++ (xRN (xI g) 12 5 rr sd ++ [(so2, .inl (xI g, 24, .inl (fun j => iI (oo j))))])) := hD
  try dsimp only at hw_2
  obtain rfl : r_1 = nI (yTop hgt sd sk) := hw_2
  have hq_3 : yTop hgt sd sk ≤ 23 := b_sd _ _
  refine lv_istore_n (lv' := [(2, .int (nI (yTop hgt sd sk))), (0, .ref ya), (1, .int (nI sk))]) hx hb dX7_lift_5 rfl hl (by decide) rfl (fun ls hl => ?_)
  refine lv_iload_n hx hb dX7_lift_6 rfl (lv_at hl 0 rfl) ?_
  refine lv_if_lt (tgt := 27) hx hb dX7_lift_7 (by decide) (fun c_4 => ?_) (fun c_4 => ?_)
  · have nc_4 := (nI_ltI (a := yTop hgt sd sk) (b := 0) (by omega) (by omega)).mp c_4
    exfalso; omega
  · have nc_4 := mt (nI_ltI (a := yTop hgt sd sk) (b := 0) (by omega) (by omega)).mpr c_4
    refine lv_aload_n hx hb dX7_lift_10 rfl (lv_at hl 1 rfl) ?_
    refine va_get (D := xD g) (ci := 7) (v := .ref he) (C := RX7) (T := TX7) (N := 11) hx hb hts hFX7 hown hK hP 0 rfl rfl 4 (by decide) (hts (.fieldLink RX7 15 "Stevedore$Yard" "height" "[I") (by decide +kernel)) (fun _ h9 => h9) rfl dX7_lift_11 ?_
    refine lv_iload_n hx hb dX7_lift_14 rfl (lv_at hl 2 rfl) ?_
    refine lv_dup2_11 hx hb dX7_lift_15 rfl rfl ?_
    refine va_iald hx hb hK hP 1 0 rfl rfl (vp_in_nI (by omega) (by omega)) dX7_lift_16 ?_
    refine lv_topi (fun v_5 ev => ?_)
    obtain rfl : v_5 = nI (hgt sk) := ev.trans (congrArg (fun q9 => nI (hgt q9)) (nI_clamp (by omega)))
    have b_6 := b_hgt sk
    refine lv_iconst (v := 1) hx hb dX7_lift_17 (by decide) ?_
    refine lv_isub hx hb dX7_lift_18 ?_
    refine lv_topi (fun v_7 ev => ?_)
    obtain rfl : v_7 = nI ((hgt sk) - 1) := ev.trans (pk_sub (a := hgt sk) (b := 1) (by omega))
    refine va_iast (x := nI ((hgt sk) - 1)) hx hb hK hP hD hS 1 0 rfl rfl (vp_in_nI (by omega) (by omega)) dX7_lift_19 (fun H locs hP hD hS => ?_)
    rw [nU (f := hgt) (k := sk) (v := (hgt sk) - 1) (nI_clamp (by omega)) rfl] at hP hD
    have hb_8 : ∀ j, (nV hgt sk ((hgt sk) - 1)) j ≤ 5 := nV_all (P := fun q9 => q9 ≤ 5) b_hgt (by omega)
    have hP : va_P (xD g) vwCl ([(ya, .inr (7, [y0, y1, y2, y3, .ref he, .ref so, y6, y7, y8, .ref so2, y10])), (he, .inl (xI g, 12, .inl (fun j => nI ((nV hgt sk ((hgt sk) - 1)) j)))), (so, .inl (xM g, 12, .inr (.inr (.inr (.inr (fun i => if i < 12 then some (rr i) else none))))))] ++ (xRN (xI g) 12 5 rr sd ++ [(so2, .inl (xI g, 24, .inl (fun j => iI (oo j))))])) H := hP
    have hD : va_D A ([(ya, .inr (7, [y0, y1, y2, y3, .ref he, .ref so, y6, y7, y8, .ref so2, y10])), (he, .inl (xI g, 12, .inl (fun j => nI ((nV hgt sk ((hgt sk) - 1)) j)))), (so, .inl (xM g, 12, .inr (.inr (.inr (.inr (fun i => if i < 12 then some (rr i) else none))))))] ++ (xRN (xI g) 12 5 rr sd ++ [(so2, .inl (xI g, 24, .inl (fun j => iI (oo j))))])) := hD
    refine lv_aload_n hx hb dX7_lift_20 rfl (lv_at hl 1 rfl) ?_
    refine va_get (D := xD g) (ci := 7) (v := .ref so2) (C := RX7) (T := TX7) (N := 11) hx hb hts hFX7 hown hK hP 0 rfl rfl 9 (by decide) (hts (.fieldLink RX7 32 "Stevedore$Yard" "stackOfContainer" "[I") (by decide +kernel)) (fun _ h9 => h9) rfl dX7_lift_21 ?_
    refine lv_iload_n hx hb dX7_lift_24 rfl (lv_at hl 0 rfl) ?_
    refine lv_iconst (v := (-1)) hx hb dX7_lift_25 (by decide) ?_
    refine va_iast (x := (-1)) hx hb hK hP hD hS 15 0 rfl rfl (vp_in_nI (by omega) (by omega)) dX7_lift_26 (fun H locs hP hD hS => ?_)
    rw [iU (f := oo) (k := yTop hgt sd sk) (v := (-1)) (nI_clamp (by omega)) (by decide)] at hP hD
    have hb_9 : ∀ j, (-1) ≤ (zU oo (yTop hgt sd sk) (-1)) j ∧ (zU oo (yTop hgt sd sk) (-1)) j ≤ 11 := zU_all (P := fun q9 => (-1) ≤ q9 ∧ q9 ≤ 11) b_oo (by omega)
    have hP : va_P (xD g) vwCl ([(ya, .inr (7, [y0, y1, y2, y3, .ref he, .ref so, y6, y7, y8, .ref so2, y10])), (he, .inl (xI g, 12, .inl (fun j => nI ((nV hgt sk ((hgt sk) - 1)) j)))), (so, .inl (xM g, 12, .inr (.inr (.inr (.inr (fun i => if i < 12 then some (rr i) else none))))))] ++ (xRN (xI g) 12 5 rr sd ++ [(so2, .inl (xI g, 24, .inl (fun j => iI ((zU oo (yTop hgt sd sk) (-1)) j))))])) H := hP
    have hD : va_D A ([(ya, .inr (7, [y0, y1, y2, y3, .ref he, .ref so, y6, y7, y8, .ref so2, y10])), (he, .inl (xI g, 12, .inl (fun j => nI ((nV hgt sk ((hgt sk) - 1)) j)))), (so, .inl (xM g, 12, .inr (.inr (.inr (.inr (fun i => if i < 12 then some (rr i) else none))))))] ++ (xRN (xI g) 12 5 rr sd ++ [(so2, .inl (xI g, 24, .inl (fun j => iI ((zU oo (yTop hgt sd sk) (-1)) j))))])) := hD
    refine lv_iload_n hx hb dX7_lift_27 rfl (lv_at hl 0 rfl) ?_
    have hP9 := hP
    have hD9 := hD
    exact W.iret (v := nI (yTop hgt sd sk)) hx hb hr (fun t ht hW => ⟨⟨nI (yTop hgt sd sk), (), rfl, (by first | trivial | rfl | assumption | omega), ⟨hb_8, hb_9, by rw [ht]; exact hP9, va_K.moved hW.alike hK, hD9⟩⟩, hS.F ht⟩) hS.2.2 dX7_lift_28
theorem dX7_isBlocking_0 : decode cX7_isBlocking 0 = .ok (.aload_n 0, 1) := by decide +kernel
theorem dX7_isBlocking_1 : decode cX7_isBlocking 1 = .ok (.iload_n 1, 1) := by decide +kernel
theorem dX7_isBlocking_2 : decode cX7_isBlocking 2 = .ok (.iload_n 2, 1) := by decide +kernel
theorem dX7_isBlocking_3 : decode cX7_isBlocking 3 = .ok (.invokevirtual 107, 3) := by decide +kernel
set_option maxRecDepth 20000 in
theorem ggX7_isBlocking_X7_firstBelow : GoodIn wsX7_isBlocking wsX7_firstBelow := goodIn_r _ [7, 1, 2, 8, 9, 10, 11, 12, 13, 14, 15, 16, 17, 18, 19, 20, 21, 22] rfl (by decide +kernel)
set_option maxRecDepth 20000 in
theorem gX7_isBlocking_X7_firstBelow : GoodIn wsX7_isBlocking (wsV RX7 107 RX7 yX7_firstBelow wsX7_firstBelow) := goodIn_app (goodIn_of _ (by decide +kernel)) ggX7_isBlocking_X7_firstBelow
theorem dX7_isBlocking_6 : decode cX7_isBlocking 6 = .ok (.aload_n 0, 1) := by decide +kernel
theorem dX7_isBlocking_7 : decode cX7_isBlocking 7 = .ok (.getfield 26, 3) := by decide +kernel
theorem dX7_isBlocking_10 : decode cX7_isBlocking 10 = .ok (.aload_n 0, 1) := by decide +kernel
theorem dX7_isBlocking_11 : decode cX7_isBlocking 11 = .ok (.getfield 20, 3) := by decide +kernel
theorem dX7_isBlocking_14 : decode cX7_isBlocking 14 = .ok (.iload_n 1, 1) := by decide +kernel
theorem dX7_isBlocking_15 : decode cX7_isBlocking 15 = .ok (.aaload, 1) := by decide +kernel
theorem dX7_isBlocking_16 : decode cX7_isBlocking 16 = .ok (.iload_n 2, 1) := by decide +kernel
theorem dX7_isBlocking_17 : decode cX7_isBlocking 17 = .ok (.iaload, 1) := by decide +kernel
theorem dX7_isBlocking_18 : decode cX7_isBlocking 18 = .ok (.iaload, 1) := by decide +kernel
theorem dX7_isBlocking_19 : decode cX7_isBlocking 19 = .ok (.if_icmp .ge 7, 3) := by decide +kernel
theorem dX7_isBlocking_26 : decode cX7_isBlocking 26 = .ok (.iconst 0, 1) := by decide +kernel
theorem dX7_isBlocking_27 : decode cX7_isBlocking 27 = .ok (.ireturn, 1) := by decide +kernel
theorem dX7_isBlocking_22 : decode cX7_isBlocking 22 = .ok (.iconst 1, 1) := by decide +kernel
theorem dX7_isBlocking_23 : decode cX7_isBlocking 23 = .ok (.goto 4, 3) := by decide +kernel
set_option maxHeartbeats 4000000 in
set_option maxRecDepth 100000 in
theorem y_isBlocking (l : Launch) (g : xG) (sz : Nat) (ya : Nat) (so : Nat) (le : Nat) (sk : Nat) (lev : Nat) (rr : Nat → Nat) (y0 : Value) (y1 : Value) (y2 : Value) (y3 : Value) (y4 : Value) (y6 : Value) (y8 : Value) (y9 : Value) (y10 : Value) (sd : Nat → Nat → Nat) (lv : Nat → Int)  (hs : sk < 12) (hlev : lev < 5) (b_sd : ∀ i j, sd i j ≤ 23) (b_lv : ∀ j, 0 ≤ lv j ∧ lv j ≤ 1000000) : Met l yX7_isBlocking wsX7_isBlocking ({ frames := 2, cells := 0, slots := 0, locals := 48 }) (va_Pc [.ref ya, .int (nI sk), .int (nI lev)] (fun U => xB g ([(ya, .inr (7, [y0, y1, y2, y3, y4, .ref so, y6, .ref le, y8, y9, y10])), (so, .inl (xM g, 12, .inr (.inr (.inr (.inr (fun i => if i < 12 then some (rr i) else none))))))] ++ (xRN (xI g) 12 5 rr sd ++ [(le, .inl (xI g, 24, .inl (fun j => iI (lv j))))])) sz U)) (va_Qi (fun (r : Int32) (_ : Unit) => (r = 1 ∧ (yFst lv (sd sk) lev < lv (sd sk lev))) ∨ (r = 0 ∧ ¬ (yFst lv (sd sk) lev < lv (sd sk lev)))) (fun (_ : Unit) (_ : State) => True) (va_A [] sz)) 0 0 (va_A [] sz) := by
  refine Met.ofW (cc := cX7_isBlocking) (maxL := 3) (ret := (some .boolean)) (by decide) rfl ?_
  intro p e s m args below meth c s₁ B hml hv
  obtain ⟨rfl, hsz, hP, hK, hD0⟩ := hv
  have hx := B.exec
  have hb := B.bytes
  have hr := B.returns
  have hts := atoms_spec (ws := wsX7_isBlocking) B.pre
  have hown : s.vm.findClass RX7 = some m.cls := findClass_of_methodNamed B.named
  have hlocks := B.notSynchronized
  subst hsz
  have hD := hD0
  generalize hAe : va_A [] s.heap.size = A
  have hA : ∀ q : Nat, s.heap.size ≤ q → A q := fun q h => by rw [← hAe]; exact Or.inr h
  have hS : va_S A s.heap s.heap [] := va_S.rf
  have hl := lv_entry ([.ref ya, .int (nI sk), .int (nI lev)]) (n := 3) (Nat.le_of_ble_eq_true rfl)
  rw [lg_entry_eq]
  generalize (lg_sl ([.ref ya, .int (nI sk), .int (nI lev)]) ++ List.replicate (3 - (lg_sl ([.ref ya, .int (nI sk), .int (nI lev)])).length) Slot.unset).toArray = ls at hl ⊢
  have hl : lv_has ls 3 [(0, .ref ya), (1, .int (nI sk)), (2, .int (nI lev))] := hl
  have hFX7 : ∀ w ∈ u_ws RX7 TX7 11, w ∈ wsX7_isBlocking := by decide +kernel
  refine lv_aload_n hx hb dX7_isBlocking_0 rfl (lv_at hl 0 rfl) ?_
  refine lv_iload_n hx hb dX7_isBlocking_1 rfl (lv_at hl 1 rfl) ?_
  refine lv_iload_n hx hb dX7_isBlocking_2 rfl (lv_at hl 2 rfl) ?_
  have hPc := hP.sub (ws' := ([(ya, .inr (7, [y0, y1, y2, y3, y4, .ref so, y6, .ref le, y8, y9, y10])), (so, .inl (xM g, 12, .inr (.inr (.inr (.inr (fun i => if i < 12 then some (rr i) else none))))))] ++ (xRN (xI g) 12 5 rr sd ++ [(le, .inl (xI g, 24, .inl (fun j => iI (lv j))))]))) [0, 1, 2, 3, 4, 5, 6, 7, 8, 9, 10, 11, 12, 13, 14] rfl
  have hDc := hD.sub (ws' := ([(ya, .inr (7, [y0, y1, y2, y3, y4, .ref so, y6, .ref le, y8, y9, y10])), (so, .inl (xM g, 12, .inr (.inr (.inr (.inr (fun i => if i < 12 then some (rr i) else none))))))] ++ (xRN (xI g) 12 5 rr sd ++ [(le, .inl (xI g, 24, .inl (fun j => iI (lv j))))]))) [0, 1, 2, 3, 4, 5, 6, 7, 8, 9, 10, 11, 12, 13, 14] (by decide) rfl
  have hFc := xFree hS hA
  refine va_calli (va_runV (As := [.int (nI sk), .int (nI lev)]) (rest := []) ⟨hx, hb, hml, hown, hts⟩ (y_firstBelow l g s.heap.size ya so le sk lev rr y0 y1 y2 y3 y4 y6 y8 y9 y10 sd lv (by first | assumption | omega) (by first | assumption | omega) b_sd b_lv) (cwV 2 hts gX7_isBlocking_X7_firstBelow rfl rfl rfl (by decide +kernel) ⟨Nat.le_of_ble_eq_true rfl, Nat.le_of_ble_eq_true rfl⟩) ⟨xB.blind, va_recv hK hPc (ci := 7) (q0 := 0) rfl rfl, fun U9 hU9 hW9 => ⟨rfl, xB.mk hPc hK hDc hU9 hW9⟩⟩ rfl rfl hl.1 rfl (lv_room (Nat.le_of_ble_eq_true rfl)) dX7_isBlocking_3 ⟨Nat.le_of_ble_eq_true rfl, Nat.le_of_ble_eq_true rfl⟩) hS (fun q _ h => hFc q h) hFc (fun r_1 _ t H1 locs ht hvm hw_2 hB hz1 hk1 hS => ?_)
  have hP := xSame hP hk1
  generalize H1 = H at hP hS ⊢
  have hP : va_P (xD g) vwCl ([(ya, .inr (7, [y0, y1, y2, y3, y4, .ref so, y6, .ref le, y8, y9, y10])), (so, .inl (xM g, 12, .inr (.inr (.inr (.inr (fun i => if i < 12 then some (rr i) else none))))))] ++ (xRN (xI g) 12 5 rr sd ++ [(le, .inl (xI g, 24, .inl (fun j => iI (lv j))))])) H := hP
  have hD : va_D (fun _ => True) ([(ya, .inr (7, [y0, y1, y2, y3, y4, .ref so, y6, .ref le, y8, y9, y10])), (so, .inl (xM g, 12, .inr (.inr (.inr (.inr (fun i => if i < 12 then some (rr i) else none))))))] ++ (xRN (xI g) 12 5 rr sd ++ [(le, .inl (xI g, 24, .inl (fun j => iI (lv j))))])) := hD
  try dsimp only at hw_2
  obtain rfl : r_1 = iI (yFst lv (sd sk) lev) := hw_2
  have hq2 := yFst_bd (sd := sd sk) b_lv lev
  refine lv_aload_n hx hb dX7_isBlocking_6 rfl (lv_at hl 0 rfl) ?_
  refine va_get (D := xD g) (ci := 7) (v := .ref le) (C := RX7) (T := TX7) (N := 11) hx hb hts hFX7 hown hK hP 0 rfl rfl 7 (by decide) (hts (.fieldLink RX7 26 "Stevedore$Yard" "leaving" "[I") (by decide +kernel)) (fun _ h9 => h9) rfl dX7_isBlocking_7 ?_
  refine lv_aload_n hx hb dX7_isBlocking_10 rfl (lv_at hl 0 rfl) ?_
  refine va_get (D := xD g) (ci := 7) (v := .ref so) (C := RX7) (T := TX7) (N := 11) hx hb hts hFX7 hown hK hP 0 rfl rfl 5 (by decide) (hts (.fieldLink RX7 20 "Stevedore$Yard" "standing" "[[I") (by decide +kernel)) (fun _ h9 => h9) rfl dX7_isBlocking_11 ?_
  refine lv_iload_n hx hb dX7_isBlocking_14 rfl (lv_at hl 1 rfl) ?_
  refine xAldM hx hb hK hP 1 3 rfl rfl (vp_in_nI (by omega) (by omega)) dX7_isBlocking_15 ?_
  refine W.eq (g2 := F0 m 16 ls (.ref (rr sk) :: .ref le :: .int (iI (yFst lv (sd sk) lev)) :: [])) (congrArg (fun q9 => F0 m 16 ls (q9 :: .ref le :: .int (iI (yFst lv (sd sk) lev)) :: [])) (xRow (n := 12) (k := sk) (nI_clamp (by omega)) (by omega))) ?_
  refine lv_iload_n hx hb dX7_isBlocking_16 rfl (lv_at hl 2 rfl) ?_
  refine va_iald hx hb hK hP _ 0 (xR_ap (X := [(ya, .inr (7, [y0, y1, y2, y3, y4, .ref so, y6, .ref le, y8, y9, y10])), (so, .inl (xM g, 12, .inr (.inr (.inr (.inr (fun i => if i < 12 then some (rr i) else none))))))]) (xR_get0 (i := sk) (by omega))) rfl (vp_in_nI (by omega) (by omega)) dX7_isBlocking_17 ?_
  refine lv_topi (fun v_3 ev => ?_)
  obtain rfl : v_3 = nI (sd sk lev) := ev.trans (congrArg (fun q9 => nI (sd sk q9)) (nI_clamp (by omega)))
  have b_4 := b_sd sk lev
  refine va_iald hx hb hK hP 14 0 rfl rfl (vp_in_nI (by omega) (by omega)) dX7_isBlocking_18 ?_
  refine lv_topi (fun v_5 ev => ?_)
  obtain rfl : v_5 = iI (lv (sd sk lev)) := ev.trans (congrArg (fun q9 => iI (lv q9)) (nI_clamp (by omega)))
  have b_6 := b_lv (sd sk lev)
  refine lv_icmp_ge (tgt := 26) hx hb dX7_isBlocking_19 (by decide) (fun c_7 => ?_) (fun c_7 => ?_)
  · have nc_7 := (iLe (a := lv (sd sk lev)) (b := yFst lv (sd sk) lev) rfl rfl (by omega)).mp c_7
    refine lv_iconst (v := 0) hx hb dX7_isBlocking_26 (by decide) ?_
    exact W.zret (v := 0) hx hb hr (by rfl) (fun t ht hW => ⟨⟨0, (), rfl, (by first | (refine Or.inl ⟨rfl, ?_⟩; omega) | (refine Or.inr ⟨rfl, ?_⟩; omega)), trivial⟩, hS.F ht⟩) hS.2.2 dX7_isBlocking_27
  · have nc_7 := mt (iLe (a := lv (sd sk lev)) (b := yFst lv (sd sk) lev) rfl rfl (by omega)).mpr c_7
    refine lv_iconst (v := 1) hx hb dX7_isBlocking_22 (by decide) ?_
    refine lv_goto (tgt := 27) hx hb dX7_isBlocking_23 (by decide) ?_
    exact W.zret (v := 1) hx hb hr (by rfl) (fun t ht hW => ⟨⟨1, (), rfl, (by first | (refine Or.inl ⟨rfl, ?_⟩; omega) | (refine Or.inr ⟨rfl, ?_⟩; omega)), trivial⟩, hS.F ht⟩) hS.2.2 dX7_isBlocking_27
theorem dX7_isStanding_0 : decode cX7_isStanding 0 = .ok (.aload_n 0, 1) := by decide +kernel
theorem dX7_isStanding_1 : decode cX7_isStanding 1 = .ok (.getfield 29, 3) := by decide +kernel
theorem dX7_isStanding_4 : decode cX7_isStanding 4 = .ok (.iload_n 1, 1) := by decide +kernel
theorem dX7_isStanding_5 : decode cX7_isStanding 5 = .ok (.iaload, 1) := by decide +kernel
theorem dX7_isStanding_6 : decode cX7_isStanding 6 = .ok (.iconst 1, 1) := by decide +kernel
theorem dX7_isStanding_7 : decode cX7_isStanding 7 = .ok (.if_icmp .eq 13, 3) := by decide +kernel
theorem dX7_isStanding_20 : decode cX7_isStanding 20 = .ok (.iconst 1, 1) := by decide +kernel
theorem dX7_isStanding_21 : decode cX7_isStanding 21 = .ok (.goto 4, 3) := by decide +kernel
theorem dX7_isStanding_25 : decode cX7_isStanding 25 = .ok (.ireturn, 1) := by decide +kernel
theorem dX7_isStanding_10 : decode cX7_isStanding 10 = .ok (.aload_n 0, 1) := by decide +kernel
theorem dX7_isStanding_11 : decode cX7_isStanding 11 = .ok (.getfield 29, 3) := by decide +kernel
theorem dX7_isStanding_14 : decode cX7_isStanding 14 = .ok (.iload_n 1, 1) := by decide +kernel
theorem dX7_isStanding_15 : decode cX7_isStanding 15 = .ok (.iaload, 1) := by decide +kernel
theorem dX7_isStanding_16 : decode cX7_isStanding 16 = .ok (.iconst 4, 1) := by decide +kernel
theorem dX7_isStanding_17 : decode cX7_isStanding 17 = .ok (.if_icmp .ne 7, 3) := by decide +kernel
theorem dX7_isStanding_24 : decode cX7_isStanding 24 = .ok (.iconst 0, 1) := by decide +kernel
set_option maxHeartbeats 4000000 in
set_option maxRecDepth 100000 in
theorem y_isStanding (l : Launch) (g : xG) (sz : Nat) (ya : Nat) (sa : Nat) (cn : Nat) (y0 : Value) (y1 : Value) (y2 : Value) (y3 : Value) (y4 : Value) (y5 : Value) (y6 : Value) (y7 : Value) (y9 : Value) (y10 : Value) (stt : Nat → Int)  (hc : cn < 24) (b_stt : ∀ j, 0 ≤ stt j ∧ stt j ≤ 4) : Met l yX7_isStanding wsX7_isStanding ({ frames := 0, cells := 0, slots := 0, locals := 0 }) (va_Pc [.ref ya, .int (nI cn)] (fun U => xB g [(ya, .inr (7, [y0, y1, y2, y3, y4, y5, y6, y7, .ref sa, y9, y10])), (sa, .inl (xI g, 24, .inl (fun j => iI (stt j))))] sz U)) (va_Qi (fun (r : Int32) (_ : Unit) => (r = 1 ∧ (stt cn = 1 ∨ stt cn = 4)) ∨ (r = 0 ∧ ¬ (stt cn = 1 ∨ stt cn = 4))) (fun (_ : Unit) (_ : State) => True) (va_A [] sz)) 0 0 (va_A [] sz) := by
  refine Met.ofW (cc := cX7_isStanding) (maxL := 2) (ret := (some .boolean)) (by decide) rfl ?_
  intro p e s m args below meth c s₁ B hml hv
  obtain ⟨rfl, hsz, hP, hK, hD0⟩ := hv
  have hx := B.exec
  have hb := B.bytes
  have hr := B.returns
  have hts := atoms_spec (ws := wsX7_isStanding) B.pre
  have hown : s.vm.findClass RX7 = some m.cls := findClass_of_methodNamed B.named
  have hlocks := B.notSynchronized
  subst hsz
  have hD := hD0
  generalize hAe : va_A [] s.heap.size = A
  have hA : ∀ q : Nat, s.heap.size ≤ q → A q := fun q h => by rw [← hAe]; exact Or.inr h
  have hS : va_S A s.heap s.heap [] := va_S.rf
  have hl := lv_entry ([.ref ya, .int (nI cn)]) (n := 2) (Nat.le_of_ble_eq_true rfl)
  rw [lg_entry_eq]
  generalize (lg_sl ([.ref ya, .int (nI cn)]) ++ List.replicate (2 - (lg_sl ([.ref ya, .int (nI cn)])).length) Slot.unset).toArray = ls at hl ⊢
  have hl : lv_has ls 2 [(0, .ref ya), (1, .int (nI cn))] := hl
  have hFX7 : ∀ w ∈ u_ws RX7 TX7 11, w ∈ wsX7_isStanding := by decide +kernel
  refine lv_aload_n hx hb dX7_isStanding_0 rfl (lv_at hl 0 rfl) ?_
  refine va_get (D := xD g) (ci := 7) (v := .ref sa) (C := RX7) (T := TX7) (N := 11) hx hb hts hFX7 hown hK hP 0 rfl rfl 8 (by decide) (hts (.fieldLink RX7 29 "Stevedore$Yard" "state" "[I") (by decide +kernel)) (fun _ h9 => h9) rfl dX7_isStanding_1 ?_
  refine lv_iload_n hx hb dX7_isStanding_4 rfl (lv_at hl 1 rfl) ?_
  refine va_iald hx hb hK hP 1 0 rfl rfl (vp_in_nI (by omega) (by omega)) dX7_isStanding_5 ?_
  refine lv_topi (fun v_1 ev => ?_)
  obtain rfl : v_1 = iI (stt cn) := ev.trans (congrArg (fun q9 => iI (stt q9)) (nI_clamp (by omega)))
  have b_2 := b_stt cn
  refine lv_iconst (v := 1) hx hb dX7_isStanding_6 (by decide) ?_
  refine lv_icmp_eq (tgt := 20) hx hb dX7_isStanding_7 (by decide) (fun c_3 => ?_) (fun c_3 => ?_)
  · have nc_3 := (iEq (a := stt cn) (b := 1) rfl (by decide) (by omega)).mp c_3
    refine lv_iconst (v := 1) hx hb dX7_isStanding_20 (by decide) ?_
    refine lv_goto (tgt := 25) hx hb dX7_isStanding_21 (by decide) ?_
    exact W.zret (v := 1) hx hb hr (by rfl) (fun t ht hW => ⟨⟨1, (), rfl, (by first | (refine Or.inl ⟨rfl, ?_⟩; omega) | (refine Or.inr ⟨rfl, ?_⟩; omega)), trivial⟩, hS.F ht⟩) hS.2.2 dX7_isStanding_25
  · have nc_3 := mt (iEq (a := stt cn) (b := 1) rfl (by decide) (by omega)).mpr c_3
    refine lv_aload_n hx hb dX7_isStanding_10 rfl (lv_at hl 0 rfl) ?_
    refine va_get (D := xD g) (ci := 7) (v := .ref sa) (C := RX7) (T := TX7) (N := 11) hx hb hts hFX7 hown hK hP 0 rfl rfl 8 (by decide) (hts (.fieldLink RX7 29 "Stevedore$Yard" "state" "[I") (by decide +kernel)) (fun _ h9 => h9) rfl dX7_isStanding_11 ?_
    refine lv_iload_n hx hb dX7_isStanding_14 rfl (lv_at hl 1 rfl) ?_
    refine va_iald hx hb hK hP 1 0 rfl rfl (vp_in_nI (by omega) (by omega)) dX7_isStanding_15 ?_
    refine lv_topi (fun v_4 ev => ?_)
    obtain rfl : v_4 = iI (stt cn) := ev.trans (congrArg (fun q9 => iI (stt q9)) (nI_clamp (by omega)))
    have b_5 := b_stt cn
    refine lv_iconst (v := 4) hx hb dX7_isStanding_16 (by decide) ?_
    refine lv_icmp_ne (tgt := 24) hx hb dX7_isStanding_17 (by decide) (fun c_6 => ?_) (fun c_6 => ?_)
    · have nc_6 := mt (iEq (a := stt cn) (b := 4) rfl (by decide) (by omega)).mpr c_6
      refine lv_iconst (v := 0) hx hb dX7_isStanding_24 (by decide) ?_
      exact W.zret (v := 0) hx hb hr (by rfl) (fun t ht hW => ⟨⟨0, (), rfl, (by first | (refine Or.inl ⟨rfl, ?_⟩; omega) | (refine Or.inr ⟨rfl, ?_⟩; omega)), trivial⟩, hS.F ht⟩) hS.2.2 dX7_isStanding_25
    · have nc_6 := (iEq (a := stt cn) (b := 4) rfl (by decide) (by omega)).mp c_6
      refine lv_iconst (v := 1) hx hb dX7_isStanding_20 (by decide) ?_
      refine lv_goto (tgt := 25) hx hb dX7_isStanding_21 (by decide) ?_
      exact W.zret (v := 1) hx hb hr (by rfl) (fun t ht hW => ⟨⟨1, (), rfl, (by first | (refine Or.inl ⟨rfl, ?_⟩; omega) | (refine Or.inr ⟨rfl, ?_⟩; omega)), trivial⟩, hS.F ht⟩) hS.2.2 dX7_isStanding_25
theorem dX7_countState_0 : decode cX7_countState 0 = .ok (.iconst 0, 1) := by decide +kernel
theorem dX7_countState_1 : decode cX7_countState 1 = .ok (.istore_n 2, 1) := by decide +kernel
theorem dX7_countState_2 : decode cX7_countState 2 = .ok (.iconst 0, 1) := by decide +kernel
theorem dX7_countState_3 : decode cX7_countState 3 = .ok (.istore_n 3, 1) := by decide +kernel
theorem dX7_countState_4 : decode cX7_countState 4 = .ok (.iload_n 3, 1) := by decide +kernel
theorem dX7_countState_5 : decode cX7_countState 5 = .ok (.bipush 24, 2) := by decide +kernel
theorem dX7_countState_7 : decode cX7_countState 7 = .ok (.if_icmp .ge 22, 3) := by decide +kernel
theorem dX7_countState_29 : decode cX7_countState 29 = .ok (.iload_n 2, 1) := by decide +kernel
theorem dX7_countState_30 : decode cX7_countState 30 = .ok (.ireturn, 1) := by decide +kernel
theorem dX7_countState_10 : decode cX7_countState 10 = .ok (.aload_n 0, 1) := by decide +kernel
theorem dX7_countState_11 : decode cX7_countState 11 = .ok (.getfield 29, 3) := by decide +kernel
theorem dX7_countState_14 : decode cX7_countState 14 = .ok (.iload_n 3, 1) := by decide +kernel
theorem dX7_countState_15 : decode cX7_countState 15 = .ok (.iaload, 1) := by decide +kernel
theorem dX7_countState_16 : decode cX7_countState 16 = .ok (.iload_n 1, 1) := by decide +kernel
theorem dX7_countState_17 : decode cX7_countState 17 = .ok (.if_icmp .ne 6, 3) := by decide +kernel
theorem dX7_countState_23 : decode cX7_countState 23 = .ok (.iinc 3 1, 3) := by decide +kernel
theorem dX7_countState_26 : decode cX7_countState 26 = .ok (.goto (-22), 3) := by decide +kernel
theorem dX7_countState_20 : decode cX7_countState 20 = .ok (.iinc 2 1, 3) := by decide +kernel
set_option maxHeartbeats 4000000 in
set_option maxRecDepth 100000 in
theorem y_countState (l : Launch) (g : xG) (sz : Nat) (ya : Nat) (sa : Nat) (w : Int) (y0 : Value) (y1 : Value) (y2 : Value) (y3 : Value) (y4 : Value) (y5 : Value) (y6 : Value) (y7 : Value) (y9 : Value) (y10 : Value) (stt : Nat → Int)  (hw0 : 0 ≤ w ∧ w ≤ 4) (b_stt : ∀ j, 0 ≤ stt j ∧ stt j ≤ 4) : Met l yX7_countState wsX7_countState ({ frames := 0, cells := 0, slots := 0, locals := 0 }) (va_Pc [.ref ya, .int (iI w)] (fun U => xB g [(ya, .inr (7, [y0, y1, y2, y3, y4, y5, y6, y7, .ref sa, y9, y10])), (sa, .inl (xI g, 24, .inl (fun j => iI (stt j))))] sz U)) (va_Qi (fun (r : Int32) (_ : Unit) => r = nI (yCnt stt w 24)) (fun (_ : Unit) (_ : State) => True) (va_A [] sz)) 0 0 (va_A [] sz) := by
  refine Met.ofW (cc := cX7_countState) (maxL := 4) (ret := (some .int)) (by decide) rfl ?_
  intro p e s m args below meth c s₁ B hml hv
  obtain ⟨rfl, hsz, hP, hK, hD0⟩ := hv
  have hx := B.exec
  have hb := B.bytes
  have hr := B.returns
  have hts := atoms_spec (ws := wsX7_countState) B.pre
  have hown : s.vm.findClass RX7 = some m.cls := findClass_of_methodNamed B.named
  have hlocks := B.notSynchronized
  subst hsz
  have hD := hD0
  generalize hAe : va_A [] s.heap.size = A
  have hA : ∀ q : Nat, s.heap.size ≤ q → A q := fun q h => by rw [← hAe]; exact Or.inr h
  have hS : va_S A s.heap s.heap [] := va_S.rf
  have hl := lv_entry ([.ref ya, .int (iI w)]) (n := 4) (Nat.le_of_ble_eq_true rfl)
  rw [lg_entry_eq]
  generalize (lg_sl ([.ref ya, .int (iI w)]) ++ List.replicate (4 - (lg_sl ([.ref ya, .int (iI w)])).length) Slot.unset).toArray = ls at hl ⊢
  have hl : lv_has ls 4 [(0, .ref ya), (1, .int (iI w))] := hl
  have hFX7 : ∀ w ∈ u_ws RX7 TX7 11, w ∈ wsX7_countState := by decide +kernel
  refine lv_iconst (v := 0) hx hb dX7_countState_0 (by decide) ?_
  refine lv_istore_n (lv' := [(2, .int 0), (0, .ref ya), (1, .int (iI w))]) hx hb dX7_countState_1 rfl hl (by decide) rfl (fun ls hl => ?_)
  refine lv_iconst (v := 0) hx hb dX7_countState_2 (by decide) ?_
  refine lv_istore_n (lv' := [(3, .int 0), (2, .int 0), (0, .ref ya), (1, .int (iI w))]) hx hb dX7_countState_3 rfl hl (by decide) rfl (fun ls hl => ?_)
  have hloop4 : ∀ (n9 : Nat) (k : Nat) (m_ : Nat) (H : Heap) (locs : List Loc) (ls : Array Slot), 24 - k < n9 → (k ≤ 24) → (m_ = yCnt stt w k) → va_P (xD g) vwCl [(ya, .inr (7, [y0, y1, y2, y3, y4, y5, y6, y7, .ref sa, y9, y10])), (sa, .inl (xI g, 24, .inl (fun j => iI (stt j))))] H → va_D (fun _ => True) [(ya, .inr (7, [y0, y1, y2, y3, y4, y5, y6, y7, .ref sa, y9, y10])), (sa, .inl (xI g, 24, .inl (fun j => iI (stt j))))] → va_S A s.heap H locs → lv_has ls 4 [(3, .int (nI k)), (0, .ref ya), (1, .int (iI w)), (2, .int (nI m_))] → W p l e (headSpec wsX7_countState ({ frames := 0, cells := 0, slots := 0, locals := 0 })).room s m ([.ref ya, .int (iI w)] : List Value).toArray below meth c H locs 0 0 (MQ below (va_Qi (fun (r : Int32) (_ : Unit) => r = nI (yCnt stt w 24)) (fun (_ : Unit) (_ : State) => True) (A)) ([.ref ya, .int (iI w)] : List Value).toArray s 0 0 A) (F0 m 4 ls []) := by
    intro n9
    induction n9 with
    | zero =>
      intro k m_ H locs ls hm hk hm_ hP hD hS hl
      exact absurd hm (Nat.not_lt_zero _)
    | succ n9 ih4 =>
      intro k m_ H locs ls hm hk hm_ hP hD hS hl
      have hq := yCnt_le (stt := stt) (w := w) k
      refine lv_iload_n hx hb dX7_countState_4 rfl (lv_at hl 0 rfl) ?_
      refine lv_bipush (v := 24) hx hb dX7_countState_5 (by decide) ?_
      refine lv_icmp_ge (tgt := 29) hx hb dX7_countState_7 (by decide) (fun c_1 => ?_) (fun c_1 => ?_)
      · have nc_1 := (nI_leI (a := 24) (b := k) (by omega) (by omega)).mp c_1
        refine lv_iload_n hx hb dX7_countState_29 rfl (lv_at hl 3 rfl) ?_
        exact W.iret (v := nI m_) hx hb hr (fun t ht hW => ⟨⟨nI m_, (), rfl, (by obtain rfl : k = 24 := (by omega); rw [hm_]), trivial⟩, hS.F ht⟩) hS.2.2 dX7_countState_30
      · have nc_1 := mt (nI_leI (a := 24) (b := k) (by omega) (by omega)).mpr c_1
        refine lv_aload_n hx hb dX7_countState_10 rfl (lv_at hl 1 rfl) ?_
        refine va_get (D := xD g) (ci := 7) (v := .ref sa) (C := RX7) (T := TX7) (N := 11) hx hb hts hFX7 hown hK hP 0 rfl rfl 8 (by decide) (hts (.fieldLink RX7 29 "Stevedore$Yard" "state" "[I") (by decide +kernel)) (fun _ h9 => h9) rfl dX7_countState_11 ?_
        refine lv_iload_n hx hb dX7_countState_14 rfl (lv_at hl 0 rfl) ?_
        refine va_iald hx hb hK hP 1 0 rfl rfl (vp_in_nI (by omega) (by omega)) dX7_countState_15 ?_
        refine lv_topi (fun v_2 ev => ?_)
        obtain rfl : v_2 = iI (stt k) := ev.trans (congrArg (fun q9 => iI (stt q9)) (nI_clamp (by omega)))
        have b_3 := b_stt k
        refine lv_iload_n hx hb dX7_countState_16 rfl (lv_at hl 2 rfl) ?_
        refine lv_icmp_ne (tgt := 23) hx hb dX7_countState_17 (by decide) (fun c_4 => ?_) (fun c_4 => ?_)
        · have nc_4 := mt (iEq (a := stt k) (b := w) rfl rfl (by omega)).mpr c_4
          refine lv_iinc (v := nI (k + 1)) (lv' := [(3, .int (nI (k + 1))), (0, .ref ya), (1, .int (iI w)), (2, .int (nI m_))]) hx hb dX7_countState_23 hl (k := 0) rfl (nI_add k 1) (by decide) rfl (fun ls hl => ?_)
          refine lv_goto (tgt := 4) hx hb dX7_countState_26 (by decide) ?_
          exact ih4 (k + 1) m_ _ _ _ (by omega) (by omega) (by simp only [yCnt]; first | (rw [if_pos (by omega)]; omega) | (rw [if_neg (by omega)]; omega)) hP hD hS (lv_sub hl [0, 1, 2, 3] rfl)
        · have nc_4 := (iEq (a := stt k) (b := w) rfl rfl (by omega)).mp c_4
          refine lv_iinc (v := nI (m_ + 1)) (lv' := [(2, .int (nI (m_ + 1))), (3, .int (nI k)), (0, .ref ya), (1, .int (iI w))]) hx hb dX7_countState_20 hl (k := 3) rfl (nI_add m_ 1) (by decide) rfl (fun ls hl => ?_)
          refine lv_iinc (v := nI (k + 1)) (lv' := [(3, .int (nI (k + 1))), (2, .int (nI (m_ + 1))), (0, .ref ya), (1, .int (iI w))]) hx hb dX7_countState_23 hl (k := 1) rfl (nI_add k 1) (by decide) rfl (fun ls hl => ?_)
          refine lv_goto (tgt := 4) hx hb dX7_countState_26 (by decide) ?_
          exact ih4 (k + 1) (m_ + 1) _ _ _ (by omega) (by omega) (by simp only [yCnt]; first | (rw [if_pos (by omega)]; omega) | (rw [if_neg (by omega)]; omega)) hP hD hS (lv_sub hl [0, 2, 3, 1] rfl)
  exact hloop4 (25) 0 0 _ _ _ (by omega) (by omega) rfl hP hD hS (by rw [(show nI 0 = (0 : Int32) from by decide)]; exact lv_sub hl [0, 2, 3, 1] rfl)
