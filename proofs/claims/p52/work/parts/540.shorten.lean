theorem dX5_shorten_0 : decode cX5_shorten 0 = .ok (.iload_n 3, 1) := by decide +kernel
theorem dX5_shorten_1 : decode cX5_shorten 1 = .ok (.aload_n 0, 1) := by decide +kernel
theorem dX5_shorten_2 : decode cX5_shorten 2 = .ok (.getfield 26, 3) := by decide +kernel
theorem dX5_shorten_5 : decode cX5_shorten 5 = .ok (.iload_n 1, 1) := by decide +kernel
theorem dX5_shorten_6 : decode cX5_shorten 6 = .ok (.iaload, 1) := by decide +kernel
theorem dX5_shorten_7 : decode cX5_shorten 7 = .ok (.if_icmp .lt 5, 3) := by decide +kernel
theorem dX5_shorten_12 : decode cX5_shorten 12 = .ok (.aload_n 0, 1) := by decide +kernel
theorem dX5_shorten_13 : decode cX5_shorten 13 = .ok (.getfield 26, 3) := by decide +kernel
theorem dX5_shorten_16 : decode cX5_shorten 16 = .ok (.iload_n 1, 1) := by decide +kernel
theorem dX5_shorten_17 : decode cX5_shorten 17 = .ok (.iload_n 3, 1) := by decide +kernel
theorem dX5_shorten_18 : decode cX5_shorten 18 = .ok (.iastore, 1) := by decide +kernel
theorem dX5_shorten_19 : decode cX5_shorten 19 = .ok (.aload_n 0, 1) := by decide +kernel
theorem dX5_shorten_20 : decode cX5_shorten 20 = .ok (.getfield 29, 3) := by decide +kernel
theorem dX5_shorten_23 : decode cX5_shorten 23 = .ok (.iload_n 1, 1) := by decide +kernel
theorem dX5_shorten_24 : decode cX5_shorten 24 = .ok (.iload_n 2, 1) := by decide +kernel
theorem dX5_shorten_25 : decode cX5_shorten 25 = .ok (.iastore, 1) := by decide +kernel
theorem dX5_shorten_26 : decode cX5_shorten 26 = .ok (.aload_n 0, 1) := by decide +kernel
theorem dX5_shorten_27 : decode cX5_shorten 27 = .ok (.getfield 32, 3) := by decide +kernel
theorem dX5_shorten_30 : decode cX5_shorten 30 = .ok (.iload_n 1, 1) := by decide +kernel
theorem dX5_shorten_31 : decode cX5_shorten 31 = .ok (.iload 4, 2) := by decide +kernel
theorem dX5_shorten_33 : decode cX5_shorten 33 = .ok (.iastore, 1) := by decide +kernel
theorem dX5_shorten_34 : decode cX5_shorten 34 = .ok (.iconst 1, 1) := by decide +kernel
theorem dX5_shorten_35 : decode cX5_shorten 35 = .ok (.ireturn, 1) := by decide +kernel
theorem dX5_shorten_10 : decode cX5_shorten 10 = .ok (.iconst 0, 1) := by decide +kernel
theorem dX5_shorten_11 : decode cX5_shorten 11 = .ok (.ireturn, 1) := by decide +kernel
set_option maxHeartbeats 4000000 in
set_option maxRecDepth 100000 in
theorem g_shorten (l : Launch) (g : xG) (sz : Nat) (sg : Nat) (wc : Nat) (nx : Nat) (pu : Nat) (fr : Nat) (tt : Nat) (tg : Int) (pz : Int) (g0 : Value) (g1 : Value) (g2 : Value) (g3 : Value) (g4 : Value) (dd : Nat → Int) (nxt : Nat → Nat) (psh : Nat → Int)  (hfr : fr < 18) (htt : tt ≤ 17) (htg : -3000000 ≤ tg ∧ tg ≤ 3000000) (hpz : -1 ≤ pz ∧ pz ≤ 23) (b_dd : ∀ j, (-3000000) ≤ dd j ∧ dd j ≤ 1000000) (b_nxt : ∀ j, nxt j ≤ 17) (b_psh : ∀ j, (-1) ≤ psh j ∧ psh j ≤ 23) : Met l yX5_shorten wsX5_shorten ({ frames := 0, cells := 0, slots := 0, locals := 0 }) (va_Pc [.ref sg, .int (nI fr), .int (nI tt), .int (iI tg), .int (iI pz)] (fun U => xB g [(sg, .inr (5, [g0, g1, g2, g3, g4, .ref wc, .ref nx, .ref pu])), (wc, .inl (xI g, 18, .inl (fun j => iI (dd j)))), (nx, .inl (xI g, 18, .inl (fun j => nI (nxt j)))), (pu, .inl (xI g, 18, .inl (fun j => iI (psh j))))] sz U)) (va_Qi (fun (r : Int32) (_ : Unit) => (r = 1 ∧ (tg < dd fr)) ∨ (r = 0 ∧ ¬ (tg < dd fr))) (fun (_ : Unit) (t : State) => ∃ (d1 : Nat → Int) (n1 : Nat → Nat) (p1 : Nat → Int), ((tg < dd fr → d1 = zU dd fr tg ∧ n1 = nV nxt fr tt ∧ p1 = zU psh fr pz) ∧ (¬ tg < dd fr → dd = d1 ∧ nxt = n1 ∧ psh = p1)) ∧ (∀ j, (-3000000) ≤ d1 j ∧ d1 j ≤ 1000000) ∧ (∀ j, n1 j ≤ 17) ∧ (∀ j, (-1) ≤ p1 j ∧ p1 j ≤ 23) ∧ xE g [(sg, .inr (5, [g0, g1, g2, g3, g4, .ref wc, .ref nx, .ref pu])), (wc, .inl (xI g, 18, .inl (fun j => iI (d1 j)))), (nx, .inl (xI g, 18, .inl (fun j => nI (n1 j)))), (pu, .inl (xI g, 18, .inl (fun j => iI (p1 j))))] (va_A [(sg, .inr (5, [g0, g1, g2, g3, g4, .ref wc, .ref nx, .ref pu])), (wc, .inl (xI g, 18, .inl (fun j => iI (dd j)))), (nx, .inl (xI g, 18, .inl (fun j => nI (nxt j)))), (pu, .inl (xI g, 18, .inl (fun j => iI (psh j))))] sz) t) (va_A [(sg, .inr (5, [g0, g1, g2, g3, g4, .ref wc, .ref nx, .ref pu])), (wc, .inl (xI g, 18, .inl (fun j => iI (dd j)))), (nx, .inl (xI g, 18, .inl (fun j => nI (nxt j)))), (pu, .inl (xI g, 18, .inl (fun j => iI (psh j))))] sz)) 0 0 (va_A [(sg, .inr (5, [g0, g1, g2, g3, g4, .ref wc, .ref nx, .ref pu])), (wc, .inl (xI g, 18, .inl (fun j => iI (dd j)))), (nx, .inl (xI g, 18, .inl (fun j => nI (nxt j)))), (pu, .inl (xI g, 18, .inl (fun j => iI (psh j))))] sz) := by
  refine Met.ofW (cc := cX5_shorten) (maxL := 5) (ret := (some .boolean)) (by decide) rfl ?_
  intro p e s m args below meth c s₁ B hml hv
  obtain ⟨rfl, hsz, hP, hK, hD0⟩ := hv
  have hx := B.exec
  have hb := B.bytes
  have hr := B.returns
  have hts := atoms_spec (ws := wsX5_shorten) B.pre
  have hown : s.vm.findClass RX5 = some m.cls := findClass_of_methodNamed B.named
  have hlocks := B.notSynchronized
  subst hsz
  have hD := hD0.self (sz := s.heap.size)
  generalize hAe : va_A [(sg, .inr (5, [g0, g1, g2, g3, g4, .ref wc, .ref nx, .ref pu])), (wc, .inl (xI g, 18, .inl (fun j => iI (dd j)))), (nx, .inl (xI g, 18, .inl (fun j => nI (nxt j)))), (pu, .inl (xI g, 18, .inl (fun j => iI (psh j))))] s.heap.size = A at hD ⊢
  have hA : ∀ q : Nat, s.heap.size ≤ q → A q := fun q h => by rw [← hAe]; exact Or.inr h
  have hS : va_S A s.heap s.heap [] := va_S.rf
  have hl := lv_entry ([.ref sg, .int (nI fr), .int (nI tt), .int (iI tg), .int (iI pz)]) (n := 5) (Nat.le_of_ble_eq_true rfl)
  rw [lg_entry_eq]
  generalize (lg_sl ([.ref sg, .int (nI fr), .int (nI tt), .int (iI tg), .int (iI pz)]) ++ List.replicate (5 - (lg_sl ([.ref sg, .int (nI fr), .int (nI tt), .int (iI tg), .int (iI pz)])).length) Slot.unset).toArray = ls at hl ⊢
  have hl : lv_has ls 5 [(0, .ref sg), (1, .int (nI fr)), (2, .int (nI tt)), (3, .int (iI tg)), (4, .int (iI pz))] := hl
  have hFX5 : ∀ w ∈ u_ws RX5 TX5 8, w ∈ wsX5_shorten := by decide +kernel
  refine lv_iload_n hx hb dX5_shorten_0 rfl (lv_at hl 3 rfl) ?_
  refine lv_aload_n hx hb dX5_shorten_1 rfl (lv_at hl 0 rfl) ?_
  refine va_get (D := xD g) (ci := 5) (v := .ref wc) (C := RX5) (T := TX5) (N := 8) hx hb hts hFX5 hown hK hP 0 rfl rfl 5 (by decide) (hts (.fieldLink RX5 26 "Stevedore$SlotGiver" "wayCost" "[I") (by decide +kernel)) (fun _ h9 => h9) rfl dX5_shorten_2 ?_
  refine lv_iload_n hx hb dX5_shorten_5 rfl (lv_at hl 1 rfl) ?_
  refine va_iald hx hb hK hP 1 0 rfl rfl (vp_in_nI (by omega) (by omega)) dX5_shorten_6 ?_
  refine lv_topi (fun v_1 ev => ?_)
  obtain rfl : v_1 = iI (dd fr) := ev.trans (congrArg (fun q9 => iI (dd q9)) (nI_clamp (by omega)))
  have b_2 := b_dd fr
  refine lv_icmp_lt (tgt := 12) hx hb dX5_shorten_7 (by decide) (fun c_3 => ?_) (fun c_3 => ?_)
  · have nc_3 := (iLt (a := tg) (b := dd fr) rfl rfl (by omega)).mp c_3
    refine lv_aload_n hx hb dX5_shorten_12 rfl (lv_at hl 0 rfl) ?_
    refine va_get (D := xD g) (ci := 5) (v := .ref wc) (C := RX5) (T := TX5) (N := 8) hx hb hts hFX5 hown hK hP 0 rfl rfl 5 (by decide) (hts (.fieldLink RX5 26 "Stevedore$SlotGiver" "wayCost" "[I") (by decide +kernel)) (fun _ h9 => h9) rfl dX5_shorten_13 ?_
    refine lv_iload_n hx hb dX5_shorten_16 rfl (lv_at hl 1 rfl) ?_
    refine lv_iload_n hx hb dX5_shorten_17 rfl (lv_at hl 3 rfl) ?_
    refine va_iast (x := iI tg) hx hb hK hP hD hS 1 0 rfl rfl (vp_in_nI (by omega) (by omega)) dX5_shorten_18 (fun H locs hP hD hS => ?_)
    rw [iU (f := dd) (k := fr) (v := tg) (nI_clamp (by omega)) rfl] at hP hD
    have hb_4 : ∀ j, (-3000000) ≤ (zU dd fr tg) j ∧ (zU dd fr tg) j ≤ 1000000 := zU_all (P := fun q9 => (-3000000) ≤ q9 ∧ q9 ≤ 1000000) b_dd (by omega)
    have hP : va_P (xD g) vwCl [(sg, .inr (5, [g0, g1, g2, g3, g4, .ref wc, .ref nx, .ref pu])), (wc, .inl (xI g, 18, .inl (fun j => iI ((zU dd fr tg) j)))), (nx, .inl (xI g, 18, .inl (fun j => nI (nxt j)))), (pu, .inl (xI g, 18, .inl (fun j => iI (psh j))))] H := hP
    have hD : va_D A [(sg, .inr (5, [g0, g1, g2, g3, g4, .ref wc, .ref nx, .ref pu])), (wc, .inl (xI g, 18, .inl (fun j => iI ((zU dd fr tg) j)))), (nx, .inl (xI g, 18, .inl (fun j => nI (nxt j)))), (pu, .inl (xI g, 18, .inl (fun j => iI (psh j))))] := hD
    refine lv_aload_n hx hb dX5_shorten_19 rfl (lv_at hl 0 rfl) ?_
    refine va_get (D := xD g) (ci := 5) (v := .ref nx) (C := RX5) (T := TX5) (N := 8) hx hb hts hFX5 hown hK hP 0 rfl rfl 6 (by decide) (hts (.fieldLink RX5 29 "Stevedore$SlotGiver" "next" "[I") (by decide +kernel)) (fun _ h9 => h9) rfl dX5_shorten_20 ?_
    refine lv_iload_n hx hb dX5_shorten_23 rfl (lv_at hl 1 rfl) ?_
    refine lv_iload_n hx hb dX5_shorten_24 rfl (lv_at hl 2 rfl) ?_
    refine va_iast (x := nI tt) hx hb hK hP hD hS 2 0 rfl rfl (vp_in_nI (by omega) (by omega)) dX5_shorten_25 (fun H locs hP hD hS => ?_)
    rw [nU (f := nxt) (k := fr) (v := tt) (nI_clamp (by omega)) rfl] at hP hD
    have hb_5 : ∀ j, (nV nxt fr tt) j ≤ 17 := nV_all (P := fun q9 => q9 ≤ 17) b_nxt (by omega)
    have hP : va_P (xD g) vwCl [(sg, .inr (5, [g0, g1, g2, g3, g4, .ref wc, .ref nx, .ref pu])), (wc, .inl (xI g, 18, .inl (fun j => iI ((zU dd fr tg) j)))), (nx, .inl (xI g, 18, .inl (fun j => nI ((nV nxt fr tt) j)))), (pu, .inl (xI g, 18, .inl (fun j => iI (psh j))))] H := hP
    have hD : va_D A [(sg, .inr (5, [g0, g1, g2, g3, g4, .ref wc, .ref nx, .ref pu])), (wc, .inl (xI g, 18, .inl (fun j => iI ((zU dd fr tg) j)))), (nx, .inl (xI g, 18, .inl (fun j => nI ((nV nxt fr tt) j)))), (pu, .inl (xI g, 18, .inl (fun j => iI (psh j))))] := hD
    refine lv_aload_n hx hb dX5_shorten_26 rfl (lv_at hl 0 rfl) ?_
    refine va_get (D := xD g) (ci := 5) (v := .ref pu) (C := RX5) (T := TX5) (N := 8) hx hb hts hFX5 hown hK hP 0 rfl rfl 7 (by decide) (hts (.fieldLink RX5 32 "Stevedore$SlotGiver" "pushed" "[I") (by decide +kernel)) (fun _ h9 => h9) rfl dX5_shorten_27 ?_
    refine lv_iload_n hx hb dX5_shorten_30 rfl (lv_at hl 1 rfl) ?_
    refine lv_iload hx hb dX5_shorten_31 (lv_at hl 4 rfl) ?_
    refine va_iast (x := iI pz) hx hb hK hP hD hS 3 0 rfl rfl (vp_in_nI (by omega) (by omega)) dX5_shorten_33 (fun H locs hP hD hS => ?_)
    rw [iU (f := psh) (k := fr) (v := pz) (nI_clamp (by omega)) rfl] at hP hD
    have hb_6 : ∀ j, (-1) ≤ (zU psh fr pz) j ∧ (zU psh fr pz) j ≤ 23 := zU_all (P := fun q9 => (-1) ≤ q9 ∧ q9 ≤ 23) b_psh (by omega)
    have hP : va_P (xD g) vwCl [(sg, .inr (5, [g0, g1, g2, g3, g4, .ref wc, .ref nx, .ref pu])), (wc, .inl (xI g, 18, .inl (fun j => iI ((zU dd fr tg) j)))), (nx, .inl (xI g, 18, .inl (fun j => nI ((nV nxt fr tt) j)))), (pu, .inl (xI g, 18, .inl (fun j => iI ((zU psh fr pz) j))))] H := hP
    have hD : va_D A [(sg, .inr (5, [g0, g1, g2, g3, g4, .ref wc, .ref nx, .ref pu])), (wc, .inl (xI g, 18, .inl (fun j => iI ((zU dd fr tg) j)))), (nx, .inl (xI g, 18, .inl (fun j => nI ((nV nxt fr tt) j)))), (pu, .inl (xI g, 18, .inl (fun j => iI ((zU psh fr pz) j))))] := hD
    refine lv_iconst (v := 1) hx hb dX5_shorten_34 (by decide) ?_
    have hP9 := hP
    have hD9 := hD
    exact W.zret (v := 1) hx hb hr (by rfl) (fun t ht hW => ⟨⟨1, (), rfl, (by first | (refine Or.inl ⟨rfl, ?_⟩; omega) | (refine Or.inr ⟨rfl, ?_⟩; omega)), ⟨(zU dd fr tg), (nV nxt fr tt), (zU psh fr pz), ⟨fun q => (by first | exact ⟨rfl, rfl, rfl⟩ | (exfalso; omega)), fun q => (by first | exact ⟨rfl, rfl, rfl⟩ | (exfalso; omega))⟩, hb_4, hb_5, hb_6, by rw [ht]; exact hP9, va_K.moved hW.alike hK, hD9⟩⟩, hS.F ht⟩) hS.2.2 dX5_shorten_35
  · have nc_3 := mt (iLt (a := tg) (b := dd fr) rfl rfl (by omega)).mpr c_3
    refine lv_iconst (v := 0) hx hb dX5_shorten_10 (by decide) ?_
    have hP9 := hP
    have hD9 := hD
    exact W.zret (v := 0) hx hb hr (by rfl) (fun t ht hW => ⟨⟨0, (), rfl, (by first | (refine Or.inl ⟨rfl, ?_⟩; omega) | (refine Or.inr ⟨rfl, ?_⟩; omega)), ⟨dd, nxt, psh, ⟨fun q => (by first | exact ⟨rfl, rfl, rfl⟩ | (exfalso; omega)), fun q => (by first | exact ⟨rfl, rfl, rfl⟩ | (exfalso; omega))⟩, b_dd, b_nxt, b_psh, by rw [ht]; exact hP9, va_K.moved hW.alike hK, hD9⟩⟩, hS.F ht⟩) hS.2.2 dX5_shorten_11
