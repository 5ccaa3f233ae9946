theorem dX5_shorten_0 : decode cX5_shorten 0 = .ok (.iload_n 3, 1) := by decide +kernel
theorem dX5_shorten_1 : decode cX5_shorten 1 = .ok (.aload_n 0, 1) := by decide +kernel
theorem dX5_shorten_2 : decode cX5_shorten 2 = .ok (.getfield 26, 3) := by decide +kernel
theorem dX5_shorten_5 : decode cX5_shorten 5 = .ok (.iload_n 1, 1) := by decide +kernel
theorem dX5_shorten_6 : decode cX5_shorten 6 = .ok (.iaload, 1) := by decide +kernel
theorem dX5_shorten_7 : decode cX5_shorten 7 = .ok (.if_icmp .lt 5, 3) := by decide +kernel
theorem dX5_shorten_12 : decode cX5_shorten 12 = .ok (.aload_n 0, 1) := by decide +kernel
theorem dX5_shorten_13 : decode cX5_shorten 13 = .ok (.getfield 26, 3) := by decide +kernel
theorem dX5_shorten_16 : decode cX5_shorten 16 = .ok (.iload_n 1, 1) := by decide +kernel
theorem dX5_shorten_17 : decode cX5_shorten 17 = .ok (.iload_n 3, 1) := by decide +kernel
theorem dX5_shorten_18 : decode cX5_shorten 18 = .ok (.iastore, 1) := by decide +kernel
theorem dX5_shorten_19 : decode cX5_shorten 19 = .ok (.aload_n 0, 1) := by decide +kernel
theorem dX5_shorten_20 : decode cX5_shorten 20 = .ok (.getfield 29, 3) := by decide +kernel
theorem dX5_shorten_23 : decode cX5_shorten 23 = .ok (.iload_n 1, 1) := by decide +kernel
theorem dX5_shorten_24 : decode cX5_shorten 24 = .ok (.iload_n 2, 1) := by decide +kernel
theorem dX5_shorten_25 : decode cX5_shorten 25 = .ok (.iastore, 1) := by decide +kernel
theorem dX5_shorten_26 : decode cX5_shorten 26 = .ok (.aload_n 0, 1) := by decide +kernel
theorem dX5_shorten_27 : decode cX5_shorten 27 = .ok (.getfield 32, 3) := by decide +kernel
theorem dX5_shorten_30 : decode cX5_shorten 30 = .ok (.iload_n 1, 1) := by decide +kernel
theorem dX5_shorten_31 : decode cX5_shorten 31 = .ok (.iload 4, 2) := by decide +kernel
theorem dX5_shorten_33 : decode cX5_shorten 33 = .ok (.iastore, 1) := by decide +kernel
theorem dX5_shorten_34 : decode cX5_shorten 34 = .ok (.iconst 1, 1) := by decide +kernel
theorem dX5_shorten_35 : decode cX5_shorten 35 = .ok (.ireturn, 1) := by decide +kernel
theorem dX5_shorten_10 : decode cX5_shorten 10 = .ok (.iconst 0, 1) := by decide +kernel
theorem dX5_shorten_11 : decode cX5_shorten 11 = .ok (.ireturn, 1) := by decide +kernel
set_option maxHeartbeats 4000000 in
set_option maxRecDepth 100000 in
theorem g_shorten (l : Launch) (g : xG) (sz : Nat) (sg : Nat) (wc : Nat) (nx : Nat) (pu : Nat) (fr : Nat) (tt : Nat) (tg : Int) (pz : Int) (g0 : Value) (g1 : Value) (g2 : Value) (g3 : Value) (g4 : Value) (dd : Nat → Int) (nxt : Nat → Nat) (psh : Nat → Int)  (hfr : fr < 18) (htt : tt ≤ 17) (htg : -3000000 ≤ tg ∧ tg ≤ 3000000) (hpz : -1 ≤ pz ∧ pz ≤ 23) (b_dd : ∀ j, (-3000000) ≤ dd j ∧ dd j ≤ 1000000) (b_nxt : ∀ j, nxt j ≤ 17) (b_psh : ∀ j, (-1) ≤ psh j ∧ psh j ≤ 23) : Met l yX5_shorten wsX5_shorten ({ frames := 0, cells := 0, slots := 0, locals := 0 }) (va_Pc [.ref sg, .int (nI fr), .int (nI tt), .int (iI tg), .int (iI pz)] (fun U => xB g [(sg, .inr (5, [g0, g1, g2, g3, g4, .ref wc, .ref nx, .ref pu])), (wc, .inl (xI g, 18, .inl (fun j => iI (dd j)))), (nx, .inl (xI g, 18, .inl (fun j => nI (nxt j)))), (pu, .inl (xI g, 18, .inl (fun j => iI (psh j))))] sz U)) (va_Qi (fun (r : Int32) (_ : Unit) => (r = 1 ∧ (tg < dd fr)) ∨ (r = 0 ∧ ¬ (tg < dd fr))) (fun (_ : Unit) (t : State) => ∃ (d1 : Nat → Int) (n1 : Nat → Nat) (p1 : Nat → Int), ((tg < dd fr → d1 = zU dd fr tg ∧ n1 = nV nxt fr tt ∧ p1 = zU psh fr pz) ∧ (¬ tg < dd fr → dd = d1 ∧ nxt = n1 ∧ psh = p1)) ∧ (∀ j, (-3000000) ≤ d1 j ∧ d1 j ≤ 1000000) ∧ (∀ j, n1 j ≤ 17) ∧ (∀ j, (-1) ≤ p1 j ∧ p1 j ≤ 23) ∧ xE g [(sg, .inr (5, [g0, g1, g2, g3, g4, .ref wc, .ref nx, .ref pu])), (wc, .inl (xI g, 18, .inl (fun j => iI (d1 j)))), (nx, .inl (xI g, 18, .inl (fun j => nI (n1 j)))), (pu, .inl (xI g, 18, .inl (fun j => iI (p1 j))))] (va_A [(sg, .inr (5, [g0, g1, g2, g3, g4, .ref wc, .ref nx, .ref pu])), (wc, .inl (xI g, 18, .inl (fun j => iI (dd j)))), (nx, .inl (xI g, 18, .inl (fun j => nI (nxt j)))), (pu, .inl (xI g, 18, .inl (fun j => iI (psh j))))] sz) t) (va_A [(sg, .inr (5, [g0, g1, g2, g3, g4, .ref wc, .ref nx, .ref pu])), (wc, .inl (xI g, 18, .inl (fun j => iI (dd j)))), (nx, .inl (xI g, 18, .inl (fun j => nI (nxt j)))), (pu, .inl (xI g, 18, .inl (fun j => iI (psh j))))] sz)) 0 0 (va_A [(sg, .inr (5, [g0, g1, g2, g3, g4, .ref wc, .ref nx, .ref pu])), (wc, .inl (xI g, 18, .inl (fun j => iI (dd j)))), (nx, .inl (xI g, 18, .inl (fun j => nI (nxt j)))), (pu, .inl (xI g, 18, .inl (fun j => iI (psh j))))] sz) := by
  refine Met.ofW (cc := cX5_shorten) (maxL := 5) (ret := (some .boolean)) (by decide) rfl ?_
  intro p e s m args below meth c s₁ B hml hv
  obtain ⟨rfl, hsz, hP, hK, hD0⟩ := hv
  have hx := B.exec
  have hb := B.bytes
  have hr := B.returns
  have hts := atoms_spec (ws := wsX5_shorten) B.pre
  have hown : s.vm.findClass RX5 = some m.cls := findClass_of_methodNamed B.named
  have hlocks := B.notSynchronized
  subst hsz
  have hD := hD0.self (sz := s.heap.size)
  generalize hAe : va_A [(sg, .inr (5, [g0, g1, g2, g3, g4, .ref wc, .ref nx, .ref pu])), (wc, .inl (xI g, 18, .inl (fun j => iI (dd j)))), (nx, .inl (xI g, 18, .inl (fun j => nI (nxt j)))), (pu, .inl (xI g, 18, .inl (fun j => iI (psh j))))] s.heap.size = A at hD ⊢
  have hA : ∀ q : Nat, s.heap.size ≤ q → A q := fun q h => by rw [← hAe]; exact Or.inr h
  have hS : va_S A s.heap s.heap [] := va_S.rf
  have hl := lv_entry ([.ref sg, .int (nI fr), .int (nI tt), .int (iI tg), .int (iI pz)]) (n := 5) (Nat.le_of_ble_eq_true rfl)
  rw [lg_entry_eq]
  generalize (lg_sl ([.ref sg, .int (nI fr), .int (nI tt), .int (iI tg), .int (iI pz)]) ++ List.replicate (5 - (lg_sl ([.ref sg, .int (nI fr), .int (nI tt), .int (iI tg), .int (iI pz)])).length) Slot.unset).toArray = ls at hl ⊢
  have hl : lv_has ls 5 [(0, .ref sg), (1, .int (nI fr)), (2, .int (nI tt)), (3, .int (iI tg)), (4, .int (iI pz))] := hl
  have hFX5 : ∀ w ∈ u_ws RX5 TX5 8, w ∈ wsX5_shorten := by decide +kernel
  refine lv_iload_n hx hb dX5_shorten_0 rfl (lv_at hl 3 rfl) ?_
  refine lv_aload_n hx hb dX5_shorten_1 rfl (lv_at hl 0 rfl) ?_
  refine va_get (D := xD g) (ci := 5) (v := .ref wc) (C := RX5) (T := TX5) (N := 8) hx hb hts hFX5 hown hK hP 0 rfl rfl 5 (by decide) (hts (.fieldLink RX5 26 "Stevedore$SlotGiver" "wayCost" "[I") (by decide +kernel)) (fun _ h9 => h9) rfl dX5_shorten_2 ?_
  refine lv_iload_n hx hb dX5_shorten_5 rfl (lv_at hl 1 rfl) ?_
  refine va_iald hx hb hK hP 1 0 rfl rfl (vp_in_nI (by omega) (by omega)) dX5_shorten_6 ?_
  refine lv_topi (fun v_1 ev => ?_)
  obtain rfl : v_1 = iI (dd fr) := ev.trans (congrArg (fun q9 => iI (dd q9)) (nI_clamp (by omega)))
  have b_2 := b_dd fr
  refine lv_icmp_lt (tgt := 12) hx hb dX5_shorten_7 (by decide) (fun c_3 => ?_) (fun c_3 => ?_)
  · have nc_3 := (iLt (a := tg) (b := dd fr) rfl rfl (by omega)).mp c_3
    refine lv_aload_n hx hb dX5_shorten_12 rfl (lv_at hl 0 rfl) ?_
    refine va_get (D := xD g) (ci := 5) (v := .ref wc) (C := RX5) (T := TX5) (N := 8) hx hb hts hFX5 hown hK hP 0 rfl rfl 5 (by decide) (hts (.fieldLink RX5 26 "Stevedore$SlotGiver" "wayCost" "[I") (by decide +kernel)) (fun _ h9 => h9) rfl dX5_shorten_13 ?_
    refine lv_iload_n hx hb dX5_shorten_16 rfl (lv_at hl 1 rfl) ?_
    refine lv_iload_n hx hb dX5_shorten_17 rfl (lv_at hl 3 rfl) ?_
    refine va_iast (x := iI tg) hx hb hK hP hD hS 1 0 rfl rfl (vp_in_nI (by omega) (by omega)) dX5_shorten_18 (fun H locs hP hD hS => ?_)
    rw [iU (f := dd) (k := fr) (v := tg) (nI_clamp (by omega)) rfl] at hP hD
    have hb_4 : ∀ j, (-3000000) ≤ (zU dd fr tg) j ∧ (zU dd fr tg) j ≤ 1000000 := zU_all (P := fun q9 => (-3000000) ≤ q9 ∧ q9 ≤ 1000000) b_dd (by omega)
    have hP : va_P (xD g) vwCl [(sg, .inr (5, [g0, g1, g2, g3, g4, .ref wc, .ref nx, .ref pu])), (wc, .inl (xI g, 18, .inl (fun j => iI ((zU dd fr tg) j)))), (nx, .inl (xI g, 18, .inl (fun j => nI (nxt j)))), (pu, .inl (xI g, 18, .inl (fun j => iI (psh j))))] H := hP
    have hD : va_D A [(sg, .inr (5, [g0, g1, g2, g3, g4, .ref wc, .ref nx, .ref pu])), (wc, .inl (xI g, 18, .inl (fun j => iI ((zU dd fr tg) j)))), (nx, .inl (xI g, 18, .inl (fun j => nI (nxt j)))), (pu, .inl (xI g, 18, .inl (fun j => iI (psh j))))] := hD
    refine lv_aload_n hx hb dX5_shorten_19 rfl (lv_at hl 0 rfl) ?_
    refine va_get (D := xD g) (ci := 5) (v := .ref nx) (C := RX5) (T := TX5) (N := 8) hx hb hts hFX5 hown hK hP 0 rfl rfl 6 (by decide) (hts (.fieldLink RX5 29 "Stevedore$SlotGiver" "next" "[I") (by decide +kernel)) (fun _ h9 => h9) rfl dX5_shorten_20 ?_
    refine lv_iload_n hx hb dX5_shorten_23 rfl (lv_at hl 1 rfl) ?_
    refine lv_iload_n hx hb dX5_shorten_24 rfl (lv_at hl 2 rfl) ?_
    refine va_iast (x := nI tt) hx hb hK hP hD hS 2 0 rfl rfl (vp_in_nI (by omega) (by omega)) dX5_shorten_25 (fun H locs hP hD hS => ?_)
    rw [nU (f := nxt) (k := fr) (v := tt) (nI_clamp (by omega)) rfl] at hP hD
    have hb_5 : ∀ j, (nV nxt fr tt) j ≤ 17 := nV_all (P := fun q9 => q9 ≤ 17) b_nxt (by omega)
    have hP : va_P (xD g) vwCl [(sg, .inr (5, [g0, g1, g2, g3, g4, .ref wc, .ref nx, .ref pu])), (wc, .inl (xI g, 18, .inl (fun j => iI ((zU dd fr tg) j)))), (nx, .inl (xI g, 18, .inl (fun j => nI ((nV nxt fr tt) j)))), (pu, .inl (xI g, 18, .inl (fun j => iI (psh j))))] H := hP
    have hD : va_D A [(sg, .inr (5, [g0, g1, g2, g3, g4, .ref wc, .ref nx, .ref pu])), (wc, .inl (xI g, 18, .inl (fun j => iI ((zU dd fr tg) j)))), (nx, .inl (xI g, 18, .inl (fun j => nI ((nV nxt fr tt) j)))), (pu, .inl (xI g, 18, .inl (fun j => iI (psh j))))] := hD
    refine lv_aload_n hx hb dX5_shorten_26 rfl (lv_at hl 0 rfl) ?_
    refine va_get (D := xD g) (ci := 5) (v := .ref pu) (C := RX5) (T := TX5) (N := 8) hx hb hts hFX5 hown hK hP 0 rfl rfl 7 (by decide) (hts (.fieldLink RX5 32 "Stevedore$SlotGiver" "pushed" "[I") (by decide +kernel)) (fun _ h9 => h9) rfl dX5_shorten_27 ?_
    refine lv_iload_n hx hb dX5_shorten_30 rfl (lv_at hl 1 rfl) ?_
    refine lv_iload hx hb dX5_shorten_31 (lv_at hl 4 rfl) ?_
    refine va_iast (x := iI pz) hx hb hK hP hD hS 3 0 rfl rfl (vp_in_nI (by omega) (by omega)) dX5_shorten_33 (fun H locs hP hD hS => ?_)
    rw [iU (f := psh) (k := fr) (v := pz) (nI_clamp (by omega)) rfl] at hP hD
    have hb_6 : ∀ j, (-1) ≤ (zU psh fr pz) j ∧ (zU psh fr pz) j ≤ 23 := zU_all (P := fun q9 => (-1) ≤ q9 ∧ q9 ≤ 23) b_psh (by omega)
    have hP : va_P (xD g) vwCl [(sg, .inr (5, [g0, g1, g2, g3, g4, .ref wc, .ref nx, .ref pu])), (wc, .inl (xI g, 18, .inl (fun j => iI ((zU dd fr tg) j)))), (nx, .inl (xI g, 18, .inl (fun j => nI ((nV nxt fr tt) j)))), (pu, .inl (xI g, 18, .inl (fun j => iI ((zU psh fr pz) j))))] H := hP
    have hD : va_D A [(sg, .inr (5, [g0, g1, g2, g3, g4, .ref wc, .ref nx, .ref pu])), (wc, .inl (xI g, 18, .inl (fun j => iI ((zU dd fr tg) j)))), (nx, .inl (xI g, 18, .inl (fun j => nI ((nV nxt fr tt) j)))), (pu, .inl (xI g, 18, .inl (fun j => iI ((zU psh fr pz) j))))] := hD
    refine lv_iconst (v := 1) hx hb dX5_shorten_34 (by decide) ?_
    have hP9 := hP
    have hD9 := hD
    exact W.zret (v := 1) hx hb hr (by rfl) (fun t ht hW => ⟨⟨1, (), rfl, (by first | (refine Or.inl ⟨rfl, ?_⟩; omega) | (refine Or.inr ⟨rfl, ?_⟩; omega)), ⟨(zU dd fr tg), (nV nxt fr tt), (zU psh fr pz), ⟨fun q => (by first | exact ⟨rfl, rfl, rfl⟩ | (exfalso; omega)), fun q => (by first | exact ⟨rfl, rfl, rfl⟩ | (exfalso; omega))⟩, hb_4, hb_5, hb_6, by rw [ht]; exact hP9, va_K.moved hW.alike hK, hD9⟩⟩, hS.F ht⟩) hS.2.2 dX5_shorten_35
  · have nc_3 := mt (iLt (a := tg) (b := dd fr) rfl rfl (by omega)).mpr c_3
    refine lv_iconst (v := 0) hx hb dX5_shorten_10 (by decide) ?_
    have hP9 := hP
    have hD9 := hD
    exact W.zret (v := 0) hx hb hr (by rfl) (fun t ht hW => ⟨⟨0, (), rfl, (by first | (refine Or.inl ⟨rfl, ?_⟩; omega) | (refine Or.inr ⟨rfl, ?_⟩; omega)), ⟨dd, nxt, psh, ⟨fun q => (by first | exact ⟨rfl, rfl, rfl⟩ | (exfalso; omega)), fun q => (by first | exact ⟨rfl, rfl, rfl⟩ | (exfalso; omega))⟩, b_dd, b_nxt, b_psh, by rw [ht]; exact hP9, va_K.moved hW.alike hK, hD9⟩⟩, hS.F ht⟩) hS.2.2 dX5_shorten_11
theorem dX5_shortenOverSpare_0 : decode cX5_shortenOverSpare 0 = .ok (.iconst 0, 1) := by decide +kernel
theorem dX5_shortenOverSpare_1 : decode cX5_shortenOverSpare 1 = .ok (.istore_n 1, 1) := by decide +kernel
theorem dX5_shortenOverSpare_2 : decode cX5_shortenOverSpare 2 = .ok (.iconst 0, 1) := by decide +kernel
theorem dX5_shortenOverSpare_3 : decode cX5_shortenOverSpare 3 = .ok (.istore_n 2, 1) := by decide +kernel
theorem dX5_shortenOverSpare_4 : decode cX5_shortenOverSpare 4 = .ok (.iload_n 2, 1) := by decide +kernel
theorem dX5_shortenOverSpare_5 : decode cX5_shortenOverSpare 5 = .ok (.bipush 16, 2) := by decide +kernel
theorem dX5_shortenOverSpare_7 : decode cX5_shortenOverSpare 7 = .ok (.if_icmp .gt 88, 3) := by decide +kernel
theorem dX5_shortenOverSpare_95 : decode cX5_shortenOverSpare 95 = .ok (.iload_n 1, 1) := by decide +kernel
theorem dX5_shortenOverSpare_96 : decode cX5_shortenOverSpare 96 = .ok (.ireturn, 1) := by decide +kernel
theorem dX5_shortenOverSpare_10 : decode cX5_shortenOverSpare 10 = .ok (.aload_n 0, 1) := by decide +kernel
theorem dX5_shortenOverSpare_11 : decode cX5_shortenOverSpare 11 = .ok (.getfield 20, 3) := by decide +kernel
theorem dX5_shortenOverSpare_14 : decode cX5_shortenOverSpare 14 = .ok (.iload_n 2, 1) := by decide +kernel
theorem dX5_shortenOverSpare_15 : decode cX5_shortenOverSpare 15 = .ok (.iaload, 1) := by decide +kernel
theorem dX5_shortenOverSpare_16 : decode cX5_shortenOverSpare 16 = .ok (.aload_n 0, 1) := by decide +kernel
theorem dX5_shortenOverSpare_17 : decode cX5_shortenOverSpare 17 = .ok (.getfield 16, 3) := by decide +kernel
theorem dX5_shortenOverSpare_20 : decode cX5_shortenOverSpare 20 = .ok (.iload_n 2, 1) := by decide +kernel
theorem dX5_shortenOverSpare_21 : decode cX5_shortenOverSpare 21 = .ok (.iaload, 1) := by decide +kernel
theorem dX5_shortenOverSpare_22 : decode cX5_shortenOverSpare 22 = .ok (.if_icmp .ge 31, 3) := by decide +kernel
theorem dX5_shortenOverSpare_53 : decode cX5_shortenOverSpare 53 = .ok (.aload_n 0, 1) := by decide +kernel
theorem dX5_shortenOverSpare_54 : decode cX5_shortenOverSpare 54 = .ok (.getfield 20, 3) := by decide +kernel
theorem dX5_shortenOverSpare_57 : decode cX5_shortenOverSpare 57 = .ok (.iload_n 2, 1) := by decide +kernel
theorem dX5_shortenOverSpare_58 : decode cX5_shortenOverSpare 58 = .ok (.iaload, 1) := by decide +kernel
theorem dX5_shortenOverSpare_59 : decode cX5_shortenOverSpare 59 = .ok (.ifCond .le 30, 3) := by decide +kernel
theorem dX5_shortenOverSpare_89 : decode cX5_shortenOverSpare 89 = .ok (.iinc 2 1, 3) := by decide +kernel
theorem dX5_shortenOverSpare_92 : decode cX5_shortenOverSpare 92 = .ok (.goto (-88), 3) := by decide +kernel
theorem dX5_shortenOverSpare_62 : decode cX5_shortenOverSpare 62 = .ok (.aload_n 0, 1) := by decide +kernel
theorem dX5_shortenOverSpare_63 : decode cX5_shortenOverSpare 63 = .ok (.bipush 17, 2) := by decide +kernel
theorem dX5_shortenOverSpare_65 : decode cX5_shortenOverSpare 65 = .ok (.iload_n 2, 1) := by decide +kernel
theorem dX5_shortenOverSpare_66 : decode cX5_shortenOverSpare 66 = .ok (.aload_n 0, 1) := by decide +kernel
theorem dX5_shortenOverSpare_67 : decode cX5_shortenOverSpare 67 = .ok (.getfield 26, 3) := by decide +kernel
theorem dX5_shortenOverSpare_70 : decode cX5_shortenOverSpare 70 = .ok (.iload_n 2, 1) := by decide +kernel
theorem dX5_shortenOverSpare_71 : decode cX5_shortenOverSpare 71 = .ok (.iaload, 1) := by decide +kernel
theorem dX5_shortenOverSpare_72 : decode cX5_shortenOverSpare 72 = .ok (.iconst (-1), 1) := by decide +kernel
theorem dX5_shortenOverSpare_73 : decode cX5_shortenOverSpare 73 = .ok (.invokevirtual 64, 3) := by decide +kernel
set_option maxRecDepth 20000 in
theorem ggX5_shortenOverSpare_X5_shorten : GoodIn wsX5_shortenOverSpare wsX5_shorten := goodIn_r _ [8, 3, 9, 10, 11, 12, 13, 14, 15, 16, 17, 18] rfl (by decide +kernel)
set_option maxRecDepth 20000 in
theorem gX5_shortenOverSpare_X5_shorten : GoodIn wsX5_shortenOverSpare (wsV RX5 64 RX5 yX5_shorten wsX5_shorten) := goodIn_app (goodIn_of _ (by decide +kernel)) ggX5_shortenOverSpare_X5_shorten
theorem dX5_shortenOverSpare_76 : decode cX5_shortenOverSpare 76 = .ok (.ifCond .ne 7, 3) := by decide +kernel
theorem dX5_shortenOverSpare_83 : decode cX5_shortenOverSpare 83 = .ok (.iconst 1, 1) := by decide +kernel
theorem dX5_shortenOverSpare_84 : decode cX5_shortenOverSpare 84 = .ok (.goto 4, 3) := by decide +kernel
theorem dX5_shortenOverSpare_88 : decode cX5_shortenOverSpare 88 = .ok (.istore_n 1, 1) := by decide +kernel
theorem dX5_shortenOverSpare_79 : decode cX5_shortenOverSpare 79 = .ok (.iload_n 1, 1) := by decide +kernel
theorem dX5_shortenOverSpare_80 : decode cX5_shortenOverSpare 80 = .ok (.ifCond .eq 7, 3) := by decide +kernel
theorem dX5_shortenOverSpare_87 : decode cX5_shortenOverSpare 87 = .ok (.iconst 0, 1) := by decide +kernel
theorem dX5_shortenOverSpare_25 : decode cX5_shortenOverSpare 25 = .ok (.aload_n 0, 1) := by decide +kernel
theorem dX5_shortenOverSpare_26 : decode cX5_shortenOverSpare 26 = .ok (.iload_n 2, 1) := by decide +kernel
theorem dX5_shortenOverSpare_27 : decode cX5_shortenOverSpare 27 = .ok (.bipush 17, 2) := by decide +kernel
theorem dX5_shortenOverSpare_29 : decode cX5_shortenOverSpare 29 = .ok (.aload_n 0, 1) := by decide +kernel
theorem dX5_shortenOverSpare_30 : decode cX5_shortenOverSpare 30 = .ok (.getfield 26, 3) := by decide +kernel
theorem dX5_shortenOverSpare_33 : decode cX5_shortenOverSpare 33 = .ok (.bipush 17, 2) := by decide +kernel
theorem dX5_shortenOverSpare_35 : decode cX5_shortenOverSpare 35 = .ok (.iaload, 1) := by decide +kernel
theorem dX5_shortenOverSpare_36 : decode cX5_shortenOverSpare 36 = .ok (.iconst (-1), 1) := by decide +kernel
theorem dX5_shortenOverSpare_37 : decode cX5_shortenOverSpare 37 = .ok (.invokevirtual 64, 3) := by decide +kernel
theorem dX5_shortenOverSpare_40 : decode cX5_shortenOverSpare 40 = .ok (.ifCond .ne 7, 3) := by decide +kernel
theorem dX5_shortenOverSpare_47 : decode cX5_shortenOverSpare 47 = .ok (.iconst 1, 1) := by decide +kernel
theorem dX5_shortenOverSpare_48 : decode cX5_shortenOverSpare 48 = .ok (.goto 4, 3) := by decide +kernel
theorem dX5_shortenOverSpare_52 : decode cX5_shortenOverSpare 52 = .ok (.istore_n 1, 1) := by decide +kernel
theorem dX5_shortenOverSpare_43 : decode cX5_shortenOverSpare 43 = .ok (.iload_n 1, 1) := by decide +kernel
theorem dX5_shortenOverSpare_44 : decode cX5_shortenOverSpare 44 = .ok (.ifCond .eq 7, 3) := by decide +kernel
theorem dX5_shortenOverSpare_51 : decode cX5_shortenOverSpare 51 = .ok (.iconst 0, 1) := by decide +kernel
set_option maxHeartbeats 4000000 in
set_option maxRecDepth 100000 in
theorem g_shortenOverSpare (l : Launch) (g : xG) (sz : Nat) (sg : Nat) (ro : Nat) (us : Nat) (wc : Nat) (nx : Nat) (pu : Nat) (EE : Nat → Nat → Int → Int → Prop) (goal : Nat) (hh : Nat → Int) (g0 : Value) (g1 : Value) (g4 : Value) (room : Nat → Int) (used : Nat → Int) (dd : Nat → Int) (nxt : Nat → Nat) (psh : Nat → Int)  (hp : sPot EE hh) (hhb : ∀ u, -680 ≤ hh u ∧ hh u ≤ 1000000) (hbf : ∃ t T, sBF EE goal dd nxt psh t T) (he1 : ∀ s, s ≤ 16 → used s < room s → EE s 17 0 (-1)) (he2 : ∀ s, s ≤ 16 → 0 < used s → EE 17 s 0 (-1)) (b_room : ∀ j, 0 ≤ room j ∧ room j ≤ 24) (b_used : ∀ j, 0 ≤ used j ∧ used j ≤ 30) (b_dd : ∀ j, (-3000000) ≤ dd j ∧ dd j ≤ 1000000) (b_nxt : ∀ j, nxt j ≤ 17) (b_psh : ∀ j, (-1) ≤ psh j ∧ psh j ≤ 23) : Met l yX5_shortenOverSpare wsX5_shortenOverSpare ({ frames := 1, cells := 0, slots := 0, locals := 24 }) (va_Pc [.ref sg] (fun U => xB g [(sg, .inr (5, [g0, g1, .ref ro, .ref us, g4, .ref wc, .ref nx, .ref pu])), (ro, .inl (xI g, 17, .inl (fun j => iI (room j)))), (us, .inl (xI g, 17, .inl (fun j => iI (used j)))), (wc, .inl (xI g, 18, .inl (fun j => iI (dd j)))), (nx, .inl (xI g, 18, .inl (fun j => nI (nxt j)))), (pu, .inl (xI g, 18, .inl (fun j => iI (psh j))))] sz U)) (va_Qi (fun (r : Int32) (u : Nat → Int) => r = 1 ∨ (r = 0 ∧ u = dd)) (fun (u : Nat → Int) (t : State) => ∃ (n1 : Nat → Nat) (p1 : Nat → Int), ((∃ t T, sBF EE goal u n1 p1 t T) ∧ (∀ x, u x ≤ dd x) ∧ sP1 used room dd u 17) ∧ (∀ j, (-3000000) ≤ u j ∧ u j ≤ 1000000) ∧ (∀ j, n1 j ≤ 17) ∧ (∀ j, (-1) ≤ p1 j ∧ p1 j ≤ 23) ∧ xE g [(sg, .inr (5, [g0, g1, .ref ro, .ref us, g4, .ref wc, .ref nx, .ref pu])), (ro, .inl (xI g, 17, .inl (fun j => iI (room j)))), (us, .inl (xI g, 17, .inl (fun j => iI (used j)))), (wc, .inl (xI g, 18, .inl (fun j => iI (u j)))), (nx, .inl (xI g, 18, .inl (fun j => nI (n1 j)))), (pu, .inl (xI g, 18, .inl (fun j => iI (p1 j))))] (va_A [(sg, .inr (5, [g0, g1, .ref ro, .ref us, g4, .ref wc, .ref nx, .ref pu])), (ro, .inl (xI g, 17, .inl (fun j => iI (room j)))), (us, .inl (xI g, 17, .inl (fun j => iI (used j)))), (wc, .inl (xI g, 18, .inl (fun j => iI (dd j)))), (nx, .inl (xI g, 18, .inl (fun j => nI (nxt j)))), (pu, .inl (xI g, 18, .inl (fun j => iI (psh j))))] sz) t) (va_A [(sg, .inr (5, [g0, g1, .ref ro, .ref us, g4, .ref wc, .ref nx, .ref pu])), (ro, .inl (xI g, 17, .inl (fun j => iI (room j)))), (us, .inl (xI g, 17, .inl (fun j => iI (used j)))), (wc, .inl (xI g, 18, .inl (fun j => iI (dd j)))), (nx, .inl (xI g, 18, .inl (fun j => nI (nxt j)))), (pu, .inl (xI g, 18, .inl (fun j => iI (psh j))))] sz)) 0 0 (va_A [(sg, .inr (5, [g0, g1, .ref ro, .ref us, g4, .ref wc, .ref nx, .ref pu])), (ro, .inl (xI g, 17, .inl (fun j => iI (room j)))), (us, .inl (xI g, 17, .inl (fun j => iI (used j)))), (wc, .inl (xI g, 18, .inl (fun j => iI (dd j)))), (nx, .inl (xI g, 18, .inl (fun j => nI (nxt j)))), (pu, .inl (xI g, 18, .inl (fun j => iI (psh j))))] sz) := by
  refine Met.ofW (cc := cX5_shortenOverSpare) (maxL := 3) (ret := (some .boolean)) (by decide) rfl ?_
  intro p e s m args below meth c s₁ B hml hv
  obtain ⟨rfl, hsz, hP, hK, hD0⟩ := hv
  have hx := B.exec
  have hb := B.bytes
  have hr := B.returns
  have hts := atoms_spec (ws := wsX5_shortenOverSpare) B.pre
  have hown : s.vm.findClass RX5 = some m.cls := findClass_of_methodNamed B.named
  have hlocks := B.notSynchronized
  subst hsz
  have hD := hD0.self (sz := s.heap.size)
  generalize hAe : va_A [(sg, .inr (5, [g0, g1, .ref ro, .ref us, g4, .ref wc, .ref nx, .ref pu])), (ro, .inl (xI g, 17, .inl (fun j => iI (room j)))), (us, .inl (xI g, 17, .inl (fun j => iI (used j)))), (wc, .inl (xI g, 18, .inl (fun j => iI (dd j)))), (nx, .inl (xI g, 18, .inl (fun j => nI (nxt j)))), (pu, .inl (xI g, 18, .inl (fun j => iI (psh j))))] s.heap.size = A at hD ⊢
  have hA : ∀ q : Nat, s.heap.size ≤ q → A q := fun q h => by rw [← hAe]; exact Or.inr h
  have hS : va_S A s.heap s.heap [] := va_S.rf
  have hl := lv_entry ([.ref sg]) (n := 3) (Nat.le_of_ble_eq_true rfl)
  rw [lg_entry_eq]
  generalize (lg_sl ([.ref sg]) ++ List.replicate (3 - (lg_sl ([.ref sg])).length) Slot.unset).toArray = ls at hl ⊢
  have hl : lv_has ls 3 [(0, .ref sg)] := hl
  have hFX5 : ∀ w ∈ u_ws RX5 TX5 8, w ∈ wsX5_shortenOverSpare := by decide +kernel
  refine lv_iconst (v := 0) hx hb dX5_shortenOverSpare_0 (by decide) ?_
  refine lv_istore_n (lv' := [(1, .int 0), (0, .ref sg)]) hx hb dX5_shortenOverSpare_1 rfl hl (by decide) rfl (fun ls hl => ?_)
  refine lv_iconst (v := 0) hx hb dX5_shortenOverSpare_2 (by decide) ?_
  refine lv_istore_n (lv' := [(2, .int 0), (1, .int 0), (0, .ref sg)]) hx hb dX5_shortenOverSpare_3 rfl hl (by decide) rfl (fun ls hl => ?_)
  have hloop4 : ∀ (n9 : Nat) (k : Nat) (dk : Nat → Int) (nk : Nat → Nat) (pk : Nat → Int) (fl : Int) (H : Heap) (locs : List Loc) (ls : Array Slot), 17 - k < n9 → (k ≤ 17) → (∃ t T, sBF EE goal dk nk pk t T) → (∀ x, dk x ≤ dd x) → (sP1 used room dd dk k) → (fl = 1 ∨ (fl = 0 ∧ dk = dd)) → (∀ j, (-3000000) ≤ dk j ∧ dk j ≤ 1000000) → (∀ j, nk j ≤ 17) → (∀ j, (-1) ≤ pk j ∧ pk j ≤ 23) → va_P (xD g) vwCl [(sg, .inr (5, [g0, g1, .ref ro, .ref us, g4, .ref wc, .ref nx, .ref pu])), (ro, .inl (xI g, 17, .inl (fun j => iI (room j)))), (us, .inl (xI g, 17, .inl (fun j => iI (used j)))), (wc, .inl (xI g, 18, .inl (fun j => iI (dk j)))), (nx, .inl (xI g, 18, .inl (fun j => nI (nk j)))), (pu, .inl (xI g, 18, .inl (fun j => iI (pk j))))] H → va_D A [(sg, .inr (5, [g0, g1, .ref ro, .ref us, g4, .ref wc, .ref nx, .ref pu])), (ro, .inl (xI g, 17, .inl (fun j => iI (room j)))), (us, .inl (xI g, 17, .inl (fun j => iI (used j)))), (wc, .inl (xI g, 18, .inl (fun j => iI (dk j)))), (nx, .inl (xI g, 18, .inl (fun j => nI (nk j)))), (pu, .inl (xI g, 18, .inl (fun j => iI (pk j))))] → va_S A s.heap H locs → lv_has ls 3 [(2, .int (nI k)), (0, .ref sg), (1, .int (iI fl))] → W p l e (headSpec wsX5_shortenOverSpare ({ frames := 1, cells := 0, slots := 0, locals := 24 })).room s m ([.ref sg] : List Value).toArray below meth c H locs 0 0 (MQ below (va_Qi (fun (r : Int32) (u : Nat → Int) => r = 1 ∨ (r = 0 ∧ u = dd)) (fun (u : Nat → Int) (t : State) => ∃ (n1 : Nat → Nat) (p1 : Nat → Int), ((∃ t T, sBF EE goal u n1 p1 t T) ∧ (∀ x, u x ≤ dd x) ∧ sP1 used room dd u 17) ∧ (∀ j, (-3000000) ≤ u j ∧ u j ≤ 1000000) ∧ (∀ j, n1 j ≤ 17) ∧ (∀ j, (-1) ≤ p1 j ∧ p1 j ≤ 23) ∧ xE g [(sg, .inr (5, [g0, g1, .ref ro, .ref us, g4, .ref wc, .ref nx, .ref pu])), (ro, .inl (xI g, 17, .inl (fun j => iI (room j)))), (us, .inl (xI g, 17, .inl (fun j => iI (used j)))), (wc, .inl (xI g, 18, .inl (fun j => iI (u j)))), (nx, .inl (xI g, 18, .inl (fun j => nI (n1 j)))), (pu, .inl (xI g, 18, .inl (fun j => iI (p1 j))))] (A) t) (A)) ([.ref sg] : List Value).toArray s 0 0 A) (F0 m 4 ls []) := by
    intro n9
    induction n9 with
    | zero =>
      intro k dk nk pk fl H locs ls hm hk hbk hlk hpk hfk bb_dk bb_nk bb_pk hP hD hS hl
      exact absurd hm (Nat.not_lt_zero _)
    | succ n9 ih4 =>
      intro k dk nk pk fl H locs ls hm hk hbk hlk hpk hfk bb_dk bb_nk bb_pk hP hD hS hl
      obtain ⟨t8, T8, hb8⟩ := hbk
      have hlo := sBF_low hp hhb hb8
      have hbk : ∃ t T, sBF EE goal dk nk pk t T := ⟨t8, T8, hb8⟩
      have hlo17 := hlo 17
      have hlok := hlo k
      have hb17 := bb_dk 17
      have hbkk := bb_dk k
      refine lv_iload_n hx hb dX5_shortenOverSpare_4 rfl (lv_at hl 0 rfl) ?_
      refine lv_bipush (v := 16) hx hb dX5_shortenOverSpare_5 (by decide) ?_
      refine lv_icmp_gt (tgt := 95) hx hb dX5_shortenOverSpare_7 (by decide) (fun c_1 => ?_) (fun c_1 => ?_)
      · have nc_1 := (nI_ltI (a := 16) (b := k) (by omega) (by omega)).mp c_1
        refine lv_iload_n hx hb dX5_shortenOverSpare_95 rfl (lv_at hl 2 rfl) ?_
        have hP9 := hP
        have hD9 := hD
        exact W.iret (v := iI fl) hx hb hr (fun t ht hW => ⟨⟨iI fl, dk, rfl, (by rcases hfk with q | ⟨q, q2⟩; · exact Or.inl (by rw [q]; decide); · exact Or.inr ⟨by rw [q]; decide, q2⟩), ⟨nk, pk, ⟨hbk, hlk, by obtain rfl : k = 17 := (by omega); exact hpk⟩, bb_dk, bb_nk, bb_pk, by rw [ht]; exact hP9, va_K.moved hW.alike hK, hD9⟩⟩, hS.F ht⟩) hS.2.2 dX5_shortenOverSpare_96
      · have nc_1 := mt (nI_ltI (a := 16) (b := k) (by omega) (by omega)).mpr c_1
        refine lv_aload_n hx hb dX5_shortenOverSpare_10 rfl (lv_at hl 1 rfl) ?_
        refine va_get (D := xD g) (ci := 5) (v := .ref us) (C := RX5) (T := TX5) (N := 8) hx hb hts hFX5 hown hK hP 0 rfl rfl 3 (by decide) (hts (.fieldLink RX5 20 "Stevedore$SlotGiver" "used" "[I") (by decide +kernel)) (fun _ h9 => h9) rfl dX5_shortenOverSpare_11 ?_
        refine lv_iload_n hx hb dX5_shortenOverSpare_14 rfl (lv_at hl 0 rfl) ?_
        refine va_iald hx hb hK hP 2 0 rfl rfl (vp_in_nI (by omega) (by omega)) dX5_shortenOverSpare_15 ?_
        refine lv_topi (fun v_2 ev => ?_)
        obtain rfl : v_2 = iI (used k) := ev.trans (congrArg (fun q9 => iI (used q9)) (nI_clamp (by omega)))
        have b_3 := b_used k
        refine lv_aload_n hx hb dX5_shortenOverSpare_16 rfl (lv_at hl 1 rfl) ?_
        refine va_get (D := xD g) (ci := 5) (v := .ref ro) (C := RX5) (T := TX5) (N := 8) hx hb hts hFX5 hown hK hP 0 rfl rfl 2 (by decide) (hts (.fieldLink RX5 16 "Stevedore$SlotGiver" "room" "[I") (by decide +kernel)) (fun _ h9 => h9) rfl dX5_shortenOverSpare_17 ?_
        refine lv_iload_n hx hb dX5_shortenOverSpare_20 rfl (lv_at hl 0 rfl) ?_
        refine va_iald hx hb hK hP 1 0 rfl rfl (vp_in_nI (by omega) (by omega)) dX5_shortenOverSpare_21 ?_
        refine lv_topi (fun v_4 ev => ?_)
        obtain rfl : v_4 = iI (room k) := ev.trans (congrArg (fun q9 => iI (room q9)) (nI_clamp (by omega)))
        have b_5 := b_room k
        refine lv_icmp_ge (tgt := 53) hx hb dX5_shortenOverSpare_22 (by decide) (fun c_6 => ?_) (fun c_6 => ?_)
        · have nc_6 := (iLe (a := room k) (b := used k) rfl rfl (by omega)).mp c_6
          refine lv_aload_n hx hb dX5_shortenOverSpare_53 rfl (lv_at hl 1 rfl) ?_
          refine va_get (D := xD g) (ci := 5) (v := .ref us) (C := RX5) (T := TX5) (N := 8) hx hb hts hFX5 hown hK hP 0 rfl rfl 3 (by decide) (hts (.fieldLink RX5 20 "Stevedore$SlotGiver" "used" "[I") (by decide +kernel)) (fun _ h9 => h9) rfl dX5_shortenOverSpare_54 ?_
          refine lv_iload_n hx hb dX5_shortenOverSpare_57 rfl (lv_at hl 0 rfl) ?_
          refine va_iald hx hb hK hP 2 0 rfl rfl (vp_in_nI (by omega) (by omega)) dX5_shortenOverSpare_58 ?_
          refine lv_topi (fun v_7 ev => ?_)
          obtain rfl : v_7 = iI (used k) := ev.trans (congrArg (fun q9 => iI (used q9)) (nI_clamp (by omega)))
          have b_8 := b_used k
          refine lv_if_le (tgt := 89) hx hb dX5_shortenOverSpare_59 (by decide) (fun c_9 => ?_) (fun c_9 => ?_)
          · have nc_9 := (iLe (a := used k) (b := 0) rfl (by decide) (by omega)).mp c_9
            refine lv_iinc (v := nI (k + 1)) (lv' := [(2, .int (nI (k + 1))), (0, .ref sg), (1, .int (iI fl))]) hx hb dX5_shortenOverSpare_89 hl (k := 0) rfl (nI_add k 1) (by decide) rfl (fun ls hl => ?_)
            refine lv_goto (tgt := 4) hx hb dX5_shortenOverSpare_92 (by decide) ?_
            exact ih4 (k + 1) dk nk pk fl _ _ _ (by omega) (by omega) hbk (fun x => by have y := hlk x; omega) (sP1_more hpk (fun x => by omega) (fun q => by have y1 := hlk k; have y2 := hlk 17; omega) (fun q => by have y1 := hlk k; have y2 := hlk 17; omega)) (by first | exact hfk | exact Or.inl rfl | exact Or.inr ⟨rfl, (hfk.resolve_left (by omega)).2⟩) bb_dk bb_nk bb_pk hP hD hS (lv_sub hl [0, 1, 2] rfl)
          · have nc_9 := mt (iLe (a := used k) (b := 0) rfl (by decide) (by omega)).mpr c_9
            refine lv_aload_n hx hb dX5_shortenOverSpare_62 rfl (lv_at hl 1 rfl) ?_
            refine lv_bipush (v := 17) hx hb dX5_shortenOverSpare_63 (by decide) ?_
            refine lv_iload_n hx hb dX5_shortenOverSpare_65 rfl (lv_at hl 0 rfl) ?_
            refine lv_aload_n hx hb dX5_shortenOverSpare_66 rfl (lv_at hl 1 rfl) ?_
            refine va_get (D := xD g) (ci := 5) (v := .ref wc) (C := RX5) (T := TX5) (N := 8) hx hb hts hFX5 hown hK hP 0 rfl rfl 5 (by decide) (hts (.fieldLink RX5 26 "Stevedore$SlotGiver" "wayCost" "[I") (by decide +kernel)) (fun _ h9 => h9) rfl dX5_shortenOverSpare_67 ?_
            refine lv_iload_n hx hb dX5_shortenOverSpare_70 rfl (lv_at hl 0 rfl) ?_
            refine va_iald hx hb hK hP 3 0 rfl rfl (vp_in_nI (by omega) (by omega)) dX5_shortenOverSpare_71 ?_
            refine lv_topi (fun v_10 ev => ?_)
            obtain rfl : v_10 = iI (dk k) := ev.trans (congrArg (fun q9 => iI (dk q9)) (nI_clamp (by omega)))
            have b_11 := bb_dk k
            refine lv_iconst (v := (-1)) hx hb dX5_shortenOverSpare_72 (by decide) ?_
            have hPc := hP.sub (ws' := [(sg, .inr (5, [g0, g1, .ref ro, .ref us, g4, .ref wc, .ref nx, .ref pu])), (wc, .inl (xI g, 18, .inl (fun j => iI (dk j)))), (nx, .inl (xI g, 18, .inl (fun j => nI (nk j)))), (pu, .inl (xI g, 18, .inl (fun j => iI (pk j))))]) [0, 3, 4, 5] rfl
            have hDc := hD.sub (ws' := [(sg, .inr (5, [g0, g1, .ref ro, .ref us, g4, .ref wc, .ref nx, .ref pu])), (wc, .inl (xI g, 18, .inl (fun j => iI (dk j)))), (nx, .inl (xI g, 18, .inl (fun j => nI (nk j)))), (pu, .inl (xI g, 18, .inl (fun j => iI (pk j))))]) [0, 3, 4, 5] (by decide) rfl
            have hFc := va_free (wc := [(sg, .inr (5, [g0, g1, .ref ro, .ref us, g4, .ref wc, .ref nx, .ref pu])), (wc, .inl (xI g, 18, .inl (fun j => iI (dk j)))), (nx, .inl (xI g, 18, .inl (fun j => nI (nk j)))), (pu, .inl (xI g, 18, .inl (fun j => iI (pk j))))]) hD hS hA [0, 3, 4, 5] rfl
            refine va_calli (va_runV (As := [.int 17, .int (nI k), .int (iI (dk k)), .int (-1)]) (rest := []) ⟨hx, hb, hml, hown, hts⟩ (g_shorten l g H.size sg wc nx pu 17 k (dk k) (-1) g0 g1 (.ref ro) (.ref us) g4 dk nk pk (by first | assumption | omega) (by first | assumption | omega) (by first | assumption | omega) (by first | assumption | omega) bb_dk bb_nk bb_pk) (cwV 4 hts gX5_shortenOverSpare_X5_shorten rfl rfl rfl (by decide +kernel) ⟨Nat.le_of_ble_eq_true rfl, Nat.le_of_ble_eq_true rfl⟩) ⟨xB.blind, va_recv hK hPc (ci := 5) (q0 := 0) rfl rfl, fun U9 hU9 hW9 => ⟨rfl, xB.mk hPc hK hDc hU9 hW9⟩⟩ rfl rfl hl.1 rfl (lv_room (Nat.le_of_ble_eq_true rfl)) dX5_shortenOverSpare_73 ⟨Nat.le_of_ble_eq_true rfl, Nat.le_of_ble_eq_true rfl⟩) hS (fun q _ h => hFc q h) hFc (fun r_12 _ t H1 locs ht hvm hw_13 hB hz1 hk1 hS => ?_)
            obtain ⟨d1_14, n1_15, p1_16, hc_17, hb_18, hb_19, hb_20, hP1, hK1, hD1⟩ := hB
            rw [ht] at hP1
            obtain ⟨hP, hD⟩ := va_join (wr := [(ro, .inl (xI g, 17, .inl (fun j => iI (room j)))), (us, .inl (xI g, 17, .inl (fun j => iI (used j))))]) (w1 := [(sg, .inr (5, [g0, g1, .ref ro, .ref us, g4, .ref wc, .ref nx, .ref pu])), (wc, .inl (xI g, 18, .inl (fun j => iI (d1_14 j)))), (nx, .inl (xI g, 18, .inl (fun j => nI (n1_15 j)))), (pu, .inl (xI g, 18, .inl (fun j => iI (p1_16 j))))]) hP hD [0, 3, 4, 5] [1, 2] rfl rfl (by decide) (by decide) hk1 hFc hP1 hD1
            generalize H1 = H at hP hS ⊢
            have hP : va_P (xD g) vwCl [(ro, .inl (xI g, 17, .inl (fun j => iI (room j)))), (us, .inl (xI g, 17, .inl (fun j => iI (used j)))), (sg, .inr (5, [g0, g1, .ref ro, .ref us, g4, .ref wc, .ref nx, .ref pu])), (wc, .inl (xI g, 18, .inl (fun j => iI (d1_14 j)))), (nx, .inl (xI g, 18, .inl (fun j => nI (n1_15 j)))), (pu, .inl (xI g, 18, .inl (fun j => iI (p1_16 j))))] H := hP
            have hD : va_D A [(ro, .inl (xI g, 17, .inl (fun j => iI (room j)))), (us, .inl (xI g, 17, .inl (fun j => iI (used j)))), (sg, .inr (5, [g0, g1, .ref ro, .ref us, g4, .ref wc, .ref nx, .ref pu])), (wc, .inl (xI g, 18, .inl (fun j => iI (d1_14 j)))), (nx, .inl (xI g, 18, .inl (fun j => nI (n1_15 j)))), (pu, .inl (xI g, 18, .inl (fun j => iI (p1_16 j))))] := hD
            try dsimp only at hw_13
            rcases hw_13 with ⟨rfl, hw_13⟩ | ⟨rfl, hw_13⟩
            · obtain ⟨hbf_21, hle_21, hu_21, hn_21⟩ := sBF_try hp hbk (he2 k (by omega) (by omega)) (Int.zero_add _).symm (Or.inl (Int.le_refl _)) hc_17
              refine lv_if_ne (tgt := 83) hx hb dX5_shortenOverSpare_76 (by decide) (fun _ => ?_) (fun c0 => absurd c0 (by decide))
              refine lv_iconst (v := 1) hx hb dX5_shortenOverSpare_83 (by decide) ?_
              refine lv_goto (tgt := 88) hx hb dX5_shortenOverSpare_84 (by decide) ?_
              refine lv_istore_n (lv' := [(1, .int 1), (2, .int (nI k)), (0, .ref sg)]) hx hb dX5_shortenOverSpare_88 rfl hl (by decide) rfl (fun ls hl => ?_)
              refine lv_iinc (v := nI (k + 1)) (lv' := [(2, .int (nI (k + 1))), (1, .int 1), (0, .ref sg)]) hx hb dX5_shortenOverSpare_89 hl (k := 1) rfl (nI_add k 1) (by decide) rfl (fun ls hl => ?_)
              refine lv_goto (tgt := 4) hx hb dX5_shortenOverSpare_92 (by decide) ?_
              have hP := hP.sub (ws' := [(sg, .inr (5, [g0, g1, .ref ro, .ref us, g4, .ref wc, .ref nx, .ref pu])), (ro, .inl (xI g, 17, .inl (fun j => iI (room j)))), (us, .inl (xI g, 17, .inl (fun j => iI (used j)))), (wc, .inl (xI g, 18, .inl (fun j => iI (d1_14 j)))), (nx, .inl (xI g, 18, .inl (fun j => nI (n1_15 j)))), (pu, .inl (xI g, 18, .inl (fun j => iI (p1_16 j))))]) [2, 0, 1, 3, 4, 5] rfl
              have hD := hD.sub (ws' := [(sg, .inr (5, [g0, g1, .ref ro, .ref us, g4, .ref wc, .ref nx, .ref pu])), (ro, .inl (xI g, 17, .inl (fun j => iI (room j)))), (us, .inl (xI g, 17, .inl (fun j => iI (used j)))), (wc, .inl (xI g, 18, .inl (fun j => iI (d1_14 j)))), (nx, .inl (xI g, 18, .inl (fun j => nI (n1_15 j)))), (pu, .inl (xI g, 18, .inl (fun j => iI (p1_16 j))))]) [2, 0, 1, 3, 4, 5] (by decide) rfl
              exact ih4 (k + 1) d1_14 n1_15 p1_16 1 _ _ _ (by omega) (by omega) hbf_21 (fun x => by have y := hlk x; have a_21 := hle_21 x; omega) (sP1_more hpk (fun x => by have a_21 := hle_21 x; omega) (fun q => by have y1 := hlk k; have y2 := hlk 17; have a_21 := hle_21 k; have z_21 := hle_21 17; have o_21 := hu_21; omega) (fun q => by have y1 := hlk k; have y2 := hlk 17; have a_21 := hle_21 k; have z_21 := hle_21 17; have o_21 := hu_21; omega)) (by first | exact hfk | exact Or.inl rfl | exact Or.inr ⟨rfl, (hfk.resolve_left (by omega)).2⟩) hb_18 hb_19 hb_20 hP hD hS (by rw [(show iI 1 = (1 : Int32) from by decide)]; exact lv_sub hl [0, 2, 1] rfl)
            · obtain ⟨hbf_22, hle_22, hu_22, hn_22⟩ := sBF_try hp hbk (he2 k (by omega) (by omega)) (Int.zero_add _).symm (Or.inl (Int.le_refl _)) hc_17
              obtain ⟨rfl, rfl, rfl⟩ := hc_17.2 hw_13
              refine lv_if_ne (tgt := 83) hx hb dX5_shortenOverSpare_76 (by decide) (fun c0 => absurd (by decide) c0) (fun _ => ?_)
              refine lv_iload_n hx hb dX5_shortenOverSpare_79 rfl (lv_at hl 2 rfl) ?_
              refine lv_if_eq (tgt := 87) hx hb dX5_shortenOverSpare_80 (by decide) (fun c_23 => ?_) (fun c_23 => ?_)
              · have nc_23 := (iEq (a := fl) (b := 0) rfl (by decide) (by omega)).mp c_23
                refine lv_iconst (v := 0) hx hb dX5_shortenOverSpare_87 (by decide) ?_
                refine lv_istore_n (lv' := [(1, .int 0), (2, .int (nI k)), (0, .ref sg)]) hx hb dX5_shortenOverSpare_88 rfl hl (by decide) rfl (fun ls hl => ?_)
                refine lv_iinc (v := nI (k + 1)) (lv' := [(2, .int (nI (k + 1))), (1, .int 0), (0, .ref sg)]) hx hb dX5_shortenOverSpare_89 hl (k := 1) rfl (nI_add k 1) (by decide) rfl (fun ls hl => ?_)
                refine lv_goto (tgt := 4) hx hb dX5_shortenOverSpare_92 (by decide) ?_
                have hP := hP.sub (ws' := [(sg, .inr (5, [g0, g1, .ref ro, .ref us, g4, .ref wc, .ref nx, .ref pu])), (ro, .inl (xI g, 17, .inl (fun j => iI (room j)))), (us, .inl (xI g, 17, .inl (fun j => iI (used j)))), (wc, .inl (xI g, 18, .inl (fun j => iI (dk j)))), (nx, .inl (xI g, 18, .inl (fun j => nI (nk j)))), (pu, .inl (xI g, 18, .inl (fun j => iI (pk j))))]) [2, 0, 1, 3, 4, 5] rfl
                have hD := hD.sub (ws' := [(sg, .inr (5, [g0, g1, .ref ro, .ref us, g4, .ref wc, .ref nx, .ref pu])), (ro, .inl (xI g, 17, .inl (fun j => iI (room j)))), (us, .inl (xI g, 17, .inl (fun j => iI (used j)))), (wc, .inl (xI g, 18, .inl (fun j => iI (dk j)))), (nx, .inl (xI g, 18, .inl (fun j => nI (nk j)))), (pu, .inl (xI g, 18, .inl (fun j => iI (pk j))))]) [2, 0, 1, 3, 4, 5] (by decide) rfl
                exact ih4 (k + 1) dk nk pk 0 _ _ _ (by omega) (by omega) hbf_22 (fun x => by have y := hlk x; have a_22 := hle_22 x; omega) (sP1_more hpk (fun x => by have a_22 := hle_22 x; omega) (fun q => by have y1 := hlk k; have y2 := hlk 17; have a_22 := hle_22 k; have z_22 := hle_22 17; have o_22 := hu_22; omega) (fun q => by have y1 := hlk k; have y2 := hlk 17; have a_22 := hle_22 k; have z_22 := hle_22 17; have o_22 := hu_22; omega)) (by first | exact hfk | exact Or.inl rfl | exact Or.inr ⟨rfl, (hfk.resolve_left (by omega)).2⟩) hb_18 hb_19 hb_20 hP hD hS (by rw [(show iI 0 = (0 : Int32) from by decide)]; exact lv_sub hl [0, 2, 1] rfl)
              · have nc_23 := mt (iEq (a := fl) (b := 0) rfl (by decide) (by omega)).mpr c_23
                refine lv_iconst (v := 1) hx hb dX5_shortenOverSpare_83 (by decide) ?_
                refine lv_goto (tgt := 88) hx hb dX5_shortenOverSpare_84 (by decide) ?_
                refine lv_istore_n (lv' := [(1, .int 1), (2, .int (nI k)), (0, .ref sg)]) hx hb dX5_shortenOverSpare_88 rfl hl (by decide) rfl (fun ls hl => ?_)
                refine lv_iinc (v := nI (k + 1)) (lv' := [(2, .int (nI (k + 1))), (1, .int 1), (0, .ref sg)]) hx hb dX5_shortenOverSpare_89 hl (k := 1) rfl (nI_add k 1) (by decide) rfl (fun ls hl => ?_)
                refine lv_goto (tgt := 4) hx hb dX5_shortenOverSpare_92 (by decide) ?_
                have hP := hP.sub (ws' := [(sg, .inr (5, [g0, g1, .ref ro, .ref us, g4, .ref wc, .ref nx, .ref pu])), (ro, .inl (xI g, 17, .inl (fun j => iI (room j)))), (us, .inl (xI g, 17, .inl (fun j => iI (used j)))), (wc, .inl (xI g, 18, .inl (fun j => iI (dk j)))), (nx, .inl (xI g, 18, .inl (fun j => nI (nk j)))), (pu, .inl (xI g, 18, .inl (fun j => iI (pk j))))]) [2, 0, 1, 3, 4, 5] rfl
                have hD := hD.sub (ws' := [(sg, .inr (5, [g0, g1, .ref ro, .ref us, g4, .ref wc, .ref nx, .ref pu])), (ro, .inl (xI g, 17, .inl (fun j => iI (room j)))), (us, .inl (xI g, 17, .inl (fun j => iI (used j)))), (wc, .inl (xI g, 18, .inl (fun j => iI (dk j)))), (nx, .inl (xI g, 18, .inl (fun j => nI (nk j)))), (pu, .inl (xI g, 18, .inl (fun j => iI (pk j))))]) [2, 0, 1, 3, 4, 5] (by decide) rfl
                exact ih4 (k + 1) dk nk pk 1 _ _ _ (by omega) (by omega) hbf_22 (fun x => by have y := hlk x; have a_22 := hle_22 x; omega) (sP1_more hpk (fun x => by have a_22 := hle_22 x; omega) (fun q => by have y1 := hlk k; have y2 := hlk 17; have a_22 := hle_22 k; have z_22 := hle_22 17; have o_22 := hu_22; omega) (fun q => by have y1 := hlk k; have y2 := hlk 17; have a_22 := hle_22 k; have z_22 := hle_22 17; have o_22 := hu_22; omega)) (by first | exact hfk | exact Or.inl rfl | exact Or.inr ⟨rfl, (hfk.resolve_left (by omega)).2⟩) hb_18 hb_19 hb_20 hP hD hS (by rw [(show iI 1 = (1 : Int32) from by decide)]; exact lv_sub hl [0, 2, 1] rfl)
        · have nc_6 := mt (iLe (a := room k) (b := used k) rfl rfl (by omega)).mpr c_6
          refine lv_aload_n hx hb dX5_shortenOverSpare_25 rfl (lv_at hl 1 rfl) ?_
          refine lv_iload_n hx hb dX5_shortenOverSpare_26 rfl (lv_at hl 0 rfl) ?_
          refine lv_bipush (v := 17) hx hb dX5_shortenOverSpare_27 (by decide) ?_
          refine lv_aload_n hx hb dX5_shortenOverSpare_29 rfl (lv_at hl 1 rfl) ?_
          refine va_get (D := xD g) (ci := 5) (v := .ref wc) (C := RX5) (T := TX5) (N := 8) hx hb hts hFX5 hown hK hP 0 rfl rfl 5 (by decide) (hts (.fieldLink RX5 26 "Stevedore$SlotGiver" "wayCost" "[I") (by decide +kernel)) (fun _ h9 => h9) rfl dX5_shortenOverSpare_30 ?_
          refine lv_bipush (v := 17) hx hb dX5_shortenOverSpare_33 (by decide) ?_
          refine va_iald hx hb hK hP 3 0 rfl rfl (by unfold vp_in; decide) dX5_shortenOverSpare_35 ?_
          refine lv_topi (fun v_24 ev => ?_)
          obtain rfl : v_24 = iI (dk 17) := ev.trans (congrArg (fun q9 => iI (dk q9)) (by decide))
          have b_25 := bb_dk 17
          refine lv_iconst (v := (-1)) hx hb dX5_shortenOverSpare_36 (by decide) ?_
          have hPc := hP.sub (ws' := [(sg, .inr (5, [g0, g1, .ref ro, .ref us, g4, .ref wc, .ref nx, .ref pu])), (wc, .inl (xI g, 18, .inl (fun j => iI (dk j)))), (nx, .inl (xI g, 18, .inl (fun j => nI (nk j)))), (pu, .inl (xI g, 18, .inl (fun j => iI (pk j))))]) [0, 3, 4, 5] rfl
          have hDc := hD.sub (ws' := [(sg, .inr (5, [g0, g1, .ref ro, .ref us, g4, .ref wc, .ref nx, .ref pu])), (wc, .inl (xI g, 18, .inl (fun j => iI (dk j)))), (nx, .inl (xI g, 18, .inl (fun j => nI (nk j)))), (pu, .inl (xI g, 18, .inl (fun j => iI (pk j))))]) [0, 3, 4, 5] (by decide) rfl
          have hFc := va_free (wc := [(sg, .inr (5, [g0, g1, .ref ro, .ref us, g4, .ref wc, .ref nx, .ref pu])), (wc, .inl (xI g, 18, .inl (fun j => iI (dk j)))), (nx, .inl (xI g, 18, .inl (fun j => nI (nk j)))), (pu, .inl (xI g, 18, .inl (fun j => iI (pk j))))]) hD hS hA [0, 3, 4, 5] rfl
          refine va_calli (va_runV (As := [.int (nI k), .int 17, .int (iI (dk 17)), .int (-1)]) (rest := []) ⟨hx, hb, hml, hown, hts⟩ (g_shorten l g H.size sg wc nx pu k 17 (dk 17) (-1) g0 g1 (.ref ro) (.ref us) g4 dk nk pk (by first | assumption | omega) (by first | assumption | omega) (by first | assumption | omega) (by first | assumption | omega) bb_dk bb_nk bb_pk) (cwV 4 hts gX5_shortenOverSpare_X5_shorten rfl rfl rfl (by decide +kernel) ⟨Nat.le_of_ble_eq_true rfl, Nat.le_of_ble_eq_true rfl⟩) ⟨xB.blind, va_recv hK hPc (ci := 5) (q0 := 0) rfl rfl, fun U9 hU9 hW9 => ⟨rfl, xB.mk hPc hK hDc hU9 hW9⟩⟩ rfl rfl hl.1 rfl (lv_room (Nat.le_of_ble_eq_true rfl)) dX5_shortenOverSpare_37 ⟨Nat.le_of_ble_eq_true rfl, Nat.le_of_ble_eq_true rfl⟩) hS (fun q _ h => hFc q h) hFc (fun r_26 _ t H1 locs ht hvm hw_27 hB hz1 hk1 hS => ?_)
          obtain ⟨d1_28, n1_29, p1_30, hc_31, hb_32, hb_33, hb_34, hP1, hK1, hD1⟩ := hB
          rw [ht] at hP1
          obtain ⟨hP, hD⟩ := va_join (wr := [(ro, .inl (xI g, 17, .inl (fun j => iI (room j)))), (us, .inl (xI g, 17, .inl (fun j => iI (used j))))]) (w1 := [(sg, .inr (5, [g0, g1, .ref ro, .ref us, g4, .ref wc, .ref nx, .ref pu])), (wc, .inl (xI g, 18, .inl (fun j => iI (d1_28 j)))), (nx, .inl (xI g, 18, .inl (fun j => nI (n1_29 j)))), (pu, .inl (xI g, 18, .inl (fun j => iI (p1_30 j))))]) hP hD [0, 3, 4, 5] [1, 2] rfl rfl (by decide) (by decide) hk1 hFc hP1 hD1
          generalize H1 = H at hP hS ⊢
          have hP : va_P (xD g) vwCl [(ro, .inl (xI g, 17, .inl (fun j => iI (room j)))), (us, .inl (xI g, 17, .inl (fun j => iI (used j)))), (sg, .inr (5, [g0, g1, .ref ro, .ref us, g4, .ref wc, .ref nx, .ref pu])), (wc, .inl (xI g, 18, .inl (fun j => iI (d1_28 j)))), (nx, .inl (xI g, 18, .inl (fun j => nI (n1_29 j)))), (pu, .inl (xI g, 18, .inl (fun j => iI (p1_30 j))))] H := hP
          have hD : va_D A [(ro, .inl (xI g, 17, .inl (fun j => iI (room j)))), (us, .inl (xI g, 17, .inl (fun j => iI (used j)))), (sg, .inr (5, [g0, g1, .ref ro, .ref us, g4, .ref wc, .ref nx, .ref pu])), (wc, .inl (xI g, 18, .inl (fun j => iI (d1_28 j)))), (nx, .inl (xI g, 18, .inl (fun j => nI (n1_29 j)))), (pu, .inl (xI g, 18, .inl (fun j => iI (p1_30 j))))] := hD
          try dsimp only at hw_27
          rcases hw_27 with ⟨rfl, hw_27⟩ | ⟨rfl, hw_27⟩
          · obtain ⟨hbf_35, hle_35, hu_35, hn_35⟩ := sBF_try hp hbk (he1 k (by omega) (by omega)) (Int.zero_add _).symm (Or.inl (Int.le_refl _)) hc_31
            refine lv_if_ne (tgt := 47) hx hb dX5_shortenOverSpare_40 (by decide) (fun _ => ?_) (fun c0 => absurd c0 (by decide))
            refine lv_iconst (v := 1) hx hb dX5_shortenOverSpare_47 (by decide) ?_
            refine lv_goto (tgt := 52) hx hb dX5_shortenOverSpare_48 (by decide) ?_
            refine lv_istore_n (lv' := [(1, .int 1), (2, .int (nI k)), (0, .ref sg)]) hx hb dX5_shortenOverSpare_52 rfl hl (by decide) rfl (fun ls hl => ?_)
            refine lv_aload_n hx hb dX5_shortenOverSpare_53 rfl (lv_at hl 2 rfl) ?_
            refine va_get (D := xD g) (ci := 5) (v := .ref us) (C := RX5) (T := TX5) (N := 8) hx hb hts hFX5 hown hK hP 2 rfl rfl 3 (by decide) (hts (.fieldLink RX5 20 "Stevedore$SlotGiver" "used" "[I") (by decide +kernel)) (fun _ h9 => h9) rfl dX5_shortenOverSpare_54 ?_
            refine lv_iload_n hx hb dX5_shortenOverSpare_57 rfl (lv_at hl 1 rfl) ?_
            refine va_iald hx hb hK hP 1 0 rfl rfl (vp_in_nI (by omega) (by omega)) dX5_shortenOverSpare_58 ?_
            refine lv_topi (fun v_36 ev => ?_)
            obtain rfl : v_36 = iI (used k) := ev.trans (congrArg (fun q9 => iI (used q9)) (nI_clamp (by omega)))
            have b_37 := b_used k
            refine lv_if_le (tgt := 89) hx hb dX5_shortenOverSpare_59 (by decide) (fun c_38 => ?_) (fun c_38 => ?_)
            · have nc_38 := (iLe (a := used k) (b := 0) rfl (by decide) (by omega)).mp c_38
              refine lv_iinc (v := nI (k + 1)) (lv' := [(2, .int (nI (k + 1))), (1, .int 1), (0, .ref sg)]) hx hb dX5_shortenOverSpare_89 hl (k := 1) rfl (nI_add k 1) (by decide) rfl (fun ls hl => ?_)
              refine lv_goto (tgt := 4) hx hb dX5_shortenOverSpare_92 (by decide) ?_
              have hP := hP.sub (ws' := [(sg, .inr (5, [g0, g1, .ref ro, .ref us, g4, .ref wc, .ref nx, .ref pu])), (ro, .inl (xI g, 17, .inl (fun j => iI (room j)))), (us, .inl (xI g, 17, .inl (fun j => iI (used j)))), (wc, .inl (xI g, 18, .inl (fun j => iI (d1_28 j)))), (nx, .inl (xI g, 18, .inl (fun j => nI (n1_29 j)))), (pu, .inl (xI g, 18, .inl (fun j => iI (p1_30 j))))]) [2, 0, 1, 3, 4, 5] rfl
              have hD := hD.sub (ws' := [(sg, .inr (5, [g0, g1, .ref ro, .ref us, g4, .ref wc, .ref nx, .ref pu])), (ro, .inl (xI g, 17, .inl (fun j => iI (room j)))), (us, .inl (xI g, 17, .inl (fun j => iI (used j)))), (wc, .inl (xI g, 18, .inl (fun j => iI (d1_28 j)))), (nx, .inl (xI g, 18, .inl (fun j => nI (n1_29 j)))), (pu, .inl (xI g, 18, .inl (fun j => iI (p1_30 j))))]) [2, 0, 1, 3, 4, 5] (by decide) rfl
              exact ih4 (k + 1) d1_28 n1_29 p1_30 1 _ _ _ (by omega) (by omega) hbf_35 (fun x => by have y := hlk x; have a_35 := hle_35 x; omega) (sP1_more hpk (fun x => by have a_35 := hle_35 x; omega) (fun q => by have y1 := hlk k; have y2 := hlk 17; have a_35 := hle_35 k; have z_35 := hle_35 17; have o_35 := hu_35; omega) (fun q => by have y1 := hlk k; have y2 := hlk 17; have a_35 := hle_35 k; have z_35 := hle_35 17; have o_35 := hu_35; omega)) (by first | exact hfk | exact Or.inl rfl | exact Or.inr ⟨rfl, (hfk.resolve_left (by omega)).2⟩) hb_32 hb_33 hb_34 hP hD hS (by rw [(show iI 1 = (1 : Int32) from by decide)]; exact lv_sub hl [0, 2, 1] rfl)
            · have nc_38 := mt (iLe (a := used k) (b := 0) rfl (by decide) (by omega)).mpr c_38
              refine lv_aload_n hx hb dX5_shortenOverSpare_62 rfl (lv_at hl 2 rfl) ?_
              refine lv_bipush (v := 17) hx hb dX5_shortenOverSpare_63 (by decide) ?_
              refine lv_iload_n hx hb dX5_shortenOverSpare_65 rfl (lv_at hl 1 rfl) ?_
              refine lv_aload_n hx hb dX5_shortenOverSpare_66 rfl (lv_at hl 2 rfl) ?_
              refine va_get (D := xD g) (ci := 5) (v := .ref wc) (C := RX5) (T := TX5) (N := 8) hx hb hts hFX5 hown hK hP 2 rfl rfl 5 (by decide) (hts (.fieldLink RX5 26 "Stevedore$SlotGiver" "wayCost" "[I") (by decide +kernel)) (fun _ h9 => h9) rfl dX5_shortenOverSpare_67 ?_
              refine lv_iload_n hx hb dX5_shortenOverSpare_70 rfl (lv_at hl 1 rfl) ?_
              refine va_iald hx hb hK hP 3 0 rfl rfl (vp_in_nI (by omega) (by omega)) dX5_shortenOverSpare_71 ?_
              refine lv_topi (fun v_39 ev => ?_)
              obtain rfl : v_39 = iI (d1_28 k) := ev.trans (congrArg (fun q9 => iI (d1_28 q9)) (nI_clamp (by omega)))
              have b_40 := hb_32 k
              refine lv_iconst (v := (-1)) hx hb dX5_shortenOverSpare_72 (by decide) ?_
              have hPc := hP.sub (ws' := [(sg, .inr (5, [g0, g1, .ref ro, .ref us, g4, .ref wc, .ref nx, .ref pu])), (wc, .inl (xI g, 18, .inl (fun j => iI (d1_28 j)))), (nx, .inl (xI g, 18, .inl (fun j => nI (n1_29 j)))), (pu, .inl (xI g, 18, .inl (fun j => iI (p1_30 j))))]) [2, 3, 4, 5] rfl
              have hDc := hD.sub (ws' := [(sg, .inr (5, [g0, g1, .ref ro, .ref us, g4, .ref wc, .ref nx, .ref pu])), (wc, .inl (xI g, 18, .inl (fun j => iI (d1_28 j)))), (nx, .inl (xI g, 18, .inl (fun j => nI (n1_29 j)))), (pu, .inl (xI g, 18, .inl (fun j => iI (p1_30 j))))]) [2, 3, 4, 5] (by decide) rfl
              have hFc := va_free (wc := [(sg, .inr (5, [g0, g1, .ref ro, .ref us, g4, .ref wc, .ref nx, .ref pu])), (wc, .inl (xI g, 18, .inl (fun j => iI (d1_28 j)))), (nx, .inl (xI g, 18, .inl (fun j => nI (n1_29 j)))), (pu, .inl (xI g, 18, .inl (fun j => iI (p1_30 j))))]) hD hS hA [2, 3, 4, 5] rfl
              refine va_calli (va_runV (As := [.int 17, .int (nI k), .int (iI (d1_28 k)), .int (-1)]) (rest := []) ⟨hx, hb, hml, hown, hts⟩ (g_shorten l g H.size sg wc nx pu 17 k (d1_28 k) (-1) g0 g1 (.ref ro) (.ref us) g4 d1_28 n1_29 p1_30 (by first | assumption | omega) (by first | assumption | omega) (by first | assumption | omega) (by first | assumption | omega) hb_32 hb_33 hb_34) (cwV 4 hts gX5_shortenOverSpare_X5_shorten rfl rfl rfl (by decide +kernel) ⟨Nat.le_of_ble_eq_true rfl, Nat.le_of_ble_eq_true rfl⟩) ⟨xB.blind, va_recv hK hPc (ci := 5) (q0 := 0) rfl rfl, fun U9 hU9 hW9 => ⟨rfl, xB.mk hPc hK hDc hU9 hW9⟩⟩ rfl rfl hl.1 rfl (lv_room (Nat.le_of_ble_eq_true rfl)) dX5_shortenOverSpare_73 ⟨Nat.le_of_ble_eq_true rfl, Nat.le_of_ble_eq_true rfl⟩) hS (fun q _ h => hFc q h) hFc (fun r_41 _ t H1 locs ht hvm hw_42 hB hz1 hk1 hS => ?_)
              obtain ⟨d1_43, n1_44, p1_45, hc_46, hb_47, hb_48, hb_49, hP1, hK1, hD1⟩ := hB
              rw [ht] at hP1
              obtain ⟨hP, hD⟩ := va_join (wr := [(ro, .inl (xI g, 17, .inl (fun j => iI (room j)))), (us, .inl (xI g, 17, .inl (fun j => iI (used j))))]) (w1 := [(sg, .inr (5, [g0, g1, .ref ro, .ref us, g4, .ref wc, .ref nx, .ref pu])), (wc, .inl (xI g, 18, .inl (fun j => iI (d1_43 j)))), (nx, .inl (xI g, 18, .inl (fun j => nI (n1_44 j)))), (pu, .inl (xI g, 18, .inl (fun j => iI (p1_45 j))))]) hP hD [2, 3, 4, 5] [0, 1] rfl rfl (by decide) (by decide) hk1 hFc hP1 hD1
              generalize H1 = H at hP hS ⊢
              have hP : va_P (xD g) vwCl [(ro, .inl (xI g, 17, .inl (fun j => iI (room j)))), (us, .inl (xI g, 17, .inl (fun j => iI (used j)))), (sg, .inr (5, [g0, g1, .ref ro, .ref us, g4, .ref wc, .ref nx, .ref pu])), (wc, .inl (xI g, 18, .inl (fun j => iI (d1_43 j)))), (nx, .inl (xI g, 18, .inl (fun j => nI (n1_44 j)))), (pu, .inl (xI g, 18, .inl (fun j => iI (p1_45 j))))] H := hP
              have hD : va_D A [(ro, .inl (xI g, 17, .inl (fun j => iI (room j)))), (us, .inl (xI g, 17, .inl (fun j => iI (used j)))), (sg, .inr (5, [g0, g1, .ref ro, .ref us, g4, .ref wc, .ref nx, .ref pu])), (wc, .inl (xI g, 18, .inl (fun j => iI (d1_43 j)))), (nx, .inl (xI g, 18, .inl (fun j => nI (n1_44 j)))), (pu, .inl (xI g, 18, .inl (fun j => iI (p1_45 j))))] := hD
              try dsimp only at hw_42
              rcases hw_42 with ⟨rfl, hw_42⟩ | ⟨rfl, hw_42⟩
              · obtain ⟨hbf_50, hle_50, hu_50, hn_50⟩ := sBF_try hp hbf_35 (he2 k (by omega) (by omega)) (Int.zero_add _).symm (Or.inl (Int.le_refl _)) hc_46
                refine lv_if_ne (tgt := 83) hx hb dX5_shortenOverSpare_76 (by decide) (fun _ => ?_) (fun c0 => absurd c0 (by decide))
                refine lv_iconst (v := 1) hx hb dX5_shortenOverSpare_83 (by decide) ?_
                refine lv_goto (tgt := 88) hx hb dX5_shortenOverSpare_84 (by decide) ?_
                refine lv_istore_n (lv' := [(1, .int 1), (2, .int (nI k)), (0, .ref sg)]) hx hb dX5_shortenOverSpare_88 rfl hl (by decide) rfl (fun ls hl => ?_)
                refine lv_iinc (v := nI (k + 1)) (lv' := [(2, .int (nI (k + 1))), (1, .int 1), (0, .ref sg)]) hx hb dX5_shortenOverSpare_89 hl (k := 1) rfl (nI_add k 1) (by decide) rfl (fun ls hl => ?_)
                refine lv_goto (tgt := 4) hx hb dX5_shortenOverSpare_92 (by decide) ?_
                have hP := hP.sub (ws' := [(sg, .inr (5, [g0, g1, .ref ro, .ref us, g4, .ref wc, .ref nx, .ref pu])), (ro, .inl (xI g, 17, .inl (fun j => iI (room j)))), (us, .inl (xI g, 17, .inl (fun j => iI (used j)))), (wc, .inl (xI g, 18, .inl (fun j => iI (d1_43 j)))), (nx, .inl (xI g, 18, .inl (fun j => nI (n1_44 j)))), (pu, .inl (xI g, 18, .inl (fun j => iI (p1_45 j))))]) [2, 0, 1, 3, 4, 5] rfl
                have hD := hD.sub (ws' := [(sg, .inr (5, [g0, g1, .ref ro, .ref us, g4, .ref wc, .ref nx, .ref pu])), (ro, .inl (xI g, 17, .inl (fun j => iI (room j)))), (us, .inl (xI g, 17, .inl (fun j => iI (used j)))), (wc, .inl (xI g, 18, .inl (fun j => iI (d1_43 j)))), (nx, .inl (xI g, 18, .inl (fun j => nI (n1_44 j)))), (pu, .inl (xI g, 18, .inl (fun j => iI (p1_45 j))))]) [2, 0, 1, 3, 4, 5] (by decide) rfl
                exact ih4 (k + 1) d1_43 n1_44 p1_45 1 _ _ _ (by omega) (by omega) hbf_50 (fun x => by have y := hlk x; have a_35 := hle_35 x; have a_50 := hle_50 x; omega) (sP1_more hpk (fun x => by have a_35 := hle_35 x; have a_50 := hle_50 x; omega) (fun q => by have y1 := hlk k; have y2 := hlk 17; have a_35 := hle_35 k; have z_35 := hle_35 17; have o_35 := hu_35; have a_50 := hle_50 k; have z_50 := hle_50 17; have o_50 := hu_50; omega) (fun q => by have y1 := hlk k; have y2 := hlk 17; have a_35 := hle_35 k; have z_35 := hle_35 17; have o_35 := hu_35; have a_50 := hle_50 k; have z_50 := hle_50 17; have o_50 := hu_50; omega)) (by first | exact hfk | exact Or.inl rfl | exact Or.inr ⟨rfl, (hfk.resolve_left (by omega)).2⟩) hb_47 hb_48 hb_49 hP hD hS (by rw [(show iI 1 = (1 : Int32) from by decide)]; exact lv_sub hl [0, 2, 1] rfl)
              · obtain ⟨hbf_51, hle_51, hu_51, hn_51⟩ := sBF_try hp hbf_35 (he2 k (by omega) (by omega)) (Int.zero_add _).symm (Or.inl (Int.le_refl _)) hc_46
                obtain ⟨rfl, rfl, rfl⟩ := hc_46.2 hw_42
                refine lv_if_ne (tgt := 83) hx hb dX5_shortenOverSpare_76 (by decide) (fun c0 => absurd (by decide) c0) (fun _ => ?_)
                refine lv_iload_n hx hb dX5_shortenOverSpare_79 rfl (lv_at hl 0 rfl) ?_
                refine lv_if_eq (tgt := 87) hx hb dX5_shortenOverSpare_80 (by decide) (fun c0 => absurd c0 (by decide)) (fun _ => ?_)
                refine lv_iconst (v := 1) hx hb dX5_shortenOverSpare_83 (by decide) ?_
                refine lv_goto (tgt := 88) hx hb dX5_shortenOverSpare_84 (by decide) ?_
                refine lv_istore_n (lv' := [(1, .int 1), (2, .int (nI k)), (0, .ref sg)]) hx hb dX5_shortenOverSpare_88 rfl hl (by decide) rfl (fun ls hl => ?_)
                refine lv_iinc (v := nI (k + 1)) (lv' := [(2, .int (nI (k + 1))), (1, .int 1), (0, .ref sg)]) hx hb dX5_shortenOverSpare_89 hl (k := 1) rfl (nI_add k 1) (by decide) rfl (fun ls hl => ?_)
                refine lv_goto (tgt := 4) hx hb dX5_shortenOverSpare_92 (by decide) ?_
                have hP := hP.sub (ws' := [(sg, .inr (5, [g0, g1, .ref ro, .ref us, g4, .ref wc, .ref nx, .ref pu])), (ro, .inl (xI g, 17, .inl (fun j => iI (room j)))), (us, .inl (xI g, 17, .inl (fun j => iI (used j)))), (wc, .inl (xI g, 18, .inl (fun j => iI (d1_28 j)))), (nx, .inl (xI g, 18, .inl (fun j => nI (n1_29 j)))), (pu, .inl (xI g, 18, .inl (fun j => iI (p1_30 j))))]) [2, 0, 1, 3, 4, 5] rfl
                have hD := hD.sub (ws' := [(sg, .inr (5, [g0, g1, .ref ro, .ref us, g4, .ref wc, .ref nx, .ref pu])), (ro, .inl (xI g, 17, .inl (fun j => iI (room j)))), (us, .inl (xI g, 17, .inl (fun j => iI (used j)))), (wc, .inl (xI g, 18, .inl (fun j => iI (d1_28 j)))), (nx, .inl (xI g, 18, .inl (fun j => nI (n1_29 j)))), (pu, .inl (xI g, 18, .inl (fun j => iI (p1_30 j))))]) [2, 0, 1, 3, 4, 5] (by decide) rfl
                exact ih4 (k + 1) d1_28 n1_29 p1_30 1 _ _ _ (by omega) (by omega) hbf_51 (fun x => by have y := hlk x; have a_35 := hle_35 x; have a_51 := hle_51 x; omega) (sP1_more hpk (fun x => by have a_35 := hle_35 x; have a_51 := hle_51 x; omega) (fun q => by have y1 := hlk k; have y2 := hlk 17; have a_35 := hle_35 k; have z_35 := hle_35 17; have o_35 := hu_35; have a_51 := hle_51 k; have z_51 := hle_51 17; have o_51 := hu_51; omega) (fun q => by have y1 := hlk k; have y2 := hlk 17; have a_35 := hle_35 k; have z_35 := hle_35 17; have o_35 := hu_35; have a_51 := hle_51 k; have z_51 := hle_51 17; have o_51 := hu_51; omega)) (by first | exact hfk | exact Or.inl rfl | exact Or.inr ⟨rfl, (hfk.resolve_left (by omega)).2⟩) hb_47 hb_48 hb_49 hP hD hS (by rw [(show iI 1 = (1 : Int32) from by decide)]; exact lv_sub hl [0, 2, 1] rfl)
          · obtain ⟨hbf_52, hle_52, hu_52, hn_52⟩ := sBF_try hp hbk (he1 k (by omega) (by omega)) (Int.zero_add _).symm (Or.inl (Int.le_refl _)) hc_31
            obtain ⟨rfl, rfl, rfl⟩ := hc_31.2 hw_27
            refine lv_if_ne (tgt := 47) hx hb dX5_shortenOverSpare_40 (by decide) (fun c0 => absurd (by decide) c0) (fun _ => ?_)
            refine lv_iload_n hx hb dX5_shortenOverSpare_43 rfl (lv_at hl 2 rfl) ?_
            refine lv_if_eq (tgt := 51) hx hb dX5_shortenOverSpare_44 (by decide) (fun c_53 => ?_) (fun c_53 => ?_)
            · have nc_53 := (iEq (a := fl) (b := 0) rfl (by decide) (by omega)).mp c_53
              refine lv_iconst (v := 0) hx hb dX5_shortenOverSpare_51 (by decide) ?_
              refine lv_istore_n (lv' := [(1, .int 0), (2, .int (nI k)), (0, .ref sg)]) hx hb dX5_shortenOverSpare_52 rfl hl (by decide) rfl (fun ls hl => ?_)
              refine lv_aload_n hx hb dX5_shortenOverSpare_53 rfl (lv_at hl 2 rfl) ?_
              refine va_get (D := xD g) (ci := 5) (v := .ref us) (C := RX5) (T := TX5) (N := 8) hx hb hts hFX5 hown hK hP 2 rfl rfl 3 (by decide) (hts (.fieldLink RX5 20 "Stevedore$SlotGiver" "used" "[I") (by decide +kernel)) (fun _ h9 => h9) rfl dX5_shortenOverSpare_54 ?_
              refine lv_iload_n hx hb dX5_shortenOverSpare_57 rfl (lv_at hl 1 rfl) ?_
              refine va_iald hx hb hK hP 1 0 rfl rfl (vp_in_nI (by omega) (by omega)) dX5_shortenOverSpare_58 ?_
              refine lv_topi (fun v_54 ev => ?_)
              obtain rfl : v_54 = iI (used k) := ev.trans (congrArg (fun q9 => iI (used q9)) (nI_clamp (by omega)))
              have b_55 := b_used k
              refine lv_if_le (tgt := 89) hx hb dX5_shortenOverSpare_59 (by decide) (fun c_56 => ?_) (fun c_56 => ?_)
              · have nc_56 := (iLe (a := used k) (b := 0) rfl (by decide) (by omega)).mp c_56
                refine lv_iinc (v := nI (k + 1)) (lv' := [(2, .int (nI (k + 1))), (1, .int 0), (0, .ref sg)]) hx hb dX5_shortenOverSpare_89 hl (k := 1) rfl (nI_add k 1) (by decide) rfl (fun ls hl => ?_)
                refine lv_goto (tgt := 4) hx hb dX5_shortenOverSpare_92 (by decide) ?_
                have hP := hP.sub (ws' := [(sg, .inr (5, [g0, g1, .ref ro, .ref us, g4, .ref wc, .ref nx, .ref pu])), (ro, .inl (xI g, 17, .inl (fun j => iI (room j)))), (us, .inl (xI g, 17, .inl (fun j => iI (used j)))), (wc, .inl (xI g, 18, .inl (fun j => iI (dk j)))), (nx, .inl (xI g, 18, .inl (fun j => nI (nk j)))), (pu, .inl (xI g, 18, .inl (fun j => iI (pk j))))]) [2, 0, 1, 3, 4, 5] rfl
                have hD := hD.sub (ws' := [(sg, .inr (5, [g0, g1, .ref ro, .ref us, g4, .ref wc, .ref nx, .ref pu])), (ro, .inl (xI g, 17, .inl (fun j => iI (room j)))), (us, .inl (xI g, 17, .inl (fun j => iI (used j)))), (wc, .inl (xI g, 18, .inl (fun j => iI (dk j)))), (nx, .inl (xI g, 18, .inl (fun j => nI (nk j)))), (pu, .inl (xI g, 18, .inl (fun j => iI (pk j))))]) [2, 0, 1, 3, 4, 5] (by decide) rfl
                exact ih4 (k + 1) dk nk pk 0 _ _ _ (by omega) (by omega) hbf_52 (fun x => by have y := hlk x; have a_52 := hle_52 x; omega) (sP1_more hpk (fun x => by have a_52 := hle_52 x; omega) (fun q => by have y1 := hlk k; have y2 := hlk 17; have a_52 := hle_52 k; have z_52 := hle_52 17; have o_52 := hu_52; omega) (fun q => by have y1 := hlk k; have y2 := hlk 17; have a_52 := hle_52 k; have z_52 := hle_52 17; have o_52 := hu_52; omega)) (by first | exact hfk | exact Or.inl rfl | exact Or.inr ⟨rfl, (hfk.resolve_left (by omega)).2⟩) hb_32 hb_33 hb_34 hP hD hS (by rw [(show iI 0 = (0 : Int32) from by decide)]; exact lv_sub hl [0, 2, 1] rfl)
              · have nc_56 := mt (iLe (a := used k) (b := 0) rfl (by decide) (by omega)).mpr c_56
                refine lv_aload_n hx hb dX5_shortenOverSpare_62 rfl (lv_at hl 2 rfl) ?_
                refine lv_bipush (v := 17) hx hb dX5_shortenOverSpare_63 (by decide) ?_
                refine lv_iload_n hx hb dX5_shortenOverSpare_65 rfl (lv_at hl 1 rfl) ?_
                refine lv_aload_n hx hb dX5_shortenOverSpare_66 rfl (lv_at hl 2 rfl) ?_
                refine va_get (D := xD g) (ci := 5) (v := .ref wc) (C := RX5) (T := TX5) (N := 8) hx hb hts hFX5 hown hK hP 2 rfl rfl 5 (by decide) (hts (.fieldLink RX5 26 "Stevedore$SlotGiver" "wayCost" "[I") (by decide +kernel)) (fun _ h9 => h9) rfl dX5_shortenOverSpare_67 ?_
                refine lv_iload_n hx hb dX5_shortenOverSpare_70 rfl (lv_at hl 1 rfl) ?_
                refine va_iald hx hb hK hP 3 0 rfl rfl (vp_in_nI (by omega) (by omega)) dX5_shortenOverSpare_71 ?_
                refine lv_topi (fun v_57 ev => ?_)
                obtain rfl : v_57 = iI (dk k) := ev.trans (congrArg (fun q9 => iI (dk q9)) (nI_clamp (by omega)))
                have b_58 := hb_32 k
                refine lv_iconst (v := (-1)) hx hb dX5_shortenOverSpare_72 (by decide) ?_
                have hPc := hP.sub (ws' := [(sg, .inr (5, [g0, g1, .ref ro, .ref us, g4, .ref wc, .ref nx, .ref pu])), (wc, .inl (xI g, 18, .inl (fun j => iI (dk j)))), (nx, .inl (xI g, 18, .inl (fun j => nI (nk j)))), (pu, .inl (xI g, 18, .inl (fun j => iI (pk j))))]) [2, 3, 4, 5] rfl
                have hDc := hD.sub (ws' := [(sg, .inr (5, [g0, g1, .ref ro, .ref us, g4, .ref wc, .ref nx, .ref pu])), (wc, .inl (xI g, 18, .inl (fun j => iI (dk j)))), (nx, .inl (xI g, 18, .inl (fun j => nI (nk j)))), (pu, .inl (xI g, 18, .inl (fun j => iI (pk j))))]) [2, 3, 4, 5] (by decide) rfl
                have hFc := va_free (wc := [(sg, .inr (5, [g0, g1, .ref ro, .ref us, g4, .ref wc, .ref nx, .ref pu])), (wc, .inl (xI g, 18, .inl (fun j => iI (dk j)))), (nx, .inl (xI g, 18, .inl (fun j => nI (nk j)))), (pu, .inl (xI g, 18, .inl (fun j => iI (pk j))))]) hD hS hA [2, 3, 4, 5] rfl
                refine va_calli (va_runV (As := [.int 17, .int (nI k), .int (iI (dk k)), .int (-1)]) (rest := []) ⟨hx, hb, hml, hown, hts⟩ (g_shorten l g H.size sg wc nx pu 17 k (dk k) (-1) g0 g1 (.ref ro) (.ref us) g4 dk nk pk (by first | assumption | omega) (by first | assumption | omega) (by first | assumption | omega) (by first | assumption | omega) hb_32 hb_33 hb_34) (cwV 4 hts gX5_shortenOverSpare_X5_shorten rfl rfl rfl (by decide +kernel) ⟨Nat.le_of_ble_eq_true rfl, Nat.le_of_ble_eq_true rfl⟩) ⟨xB.blind, va_recv hK hPc (ci := 5) (q0 := 0) rfl rfl, fun U9 hU9 hW9 => ⟨rfl, xB.mk hPc hK hDc hU9 hW9⟩⟩ rfl rfl hl.1 rfl (lv_room (Nat.le_of_ble_eq_true rfl)) dX5_shortenOverSpare_73 ⟨Nat.le_of_ble_eq_true rfl, Nat.le_of_ble_eq_true rfl⟩) hS (fun q _ h => hFc q h) hFc (fun r_59 _ t H1 locs ht hvm hw_60 hB hz1 hk1 hS => ?_)
                obtain ⟨d1_61, n1_62, p1_63, hc_64, hb_65, hb_66, hb_67, hP1, hK1, hD1⟩ := hB
                rw [ht] at hP1
                obtain ⟨hP, hD⟩ := va_join (wr := [(ro, .inl (xI g, 17, .inl (fun j => iI (room j)))), (us, .inl (xI g, 17, .inl (fun j => iI (used j))))]) (w1 := [(sg, .inr (5, [g0, g1, .ref ro, .ref us, g4, .ref wc, .ref nx, .ref pu])), (wc, .inl (xI g, 18, .inl (fun j => iI (d1_61 j)))), (nx, .inl (xI g, 18, .inl (fun j => nI (n1_62 j)))), (pu, .inl (xI g, 18, .inl (fun j => iI (p1_63 j))))]) hP hD [2, 3, 4, 5] [0, 1] rfl rfl (by decide) (by decide) hk1 hFc hP1 hD1
                generalize H1 = H at hP hS ⊢
                have hP : va_P (xD g) vwCl [(ro, .inl (xI g, 17, .inl (fun j => iI (room j)))), (us, .inl (xI g, 17, .inl (fun j => iI (used j)))), (sg, .inr (5, [g0, g1, .ref ro, .ref us, g4, .ref wc, .ref nx, .ref pu])), (wc, .inl (xI g, 18, .inl (fun j => iI (d1_61 j)))), (nx, .inl (xI g, 18, .inl (fun j => nI (n1_62 j)))), (pu, .inl (xI g, 18, .inl (fun j => iI (p1_63 j))))] H := hP
                have hD : va_D A [(ro, .inl (xI g, 17, .inl (fun j => iI (room j)))), (us, .inl (xI g, 17, .inl (fun j => iI (used j)))), (sg, .inr (5, [g0, g1, .ref ro, .ref us, g4, .ref wc, .ref nx, .ref pu])), (wc, .inl (xI g, 18, .inl (fun j => iI (d1_61 j)))), (nx, .inl (xI g, 18, .inl (fun j => nI (n1_62 j)))), (pu, .inl (xI g, 18, .inl (fun j => iI (p1_63 j))))] := hD
                try dsimp only at hw_60
                rcases hw_60 with ⟨rfl, hw_60⟩ | ⟨rfl, hw_60⟩
                · obtain ⟨hbf_68, hle_68, hu_68, hn_68⟩ := sBF_try hp hbf_52 (he2 k (by omega) (by omega)) (Int.zero_add _).symm (Or.inl (Int.le_refl _)) hc_64
                  refine lv_if_ne (tgt := 83) hx hb dX5_shortenOverSpare_76 (by decide) (fun _ => ?_) (fun c0 => absurd c0 (by decide))
                  refine lv_iconst (v := 1) hx hb dX5_shortenOverSpare_83 (by decide) ?_
                  refine lv_goto (tgt := 88) hx hb dX5_shortenOverSpare_84 (by decide) ?_
                  refine lv_istore_n (lv' := [(1, .int 1), (2, .int (nI k)), (0, .ref sg)]) hx hb dX5_shortenOverSpare_88 rfl hl (by decide) rfl (fun ls hl => ?_)
                  refine lv_iinc (v := nI (k + 1)) (lv' := [(2, .int (nI (k + 1))), (1, .int 1), (0, .ref sg)]) hx hb dX5_shortenOverSpare_89 hl (k := 1) rfl (nI_add k 1) (by decide) rfl (fun ls hl => ?_)
                  refine lv_goto (tgt := 4) hx hb dX5_shortenOverSpare_92 (by decide) ?_
                  have hP := hP.sub (ws' := [(sg, .inr (5, [g0, g1, .ref ro, .ref us, g4, .ref wc, .ref nx, .ref pu])), (ro, .inl (xI g, 17, .inl (fun j => iI (room j)))), (us, .inl (xI g, 17, .inl (fun j => iI (used j)))), (wc, .inl (xI g, 18, .inl (fun j => iI (d1_61 j)))), (nx, .inl (xI g, 18, .inl (fun j => nI (n1_62 j)))), (pu, .inl (xI g, 18, .inl (fun j => iI (p1_63 j))))]) [2, 0, 1, 3, 4, 5] rfl
                  have hD := hD.sub (ws' := [(sg, .inr (5, [g0, g1, .ref ro, .ref us, g4, .ref wc, .ref nx, .ref pu])), (ro, .inl (xI g, 17, .inl (fun j => iI (room j)))), (us, .inl (xI g, 17, .inl (fun j => iI (used j)))), (wc, .inl (xI g, 18, .inl (fun j => iI (d1_61 j)))), (nx, .inl (xI g, 18, .inl (fun j => nI (n1_62 j)))), (pu, .inl (xI g, 18, .inl (fun j => iI (p1_63 j))))]) [2, 0, 1, 3, 4, 5] (by decide) rfl
                  exact ih4 (k + 1) d1_61 n1_62 p1_63 1 _ _ _ (by omega) (by omega) hbf_68 (fun x => by have y := hlk x; have a_52 := hle_52 x; have a_68 := hle_68 x; omega) (sP1_more hpk (fun x => by have a_52 := hle_52 x; have a_68 := hle_68 x; omega) (fun q => by have y1 := hlk k; have y2 := hlk 17; have a_52 := hle_52 k; have z_52 := hle_52 17; have o_52 := hu_52; have a_68 := hle_68 k; have z_68 := hle_68 17; have o_68 := hu_68; omega) (fun q => by have y1 := hlk k; have y2 := hlk 17; have a_52 := hle_52 k; have z_52 := hle_52 17; have o_52 := hu_52; have a_68 := hle_68 k; have z_68 := hle_68 17; have o_68 := hu_68; omega)) (by first | exact hfk | exact Or.inl rfl | exact Or.inr ⟨rfl, (hfk.resolve_left (by omega)).2⟩) hb_65 hb_66 hb_67 hP hD hS (by rw [(show iI 1 = (1 : Int32) from by decide)]; exact lv_sub hl [0, 2, 1] rfl)
                · obtain ⟨hbf_69, hle_69, hu_69, hn_69⟩ := sBF_try hp hbf_52 (he2 k (by omega) (by omega)) (Int.zero_add _).symm (Or.inl (Int.le_refl _)) hc_64
                  obtain ⟨rfl, rfl, rfl⟩ := hc_64.2 hw_60
                  refine lv_if_ne (tgt := 83) hx hb dX5_shortenOverSpare_76 (by decide) (fun c0 => absurd (by decide) c0) (fun _ => ?_)
                  refine lv_iload_n hx hb dX5_shortenOverSpare_79 rfl (lv_at hl 0 rfl) ?_
                  refine lv_if_eq (tgt := 87) hx hb dX5_shortenOverSpare_80 (by decide) (fun _ => ?_) (fun c0 => absurd (by decide) c0)
                  refine lv_iconst (v := 0) hx hb dX5_shortenOverSpare_87 (by decide) ?_
                  refine lv_istore_n (lv' := [(1, .int 0), (2, .int (nI k)), (0, .ref sg)]) hx hb dX5_shortenOverSpare_88 rfl hl (by decide) rfl (fun ls hl => ?_)
                  refine lv_iinc (v := nI (k + 1)) (lv' := [(2, .int (nI (k + 1))), (1, .int 0), (0, .ref sg)]) hx hb dX5_shortenOverSpare_89 hl (k := 1) rfl (nI_add k 1) (by decide) rfl (fun ls hl => ?_)
                  refine lv_goto (tgt := 4) hx hb dX5_shortenOverSpare_92 (by decide) ?_
                  have hP := hP.sub (ws' := [(sg, .inr (5, [g0, g1, .ref ro, .ref us, g4, .ref wc, .ref nx, .ref pu])), (ro, .inl (xI g, 17, .inl (fun j => iI (room j)))), (us, .inl (xI g, 17, .inl (fun j => iI (used j)))), (wc, .inl (xI g, 18, .inl (fun j => iI (dk j)))), (nx, .inl (xI g, 18, .inl (fun j => nI (nk j)))), (pu, .inl (xI g, 18, .inl (fun j => iI (pk j))))]) [2, 0, 1, 3, 4, 5] rfl
                  have hD := hD.sub (ws' := [(sg, .inr (5, [g0, g1, .ref ro, .ref us, g4, .ref wc, .ref nx, .ref pu])), (ro, .inl (xI g, 17, .inl (fun j => iI (room j)))), (us, .inl (xI g, 17, .inl (fun j => iI (used j)))), (wc, .inl (xI g, 18, .inl (fun j => iI (dk j)))), (nx, .inl (xI g, 18, .inl (fun j => nI (nk j)))), (pu, .inl (xI g, 18, .inl (fun j => iI (pk j))))]) [2, 0, 1, 3, 4, 5] (by decide) rfl
                  exact ih4 (k + 1) dk nk pk 0 _ _ _ (by omega) (by omega) hbf_69 (fun x => by have y := hlk x; have a_52 := hle_52 x; have a_69 := hle_69 x; omega) (sP1_more hpk (fun x => by have a_52 := hle_52 x; have a_69 := hle_69 x; omega) (fun q => by have y1 := hlk k; have y2 := hlk 17; have a_52 := hle_52 k; have z_52 := hle_52 17; have o_52 := hu_52; have a_69 := hle_69 k; have z_69 := hle_69 17; have o_69 := hu_69; omega) (fun q => by have y1 := hlk k; have y2 := hlk 17; have a_52 := hle_52 k; have z_52 := hle_52 17; have o_52 := hu_52; have a_69 := hle_69 k; have z_69 := hle_69 17; have o_69 := hu_69; omega)) (by first | exact hfk | exact Or.inl rfl | exact Or.inr ⟨rfl, (hfk.resolve_left (by omega)).2⟩) hb_65 hb_66 hb_67 hP hD hS (by rw [(show iI 0 = (0 : Int32) from by decide)]; exact lv_sub hl [0, 2, 1] rfl)
            · have nc_53 := mt (iEq (a := fl) (b := 0) rfl (by decide) (by omega)).mpr c_53
              refine lv_iconst (v := 1) hx hb dX5_shortenOverSpare_47 (by decide) ?_
              refine lv_goto (tgt := 52) hx hb dX5_shortenOverSpare_48 (by decide) ?_
              refine lv_istore_n (lv' := [(1, .int 1), (2, .int (nI k)), (0, .ref sg)]) hx hb dX5_shortenOverSpare_52 rfl hl (by decide) rfl (fun ls hl => ?_)
              refine lv_aload_n hx hb dX5_shortenOverSpare_53 rfl (lv_at hl 2 rfl) ?_
              refine va_get (D := xD g) (ci := 5) (v := .ref us) (C := RX5) (T := TX5) (N := 8) hx hb hts hFX5 hown hK hP 2 rfl rfl 3 (by decide) (hts (.fieldLink RX5 20 "Stevedore$SlotGiver" "used" "[I") (by decide +kernel)) (fun _ h9 => h9) rfl dX5_shortenOverSpare_54 ?_
              refine lv_iload_n hx hb dX5_shortenOverSpare_57 rfl (lv_at hl 1 rfl) ?_
              refine va_iald hx hb hK hP 1 0 rfl rfl (vp_in_nI (by omega) (by omega)) dX5_shortenOverSpare_58 ?_
              refine lv_topi (fun v_70 ev => ?_)
              obtain rfl : v_70 = iI (used k) := ev.trans (congrArg (fun q9 => iI (used q9)) (nI_clamp (by omega)))
              have b_71 := b_used k
              refine lv_if_le (tgt := 89) hx hb dX5_shortenOverSpare_59 (by decide) (fun c_72 => ?_) (fun c_72 => ?_)
              · have nc_72 := (iLe (a := used k) (b := 0) rfl (by decide) (by omega)).mp c_72
                refine lv_iinc (v := nI (k + 1)) (lv' := [(2, .int (nI (k + 1))), (1, .int 1), (0, .ref sg)]) hx hb dX5_shortenOverSpare_89 hl (k := 1) rfl (nI_add k 1) (by decide) rfl (fun ls hl => ?_)
                refine lv_goto (tgt := 4) hx hb dX5_shortenOverSpare_92 (by decide) ?_
                have hP := hP.sub (ws' := [(sg, .inr (5, [g0, g1, .ref ro, .ref us, g4, .ref wc, .ref nx, .ref pu])), (ro, .inl (xI g, 17, .inl (fun j => iI (room j)))), (us, .inl (xI g, 17, .inl (fun j => iI (used j)))), (wc, .inl (xI g, 18, .inl (fun j => iI (dk j)))), (nx, .inl (xI g, 18, .inl (fun j => nI (nk j)))), (pu, .inl (xI g, 18, .inl (fun j => iI (pk j))))]) [2, 0, 1, 3, 4, 5] rfl
                have hD := hD.sub (ws' := [(sg, .inr (5, [g0, g1, .ref ro, .ref us, g4, .ref wc, .ref nx, .ref pu])), (ro, .inl (xI g, 17, .inl (fun j => iI (room j)))), (us, .inl (xI g, 17, .inl (fun j => iI (used j)))), (wc, .inl (xI g, 18, .inl (fun j => iI (dk j)))), (nx, .inl (xI g, 18, .inl (fun j => nI (nk j)))), (pu, .inl (xI g, 18, .inl (fun j => iI (pk j))))]) [2, 0, 1, 3, 4, 5] (by decide) rfl
                exact ih4 (k + 1) dk nk pk 1 _ _ _ (by omega) (by omega) hbf_52 (fun x => by have y := hlk x; have a_52 := hle_52 x; omega) (sP1_more hpk (fun x => by have a_52 := hle_52 x; omega) (fun q => by have y1 := hlk k; have y2 := hlk 17; have a_52 := hle_52 k; have z_52 := hle_52 17; have o_52 := hu_52; omega) (fun q => by have y1 := hlk k; have y2 := hlk 17; have a_52 := hle_52 k; have z_52 := hle_52 17; have o_52 := hu_52; omega)) (by first | exact hfk | exact Or.inl rfl | exact Or.inr ⟨rfl, (hfk.resolve_left (by omega)).2⟩) hb_32 hb_33 hb_34 hP hD hS (by rw [(show iI 1 = (1 : Int32) from by decide)]; exact lv_sub hl [0, 2, 1] rfl)
              · have nc_72 := mt (iLe (a := used k) (b := 0) rfl (by decide) (by omega)).mpr c_72
                refine lv_aload_n hx hb dX5_shortenOverSpare_62 rfl (lv_at hl 2 rfl) ?_
                refine lv_bipush (v := 17) hx hb dX5_shortenOverSpare_63 (by decide) ?_
                refine lv_iload_n hx hb dX5_shortenOverSpare_65 rfl (lv_at hl 1 rfl) ?_
                refine lv_aload_n hx hb dX5_shortenOverSpare_66 rfl (lv_at hl 2 rfl) ?_
                refine va_get (D := xD g) (ci := 5) (v := .ref wc) (C := RX5) (T := TX5) (N := 8) hx hb hts hFX5 hown hK hP 2 rfl rfl 5 (by decide) (hts (.fieldLink RX5 26 "Stevedore$SlotGiver" "wayCost" "[I") (by decide +kernel)) (fun _ h9 => h9) rfl dX5_shortenOverSpare_67 ?_
                refine lv_iload_n hx hb dX5_shortenOverSpare_70 rfl (lv_at hl 1 rfl) ?_
                refine va_iald hx hb hK hP 3 0 rfl rfl (vp_in_nI (by omega) (by omega)) dX5_shortenOverSpare_71 ?_
                refine lv_topi (fun v_73 ev => ?_)
                obtain rfl : v_73 = iI (dk k) := ev.trans (congrArg (fun q9 => iI (dk q9)) (nI_clamp (by omega)))
                have b_74 := hb_32 k
                refine lv_iconst (v := (-1)) hx hb dX5_shortenOverSpare_72 (by decide) ?_
                have hPc := hP.sub (ws' := [(sg, .inr (5, [g0, g1, .ref ro, .ref us, g4, .ref wc, .ref nx, .ref pu])), (wc, .inl (xI g, 18, .inl (fun j => iI (dk j)))), (nx, .inl (xI g, 18, .inl (fun j => nI (nk j)))), (pu, .inl (xI g, 18, .inl (fun j => iI (pk j))))]) [2, 3, 4, 5] rfl
                have hDc := hD.sub (ws' := [(sg, .inr (5, [g0, g1, .ref ro, .ref us, g4, .ref wc, .ref nx, .ref pu])), (wc, .inl (xI g, 18, .inl (fun j => iI (dk j)))), (nx, .inl (xI g, 18, .inl (fun j => nI (nk j)))), (pu, .inl (xI g, 18, .inl (fun j => iI (pk j))))]) [2, 3, 4, 5] (by decide) rfl
                have hFc := va_free (wc := [(sg, .inr (5, [g0, g1, .ref ro, .ref us, g4, .ref wc, .ref nx, .ref pu])), (wc, .inl (xI g, 18, .inl (fun j => iI (dk j)))), (nx, .inl (xI g, 18, .inl (fun j => nI (nk j)))), (pu, .inl (xI g, 18, .inl (fun j => iI (pk j))))]) hD hS hA [2, 3, 4, 5] rfl
                refine va_calli (va_runV (As := [.int 17, .int (nI k), .int (iI (dk k)), .int (-1)]) (rest := []) ⟨hx, hb, hml, hown, hts⟩ (g_shorten l g H.size sg wc nx pu 17 k (dk k) (-1) g0 g1 (.ref ro) (.ref us) g4 dk nk pk (by first | assumption | omega) (by first | assumption | omega) (by first | assumption | omega) (by first | assumption | omega) hb_32 hb_33 hb_34) (cwV 4 hts gX5_shortenOverSpare_X5_shorten rfl rfl rfl (by decide +kernel) ⟨Nat.le_of_ble_eq_true rfl, Nat.le_of_ble_eq_true rfl⟩) ⟨xB.blind, va_recv hK hPc (ci := 5) (q0 := 0) rfl rfl, fun U9 hU9 hW9 => ⟨rfl, xB.mk hPc hK hDc hU9 hW9⟩⟩ rfl rfl hl.1 rfl (lv_room (Nat.le_of_ble_eq_true rfl)) dX5_shortenOverSpare_73 ⟨Nat.le_of_ble_eq_true rfl, Nat.le_of_ble_eq_true rfl⟩) hS (fun q _ h => hFc q h) hFc (fun r_75 _ t H1 locs ht hvm hw_76 hB hz1 hk1 hS => ?_)
                obtain ⟨d1_77, n1_78, p1_79, hc_80, hb_81, hb_82, hb_83, hP1, hK1, hD1⟩ := hB
                rw [ht] at hP1
                obtain ⟨hP, hD⟩ := va_join (wr := [(ro, .inl (xI g, 17, .inl (fun j => iI (room j)))), (us, .inl (xI g, 17, .inl (fun j => iI (used j))))]) (w1 := [(sg, .inr (5, [g0, g1, .ref ro, .ref us, g4, .ref wc, .ref nx, .ref pu])), (wc, .inl (xI g, 18, .inl (fun j => iI (d1_77 j)))), (nx, .inl (xI g, 18, .inl (fun j => nI (n1_78 j)))), (pu, .inl (xI g, 18, .inl (fun j => iI (p1_79 j))))]) hP hD [2, 3, 4, 5] [0, 1] rfl rfl (by decide) (by decide) hk1 hFc hP1 hD1
                generalize H1 = H at hP hS ⊢
                have hP : va_P (xD g) vwCl [(ro, .inl (xI g, 17, .inl (fun j => iI (room j)))), (us, .inl (xI g, 17, .inl (fun j => iI (used j)))), (sg, .inr (5, [g0, g1, .ref ro, .ref us, g4, .ref wc, .ref nx, .ref pu])), (wc, .inl (xI g, 18, .inl (fun j => iI (d1_77 j)))), (nx, .inl (xI g, 18, .inl (fun j => nI (n1_78 j)))), (pu, .inl (xI g, 18, .inl (fun j => iI (p1_79 j))))] H := hP
                have hD : va_D A [(ro, .inl (xI g, 17, .inl (fun j => iI (room j)))), (us, .inl (xI g, 17, .inl (fun j => iI (used j)))), (sg, .inr (5, [g0, g1, .ref ro, .ref us, g4, .ref wc, .ref nx, .ref pu])), (wc, .inl (xI g, 18, .inl (fun j => iI (d1_77 j)))), (nx, .inl (xI g, 18, .inl (fun j => nI (n1_78 j)))), (pu, .inl (xI g, 18, .inl (fun j => iI (p1_79 j))))] := hD
                try dsimp only at hw_76
                rcases hw_76 with ⟨rfl, hw_76⟩ | ⟨rfl, hw_76⟩
                · obtain ⟨hbf_84, hle_84, hu_84, hn_84⟩ := sBF_try hp hbf_52 (he2 k (by omega) (by omega)) (Int.zero_add _).symm (Or.inl (Int.le_refl _)) hc_80
                  refine lv_if_ne (tgt := 83) hx hb dX5_shortenOverSpare_76 (by decide) (fun _ => ?_) (fun c0 => absurd c0 (by decide))
                  refine lv_iconst (v := 1) hx hb dX5_shortenOverSpare_83 (by decide) ?_
                  refine lv_goto (tgt := 88) hx hb dX5_shortenOverSpare_84 (by decide) ?_
                  refine lv_istore_n (lv' := [(1, .int 1), (2, .int (nI k)), (0, .ref sg)]) hx hb dX5_shortenOverSpare_88 rfl hl (by decide) rfl (fun ls hl => ?_)
                  refine lv_iinc (v := nI (k + 1)) (lv' := [(2, .int (nI (k + 1))), (1, .int 1), (0, .ref sg)]) hx hb dX5_shortenOverSpare_89 hl (k := 1) rfl (nI_add k 1) (by decide) rfl (fun ls hl => ?_)
                  refine lv_goto (tgt := 4) hx hb dX5_shortenOverSpare_92 (by decide) ?_
                  have hP := hP.sub (ws' := [(sg, .inr (5, [g0, g1, .ref ro, .ref us, g4, .ref wc, .ref nx, .ref pu])), (ro, .inl (xI g, 17, .inl (fun j => iI (room j)))), (us, .inl (xI g, 17, .inl (fun j => iI (used j)))), (wc, .inl (xI g, 18, .inl (fun j => iI (d1_77 j)))), (nx, .inl (xI g, 18, .inl (fun j => nI (n1_78 j)))), (pu, .inl (xI g, 18, .inl (fun j => iI (p1_79 j))))]) [2, 0, 1, 3, 4, 5] rfl
                  have hD := hD.sub (ws' := [(sg, .inr (5, [g0, g1, .ref ro, .ref us, g4, .ref wc, .ref nx, .ref pu])), (ro, .inl (xI g, 17, .inl (fun j => iI (room j)))), (us, .inl (xI g, 17, .inl (fun j => iI (used j)))), (wc, .inl (xI g, 18, .inl (fun j => iI (d1_77 j)))), (nx, .inl (xI g, 18, .inl (fun j => nI (n1_78 j)))), (pu, .inl (xI g, 18, .inl (fun j => iI (p1_79 j))))]) [2, 0, 1, 3, 4, 5] (by decide) rfl
                  exact ih4 (k + 1) d1_77 n1_78 p1_79 1 _ _ _ (by omega) (by omega) hbf_84 (fun x => by have y := hlk x; have a_52 := hle_52 x; have a_84 := hle_84 x; omega) (sP1_more hpk (fun x => by have a_52 := hle_52 x; have a_84 := hle_84 x; omega) (fun q => by have y1 := hlk k; have y2 := hlk 17; have a_52 := hle_52 k; have z_52 := hle_52 17; have o_52 := hu_52; have a_84 := hle_84 k; have z_84 := hle_84 17; have o_84 := hu_84; omega) (fun q => by have y1 := hlk k; have y2 := hlk 17; have a_52 := hle_52 k; have z_52 := hle_52 17; have o_52 := hu_52; have a_84 := hle_84 k; have z_84 := hle_84 17; have o_84 := hu_84; omega)) (by first | exact hfk | exact Or.inl rfl | exact Or.inr ⟨rfl, (hfk.resolve_left (by omega)).2⟩) hb_81 hb_82 hb_83 hP hD hS (by rw [(show iI 1 = (1 : Int32) from by decide)]; exact lv_sub hl [0, 2, 1] rfl)
                · obtain ⟨hbf_85, hle_85, hu_85, hn_85⟩ := sBF_try hp hbf_52 (he2 k (by omega) (by omega)) (Int.zero_add _).symm (Or.inl (Int.le_refl _)) hc_80
                  obtain ⟨rfl, rfl, rfl⟩ := hc_80.2 hw_76
                  refine lv_if_ne (tgt := 83) hx hb dX5_shortenOverSpare_76 (by decide) (fun c0 => absurd (by decide) c0) (fun _ => ?_)
                  refine lv_iload_n hx hb dX5_shortenOverSpare_79 rfl (lv_at hl 0 rfl) ?_
                  refine lv_if_eq (tgt := 87) hx hb dX5_shortenOverSpare_80 (by decide) (fun c0 => absurd c0 (by decide)) (fun _ => ?_)
                  refine lv_iconst (v := 1) hx hb dX5_shortenOverSpare_83 (by decide) ?_
                  refine lv_goto (tgt := 88) hx hb dX5_shortenOverSpare_84 (by decide) ?_
                  refine lv_istore_n (lv' := [(1, .int 1), (2, .int (nI k)), (0, .ref sg)]) hx hb dX5_shortenOverSpare_88 rfl hl (by decide) rfl (fun ls hl => ?_)
                  refine lv_iinc (v := nI (k + 1)) (lv' := [(2, .int (nI (k + 1))), (1, .int 1), (0, .ref sg)]) hx hb dX5_shortenOverSpare_89 hl (k := 1) rfl (nI_add k 1) (by decide) rfl (fun ls hl => ?_)
                  refine lv_goto (tgt := 4) hx hb dX5_shortenOverSpare_92 (by decide) ?_
                  have hP := hP.sub (ws' := [(sg, .inr (5, [g0, g1, .ref ro, .ref us, g4, .ref wc, .ref nx, .ref pu])), (ro, .inl (xI g, 17, .inl (fun j => iI (room j)))), (us, .inl (xI g, 17, .inl (fun j => iI (used j)))), (wc, .inl (xI g, 18, .inl (fun j => iI (dk j)))), (nx, .inl (xI g, 18, .inl (fun j => nI (nk j)))), (pu, .inl (xI g, 18, .inl (fun j => iI (pk j))))]) [2, 0, 1, 3, 4, 5] rfl
                  have hD := hD.sub (ws' := [(sg, .inr (5, [g0, g1, .ref ro, .ref us, g4, .ref wc, .ref nx, .ref pu])), (ro, .inl (xI g, 17, .inl (fun j => iI (room j)))), (us, .inl (xI g, 17, .inl (fun j => iI (used j)))), (wc, .inl (xI g, 18, .inl (fun j => iI (dk j)))), (nx, .inl (xI g, 18, .inl (fun j => nI (nk j)))), (pu, .inl (xI g, 18, .inl (fun j => iI (pk j))))]) [2, 0, 1, 3, 4, 5] (by decide) rfl
                  exact ih4 (k + 1) dk nk pk 1 _ _ _ (by omega) (by omega) hbf_85 (fun x => by have y := hlk x; have a_52 := hle_52 x; have a_85 := hle_85 x; omega) (sP1_more hpk (fun x => by have a_52 := hle_52 x; have a_85 := hle_85 x; omega) (fun q => by have y1 := hlk k; have y2 := hlk 17; have a_52 := hle_52 k; have z_52 := hle_52 17; have o_52 := hu_52; have a_85 := hle_85 k; have z_85 := hle_85 17; have o_85 := hu_85; omega) (fun q => by have y1 := hlk k; have y2 := hlk 17; have a_52 := hle_52 k; have z_52 := hle_52 17; have o_52 := hu_52; have a_85 := hle_85 k; have z_85 := hle_85 17; have o_85 := hu_85; omega)) (by first | exact hfk | exact Or.inl rfl | exact Or.inr ⟨rfl, (hfk.resolve_left (by omega)).2⟩) hb_81 hb_82 hb_83 hP hD hS (by rw [(show iI 1 = (1 : Int32) from by decide)]; exact lv_sub hl [0, 2, 1] rfl)
  exact hloop4 (18) 0 dd nxt psh 0 _ _ _ (by omega) (by omega) hbf (fun x => Int.le_refl _) (fun q hq => absurd hq (Nat.not_lt_zero _)) (Or.inr ⟨rfl, rfl⟩) b_dd b_nxt b_psh hP hD hS (by rw [(show nI 0 = (0 : Int32) from by decide), (show iI 0 = (0 : Int32) from by decide)]; exact lv_sub hl [0, 2, 1] rfl)
theorem dX5_shortenByPush_0 : decode cX5_shortenByPush 0 = .ok (.iconst 0, 1) := by decide +kernel
theorem dX5_shortenByPush_1 : decode cX5_shortenByPush 1 = .ok (.istore_n 2, 1) := by decide +kernel
theorem dX5_shortenByPush_2 : decode cX5_shortenByPush 2 = .ok (.aload_n 0, 1) := by decide +kernel
theorem dX5_shortenByPush_3 : decode cX5_shortenByPush 3 = .ok (.getfield 23, 3) := by decide +kernel
theorem dX5_shortenByPush_6 : decode cX5_shortenByPush 6 = .ok (.iload_n 1, 1) := by decide +kernel
theorem dX5_shortenByPush_7 : decode cX5_shortenByPush 7 = .ok (.iaload, 1) := by decide +kernel
theorem dX5_shortenByPush_8 : decode cX5_shortenByPush 8 = .ok (.istore_n 3, 1) := by decide +kernel
theorem dX5_shortenByPush_9 : decode cX5_shortenByPush 9 = .ok (.iconst 0, 1) := by decide +kernel
theorem dX5_shortenByPush_10 : decode cX5_shortenByPush 10 = .ok (.istore 4, 2) := by decide +kernel
theorem dX5_shortenByPush_12 : decode cX5_shortenByPush 12 = .ok (.iload 4, 2) := by decide +kernel
theorem dX5_shortenByPush_14 : decode cX5_shortenByPush 14 = .ok (.bipush 16, 2) := by decide +kernel
theorem dX5_shortenByPush_16 : decode cX5_shortenByPush 16 = .ok (.if_icmp .gt 92, 3) := by decide +kernel
theorem dX5_shortenByPush_108 : decode cX5_shortenByPush 108 = .ok (.iload_n 2, 1) := by decide +kernel
theorem dX5_shortenByPush_109 : decode cX5_shortenByPush 109 = .ok (.ireturn, 1) := by decide +kernel
theorem dX5_shortenByPush_19 : decode cX5_shortenByPush 19 = .ok (.iload 4, 2) := by decide +kernel
theorem dX5_shortenByPush_21 : decode cX5_shortenByPush 21 = .ok (.iload_n 3, 1) := by decide +kernel
theorem dX5_shortenByPush_22 : decode cX5_shortenByPush 22 = .ok (.if_icmp .eq 80, 3) := by decide +kernel
theorem dX5_shortenByPush_102 : decode cX5_shortenByPush 102 = .ok (.iinc 4 1, 3) := by decide +kernel
theorem dX5_shortenByPush_105 : decode cX5_shortenByPush 105 = .ok (.goto (-93), 3) := by decide +kernel
theorem dX5_shortenByPush_25 : decode cX5_shortenByPush 25 = .ok (.aload_n 0, 1) := by decide +kernel
theorem dX5_shortenByPush_26 : decode cX5_shortenByPush 26 = .ok (.getfield 11, 3) := by decide +kernel
theorem dX5_shortenByPush_29 : decode cX5_shortenByPush 29 = .ok (.iload_n 1, 1) := by decide +kernel
theorem dX5_shortenByPush_30 : decode cX5_shortenByPush 30 = .ok (.aaload, 1) := by decide +kernel
theorem dX5_shortenByPush_31 : decode cX5_shortenByPush 31 = .ok (.iload 4, 2) := by decide +kernel
theorem dX5_shortenByPush_33 : decode cX5_shortenByPush 33 = .ok (.iaload, 1) := by decide +kernel
theorem dX5_shortenByPush_34 : decode cX5_shortenByPush 34 = .ok (.ldc 52, 2) := by decide +kernel
theorem dX5_shortenByPush_36 : decode cX5_shortenByPush 36 = .ok (.if_icmp .ge 66, 3) := by decide +kernel
theorem dX5_shortenByPush_39 : decode cX5_shortenByPush 39 = .ok (.aload_n 0, 1) := by decide +kernel
theorem dX5_shortenByPush_40 : decode cX5_shortenByPush 40 = .ok (.getfield 26, 3) := by decide +kernel
theorem dX5_shortenByPush_43 : decode cX5_shortenByPush 43 = .ok (.iload 4, 2) := by decide +kernel
theorem dX5_shortenByPush_45 : decode cX5_shortenByPush 45 = .ok (.iaload, 1) := by decide +kernel
theorem dX5_shortenByPush_46 : decode cX5_shortenByPush 46 = .ok (.ldc 52, 2) := by decide +kernel
theorem dX5_shortenByPush_48 : decode cX5_shortenByPush 48 = .ok (.if_icmp .ge 54, 3) := by decide +kernel
theorem dX5_shortenByPush_51 : decode cX5_shortenByPush 51 = .ok (.aload_n 0, 1) := by decide +kernel
theorem dX5_shortenByPush_52 : decode cX5_shortenByPush 52 = .ok (.getfield 11, 3) := by decide +kernel
theorem dX5_shortenByPush_55 : decode cX5_shortenByPush 55 = .ok (.iload_n 1, 1) := by decide +kernel
theorem dX5_shortenByPush_56 : decode cX5_shortenByPush 56 = .ok (.aaload, 1) := by decide +kernel
theorem dX5_shortenByPush_57 : decode cX5_shortenByPush 57 = .ok (.iload 4, 2) := by decide +kernel
theorem dX5_shortenByPush_59 : decode cX5_shortenByPush 59 = .ok (.iaload, 1) := by decide +kernel
theorem dX5_shortenByPush_60 : decode cX5_shortenByPush 60 = .ok (.aload_n 0, 1) := by decide +kernel
theorem dX5_shortenByPush_61 : decode cX5_shortenByPush 61 = .ok (.getfield 11, 3) := by decide +kernel
theorem dX5_shortenByPush_64 : decode cX5_shortenByPush 64 = .ok (.iload_n 1, 1) := by decide +kernel
theorem dX5_shortenByPush_65 : decode cX5_shortenByPush 65 = .ok (.aaload, 1) := by decide +kernel
theorem dX5_shortenByPush_66 : decode cX5_shortenByPush 66 = .ok (.iload_n 3, 1) := by decide +kernel
theorem dX5_shortenByPush_67 : decode cX5_shortenByPush 67 = .ok (.iaload, 1) := by decide +kernel
theorem dX5_shortenByPush_68 : decode cX5_shortenByPush 68 = .ok (.isub, 1) := by decide +kernel
theorem dX5_shortenByPush_69 : decode cX5_shortenByPush 69 = .ok (.aload_n 0, 1) := by decide +kernel
theorem dX5_shortenByPush_70 : decode cX5_shortenByPush 70 = .ok (.getfield 26, 3) := by decide +kernel
theorem dX5_shortenByPush_73 : decode cX5_shortenByPush 73 = .ok (.iload 4, 2) := by decide +kernel
theorem dX5_shortenByPush_75 : decode cX5_shortenByPush 75 = .ok (.iaload, 1) := by decide +kernel
theorem dX5_shortenByPush_76 : decode cX5_shortenByPush 76 = .ok (.iadd, 1) := by decide +kernel
theorem dX5_shortenByPush_77 : decode cX5_shortenByPush 77 = .ok (.istore 5, 2) := by decide +kernel
theorem dX5_shortenByPush_79 : decode cX5_shortenByPush 79 = .ok (.aload_n 0, 1) := by decide +kernel
theorem dX5_shortenByPush_80 : decode cX5_shortenByPush 80 = .ok (.iload_n 3, 1) := by decide +kernel
theorem dX5_shortenByPush_81 : decode cX5_shortenByPush 81 = .ok (.iload 4, 2) := by decide +kernel
theorem dX5_shortenByPush_83 : decode cX5_shortenByPush 83 = .ok (.iload 5, 2) := by decide +kernel
theorem dX5_shortenByPush_85 : decode cX5_shortenByPush 85 = .ok (.iload_n 1, 1) := by decide +kernel
theorem dX5_shortenByPush_86 : decode cX5_shortenByPush 86 = .ok (.invokevirtual 64, 3) := by decide +kernel
set_option maxRecDepth 20000 in
theorem ggX5_shortenByPush_X5_shorten : GoodIn wsX5_shortenByPush wsX5_shorten := goodIn_r _ [9, 4, 10, 11, 12, 13, 14, 15, 16, 17, 18, 19] rfl (by decide +kernel)
set_option maxRecDepth 20000 in
theorem gX5_shortenByPush_X5_shorten : GoodIn wsX5_shortenByPush (wsV RX5 64 RX5 yX5_shorten wsX5_shorten) := goodIn_app (goodIn_of _ (by decide +kernel)) ggX5_shortenByPush_X5_shorten
theorem dX5_shortenByPush_89 : decode cX5_shortenByPush 89 = .ok (.ifCond .ne 7, 3) := by decide +kernel
theorem dX5_shortenByPush_96 : decode cX5_shortenByPush 96 = .ok (.iconst 1, 1) := by decide +kernel
theorem dX5_shortenByPush_97 : decode cX5_shortenByPush 97 = .ok (.goto 4, 3) := by decide +kernel
theorem dX5_shortenByPush_101 : decode cX5_shortenByPush 101 = .ok (.istore_n 2, 1) := by decide +kernel
theorem dX5_shortenByPush_92 : decode cX5_shortenByPush 92 = .ok (.iload_n 2, 1) := by decide +kernel
theorem dX5_shortenByPush_93 : decode cX5_shortenByPush 93 = .ok (.ifCond .eq 7, 3) := by decide +kernel
theorem dX5_shortenByPush_100 : decode cX5_shortenByPush 100 = .ok (.iconst 0, 1) := by decide +kernel
set_option maxHeartbeats 4000000 in
set_option maxRecDepth 100000 in
theorem g_shortenByPush (l : Launch) (g : xG) (sz : Nat) (sg : Nat) (co : Nat) (sl : Nat) (wc : Nat) (nx : Nat) (pu : Nat) (cn : Nat) (cr : Nat → Nat) (EE : Nat → Nat → Int → Int → Prop) (goal : Nat) (hh : Nat → Int) (g0 : Value) (g2 : Value) (g3 : Value) (cost : Nat → Nat → Int) (slot : Nat → Nat) (dd : Nat → Int) (nxt : Nat → Nat) (psh : Nat → Int)  (hp : sPot EE hh) (hhb : ∀ u, -680 ≤ hh u ∧ hh u ≤ 1000000) (hbf : ∃ t T, sBF EE goal dd nxt psh t T) (hcn : cn < 24) (he3 : ∀ s, s ≤ 16 → s ≠ slot cn → cost cn s < 1000000 → EE (slot cn) s (cost cn s - cost cn (slot cn)) (cn : Int)) (b_cost : ∀ i j, 0 ≤ cost i j ∧ cost i j ≤ 1000000) (b_slot : ∀ j, slot j ≤ 16) (b_dd : ∀ j, (-3000000) ≤ dd j ∧ dd j ≤ 1000000) (b_nxt : ∀ j, nxt j ≤ 17) (b_psh : ∀ j, (-1) ≤ psh j ∧ psh j ≤ 23) : Met l yX5_shortenByPush wsX5_shortenByPush ({ frames := 1, cells := 0, slots := 0, locals := 24 }) (va_Pc [.ref sg, .int (nI cn)] (fun U => xB g ([(sg, .inr (5, [g0, .ref co, g2, g3, .ref sl, .ref wc, .ref nx, .ref pu])), (co, .inl (xM g, 24, .inr (.inr (.inr (.inr (fun i => if i < 24 then some (cr i) else none))))))] ++ (xRI (xI g) 24 17 cr cost ++ [(sl, .inl (xI g, 24, .inl (fun j => nI (slot j)))), (wc, .inl (xI g, 18, .inl (fun j => iI (dd j)))), (nx, .inl (xI g, 18, .inl (fun j => nI (nxt j)))), (pu, .inl (xI g, 18, .inl (fun j => iI (psh j))))])) sz U)) (va_Qi (fun (r : Int32) (u : Nat → Int) => r = 1 ∨ (r = 0 ∧ u = dd)) (fun (u : Nat → Int) (t : State) => ∃ (n1 : Nat → Nat) (p1 : Nat → Int), ((∃ t T, sBF EE goal u n1 p1 t T) ∧ (∀ x, u x ≤ dd x) ∧ sP2 cost dd u cn (slot cn) 17) ∧ (∀ j, (-3000000) ≤ u j ∧ u j ≤ 1000000) ∧ (∀ j, n1 j ≤ 17) ∧ (∀ j, (-1) ≤ p1 j ∧ p1 j ≤ 23) ∧ xE g ([(sg, .inr (5, [g0, .ref co, g2, g3, .ref sl, .ref wc, .ref nx, .ref pu])), (co, .inl (xM g, 24, .inr (.inr (.inr (.inr (fun i => if i < 24 then some (cr i) else none))))))] ++ (xRI (xI g) 24 17 cr cost ++ [(sl, .inl (xI g, 24, .inl (fun j => nI (slot j)))), (wc, .inl (xI g, 18, .inl (fun j => iI (u j)))), (nx, .inl (xI g, 18, .inl (fun j => nI (n1 j)))), (pu, .inl (xI g, 18, .inl (fun j => iI (p1 j))))])) (va_A ([(sg, .inr (5, [g0, .ref co, g2, g3, .ref sl, .ref wc, .ref nx, .ref pu])), (co, .inl (xM g, 24, .inr (.inr (.inr (.inr (fun i => if i < 24 then some (cr i) else none))))))] ++ (xRI (xI g) 24 17 cr cost ++ [(sl, .inl (xI g, 24, .inl (fun j => nI (slot j)))), (wc, .inl (xI g, 18, .inl (fun j => iI (dd j)))), (nx, .inl (xI g, 18, .inl (fun j => nI (nxt j)))), (pu, .inl (xI g, 18, .inl (fun j => iI (psh j))))])) sz) t) (va_A ([(sg, .inr (5, [g0, .ref co, g2, g3, .ref sl, .ref wc, .ref nx, .ref pu])), (co, .inl (xM g, 24, .inr (.inr (.inr (.inr (fun i => if i < 24 then some (cr i) else none))))))] ++ (xRI (xI g) 24 17 cr cost ++ [(sl, .inl (xI g, 24, .inl (fun j => nI (slot j)))), (wc, .inl (xI g, 18, .inl (fun j => iI (dd j)))), (nx, .inl (xI g, 18, .inl (fun j => nI (nxt j)))), (pu, .inl (xI g, 18, .inl (fun j => iI (psh j))))])) sz)) 0 0 (va_A ([(sg, .inr (5, [g0, .ref co, g2, g3, .ref sl, .ref wc, .ref nx, .ref pu])), (co, .inl (xM g, 24, .inr (.inr (.inr (.inr (fun i => if i < 24 then some (cr i) else none))))))] ++ (xRI (xI g) 24 17 cr cost ++ [(sl, .inl (xI g, 24, .inl (fun j => nI (slot j)))), (wc, .inl (xI g, 18, .inl (fun j => iI (dd j)))), (nx, .inl (xI g, 18, .inl (fun j => nI (nxt j)))), (pu, .inl (xI g, 18, .inl (fun j => iI (psh j))))])) sz) := by
  refine Met.ofW (cc := cX5_shortenByPush) (maxL := 6) (ret := (some .boolean)) (by decide) rfl ?_
  intro p e s m args below meth c s₁ B hml hv
  obtain ⟨rfl, hsz, hP, hK, hD0⟩ := hv
  have hx := B.exec
  have hb := B.bytes
  have hr := B.returns
  have hts := atoms_spec (ws := wsX5_shortenByPush) B.pre
  have hown : s.vm.findClass RX5 = some m.cls := findClass_of_methodNamed B.named
  have hlocks := B.notSynchronized
  subst hsz
  have hD := hD0.self (sz := s.heap.size)
  generalize hAe : va_A ([(sg, .inr (5, [g0, .ref co, g2, g3, .ref sl, .ref wc, .ref nx, .ref pu])), (co, .inl (xM g, 24, .inr (.inr (.inr (.inr (fun i => if i < 24 then some (cr i) else none))))))] ++ (xRI (xI g) 24 17 cr cost ++ [(sl, .inl (xI g, 24, .inl (fun j => nI (slot j)))), (wc, .inl (xI g, 18, .inl (fun j => iI (dd j)))), (nx, .inl (xI g, 18, .inl (fun j => nI (nxt j)))), (pu, .inl (xI g, 18, .inl (fun j => iI (psh j))))])) s.heap.size = A at hD ⊢
  have hA : ∀ q : Nat, s.heap.size ≤ q → A q := fun q h => by rw [← hAe]; exact Or.inr h
  have hS : va_S A s.heap s.heap [] := va_S.rf
  have hl := lv_entry ([.ref sg, .int (nI cn)]) (n := 6) (Nat.le_of_ble_eq_true rfl)
  rw [lg_entry_eq]
  generalize (lg_sl ([.ref sg, .int (nI cn)]) ++ List.replicate (6 - (lg_sl ([.ref sg, .int (nI cn)])).length) Slot.unset).toArray = ls at hl ⊢
  have hl : lv_has ls 6 [(0, .ref sg), (1, .int (nI cn))] := hl
  have hFX5 : ∀ w ∈ u_ws RX5 TX5 8, w ∈ wsX5_shortenByPush := by decide +kernel
  refine lv_iconst (v := 0) hx hb dX5_shortenByPush_0 (by decide) ?_
  refine lv_istore_n (lv' := [(2, .int 0), (0, .ref sg), (1, .int (nI cn))]) hx hb dX5_shortenByPush_1 rfl hl (by decide) rfl (fun ls hl => ?_)
  refine lv_aload_n hx hb dX5_shortenByPush_2 rfl (lv_at hl 1 rfl) ?_
  refine va_get (D := xD g) (ci := 5) (v := .ref sl) (C := RX5) (T := TX5) (N := 8) hx hb hts hFX5 hown hK hP 0 rfl rfl 4 (by decide) (hts (.fieldLink RX5 23 "Stevedore$SlotGiver" "slot" "[I") (by decide +kernel)) (fun _ h9 => h9) rfl dX5_shortenByPush_3 ?_
  refine lv_iload_n hx hb dX5_shortenByPush_6 rfl (lv_at hl 2 rfl) ?_
  refine va_iald hx hb hK hP 26 0 rfl rfl (vp_in_nI (by omega) (by omega)) dX5_shortenByPush_7 ?_
  refine lv_topi (fun v_1 ev => ?_)
  obtain rfl : v_1 = nI (slot cn) := ev.trans (congrArg (fun q9 => nI (slot q9)) (nI_clamp (by omega)))
  have b_2 := b_slot cn
  refine lv_istore_n (lv' := [(3, .int (nI (slot cn))), (2, .int 0), (0, .ref sg), (1, .int (nI cn))]) hx hb dX5_shortenByPush_8 rfl hl (by decide) rfl (fun ls hl => ?_)
  refine lv_iconst (v := 0) hx hb dX5_shortenByPush_9 (by decide) ?_
  refine lv_istore (lv' := [(4, .int 0), (3, .int (nI (slot cn))), (2, .int 0), (0, .ref sg), (1, .int (nI cn))]) hx hb dX5_shortenByPush_10 hl (by decide) rfl (fun ls hl => ?_)
  have hloop12 : ∀ (n9 : Nat) (k : Nat) (dk : Nat → Int) (nk : Nat → Nat) (pk : Nat → Int) (fl : Int) (H : Heap) (locs : List Loc) (ls : Array Slot), 17 - k < n9 → (k ≤ 17) → (∃ t T, sBF EE goal dk nk pk t T) → (∀ x, dk x ≤ dd x) → (sP2 cost dd dk cn (slot cn) k) → (∀ x, x ≠ slot cn → dk x = dd x) → (fl = 1 ∨ (fl = 0 ∧ dk = dd)) → (∀ j, (-3000000) ≤ dk j ∧ dk j ≤ 1000000) → (∀ j, nk j ≤ 17) → (∀ j, (-1) ≤ pk j ∧ pk j ≤ 23) → va_P (xD g) vwCl ([(sg, .inr (5, [g0, .ref co, g2, g3, .ref sl, .ref wc, .ref nx, .ref pu])), (co, .inl (xM g, 24, .inr (.inr (.inr (.inr (fun i => if i < 24 then some (cr i) else none))))))] ++ (xRI (xI g) 24 17 cr cost ++ [(sl, .inl (xI g, 24, .inl (fun j => nI (slot j)))), (wc, .inl (xI g, 18, .inl (fun j => iI (dk j)))), (nx, .inl (xI g, 18, .inl (fun j => nI (nk j)))), (pu, .inl (xI g, 18, .inl (fun j => iI (pk j))))])) H → va_D A ([(sg, .inr (5, [g0, .ref co, g2, g3, .ref sl, .ref wc, .ref nx, .ref pu])), (co, .inl (xM g, 24, .inr (.inr (.inr (.inr (fun i => if i < 24 then some (cr i) else none))))))] ++ (xRI (xI g) 24 17 cr cost ++ [(sl, .inl (xI g, 24, .inl (fun j => nI (slot j)))), (wc, .inl (xI g, 18, .inl (fun j => iI (dk j)))), (nx, .inl (xI g, 18, .inl (fun j => nI (nk j)))), (pu, .inl (xI g, 18, .inl (fun j => iI (pk j))))])) → va_S A s.heap H locs → lv_has ls 6 [(4, .int (nI k)), (0, .ref sg), (1, .int (nI cn)), (2, .int (iI fl)), (3, .int (nI (slot cn)))] → W p l e (headSpec wsX5_shortenByPush ({ frames := 1, cells := 0, slots := 0, locals := 24 })).room s m ([.ref sg, .int (nI cn)] : List Value).toArray below meth c H locs 0 0 (MQ below (va_Qi (fun (r : Int32) (u : Nat → Int) => r = 1 ∨ (r = 0 ∧ u = dd)) (fun (u : Nat → Int) (t : State) => ∃ (n1 : Nat → Nat) (p1 : Nat → Int), ((∃ t T, sBF EE goal u n1 p1 t T) ∧ (∀ x, u x ≤ dd x) ∧ sP2 cost dd u cn (slot cn) 17) ∧ (∀ j, (-3000000) ≤ u j ∧ u j ≤ 1000000) ∧ (∀ j, n1 j ≤ 17) ∧ (∀ j, (-1) ≤ p1 j ∧ p1 j ≤ 23) ∧ xE g ([(sg, .inr (5, [g0, .ref co, g2, g3, .ref sl, .ref wc, .ref nx, .ref pu])), (co, .inl (xM g, 24, .inr (.inr (.inr (.inr (fun i => if i < 24 then some (cr i) else none))))))] ++ (xRI (xI g) 24 17 cr cost ++ [(sl, .inl (xI g, 24, .inl (fun j => nI (slot j)))), (wc, .inl (xI g, 18, .inl (fun j => iI (u j)))), (nx, .inl (xI g, 18, .inl (fun j => nI (n1 j)))), (pu, .inl (xI g, 18, .inl (fun j => iI (p1 j))))])) (A) t) (A)) ([.ref sg, .int (nI cn)] : List Value).toArray s 0 0 A) (F0 m 12 ls []) := by
    intro n9
    induction n9 with
    | zero =>
      intro k dk nk pk fl H locs ls hm hk hbk hlk hpk hok hfk bb_dk bb_nk bb_pk hP hD hS hl
      exact absurd hm (Nat.not_lt_zero _)
    | succ n9 ih12 =>
      intro k dk nk pk fl H locs ls hm hk hbk hlk hpk hok hfk bb_dk bb_nk bb_pk hP hD hS hl
      obtain ⟨t8, T8, hb8⟩ := hbk
      have hlo := sBF_low hp hhb hb8
      have hbk : ∃ t T, sBF EE goal dk nk pk t T := ⟨t8, T8, hb8⟩
      have hlok := hlo k
      have hbkk := bb_dk k
      have hsl := b_slot cn
      refine lv_iload hx hb dX5_shortenByPush_12 (lv_at hl 0 rfl) ?_
      refine lv_bipush (v := 16) hx hb dX5_shortenByPush_14 (by decide) ?_
      refine lv_icmp_gt (tgt := 108) hx hb dX5_shortenByPush_16 (by decide) (fun c_3 => ?_) (fun c_3 => ?_)
      · have nc_3 := (nI_ltI (a := 16) (b := k) (by omega) (by omega)).mp c_3
        refine lv_iload_n hx hb dX5_shortenByPush_108 rfl (lv_at hl 3 rfl) ?_
        have hP9 := hP
        have hD9 := hD
        exact W.iret (v := iI fl) hx hb hr (fun t ht hW => ⟨⟨iI fl, dk, rfl, (by rcases hfk with q | ⟨q, q2⟩; · exact Or.inl (by rw [q]; decide); · exact Or.inr ⟨by rw [q]; decide, q2⟩), ⟨nk, pk, ⟨hbk, hlk, by obtain rfl : k = 17 := (by omega); exact hpk⟩, bb_dk, bb_nk, bb_pk, by rw [ht]; exact hP9, va_K.moved hW.alike hK, hD9⟩⟩, hS.F ht⟩) hS.2.2 dX5_shortenByPush_109
      · have nc_3 := mt (nI_ltI (a := 16) (b := k) (by omega) (by omega)).mpr c_3
        refine lv_iload hx hb dX5_shortenByPush_19 (lv_at hl 0 rfl) ?_
        refine lv_iload_n hx hb dX5_shortenByPush_21 rfl (lv_at hl 4 rfl) ?_
        refine lv_icmp_eq (tgt := 102) hx hb dX5_shortenByPush_22 (by decide) (fun c_4 => ?_) (fun c_4 => ?_)
        · have nc_4 := (nI_eq (a := k) (b := slot cn) (by omega) (by omega)).mp c_4
          refine lv_iinc (v := nI (k + 1)) (lv' := [(4, .int (nI (k + 1))), (0, .ref sg), (1, .int (nI cn)), (2, .int (iI fl)), (3, .int (nI (slot cn)))]) hx hb dX5_shortenByPush_102 hl (k := 0) rfl (nI_add k 1) (by decide) rfl (fun ls hl => ?_)
          refine lv_goto (tgt := 12) hx hb dX5_shortenByPush_105 (by decide) ?_
          exact ih12 (k + 1) dk nk pk fl _ _ _ (by omega) (by omega) hbk (fun x => by have y := hlk x; omega) (by intro s9 hs9 hf9 hq9 hv9; by_cases q : s9 = k; · subst q; have y2 := hok s9 hf9; have y1 := hok s9 hf9;  omega; · have z9 := hpk s9 (by omega) hf9 hq9 hv9; omega) (fun x hx => by have y := hok x hx; omega) (by first | exact hfk | exact Or.inl rfl | exact Or.inr ⟨rfl, (hfk.resolve_left (by omega)).2⟩) bb_dk bb_nk bb_pk hP hD hS (lv_sub hl [0, 1, 2, 3, 4] rfl)
        · have nc_4 := mt (nI_eq (a := k) (b := slot cn) (by omega) (by omega)).mpr c_4
          refine lv_aload_n hx hb dX5_shortenByPush_25 rfl (lv_at hl 1 rfl) ?_
          refine va_get (D := xD g) (ci := 5) (v := .ref co) (C := RX5) (T := TX5) (N := 8) hx hb hts hFX5 hown hK hP 0 rfl rfl 1 (by decide) (hts (.fieldLink RX5 11 "Stevedore$SlotGiver" "cost" "[[I") (by decide +kernel)) (fun _ h9 => h9) rfl dX5_shortenByPush_26 ?_
          refine lv_iload_n hx hb dX5_shortenByPush_29 rfl (lv_at hl 2 rfl) ?_
          refine xAldM hx hb hK hP 1 3 rfl rfl (vp_in_nI (by omega) (by omega)) dX5_shortenByPush_30 ?_
          refine W.eq (g2 := F0 m 31 ls (.ref (cr cn) :: [])) (congrArg (fun q9 => F0 m 31 ls (q9 :: [])) (xRow (n := 24) (k := cn) (nI_clamp (by omega)) (by omega))) ?_
          refine lv_iload hx hb dX5_shortenByPush_31 (lv_at hl 0 rfl) ?_
          refine va_iald hx hb hK hP _ 0 (xR_ap (X := [(sg, .inr (5, [g0, .ref co, g2, g3, .ref sl, .ref wc, .ref nx, .ref pu])), (co, .inl (xM g, 24, .inr (.inr (.inr (.inr (fun i => if i < 24 then some (cr i) else none))))))]) (xR_get0 (i := cn) (by omega))) rfl (vp_in_nI (by omega) (by omega)) dX5_shortenByPush_33 ?_
          refine lv_topi (fun v_5 ev => ?_)
          obtain rfl : v_5 = iI (cost cn k) := ev.trans (congrArg (fun q9 => iI (cost cn q9)) (nI_clamp (by omega)))
          have b_6 := b_cost cn k
          refine lv_ldc (v := 1000000) hx hb hown (hts (.constant RX5 52 (1000000)) (by decide +kernel)) dX5_shortenByPush_34 ?_
          refine lv_icmp_ge (tgt := 102) hx hb dX5_shortenByPush_36 (by decide) (fun c_7 => ?_) (fun c_7 => ?_)
          · have nc_7 := (iLe (a := 1000000) (b := cost cn k) (by decide) rfl (by omega)).mp c_7
            refine lv_iinc (v := nI (k + 1)) (lv' := [(4, .int (nI (k + 1))), (0, .ref sg), (1, .int (nI cn)), (2, .int (iI fl)), (3, .int (nI (slot cn)))]) hx hb dX5_shortenByPush_102 hl (k := 0) rfl (nI_add k 1) (by decide) rfl (fun ls hl => ?_)
            refine lv_goto (tgt := 12) hx hb dX5_shortenByPush_105 (by decide) ?_
            exact ih12 (k + 1) dk nk pk fl _ _ _ (by omega) (by omega) hbk (fun x => by have y := hlk x; omega) (by intro s9 hs9 hf9 hq9 hv9; by_cases q : s9 = k; · subst q; have y2 := hok s9 hf9; have y1 := hok s9 hf9;  omega; · have z9 := hpk s9 (by omega) hf9 hq9 hv9; omega) (fun x hx => by have y := hok x hx; omega) (by first | exact hfk | exact Or.inl rfl | exact Or.inr ⟨rfl, (hfk.resolve_left (by omega)).2⟩) bb_dk bb_nk bb_pk hP hD hS (lv_sub hl [0, 1, 2, 3, 4] rfl)
          · have nc_7 := mt (iLe (a := 1000000) (b := cost cn k) (by decide) rfl (by omega)).mpr c_7
            refine lv_aload_n hx hb dX5_shortenByPush_39 rfl (lv_at hl 1 rfl) ?_
            refine va_get (D := xD g) (ci := 5) (v := .ref wc) (C := RX5) (T := TX5) (N := 8) hx hb hts hFX5 hown hK hP 0 rfl rfl 5 (by decide) (hts (.fieldLink RX5 26 "Stevedore$SlotGiver" "wayCost" "[I") (by decide +kernel)) (fun _ h9 => h9) rfl dX5_shortenByPush_40 ?_
            refine lv_iload hx hb dX5_shortenByPush_43 (lv_at hl 0 rfl) ?_
            refine va_iald hx hb hK hP 27 0 rfl rfl (vp_in_nI (by omega) (by omega)) dX5_shortenByPush_45 ?_
            refine lv_topi (fun v_8 ev => ?_)
            obtain rfl : v_8 = iI (dk k) := ev.trans (congrArg (fun q9 => iI (dk q9)) (nI_clamp (by omega)))
            have b_9 := bb_dk k
            refine lv_ldc (v := 1000000) hx hb hown (hts (.constant RX5 52 (1000000)) (by decide +kernel)) dX5_shortenByPush_46 ?_
            refine lv_icmp_ge (tgt := 102) hx hb dX5_shortenByPush_48 (by decide) (fun c_10 => ?_) (fun c_10 => ?_)
            · have nc_10 := (iLe (a := 1000000) (b := dk k) (by decide) rfl (by omega)).mp c_10
              refine lv_iinc (v := nI (k + 1)) (lv' := [(4, .int (nI (k + 1))), (0, .ref sg), (1, .int (nI cn)), (2, .int (iI fl)), (3, .int (nI (slot cn)))]) hx hb dX5_shortenByPush_102 hl (k := 0) rfl (nI_add k 1) (by decide) rfl (fun ls hl => ?_)
              refine lv_goto (tgt := 12) hx hb dX5_shortenByPush_105 (by decide) ?_
              exact ih12 (k + 1) dk nk pk fl _ _ _ (by omega) (by omega) hbk (fun x => by have y := hlk x; omega) (by intro s9 hs9 hf9 hq9 hv9; by_cases q : s9 = k; · subst q; have y2 := hok s9 hf9; have y1 := hok s9 hf9;  omega; · have z9 := hpk s9 (by omega) hf9 hq9 hv9; omega) (fun x hx => by have y := hok x hx; omega) (by first | exact hfk | exact Or.inl rfl | exact Or.inr ⟨rfl, (hfk.resolve_left (by omega)).2⟩) bb_dk bb_nk bb_pk hP hD hS (lv_sub hl [0, 1, 2, 3, 4] rfl)
            · have nc_10 := mt (iLe (a := 1000000) (b := dk k) (by decide) rfl (by omega)).mpr c_10
              refine lv_aload_n hx hb dX5_shortenByPush_51 rfl (lv_at hl 1 rfl) ?_
              refine va_get (D := xD g) (ci := 5) (v := .ref co) (C := RX5) (T := TX5) (N := 8) hx hb hts hFX5 hown hK hP 0 rfl rfl 1 (by decide) (hts (.fieldLink RX5 11 "Stevedore$SlotGiver" "cost" "[[I") (by decide +kernel)) (fun _ h9 => h9) rfl dX5_shortenByPush_52 ?_
              refine lv_iload_n hx hb dX5_shortenByPush_55 rfl (lv_at hl 2 rfl) ?_
              refine xAldM hx hb hK hP 1 3 rfl rfl (vp_in_nI (by omega) (by omega)) dX5_shortenByPush_56 ?_
              refine W.eq (g2 := F0 m 57 ls (.ref (cr cn) :: [])) (congrArg (fun q9 => F0 m 57 ls (q9 :: [])) (xRow (n := 24) (k := cn) (nI_clamp (by omega)) (by omega))) ?_
              refine lv_iload hx hb dX5_shortenByPush_57 (lv_at hl 0 rfl) ?_
              refine va_iald hx hb hK hP _ 0 (xR_ap (X := [(sg, .inr (5, [g0, .ref co, g2, g3, .ref sl, .ref wc, .ref nx, .ref pu])), (co, .inl (xM g, 24, .inr (.inr (.inr (.inr (fun i => if i < 24 then some (cr i) else none))))))]) (xR_get0 (i := cn) (by omega))) rfl (vp_in_nI (by omega) (by omega)) dX5_shortenByPush_59 ?_
              refine lv_topi (fun v_11 ev => ?_)
              obtain rfl : v_11 = iI (cost cn k) := ev.trans (congrArg (fun q9 => iI (cost cn q9)) (nI_clamp (by omega)))
              have b_12 := b_cost cn k
              refine lv_aload_n hx hb dX5_shortenByPush_60 rfl (lv_at hl 1 rfl) ?_
              refine va_get (D := xD g) (ci := 5) (v := .ref co) (C := RX5) (T := TX5) (N := 8) hx hb hts hFX5 hown hK hP 0 rfl rfl 1 (by decide) (hts (.fieldLink RX5 11 "Stevedore$SlotGiver" "cost" "[[I") (by decide +kernel)) (fun _ h9 => h9) rfl dX5_shortenByPush_61 ?_
              refine lv_iload_n hx hb dX5_shortenByPush_64 rfl (lv_at hl 2 rfl) ?_
              refine xAldM hx hb hK hP 1 3 rfl rfl (vp_in_nI (by omega) (by omega)) dX5_shortenByPush_65 ?_
              refine W.eq (g2 := F0 m 66 ls (.ref (cr cn) :: .int (iI (cost cn k)) :: [])) (congrArg (fun q9 => F0 m 66 ls (q9 :: .int (iI (cost cn k)) :: [])) (xRow (n := 24) (k := cn) (nI_clamp (by omega)) (by omega))) ?_
              refine lv_iload_n hx hb dX5_shortenByPush_66 rfl (lv_at hl 4 rfl) ?_
              refine va_iald hx hb hK hP _ 0 (xR_ap (X := [(sg, .inr (5, [g0, .ref co, g2, g3, .ref sl, .ref wc, .ref nx, .ref pu])), (co, .inl (xM g, 24, .inr (.inr (.inr (.inr (fun i => if i < 24 then some (cr i) else none))))))]) (xR_get0 (i := cn) (by omega))) rfl (vp_in_nI (by omega) (by omega)) dX5_shortenByPush_67 ?_
              refine lv_topi (fun v_13 ev => ?_)
              obtain rfl : v_13 = iI (cost cn (slot cn)) := ev.trans (congrArg (fun q9 => iI (cost cn q9)) (nI_clamp (by omega)))
              have b_14 := b_cost cn (slot cn)
              refine lv_isub hx hb dX5_shortenByPush_68 ?_
              refine lv_topi (fun v_15 ev => ?_)
              obtain rfl : v_15 = iI (cost cn k - (cost cn (slot cn))) := ev.trans (iS rfl rfl)
              refine lv_aload_n hx hb dX5_shortenByPush_69 rfl (lv_at hl 1 rfl) ?_
              refine va_get (D := xD g) (ci := 5) (v := .ref wc) (C := RX5) (T := TX5) (N := 8) hx hb hts hFX5 hown hK hP 0 rfl rfl 5 (by decide) (hts (.fieldLink RX5 26 "Stevedore$SlotGiver" "wayCost" "[I") (by decide +kernel)) (fun _ h9 => h9) rfl dX5_shortenByPush_70 ?_
              refine lv_iload hx hb dX5_shortenByPush_73 (lv_at hl 0 rfl) ?_
              refine va_iald hx hb hK hP 27 0 rfl rfl (vp_in_nI (by omega) (by omega)) dX5_shortenByPush_75 ?_
              refine lv_topi (fun v_16 ev => ?_)
              obtain rfl : v_16 = iI (dk k) := ev.trans (congrArg (fun q9 => iI (dk q9)) (nI_clamp (by omega)))
              have b_17 := bb_dk k
              refine lv_iadd hx hb dX5_shortenByPush_76 ?_
              refine lv_topi (fun v_18 ev => ?_)
              obtain rfl : v_18 = iI (cost cn k - (cost cn (slot cn)) + (dk k)) := ev.trans (iA rfl rfl)
              refine lv_istore (lv' := [(5, .int (iI (cost cn k - (cost cn (slot cn)) + (dk k)))), (4, .int (nI k)), (0, .ref sg), (1, .int (nI cn)), (2, .int (iI fl)), (3, .int (nI (slot cn)))]) hx hb dX5_shortenByPush_77 hl (by decide) rfl (fun ls hl => ?_)
              refine lv_aload_n hx hb dX5_shortenByPush_79 rfl (lv_at hl 2 rfl) ?_
              refine lv_iload_n hx hb dX5_shortenByPush_80 rfl (lv_at hl 5 rfl) ?_
              refine lv_iload hx hb dX5_shortenByPush_81 (lv_at hl 1 rfl) ?_
              refine lv_iload hx hb dX5_shortenByPush_83 (lv_at hl 0 rfl) ?_
              refine lv_iload_n hx hb dX5_shortenByPush_85 rfl (lv_at hl 3 rfl) ?_
              have hPc := hP.sub (ws' := [(sg, .inr (5, [g0, .ref co, g2, g3, .ref sl, .ref wc, .ref nx, .ref pu])), (wc, .inl (xI g, 18, .inl (fun j => iI (dk j)))), (nx, .inl (xI g, 18, .inl (fun j => nI (nk j)))), (pu, .inl (xI g, 18, .inl (fun j => iI (pk j))))]) [0, 27, 28, 29] rfl
              have hDc := hD.sub (ws' := [(sg, .inr (5, [g0, .ref co, g2, g3, .ref sl, .ref wc, .ref nx, .ref pu])), (wc, .inl (xI g, 18, .inl (fun j => iI (dk j)))), (nx, .inl (xI g, 18, .inl (fun j => nI (nk j)))), (pu, .inl (xI g, 18, .inl (fun j => iI (pk j))))]) [0, 27, 28, 29] (by decide) rfl
              have hFc := va_free (wc := [(sg, .inr (5, [g0, .ref co, g2, g3, .ref sl, .ref wc, .ref nx, .ref pu])), (wc, .inl (xI g, 18, .inl (fun j => iI (dk j)))), (nx, .inl (xI g, 18, .inl (fun j => nI (nk j)))), (pu, .inl (xI g, 18, .inl (fun j => iI (pk j))))]) hD hS hA [0, 27, 28, 29] rfl
              refine va_calli (va_runV (As := [.int (nI (slot cn)), .int (nI k), .int (iI (cost cn k - (cost cn (slot cn)) + (dk k))), .int (nI cn)]) (rest := []) ⟨hx, hb, hml, hown, hts⟩ (g_shorten l g H.size sg wc nx pu (slot cn) k (cost cn k - (cost cn (slot cn)) + (dk k)) ((cn : Nat) : Int) g0 (.ref co) g2 g3 (.ref sl) dk nk pk (by first | assumption | omega) (by first | assumption | omega) (by first | assumption | omega) (by first | assumption | omega) bb_dk bb_nk bb_pk) (cwV 4 hts gX5_shortenByPush_X5_shorten rfl rfl rfl (by decide +kernel) ⟨Nat.le_of_ble_eq_true rfl, Nat.le_of_ble_eq_true rfl⟩) ⟨xB.blind, va_recv hK hPc (ci := 5) (q0 := 0) rfl rfl, fun U9 hU9 hW9 => ⟨rfl, xB.mk hPc hK hDc hU9 hW9⟩⟩ rfl rfl hl.1 rfl (lv_room (Nat.le_of_ble_eq_true rfl)) dX5_shortenByPush_86 ⟨Nat.le_of_ble_eq_true rfl, Nat.le_of_ble_eq_true rfl⟩) hS (fun q _ h => hFc q h) hFc (fun r_19 _ t H1 locs ht hvm hw_20 hB hz1 hk1 hS => ?_)
              obtain ⟨d1_21, n1_22, p1_23, hc_24, hb_25, hb_26, hb_27, hP1, hK1, hD1⟩ := hB
              rw [ht] at hP1
              obtain ⟨hP, hD⟩ := va_join (wr := ([(co, .inl (xM g, 24, .inr (.inr (.inr (.inr (fun i => if i < 24 then some (cr i) else none))))))] ++ (xRI (xI g) 24 17 cr cost ++ [(sl, .inl (xI g, 24, .inl (fun j => nI (slot j))))]))) (w1 := [(sg, .inr (5, [g0, .ref co, g2, g3, .ref sl, .ref wc, .ref nx, .ref pu])), (wc, .inl (xI g, 18, .inl (fun j => iI (d1_21 j)))), (nx, .inl (xI g, 18, .inl (fun j => nI (n1_22 j)))), (pu, .inl (xI g, 18, .inl (fun j => iI (p1_23 j))))]) hP hD [0, 27, 28, 29] [1, 2, 3, 4, 5, 6, 7, 8, 9, 10, 11, 12, 13, 14, 15, 16, 17, 18, 19, 20, 21, 22, 23, 24, 25, 26] rfl rfl (by decide) (by decide) hk1 hFc hP1 hD1
              generalize H1 = H at hP hS ⊢
              have hP : va_P (xD g) vwCl ([(co, .inl (xM g, 24, .inr (.inr (.inr (.inr (fun i => if i < 24 then some (cr i) else none))))))] ++ (xRI (xI g) 24 17 cr cost ++ [(sl, .inl (xI g, 24, .inl (fun j => nI (slot j)))), (sg, .inr (5, [g0, .ref co, g2, g3, .ref sl, .ref wc, .ref nx, .ref pu])), (wc, .inl (xI g, 18, .inl (fun j => iI (d1_21 j)))), (nx, .inl (xI g, 18, .inl (fun j => nI (n1_22 j)))), (pu, .inl (xI g, 18, .inl (fun j => iI (p1_23 j))))])) H := hP
              have hD : va_D A ([(co, .inl (xM g, 24, .inr (.inr (.inr (.inr (fun i => if i < 24 then some (cr i) else none))))))] ++ (xRI (xI g) 24 17 cr cost ++ [(sl, .inl (xI g, 24, .inl (fun j => nI (slot j)))), (sg, .inr (5, [g0, .ref co, g2, g3, .ref sl, .ref wc, .ref nx, .ref pu])), (wc, .inl (xI g, 18, .inl (fun j => iI (d1_21 j)))), (nx, .inl (xI g, 18, .inl (fun j => nI (n1_22 j)))), (pu, .inl (xI g, 18, .inl (fun j => iI (p1_23 j))))])) := hD
              try dsimp only at hw_20
              rcases hw_20 with ⟨rfl, hw_20⟩ | ⟨rfl, hw_20⟩
              · obtain ⟨hbf_28, hle_28, hu_28, hn_28⟩ := sBF_try hp hbk (he3 k (by omega) (by omega) (by omega)) rfl (Or.inr (by omega)) hc_24
                refine lv_if_ne (tgt := 96) hx hb dX5_shortenByPush_89 (by decide) (fun _ => ?_) (fun c0 => absurd c0 (by decide))
                refine lv_iconst (v := 1) hx hb dX5_shortenByPush_96 (by decide) ?_
                refine lv_goto (tgt := 101) hx hb dX5_shortenByPush_97 (by decide) ?_
                refine lv_istore_n (lv' := [(2, .int 1), (5, .int (iI (cost cn k - (cost cn (slot cn)) + (dk k)))), (4, .int (nI k)), (0, .ref sg), (1, .int (nI cn)), (3, .int (nI (slot cn)))]) hx hb dX5_shortenByPush_101 rfl hl (by decide) rfl (fun ls hl => ?_)
                refine lv_iinc (v := nI (k + 1)) (lv' := [(4, .int (nI (k + 1))), (2, .int 1), (5, .int (iI (cost cn k - (cost cn (slot cn)) + (dk k)))), (0, .ref sg), (1, .int (nI cn)), (3, .int (nI (slot cn)))]) hx hb dX5_shortenByPush_102 hl (k := 2) rfl (nI_add k 1) (by decide) rfl (fun ls hl => ?_)
                refine lv_goto (tgt := 12) hx hb dX5_shortenByPush_105 (by decide) ?_
                have hP := hP.sub (ws' := ([(sg, .inr (5, [g0, .ref co, g2, g3, .ref sl, .ref wc, .ref nx, .ref pu])), (co, .inl (xM g, 24, .inr (.inr (.inr (.inr (fun i => if i < 24 then some (cr i) else none))))))] ++ (xRI (xI g) 24 17 cr cost ++ [(sl, .inl (xI g, 24, .inl (fun j => nI (slot j)))), (wc, .inl (xI g, 18, .inl (fun j => iI (d1_21 j)))), (nx, .inl (xI g, 18, .inl (fun j => nI (n1_22 j)))), (pu, .inl (xI g, 18, .inl (fun j => iI (p1_23 j))))]))) [26, 0, 1, 2, 3, 4, 5, 6, 7, 8, 9, 10, 11, 12, 13, 14, 15, 16, 17, 18, 19, 20, 21, 22, 23, 24, 25, 27, 28, 29] rfl
                have hD := hD.sub (ws' := ([(sg, .inr (5, [g0, .ref co, g2, g3, .ref sl, .ref wc, .ref nx, .ref pu])), (co, .inl (xM g, 24, .inr (.inr (.inr (.inr (fun i => if i < 24 then some (cr i) else none))))))] ++ (xRI (xI g) 24 17 cr cost ++ [(sl, .inl (xI g, 24, .inl (fun j => nI (slot j)))), (wc, .inl (xI g, 18, .inl (fun j => iI (d1_21 j)))), (nx, .inl (xI g, 18, .inl (fun j => nI (n1_22 j)))), (pu, .inl (xI g, 18, .inl (fun j => iI (p1_23 j))))]))) [26, 0, 1, 2, 3, 4, 5, 6, 7, 8, 9, 10, 11, 12, 13, 14, 15, 16, 17, 18, 19, 20, 21, 22, 23, 24, 25, 27, 28, 29] (by decide) rfl
                exact ih12 (k + 1) d1_21 n1_22 p1_23 1 _ _ _ (by omega) (by omega) hbf_28 (fun x => by have y := hlk x; have a_28 := hle_28 x; omega) (by intro s9 hs9 hf9 hq9 hv9; by_cases q : s9 = k; · subst q; have y2 := hok s9 hf9; have y1 := hok s9 hf9; have a_28 := hle_28 (slot cn); have o_28 := hu_28;  omega; · have z9 := hpk s9 (by omega) hf9 hq9 hv9; have a_28 := hle_28 (slot cn); omega) (fun x hx => by have y := hok x hx; have a_28 := hn_28 x hx; omega) (by first | exact hfk | exact Or.inl rfl | exact Or.inr ⟨rfl, (hfk.resolve_left (by omega)).2⟩) hb_25 hb_26 hb_27 hP hD hS (by rw [(show iI 1 = (1 : Int32) from by decide)]; exact lv_sub hl [0, 3, 4, 1, 5] rfl)
              · obtain ⟨hbf_29, hle_29, hu_29, hn_29⟩ := sBF_try hp hbk (he3 k (by omega) (by omega) (by omega)) rfl (Or.inr (by omega)) hc_24
                obtain ⟨rfl, rfl, rfl⟩ := hc_24.2 hw_20
                refine lv_if_ne (tgt := 96) hx hb dX5_shortenByPush_89 (by decide) (fun c0 => absurd (by decide) c0) (fun _ => ?_)
                refine lv_iload_n hx hb dX5_shortenByPush_92 rfl (lv_at hl 4 rfl) ?_
                refine lv_if_eq (tgt := 100) hx hb dX5_shortenByPush_93 (by decide) (fun c_30 => ?_) (fun c_30 => ?_)
                · have nc_30 := (iEq (a := fl) (b := 0) rfl (by decide) (by omega)).mp c_30
                  refine lv_iconst (v := 0) hx hb dX5_shortenByPush_100 (by decide) ?_
                  refine lv_istore_n (lv' := [(2, .int 0), (5, .int (iI (cost cn k - (cost cn (slot cn)) + (dk k)))), (4, .int (nI k)), (0, .ref sg), (1, .int (nI cn)), (3, .int (nI (slot cn)))]) hx hb dX5_shortenByPush_101 rfl hl (by decide) rfl (fun ls hl => ?_)
                  refine lv_iinc (v := nI (k + 1)) (lv' := [(4, .int (nI (k + 1))), (2, .int 0), (5, .int (iI (cost cn k - (cost cn (slot cn)) + (dk k)))), (0, .ref sg), (1, .int (nI cn)), (3, .int (nI (slot cn)))]) hx hb dX5_shortenByPush_102 hl (k := 2) rfl (nI_add k 1) (by decide) rfl (fun ls hl => ?_)
                  refine lv_goto (tgt := 12) hx hb dX5_shortenByPush_105 (by decide) ?_
                  have hP := hP.sub (ws' := ([(sg, .inr (5, [g0, .ref co, g2, g3, .ref sl, .ref wc, .ref nx, .ref pu])), (co, .inl (xM g, 24, .inr (.inr (.inr (.inr (fun i => if i < 24 then some (cr i) else none))))))] ++ (xRI (xI g) 24 17 cr cost ++ [(sl, .inl (xI g, 24, .inl (fun j => nI (slot j)))), (wc, .inl (xI g, 18, .inl (fun j => iI (dk j)))), (nx, .inl (xI g, 18, .inl (fun j => nI (nk j)))), (pu, .inl (xI g, 18, .inl (fun j => iI (pk j))))]))) [26, 0, 1, 2, 3, 4, 5, 6, 7, 8, 9, 10, 11, 12, 13, 14, 15, 16, 17, 18, 19, 20, 21, 22, 23, 24, 25, 27, 28, 29] rfl
                  have hD := hD.sub (ws' := ([(sg, .inr (5, [g0, .ref co, g2, g3, .ref sl, .ref wc, .ref nx, .ref pu])), (co, .inl (xM g, 24, .inr (.inr (.inr (.inr (fun i => if i < 24 then some (cr i) else none))))))] ++ (xRI (xI g) 24 17 cr cost ++ [(sl, .inl (xI g, 24, .inl (fun j => nI (slot j)))), (wc, .inl (xI g, 18, .inl (fun j => iI (dk j)))), (nx, .inl (xI g, 18, .inl (fun j => nI (nk j)))), (pu, .inl (xI g, 18, .inl (fun j => iI (pk j))))]))) [26, 0, 1, 2, 3, 4, 5, 6, 7, 8, 9, 10, 11, 12, 13, 14, 15, 16, 17, 18, 19, 20, 21, 22, 23, 24, 25, 27, 28, 29] (by decide) rfl
                  exact ih12 (k + 1) dk nk pk 0 _ _ _ (by omega) (by omega) hbf_29 (fun x => by have y := hlk x; have a_29 := hle_29 x; omega) (by intro s9 hs9 hf9 hq9 hv9; by_cases q : s9 = k; · subst q; have y2 := hok s9 hf9; have y1 := hok s9 hf9; have a_29 := hle_29 (slot cn); have o_29 := hu_29;  omega; · have z9 := hpk s9 (by omega) hf9 hq9 hv9; have a_29 := hle_29 (slot cn); omega) (fun x hx => by have y := hok x hx; have a_29 := hn_29 x hx; omega) (by first | exact hfk | exact Or.inl rfl | exact Or.inr ⟨rfl, (hfk.resolve_left (by omega)).2⟩) hb_25 hb_26 hb_27 hP hD hS (by rw [(show iI 0 = (0 : Int32) from by decide)]; exact lv_sub hl [0, 3, 4, 1, 5] rfl)
                · have nc_30 := mt (iEq (a := fl) (b := 0) rfl (by decide) (by omega)).mpr c_30
                  refine lv_iconst (v := 1) hx hb dX5_shortenByPush_96 (by decide) ?_
                  refine lv_goto (tgt := 101) hx hb dX5_shortenByPush_97 (by decide) ?_
                  refine lv_istore_n (lv' := [(2, .int 1), (5, .int (iI (cost cn k - (cost cn (slot cn)) + (dk k)))), (4, .int (nI k)), (0, .ref sg), (1, .int (nI cn)), (3, .int (nI (slot cn)))]) hx hb dX5_shortenByPush_101 rfl hl (by decide) rfl (fun ls hl => ?_)
                  refine lv_iinc (v := nI (k + 1)) (lv' := [(4, .int (nI (k + 1))), (2, .int 1), (5, .int (iI (cost cn k - (cost cn (slot cn)) + (dk k)))), (0, .ref sg), (1, .int (nI cn)), (3, .int (nI (slot cn)))]) hx hb dX5_shortenByPush_102 hl (k := 2) rfl (nI_add k 1) (by decide) rfl (fun ls hl => ?_)
                  refine lv_goto (tgt := 12) hx hb dX5_shortenByPush_105 (by decide) ?_
                  have hP := hP.sub (ws' := ([(sg, .inr (5, [g0, .ref co, g2, g3, .ref sl, .ref wc, .ref nx, .ref pu])), (co, .inl (xM g, 24, .inr (.inr (.inr (.inr (fun i => if i < 24 then some (cr i) else none))))))] ++ (xRI (xI g) 24 17 cr cost ++ [(sl, .inl (xI g, 24, .inl (fun j => nI (slot j)))), (wc, .inl (xI g, 18, .inl (fun j => iI (dk j)))), (nx, .inl (xI g, 18, .inl (fun j => nI (nk j)))), (pu, .inl (xI g, 18, .inl (fun j => iI (pk j))))]))) [26, 0, 1, 2, 3, 4, 5, 6, 7, 8, 9, 10, 11, 12, 13, 14, 15, 16, 17, 18, 19, 20, 21, 22, 23, 24, 25, 27, 28, 29] rfl
                  have hD := hD.sub (ws' := ([(sg, .inr (5, [g0, .ref co, g2, g3, .ref sl, .ref wc, .ref nx, .ref pu])), (co, .inl (xM g, 24, .inr (.inr (.inr (.inr (fun i => if i < 24 then some (cr i) else none))))))] ++ (xRI (xI g) 24 17 cr cost ++ [(sl, .inl (xI g, 24, .inl (fun j => nI (slot j)))), (wc, .inl (xI g, 18, .inl (fun j => iI (dk j)))), (nx, .inl (xI g, 18, .inl (fun j => nI (nk j)))), (pu, .inl (xI g, 18, .inl (fun j => iI (pk j))))]))) [26, 0, 1, 2, 3, 4, 5, 6, 7, 8, 9, 10, 11, 12, 13, 14, 15, 16, 17, 18, 19, 20, 21, 22, 23, 24, 25, 27, 28, 29] (by decide) rfl
                  exact ih12 (k + 1) dk nk pk 1 _ _ _ (by omega) (by omega) hbf_29 (fun x => by have y := hlk x; have a_29 := hle_29 x; omega) (by intro s9 hs9 hf9 hq9 hv9; by_cases q : s9 = k; · subst q; have y2 := hok s9 hf9; have y1 := hok s9 hf9; have a_29 := hle_29 (slot cn); have o_29 := hu_29;  omega; · have z9 := hpk s9 (by omega) hf9 hq9 hv9; have a_29 := hle_29 (slot cn); omega) (fun x hx => by have y := hok x hx; have a_29 := hn_29 x hx; omega) (by first | exact hfk | exact Or.inl rfl | exact Or.inr ⟨rfl, (hfk.resolve_left (by omega)).2⟩) hb_25 hb_26 hb_27 hP hD hS (by rw [(show iI 1 = (1 : Int32) from by decide)]; exact lv_sub hl [0, 3, 4, 1, 5] rfl)
  exact hloop12 (18) 0 dd nxt psh 0 _ _ _ (by omega) (by omega) hbf (fun x => Int.le_refl _) (fun q hq => absurd hq (Nat.not_lt_zero _)) (fun _ _ => rfl) (Or.inr ⟨rfl, rfl⟩) b_dd b_nxt b_psh hP hD hS (by rw [(show nI 0 = (0 : Int32) from by decide), (show iI 0 = (0 : Int32) from by decide)]; exact lv_sub hl [0, 3, 4, 2, 1] rfl)
theorem dX5_findWays_0 : decode cX5_findWays 0 = .ok (.iconst 0, 1) := by decide +kernel
theorem dX5_findWays_1 : decode cX5_findWays 1 = .ok (.istore_n 3, 1) := by decide +kernel
theorem dX5_findWays_2 : decode cX5_findWays 2 = .ok (.iload_n 3, 1) := by decide +kernel
theorem dX5_findWays_3 : decode cX5_findWays 3 = .ok (.bipush 18, 2) := by decide +kernel
theorem dX5_findWays_5 : decode cX5_findWays 5 = .ok (.if_icmp .ge 31, 3) := by decide +kernel
theorem dX5_findWays_36 : decode cX5_findWays 36 = .ok (.aload_n 0, 1) := by decide +kernel
theorem dX5_findWays_37 : decode cX5_findWays 37 = .ok (.getfield 26, 3) := by decide +kernel
theorem dX5_findWays_40 : decode cX5_findWays 40 = .ok (.iload_n 1, 1) := by decide +kernel
theorem dX5_findWays_41 : decode cX5_findWays 41 = .ok (.iconst 0, 1) := by decide +kernel
theorem dX5_findWays_42 : decode cX5_findWays 42 = .ok (.iastore, 1) := by decide +kernel
theorem dX5_findWays_43 : decode cX5_findWays 43 = .ok (.iconst 1, 1) := by decide +kernel
theorem dX5_findWays_44 : decode cX5_findWays 44 = .ok (.istore_n 3, 1) := by decide +kernel
theorem dX5_findWays_45 : decode cX5_findWays 45 = .ok (.iconst 0, 1) := by decide +kernel
theorem dX5_findWays_46 : decode cX5_findWays 46 = .ok (.istore 4, 2) := by decide +kernel
theorem dX5_findWays_48 : decode cX5_findWays 48 = .ok (.iload 4, 2) := by decide +kernel
theorem dX5_findWays_50 : decode cX5_findWays 50 = .ok (.bipush 18, 2) := by decide +kernel
theorem dX5_findWays_52 : decode cX5_findWays 52 = .ok (.if_icmp .ge 55, 3) := by decide +kernel
theorem dX5_findWays_107 : decode cX5_findWays 107 = .ok (.return_, 1) := by decide +kernel
theorem dX5_findWays_55 : decode cX5_findWays 55 = .ok (.iload_n 3, 1) := by decide +kernel
theorem dX5_findWays_56 : decode cX5_findWays 56 = .ok (.ifCond .eq 51, 3) := by decide +kernel
theorem dX5_findWays_59 : decode cX5_findWays 59 = .ok (.aload_n 0, 1) := by decide +kernel
theorem dX5_findWays_60 : decode cX5_findWays 60 = .ok (.invokevirtual 56, 3) := by decide +kernel
set_option maxRecDepth 20000 in
theorem ggX5_findWays_X5_shortenOverSpare : GoodIn wsX5_findWays wsX5_shortenOverSpare := goodIn_r _ [10, 11, 12, 1, 13, 14, 15, 9, 16, 3, 4, 23, 24, 25, 26, 27, 28, 29, 30] rfl (by decide +kernel)
set_option maxRecDepth 20000 in
theorem gX5_findWays_X5_shortenOverSpare : GoodIn wsX5_findWays (wsV RX5 56 RX5 yX5_shortenOverSpare wsX5_shortenOverSpare) := goodIn_app (goodIn_of _ (by decide +kernel)) ggX5_findWays_X5_shortenOverSpare
theorem dX5_findWays_63 : decode cX5_findWays 63 = .ok (.istore_n 3, 1) := by decide +kernel
theorem dX5_findWays_64 : decode cX5_findWays 64 = .ok (.iload_n 2, 1) := by decide +kernel
theorem dX5_findWays_65 : decode cX5_findWays 65 = .ok (.istore 5, 2) := by decide +kernel
theorem dX5_findWays_67 : decode cX5_findWays 67 = .ok (.iload 5, 2) := by decide +kernel
theorem dX5_findWays_69 : decode cX5_findWays 69 = .ok (.aload_n 0, 1) := by decide +kernel
theorem dX5_findWays_70 : decode cX5_findWays 70 = .ok (.getfield 41, 3) := by decide +kernel
theorem dX5_findWays_73 : decode cX5_findWays 73 = .ok (.if_icmp .ge 28, 3) := by decide +kernel
theorem dX5_findWays_101 : decode cX5_findWays 101 = .ok (.iinc 4 1, 3) := by decide +kernel
theorem dX5_findWays_104 : decode cX5_findWays 104 = .ok (.goto (-56), 3) := by decide +kernel
theorem dX5_findWays_76 : decode cX5_findWays 76 = .ok (.aload_n 0, 1) := by decide +kernel
theorem dX5_findWays_77 : decode cX5_findWays 77 = .ok (.iload 5, 2) := by decide +kernel
theorem dX5_findWays_79 : decode cX5_findWays 79 = .ok (.invokevirtual 60, 3) := by decide +kernel
set_option maxRecDepth 20000 in
theorem ggX5_findWays_X5_shortenByPush : GoodIn wsX5_findWays wsX5_shortenByPush := goodIn_r _ [20, 21, 22, 2, 1, 13, 14, 15, 9, 16, 3, 4, 23, 24, 25, 26, 27, 28, 29, 30] rfl (by decide +kernel)
set_option maxRecDepth 20000 in
theorem gX5_findWays_X5_shortenByPush : GoodIn wsX5_findWays (wsV RX5 60 RX5 yX5_shortenByPush wsX5_shortenByPush) := goodIn_app (goodIn_of _ (by decide +kernel)) ggX5_findWays_X5_shortenByPush
theorem dX5_findWays_82 : decode cX5_findWays 82 = .ok (.ifCond .ne 7, 3) := by decide +kernel
theorem dX5_findWays_89 : decode cX5_findWays 89 = .ok (.iconst 1, 1) := by decide +kernel
theorem dX5_findWays_90 : decode cX5_findWays 90 = .ok (.goto 4, 3) := by decide +kernel
theorem dX5_findWays_94 : decode cX5_findWays 94 = .ok (.istore_n 3, 1) := by decide +kernel
theorem dX5_findWays_95 : decode cX5_findWays 95 = .ok (.iinc 5 1, 3) := by decide +kernel
theorem dX5_findWays_98 : decode cX5_findWays 98 = .ok (.goto (-31), 3) := by decide +kernel
theorem dX5_findWays_85 : decode cX5_findWays 85 = .ok (.iload_n 3, 1) := by decide +kernel
theorem dX5_findWays_86 : decode cX5_findWays 86 = .ok (.ifCond .eq 7, 3) := by decide +kernel
theorem dX5_findWays_93 : decode cX5_findWays 93 = .ok (.iconst 0, 1) := by decide +kernel
theorem dX5_findWays_8 : decode cX5_findWays 8 = .ok (.aload_n 0, 1) := by decide +kernel
theorem dX5_findWays_9 : decode cX5_findWays 9 = .ok (.getfield 26, 3) := by decide +kernel
theorem dX5_findWays_12 : decode cX5_findWays 12 = .ok (.iload_n 3, 1) := by decide +kernel
theorem dX5_findWays_13 : decode cX5_findWays 13 = .ok (.ldc 52, 2) := by decide +kernel
theorem dX5_findWays_15 : decode cX5_findWays 15 = .ok (.iastore, 1) := by decide +kernel
theorem dX5_findWays_16 : decode cX5_findWays 16 = .ok (.aload_n 0, 1) := by decide +kernel
theorem dX5_findWays_17 : decode cX5_findWays 17 = .ok (.getfield 29, 3) := by decide +kernel
theorem dX5_findWays_20 : decode cX5_findWays 20 = .ok (.iload_n 3, 1) := by decide +kernel
theorem dX5_findWays_21 : decode cX5_findWays 21 = .ok (.iload_n 1, 1) := by decide +kernel
theorem dX5_findWays_22 : decode cX5_findWays 22 = .ok (.iastore, 1) := by decide +kernel
theorem dX5_findWays_23 : decode cX5_findWays 23 = .ok (.aload_n 0, 1) := by decide +kernel
theorem dX5_findWays_24 : decode cX5_findWays 24 = .ok (.getfield 32, 3) := by decide +kernel
theorem dX5_findWays_27 : decode cX5_findWays 27 = .ok (.iload_n 3, 1) := by decide +kernel
theorem dX5_findWays_28 : decode cX5_findWays 28 = .ok (.iconst (-1), 1) := by decide +kernel
theorem dX5_findWays_29 : decode cX5_findWays 29 = .ok (.iastore, 1) := by decide +kernel
theorem dX5_findWays_30 : decode cX5_findWays 30 = .ok (.iinc 3 1, 3) := by decide +kernel
theorem dX5_findWays_33 : decode cX5_findWays 33 = .ok (.goto (-31), 3) := by decide +kernel
set_option maxHeartbeats 4000000 in
set_option maxRecDepth 100000 in
theorem g_findWays (l : Launch) (g : xG) (sz : Nat) (sg : Nat) (co : Nat) (ro : Nat) (us : Nat) (sl : Nat) (wc : Nat) (nx : Nat) (pu : Nat) (gl : Nat) (fp : Nat) (n : Nat) (cr : Nat → Nat) (hh : Nat → Int) (cost : Nat → Nat → Int) (room : Nat → Int) (used : Nat → Int) (slot : Nat → Nat) (dd : Nat → Int) (nxt : Nat → Nat) (psh : Nat → Int)  (hp : sPot (sE used room slot cost fp n) hh) (hhb : ∀ u, -680 ≤ hh u ∧ hh u ≤ 1000000) (hcs : sCs cost n) (hin : sIn slot cost fp n) (hn : n ≤ 24) (hgl : gl ≤ 17) (hfp : fp ≤ n) (b_cost : ∀ i j, 0 ≤ cost i j ∧ cost i j ≤ 1000000) (b_room : ∀ j, 0 ≤ room j ∧ room j ≤ 24) (b_used : ∀ j, 0 ≤ used j ∧ used j ≤ 30) (b_slot : ∀ j, slot j ≤ 16) (b_dd : ∀ j, (-3000000) ≤ dd j ∧ dd j ≤ 1000000) (b_nxt : ∀ j, nxt j ≤ 17) (b_psh : ∀ j, (-1) ≤ psh j ∧ psh j ≤ 23) : Met l yX5_findWays wsX5_findWays ({ frames := 2, cells := 0, slots := 0, locals := 49 }) (va_Pc [.ref sg, .int (nI gl), .int (nI fp)] (fun U => xB g ([(sg, .inr (5, [.int (nI n), .ref co, .ref ro, .ref us, .ref sl, .ref wc, .ref nx, .ref pu])), (co, .inl (xM g, 24, .inr (.inr (.inr (.inr (fun i => if i < 24 then some (cr i) else none))))))] ++ (xRI (xI g) 24 17 cr cost ++ [(ro, .inl (xI g, 17, .inl (fun j => iI (room j)))), (us, .inl (xI g, 17, .inl (fun j => iI (used j)))), (sl, .inl (xI g, 24, .inl (fun j => nI (slot j)))), (wc, .inl (xI g, 18, .inl (fun j => iI (dd j)))), (nx, .inl (xI g, 18, .inl (fun j => nI (nxt j)))), (pu, .inl (xI g, 18, .inl (fun j => iI (psh j))))])) sz U)) (va_Qv (fun (u : Nat → Int) => True) (fun (u : Nat → Int) (t : State) => ∃ (n1 : Nat → Nat) (p1 : Nat → Int), (∃ t, sWays (sE used room slot cost fp n) gl u n1 p1 t) ∧ (∀ j, (-3000000) ≤ u j ∧ u j ≤ 1000000) ∧ (∀ j, n1 j ≤ 17) ∧ (∀ j, (-1) ≤ p1 j ∧ p1 j ≤ 23) ∧ xE g ([(sg, .inr (5, [.int (nI n), .ref co, .ref ro, .ref us, .ref sl, .ref wc, .ref nx, .ref pu])), (co, .inl (xM g, 24, .inr (.inr (.inr (.inr (fun i => if i < 24 then some (cr i) else none))))))] ++ (xRI (xI g) 24 17 cr cost ++ [(ro, .inl (xI g, 17, .inl (fun j => iI (room j)))), (us, .inl (xI g, 17, .inl (fun j => iI (used j)))), (sl, .inl (xI g, 24, .inl (fun j => nI (slot j)))), (wc, .inl (xI g, 18, .inl (fun j => iI (u j)))), (nx, .inl (xI g, 18, .inl (fun j => nI (n1 j)))), (pu, .inl (xI g, 18, .inl (fun j => iI (p1 j))))])) (va_A ([(sg, .inr (5, [.int (nI n), .ref co, .ref ro, .ref us, .ref sl, .ref wc, .ref nx, .ref pu])), (co, .inl (xM g, 24, .inr (.inr (.inr (.inr (fun i => if i < 24 then some (cr i) else none))))))] ++ (xRI (xI g) 24 17 cr cost ++ [(ro, .inl (xI g, 17, .inl (fun j => iI (room j)))), (us, .inl (xI g, 17, .inl (fun j => iI (used j)))), (sl, .inl (xI g, 24, .inl (fun j => nI (slot j)))), (wc, .inl (xI g, 18, .inl (fun j => iI (dd j)))), (nx, .inl (xI g, 18, .inl (fun j => nI (nxt j)))), (pu, .inl (xI g, 18, .inl (fun j => iI (psh j))))])) sz) t) (va_A ([(sg, .inr (5, [.int (nI n), .ref co, .ref ro, .ref us, .ref sl, .ref wc, .ref nx, .ref pu])), (co, .inl (xM g, 24, .inr (.inr (.inr (.inr (fun i => if i < 24 then some (cr i) else none))))))] ++ (xRI (xI g) 24 17 cr cost ++ [(ro, .inl (xI g, 17, .inl (fun j => iI (room j)))), (us, .inl (xI g, 17, .inl (fun j => iI (used j)))), (sl, .inl (xI g, 24, .inl (fun j => nI (slot j)))), (wc, .inl (xI g, 18, .inl (fun j => iI (dd j)))), (nx, .inl (xI g, 18, .inl (fun j => nI (nxt j)))), (pu, .inl (xI g, 18, .inl (fun j => iI (psh j))))])) sz)) 0 0 (va_A ([(sg, .inr (5, [.int (nI n), .ref co, .ref ro, .ref us, .ref sl, .ref wc, .ref nx, .ref pu])), (co, .inl (xM g, 24, .inr (.inr (.inr (.inr (fun i => if i < 24 then some (cr i) else none))))))] ++ (xRI (xI g) 24 17 cr cost ++ [(ro, .inl (xI g, 17, .inl (fun j => iI (room j)))), (us, .inl (xI g, 17, .inl (fun j => iI (used j)))), (sl, .inl (xI g, 24, .inl (fun j => nI (slot j)))), (wc, .inl (xI g, 18, .inl (fun j => iI (dd j)))), (nx, .inl (xI g, 18, .inl (fun j => nI (nxt j)))), (pu, .inl (xI g, 18, .inl (fun j => iI (psh j))))])) sz) := by
  refine Met.ofW (cc := cX5_findWays) (maxL := 6) (ret := none) (by decide) rfl ?_
  intro p e s m args below meth c s₁ B hml hv
  obtain ⟨rfl, hsz, hP, hK, hD0⟩ := hv
  have hx := B.exec
  have hb := B.bytes
  have hr := B.returns
  have hts := atoms_spec (ws := wsX5_findWays) B.pre
  have hown : s.vm.findClass RX5 = some m.cls := findClass_of_methodNamed B.named
  have hlocks := B.notSynchronized
  subst hsz
  have hD := hD0.self (sz := s.heap.size)
  generalize hAe : va_A ([(sg, .inr (5, [.int (nI n), .ref co, .ref ro, .ref us, .ref sl, .ref wc, .ref nx, .ref pu])), (co, .inl (xM g, 24, .inr (.inr (.inr (.inr (fun i => if i < 24 then some (cr i) else none))))))] ++ (xRI (xI g) 24 17 cr cost ++ [(ro, .inl (xI g, 17, .inl (fun j => iI (room j)))), (us, .inl (xI g, 17, .inl (fun j => iI (used j)))), (sl, .inl (xI g, 24, .inl (fun j => nI (slot j)))), (wc, .inl (xI g, 18, .inl (fun j => iI (dd j)))), (nx, .inl (xI g, 18, .inl (fun j => nI (nxt j)))), (pu, .inl (xI g, 18, .inl (fun j => iI (psh j))))])) s.heap.size = A at hD ⊢
  have hA : ∀ q : Nat, s.heap.size ≤ q → A q := fun q h => by rw [← hAe]; exact Or.inr h
  have hS : va_S A s.heap s.heap [] := va_S.rf
  have hl := lv_entry ([.ref sg, .int (nI gl), .int (nI fp)]) (n := 6) (Nat.le_of_ble_eq_true rfl)
  rw [lg_entry_eq]
  generalize (lg_sl ([.ref sg, .int (nI gl), .int (nI fp)]) ++ List.replicate (6 - (lg_sl ([.ref sg, .int (nI gl), .int (nI fp)])).length) Slot.unset).toArray = ls at hl ⊢
  have hl : lv_has ls 6 [(0, .ref sg), (1, .int (nI gl)), (2, .int (nI fp))] := hl
  have hFX5 : ∀ w ∈ u_ws RX5 TX5 8, w ∈ wsX5_findWays := by decide +kernel
  have hsm := sE_small (used := used) (room := room) hcs hin
  refine lv_iconst (v := 0) hx hb dX5_findWays_0 (by decide) ?_
  refine lv_istore_n (lv' := [(3, .int 0), (0, .ref sg), (1, .int (nI gl)), (2, .int (nI fp))]) hx hb dX5_findWays_1 rfl hl (by decide) rfl (fun ls hl => ?_)
  have hloop2 : ∀ (n9 : Nat) (k : Nat) (dk : Nat → Int) (nk : Nat → Nat) (pk : Nat → Int) (H : Heap) (locs : List Loc) (ls : Array Slot), 18 - k < n9 → (k ≤ 18) → (∀ j, j < k → dk j = 1000000 ∧ nk j = gl ∧ pk j = -1) → (∀ j, (-3000000) ≤ dk j ∧ dk j ≤ 1000000) → (∀ j, nk j ≤ 17) → (∀ j, (-1) ≤ pk j ∧ pk j ≤ 23) → va_P (xD g) vwCl ([(sg, .inr (5, [.int (nI n), .ref co, .ref ro, .ref us, .ref sl, .ref wc, .ref nx, .ref pu])), (co, .inl (xM g, 24, .inr (.inr (.inr (.inr (fun i => if i < 24 then some (cr i) else none))))))] ++ (xRI (xI g) 24 17 cr cost ++ [(ro, .inl (xI g, 17, .inl (fun j => iI (room j)))), (us, .inl (xI g, 17, .inl (fun j => iI (used j)))), (sl, .inl (xI g, 24, .inl (fun j => nI (slot j)))), (wc, .inl (xI g, 18, .inl (fun j => iI (dk j)))), (nx, .inl (xI g, 18, .inl (fun j => nI (nk j)))), (pu, .inl (xI g, 18, .inl (fun j => iI (pk j))))])) H → va_D A ([(sg, .inr (5, [.int (nI n), .ref co, .ref ro, .ref us, .ref sl, .ref wc, .ref nx, .ref pu])), (co, .inl (xM g, 24, .inr (.inr (.inr (.inr (fun i => if i < 24 then some (cr i) else none))))))] ++ (xRI (xI g) 24 17 cr cost ++ [(ro, .inl (xI g, 17, .inl (fun j => iI (room j)))), (us, .inl (xI g, 17, .inl (fun j => iI (used j)))), (sl, .inl (xI g, 24, .inl (fun j => nI (slot j)))), (wc, .inl (xI g, 18, .inl (fun j => iI (dk j)))), (nx, .inl (xI g, 18, .inl (fun j => nI (nk j)))), (pu, .inl (xI g, 18, .inl (fun j => iI (pk j))))])) → va_S A s.heap H locs → lv_has ls 6 [(3, .int (nI k)), (0, .ref sg), (1, .int (nI gl)), (2, .int (nI fp))] → W p l e (headSpec wsX5_findWays ({ frames := 2, cells := 0, slots := 0, locals := 49 })).room s m ([.ref sg, .int (nI gl), .int (nI fp)] : List Value).toArray below meth c H locs 0 0 (MQ below (va_Qv (fun (u : Nat → Int) => True) (fun (u : Nat → Int) (t : State) => ∃ (n1 : Nat → Nat) (p1 : Nat → Int), (∃ t, sWays (sE used room slot cost fp n) gl u n1 p1 t) ∧ (∀ j, (-3000000) ≤ u j ∧ u j ≤ 1000000) ∧ (∀ j, n1 j ≤ 17) ∧ (∀ j, (-1) ≤ p1 j ∧ p1 j ≤ 23) ∧ xE g ([(sg, .inr (5, [.int (nI n), .ref co, .ref ro, .ref us, .ref sl, .ref wc, .ref nx, .ref pu])), (co, .inl (xM g, 24, .inr (.inr (.inr (.inr (fun i => if i < 24 then some (cr i) else none))))))] ++ (xRI (xI g) 24 17 cr cost ++ [(ro, .inl (xI g, 17, .inl (fun j => iI (room j)))), (us, .inl (xI g, 17, .inl (fun j => iI (used j)))), (sl, .inl (xI g, 24, .inl (fun j => nI (slot j)))), (wc, .inl (xI g, 18, .inl (fun j => iI (u j)))), (nx, .inl (xI g, 18, .inl (fun j => nI (n1 j)))), (pu, .inl (xI g, 18, .inl (fun j => iI (p1 j))))])) (A) t) (A)) ([.ref sg, .int (nI gl), .int (nI fp)] : List Value).toArray s 0 0 A) (F0 m 2 ls []) := by
    intro n9
    induction n9 with
    | zero =>
      intro k dk nk pk H locs ls hm hk ha bb_dk bb_nk bb_pk hP hD hS hl
      exact absurd hm (Nat.not_lt_zero _)
    | succ n9 ih2 =>
      intro k dk nk pk H locs ls hm hk ha bb_dk bb_nk bb_pk hP hD hS hl
      refine lv_iload_n hx hb dX5_findWays_2 rfl (lv_at hl 0 rfl) ?_
      refine lv_bipush (v := 18) hx hb dX5_findWays_3 (by decide) ?_
      refine lv_icmp_ge (tgt := 36) hx hb dX5_findWays_5 (by decide) (fun c_1 => ?_) (fun c_1 => ?_)
      · have nc_1 := (nI_leI (a := 18) (b := k) (by omega) (by omega)).mp c_1
        refine lv_aload_n hx hb dX5_findWays_36 rfl (lv_at hl 1 rfl) ?_
        refine va_get (D := xD g) (ci := 5) (v := .ref wc) (C := RX5) (T := TX5) (N := 8) hx hb hts hFX5 hown hK hP 0 rfl rfl 5 (by decide) (hts (.fieldLink RX5 26 "Stevedore$SlotGiver" "wayCost" "[I") (by decide +kernel)) (fun _ h9 => h9) rfl dX5_findWays_37 ?_
        refine lv_iload_n hx hb dX5_findWays_40 rfl (lv_at hl 2 rfl) ?_
        refine lv_iconst (v := 0) hx hb dX5_findWays_41 (by decide) ?_
        refine va_iast (x := 0) hx hb hK hP hD hS 29 0 rfl rfl (vp_in_nI (by omega) (by omega)) dX5_findWays_42 (fun H locs hP hD hS => ?_)
        rw [iU (f := dk) (k := gl) (v := 0) (nI_clamp (by omega)) (by decide)] at hP hD
        have hb_2 : ∀ j, (-3000000) ≤ (zU dk gl 0) j ∧ (zU dk gl 0) j ≤ 1000000 := zU_all (P := fun q9 => (-3000000) ≤ q9 ∧ q9 ≤ 1000000) bb_dk (by omega)
        have hP : va_P (xD g) vwCl ([(sg, .inr (5, [.int (nI n), .ref co, .ref ro, .ref us, .ref sl, .ref wc, .ref nx, .ref pu])), (co, .inl (xM g, 24, .inr (.inr (.inr (.inr (fun i => if i < 24 then some (cr i) else none))))))] ++ (xRI (xI g) 24 17 cr cost ++ [(ro, .inl (xI g, 17, .inl (fun j => iI (room j)))), (us, .inl (xI g, 17, .inl (fun j => iI (used j)))), (sl, .inl (xI g, 24, .inl (fun j => nI (slot j)))), (wc, .inl (xI g, 18, .inl (fun j => iI ((zU dk gl 0) j)))), (nx, .inl (xI g, 18, .inl (fun j => nI (nk j)))), (pu, .inl (xI g, 18, .inl (fun j => iI (pk j))))])) H := hP
        have hD : va_D A ([(sg, .inr (5, [.int (nI n), .ref co, .ref ro, .ref us, .ref sl, .ref wc, .ref nx, .ref pu])), (co, .inl (xM g, 24, .inr (.inr (.inr (.inr (fun i => if i < 24 then some (cr i) else none))))))] ++ (xRI (xI g) 24 17 cr cost ++ [(ro, .inl (xI g, 17, .inl (fun j => iI (room j)))), (us, .inl (xI g, 17, .inl (fun j => iI (used j)))), (sl, .inl (xI g, 24, .inl (fun j => nI (slot j)))), (wc, .inl (xI g, 18, .inl (fun j => iI ((zU dk gl 0) j)))), (nx, .inl (xI g, 18, .inl (fun j => nI (nk j)))), (pu, .inl (xI g, 18, .inl (fun j => iI (pk j))))])) := hD
        have hP := xPnorm (k := 29) (f1 := (fun j => iI ((fun u => if u = gl then 0 else 1000000) j))) hP rfl (fun j hj => congrArg iI (by have q := ha j (by omega); show (if j = gl then (0 : Int) else dk j) = (if j = gl then 0 else 1000000); rw [q.1]))
        have hD := xDnorm (k := 29) (f1 := (fun j => iI ((fun u => if u = gl then 0 else 1000000) j))) hD rfl
        have hb_3 : ∀ j, (-3000000) ≤ (fun u => if u = gl then 0 else 1000000) j ∧ (fun u => if u = gl then 0 else 1000000) j ≤ 1000000 := (fun j => by dsimp only; split <;> omega)
        have hP : va_P (xD g) vwCl ([(sg, .inr (5, [.int (nI n), .ref co, .ref ro, .ref us, .ref sl, .ref wc, .ref nx, .ref pu])), (co, .inl (xM g, 24, .inr (.inr (.inr (.inr (fun i => if i < 24 then some (cr i) else none))))))] ++ (xRI (xI g) 24 17 cr cost ++ [(ro, .inl (xI g, 17, .inl (fun j => iI (room j)))), (us, .inl (xI g, 17, .inl (fun j => iI (used j)))), (sl, .inl (xI g, 24, .inl (fun j => nI (slot j)))), (wc, .inl (xI g, 18, .inl (fun j => iI ((fun u => if u = gl then 0 else 1000000) j)))), (nx, .inl (xI g, 18, .inl (fun j => nI (nk j)))), (pu, .inl (xI g, 18, .inl (fun j => iI (pk j))))])) H := hP
        have hD : va_D A ([(sg, .inr (5, [.int (nI n), .ref co, .ref ro, .ref us, .ref sl, .ref wc, .ref nx, .ref pu])), (co, .inl (xM g, 24, .inr (.inr (.inr (.inr (fun i => if i < 24 then some (cr i) else none))))))] ++ (xRI (xI g) 24 17 cr cost ++ [(ro, .inl (xI g, 17, .inl (fun j => iI (room j)))), (us, .inl (xI g, 17, .inl (fun j => iI (used j)))), (sl, .inl (xI g, 24, .inl (fun j => nI (slot j)))), (wc, .inl (xI g, 18, .inl (fun j => iI ((fun u => if u = gl then 0 else 1000000) j)))), (nx, .inl (xI g, 18, .inl (fun j => nI (nk j)))), (pu, .inl (xI g, 18, .inl (fun j => iI (pk j))))])) := hD
        have hP := xPnorm (k := 30) (f1 := (fun j => nI ((fun _ => gl) j))) hP rfl (fun j hj => congrArg nI (ha j (by omega)).2.1)
        have hD := xDnorm (k := 30) (f1 := (fun j => nI ((fun _ => gl) j))) hD rfl
        have hb_4 : ∀ j, (fun _ => gl) j ≤ 17 := (fun j => by dsimp only; omega)
        have hP : va_P (xD g) vwCl ([(sg, .inr (5, [.int (nI n), .ref co, .ref ro, .ref us, .ref sl, .ref wc, .ref nx, .ref pu])), (co, .inl (xM g, 24, .inr (.inr (.inr (.inr (fun i => if i < 24 then some (cr i) else none))))))] ++ (xRI (xI g) 24 17 cr cost ++ [(ro, .inl (xI g, 17, .inl (fun j => iI (room j)))), (us, .inl (xI g, 17, .inl (fun j => iI (used j)))), (sl, .inl (xI g, 24, .inl (fun j => nI (slot j)))), (wc, .inl (xI g, 18, .inl (fun j => iI ((fun u => if u = gl then 0 else 1000000) j)))), (nx, .inl (xI g, 18, .inl (fun j => nI ((fun _ => gl) j)))), (pu, .inl (xI g, 18, .inl (fun j => iI (pk j))))])) H := hP
        have hD : va_D A ([(sg, .inr (5, [.int (nI n), .ref co, .ref ro, .ref us, .ref sl, .ref wc, .ref nx, .ref pu])), (co, .inl (xM g, 24, .inr (.inr (.inr (.inr (fun i => if i < 24 then some (cr i) else none))))))] ++ (xRI (xI g) 24 17 cr cost ++ [(ro, .inl (xI g, 17, .inl (fun j => iI (room j)))), (us, .inl (xI g, 17, .inl (fun j => iI (used j)))), (sl, .inl (xI g, 24, .inl (fun j => nI (slot j)))), (wc, .inl (xI g, 18, .inl (fun j => iI ((fun u => if u = gl then 0 else 1000000) j)))), (nx, .inl (xI g, 18, .inl (fun j => nI ((fun _ => gl) j)))), (pu, .inl (xI g, 18, .inl (fun j => iI (pk j))))])) := hD
        have hP := xPnorm (k := 31) (f1 := (fun j => iI ((fun _ => -1) j))) hP rfl (fun j hj => congrArg iI (ha j (by omega)).2.2)
        have hD := xDnorm (k := 31) (f1 := (fun j => iI ((fun _ => -1) j))) hD rfl
        have hb_5 : ∀ j, (-1) ≤ (fun _ => -1) j ∧ (fun _ => -1) j ≤ 23 := (fun j => by dsimp only; omega)
        have hP : va_P (xD g) vwCl ([(sg, .inr (5, [.int (nI n), .ref co, .ref ro, .ref us, .ref sl, .ref wc, .ref nx, .ref pu])), (co, .inl (xM g, 24, .inr (.inr (.inr (.inr (fun i => if i < 24 then some (cr i) else none))))))] ++ (xRI (xI g) 24 17 cr cost ++ [(ro, .inl (xI g, 17, .inl (fun j => iI (room j)))), (us, .inl (xI g, 17, .inl (fun j => iI (used j)))), (sl, .inl (xI g, 24, .inl (fun j => nI (slot j)))), (wc, .inl (xI g, 18, .inl (fun j => iI ((fun u => if u = gl then 0 else 1000000) j)))), (nx, .inl (xI g, 18, .inl (fun j => nI ((fun _ => gl) j)))), (pu, .inl (xI g, 18, .inl (fun j => iI ((fun _ => -1) j))))])) H := hP
        have hD : va_D A ([(sg, .inr (5, [.int (nI n), .ref co, .ref ro, .ref us, .ref sl, .ref wc, .ref nx, .ref pu])), (co, .inl (xM g, 24, .inr (.inr (.inr (.inr (fun i => if i < 24 then some (cr i) else none))))))] ++ (xRI (xI g) 24 17 cr cost ++ [(ro, .inl (xI g, 17, .inl (fun j => iI (room j)))), (us, .inl (xI g, 17, .inl (fun j => iI (used j)))), (sl, .inl (xI g, 24, .inl (fun j => nI (slot j)))), (wc, .inl (xI g, 18, .inl (fun j => iI ((fun u => if u = gl then 0 else 1000000) j)))), (nx, .inl (xI g, 18, .inl (fun j => nI ((fun _ => gl) j)))), (pu, .inl (xI g, 18, .inl (fun j => iI ((fun _ => -1) j))))])) := hD
        refine lv_iconst (v := 1) hx hb dX5_findWays_43 (by decide) ?_
        refine lv_istore_n (lv' := [(3, .int 1), (0, .ref sg), (1, .int (nI gl)), (2, .int (nI fp))]) hx hb dX5_findWays_44 rfl hl (by decide) rfl (fun ls hl => ?_)
        refine lv_iconst (v := 0) hx hb dX5_findWays_45 (by decide) ?_
        refine lv_istore (lv' := [(4, .int 0), (3, .int 1), (0, .ref sg), (1, .int (nI gl)), (2, .int (nI fp))]) hx hb dX5_findWays_46 hl (by decide) rfl (fun ls hl => ?_)
        have hloop48 : ∀ (n9 : Nat) (i : Nat) (di : Nat → Int) (ni : Nat → Nat) (pi : Nat → Int) (fl : Int) (H : Heap) (locs : List Loc) (ls : Array Slot), 18 - i < n9 → (i ≤ 18) → (∃ t T, sBF (sE used room slot cost fp n) gl di ni pi t T) → ((fl = 1 ∧ sDone (sE used room slot cost fp n) gl di i) ∨ (fl = 0 ∧ sFix (sE used room slot cost fp n) di)) → (∀ j, (-3000000) ≤ di j ∧ di j ≤ 1000000) → (∀ j, ni j ≤ 17) → (∀ j, (-1) ≤ pi j ∧ pi j ≤ 23) → va_P (xD g) vwCl ([(sg, .inr (5, [.int (nI n), .ref co, .ref ro, .ref us, .ref sl, .ref wc, .ref nx, .ref pu])), (co, .inl (xM g, 24, .inr (.inr (.inr (.inr (fun i => if i < 24 then some (cr i) else none))))))] ++ (xRI (xI g) 24 17 cr cost ++ [(ro, .inl (xI g, 17, .inl (fun j => iI (room j)))), (us, .inl (xI g, 17, .inl (fun j => iI (used j)))), (sl, .inl (xI g, 24, .inl (fun j => nI (slot j)))), (wc, .inl (xI g, 18, .inl (fun j => iI (di j)))), (nx, .inl (xI g, 18, .inl (fun j => nI (ni j)))), (pu, .inl (xI g, 18, .inl (fun j => iI (pi j))))])) H → va_D A ([(sg, .inr (5, [.int (nI n), .ref co, .ref ro, .ref us, .ref sl, .ref wc, .ref nx, .ref pu])), (co, .inl (xM g, 24, .inr (.inr (.inr (.inr (fun i => if i < 24 then some (cr i) else none))))))] ++ (xRI (xI g) 24 17 cr cost ++ [(ro, .inl (xI g, 17, .inl (fun j => iI (room j)))), (us, .inl (xI g, 17, .inl (fun j => iI (used j)))), (sl, .inl (xI g, 24, .inl (fun j => nI (slot j)))), (wc, .inl (xI g, 18, .inl (fun j => iI (di j)))), (nx, .inl (xI g, 18, .inl (fun j => nI (ni j)))), (pu, .inl (xI g, 18, .inl (fun j => iI (pi j))))])) → va_S A s.heap H locs → lv_has ls 6 [(4, .int (nI i)), (0, .ref sg), (2, .int (nI fp)), (3, .int (iI fl))] → W p l e (headSpec wsX5_findWays ({ frames := 2, cells := 0, slots := 0, locals := 49 })).room s m ([.ref sg, .int (nI gl), .int (nI fp)] : List Value).toArray below meth c H locs 0 0 (MQ below (va_Qv (fun (u : Nat → Int) => True) (fun (u : Nat → Int) (t : State) => ∃ (n1 : Nat → Nat) (p1 : Nat → Int), (∃ t, sWays (sE used room slot cost fp n) gl u n1 p1 t) ∧ (∀ j, (-3000000) ≤ u j ∧ u j ≤ 1000000) ∧ (∀ j, n1 j ≤ 17) ∧ (∀ j, (-1) ≤ p1 j ∧ p1 j ≤ 23) ∧ xE g ([(sg, .inr (5, [.int (nI n), .ref co, .ref ro, .ref us, .ref sl, .ref wc, .ref nx, .ref pu])), (co, .inl (xM g, 24, .inr (.inr (.inr (.inr (fun i => if i < 24 then some (cr i) else none))))))] ++ (xRI (xI g) 24 17 cr cost ++ [(ro, .inl (xI g, 17, .inl (fun j => iI (room j)))), (us, .inl (xI g, 17, .inl (fun j => iI (used j)))), (sl, .inl (xI g, 24, .inl (fun j => nI (slot j)))), (wc, .inl (xI g, 18, .inl (fun j => iI (u j)))), (nx, .inl (xI g, 18, .inl (fun j => nI (n1 j)))), (pu, .inl (xI g, 18, .inl (fun j => iI (p1 j))))])) (A) t) (A)) ([.ref sg, .int (nI gl), .int (nI fp)] : List Value).toArray s 0 0 A) (F0 m 48 ls []) := by
          intro n9
          induction n9 with
          | zero =>
            intro i di ni pi fl H locs ls hm hi hbi hfi bb_di bb_ni bb_pi hP hD hS hl
            exact absurd hm (Nat.not_lt_zero _)
          | succ n9 ih48 =>
            intro i di ni pi fl H locs ls hm hi hbi hfi bb_di bb_ni bb_pi hP hD hS hl
            have hfl : fl = 0 ∨ fl = 1 := by rcases hfi with q | q; · exact Or.inr q.1; · exact Or.inl q.1
            refine lv_iload hx hb dX5_findWays_48 (lv_at hl 0 rfl) ?_
            refine lv_bipush (v := 18) hx hb dX5_findWays_50 (by decide) ?_
            refine lv_icmp_ge (tgt := 107) hx hb dX5_findWays_52 (by decide) (fun c_6 => ?_) (fun c_6 => ?_)
            · have nc_6 := (nI_leI (a := 18) (b := i) (by omega) (by omega)).mp c_6
              have hP9 := hP
              have hD9 := hD
              exact W.vret hx hb hr (fun t ht hW => ⟨⟨di, rfl, (by first | trivial | rfl | assumption | omega), ⟨ni, pi, (by obtain ⟨t8, T8, hb8⟩ := hbi; refine ⟨t8, sWays_of hp hsm (by omega) hb8 ?_⟩; rcases hfi with ⟨q, q2⟩ | ⟨q, q2⟩; · first | (exfalso; omega) | exact sFix_done hp hsm (by omega) hb8 (fun k u c hk hw => q2 k u c (by omega) hw); · exact q2), bb_di, bb_ni, bb_pi, by rw [ht]; exact hP9, va_K.moved hW.alike hK, hD9⟩⟩, hS.F ht⟩) hS.2.2 dX5_findWays_107
            · have nc_6 := mt (nI_leI (a := 18) (b := i) (by omega) (by omega)).mpr c_6
              refine lv_iload_n hx hb dX5_findWays_55 rfl (lv_at hl 3 rfl) ?_
              refine lv_if_eq (tgt := 107) hx hb dX5_findWays_56 (by decide) (fun c_7 => ?_) (fun c_7 => ?_)
              · have nc_7 := (iEq (a := fl) (b := 0) rfl (by decide) (by omega)).mp c_7
                have hP9 := hP
                have hD9 := hD
                exact W.vret hx hb hr (fun t ht hW => ⟨⟨di, rfl, (by first | trivial | rfl | assumption | omega), ⟨ni, pi, (by obtain ⟨t8, T8, hb8⟩ := hbi; refine ⟨t8, sWays_of hp hsm (by omega) hb8 ?_⟩; rcases hfi with ⟨q, q2⟩ | ⟨q, q2⟩; · first | (exfalso; omega) | exact sFix_done hp hsm (by omega) hb8 (fun k u c hk hw => q2 k u c (by omega) hw); · exact q2), bb_di, bb_ni, bb_pi, by rw [ht]; exact hP9, va_K.moved hW.alike hK, hD9⟩⟩, hS.F ht⟩) hS.2.2 dX5_findWays_107
              · have nc_7 := mt (iEq (a := fl) (b := 0) rfl (by decide) (by omega)).mpr c_7
                refine lv_aload_n hx hb dX5_findWays_59 rfl (lv_at hl 1 rfl) ?_
                have hPc := hP.sub (ws' := [(sg, .inr (5, [.int (nI n), .ref co, .ref ro, .ref us, .ref sl, .ref wc, .ref nx, .ref pu])), (ro, .inl (xI g, 17, .inl (fun j => iI (room j)))), (us, .inl (xI g, 17, .inl (fun j => iI (used j)))), (wc, .inl (xI g, 18, .inl (fun j => iI (di j)))), (nx, .inl (xI g, 18, .inl (fun j => nI (ni j)))), (pu, .inl (xI g, 18, .inl (fun j => iI (pi j))))]) [0, 26, 27, 29, 30, 31] rfl
                have hDc := hD.sub (ws' := [(sg, .inr (5, [.int (nI n), .ref co, .ref ro, .ref us, .ref sl, .ref wc, .ref nx, .ref pu])), (ro, .inl (xI g, 17, .inl (fun j => iI (room j)))), (us, .inl (xI g, 17, .inl (fun j => iI (used j)))), (wc, .inl (xI g, 18, .inl (fun j => iI (di j)))), (nx, .inl (xI g, 18, .inl (fun j => nI (ni j)))), (pu, .inl (xI g, 18, .inl (fun j => iI (pi j))))]) [0, 26, 27, 29, 30, 31] (by decide) rfl
                have hFc := va_free (wc := [(sg, .inr (5, [.int (nI n), .ref co, .ref ro, .ref us, .ref sl, .ref wc, .ref nx, .ref pu])), (ro, .inl (xI g, 17, .inl (fun j => iI (room j)))), (us, .inl (xI g, 17, .inl (fun j => iI (used j)))), (wc, .inl (xI g, 18, .inl (fun j => iI (di j)))), (nx, .inl (xI g, 18, .inl (fun j => nI (ni j)))), (pu, .inl (xI g, 18, .inl (fun j => iI (pi j))))]) hD hS hA [0, 26, 27, 29, 30, 31] rfl
                refine va_calli (va_runV (As := []) (rest := []) ⟨hx, hb, hml, hown, hts⟩ (g_shortenOverSpare l g H.size sg ro us wc nx pu (sE used room slot cost fp n) gl hh (.int (nI n)) (.ref co) (.ref sl) room used di ni pi hp hhb hbi (fun s9 h1 h2 => Or.inl ⟨h1, rfl, rfl, rfl, h2⟩) (fun s9 h1 h2 => Or.inr (Or.inl ⟨rfl, h1, rfl, rfl, h2⟩)) b_room b_used bb_di bb_ni bb_pi) (cwV 0 hts gX5_findWays_X5_shortenOverSpare rfl rfl rfl (by decide +kernel) ⟨Nat.le_of_ble_eq_true rfl, Nat.le_of_ble_eq_true rfl⟩) ⟨xB.blind, va_recv hK hPc (ci := 5) (q0 := 0) rfl rfl, fun U9 hU9 hW9 => ⟨rfl, xB.mk hPc hK hDc hU9 hW9⟩⟩ rfl rfl hl.1 rfl (lv_room (Nat.le_of_ble_eq_true rfl)) dX5_findWays_60 ⟨Nat.le_of_ble_eq_true rfl, Nat.le_of_ble_eq_true rfl⟩) hS (fun q _ h => hFc q h) hFc (fun r_8 u_10 t H1 locs ht hvm hw_9 hB hz1 hk1 hS => ?_)
                obtain ⟨n1_11, p1_12, hc_13, hb_14, hb_15, hb_16, hP1, hK1, hD1⟩ := hB
                rw [ht] at hP1
                obtain ⟨hP, hD⟩ := va_join (wr := ([(co, .inl (xM g, 24, .inr (.inr (.inr (.inr (fun i => if i < 24 then some (cr i) else none))))))] ++ (xRI (xI g) 24 17 cr cost ++ [(sl, .inl (xI g, 24, .inl (fun j => nI (slot j))))]))) (w1 := [(sg, .inr (5, [.int (nI n), .ref co, .ref ro, .ref us, .ref sl, .ref wc, .ref nx, .ref pu])), (ro, .inl (xI g, 17, .inl (fun j => iI (room j)))), (us, .inl (xI g, 17, .inl (fun j => iI (used j)))), (wc, .inl (xI g, 18, .inl (fun j => iI (u_10 j)))), (nx, .inl (xI g, 18, .inl (fun j => nI (n1_11 j)))), (pu, .inl (xI g, 18, .inl (fun j => iI (p1_12 j))))]) hP hD [0, 26, 27, 29, 30, 31] [1, 2, 3, 4, 5, 6, 7, 8, 9, 10, 11, 12, 13, 14, 15, 16, 17, 18, 19, 20, 21, 22, 23, 24, 25, 28] rfl rfl (by decide) (by decide) hk1 hFc hP1 hD1
                generalize H1 = H at hP hS ⊢
                have hP : va_P (xD g) vwCl ([(co, .inl (xM g, 24, .inr (.inr (.inr (.inr (fun i => if i < 24 then some (cr i) else none))))))] ++ (xRI (xI g) 24 17 cr cost ++ [(sl, .inl (xI g, 24, .inl (fun j => nI (slot j)))), (sg, .inr (5, [.int (nI n), .ref co, .ref ro, .ref us, .ref sl, .ref wc, .ref nx, .ref pu])), (ro, .inl (xI g, 17, .inl (fun j => iI (room j)))), (us, .inl (xI g, 17, .inl (fun j => iI (used j)))), (wc, .inl (xI g, 18, .inl (fun j => iI (u_10 j)))), (nx, .inl (xI g, 18, .inl (fun j => nI (n1_11 j)))), (pu, .inl (xI g, 18, .inl (fun j => iI (p1_12 j))))])) H := hP
                have hD : va_D A ([(co, .inl (xM g, 24, .inr (.inr (.inr (.inr (fun i => if i < 24 then some (cr i) else none))))))] ++ (xRI (xI g) 24 17 cr cost ++ [(sl, .inl (xI g, 24, .inl (fun j => nI (slot j)))), (sg, .inr (5, [.int (nI n), .ref co, .ref ro, .ref us, .ref sl, .ref wc, .ref nx, .ref pu])), (ro, .inl (xI g, 17, .inl (fun j => iI (room j)))), (us, .inl (xI g, 17, .inl (fun j => iI (used j)))), (wc, .inl (xI g, 18, .inl (fun j => iI (u_10 j)))), (nx, .inl (xI g, 18, .inl (fun j => nI (n1_11 j)))), (pu, .inl (xI g, 18, .inl (fun j => iI (p1_12 j))))])) := hD
                try dsimp only at hw_9
                obtain ⟨hb_17, hle_17, hp_17⟩ := hc_13
                rcases hw_9 with rfl | ⟨rfl, hu_17⟩
                · refine lv_istore_n (lv' := [(3, .int 1), (4, .int (nI i)), (0, .ref sg), (2, .int (nI fp))]) hx hb dX5_findWays_63 rfl hl (by decide) rfl (fun ls hl => ?_)
                  refine lv_iload_n hx hb dX5_findWays_64 rfl (lv_at hl 3 rfl) ?_
                  refine lv_istore (lv' := [(5, .int (nI fp)), (3, .int 1), (4, .int (nI i)), (0, .ref sg), (2, .int (nI fp))]) hx hb dX5_findWays_65 hl (by decide) rfl (fun ls hl => ?_)
                  have hloop67 : ∀ (n9 : Nat) (c9 : Nat) (dj : Nat → Int) (nj : Nat → Nat) (pj : Nat → Int) (f2 : Int) (H : Heap) (locs : List Loc) (ls : Array Slot), n - c9 < n9 → (fp ≤ c9) → (c9 ≤ n) → (∃ t T, sBF (sE used room slot cost fp n) gl dj nj pj t T) → (∀ x, dj x ≤ di x) → (sP1 used room di dj 17) → (∀ c, fp ≤ c → c < c9 → sP2 cost di dj c (slot c) 17) → (f2 = 1 ∨ (f2 = 0 ∧ dj = di)) → (∀ j, (-3000000) ≤ dj j ∧ dj j ≤ 1000000) → (∀ j, nj j ≤ 17) → (∀ j, (-1) ≤ pj j ∧ pj j ≤ 23) → va_P (xD g) vwCl ([(sg, .inr (5, [.int (nI n), .ref co, .ref ro, .ref us, .ref sl, .ref wc, .ref nx, .ref pu])), (co, .inl (xM g, 24, .inr (.inr (.inr (.inr (fun i => if i < 24 then some (cr i) else none))))))] ++ (xRI (xI g) 24 17 cr cost ++ [(ro, .inl (xI g, 17, .inl (fun j => iI (room j)))), (us, .inl (xI g, 17, .inl (fun j => iI (used j)))), (sl, .inl (xI g, 24, .inl (fun j => nI (slot j)))), (wc, .inl (xI g, 18, .inl (fun j => iI (dj j)))), (nx, .inl (xI g, 18, .inl (fun j => nI (nj j)))), (pu, .inl (xI g, 18, .inl (fun j => iI (pj j))))])) H → va_D A ([(sg, .inr (5, [.int (nI n), .ref co, .ref ro, .ref us, .ref sl, .ref wc, .ref nx, .ref pu])), (co, .inl (xM g, 24, .inr (.inr (.inr (.inr (fun i => if i < 24 then some (cr i) else none))))))] ++ (xRI (xI g) 24 17 cr cost ++ [(ro, .inl (xI g, 17, .inl (fun j => iI (room j)))), (us, .inl (xI g, 17, .inl (fun j => iI (used j)))), (sl, .inl (xI g, 24, .inl (fun j => nI (slot j)))), (wc, .inl (xI g, 18, .inl (fun j => iI (dj j)))), (nx, .inl (xI g, 18, .inl (fun j => nI (nj j)))), (pu, .inl (xI g, 18, .inl (fun j => iI (pj j))))])) → va_S A s.heap H locs → lv_has ls 6 [(5, .int (nI c9)), (0, .ref sg), (2, .int (nI fp)), (3, .int (iI f2)), (4, .int (nI i))] → W p l e (headSpec wsX5_findWays ({ frames := 2, cells := 0, slots := 0, locals := 49 })).room s m ([.ref sg, .int (nI gl), .int (nI fp)] : List Value).toArray below meth c H locs 0 0 (MQ below (va_Qv (fun (u : Nat → Int) => True) (fun (u : Nat → Int) (t : State) => ∃ (n1 : Nat → Nat) (p1 : Nat → Int), (∃ t, sWays (sE used room slot cost fp n) gl u n1 p1 t) ∧ (∀ j, (-3000000) ≤ u j ∧ u j ≤ 1000000) ∧ (∀ j, n1 j ≤ 17) ∧ (∀ j, (-1) ≤ p1 j ∧ p1 j ≤ 23) ∧ xE g ([(sg, .inr (5, [.int (nI n), .ref co, .ref ro, .ref us, .ref sl, .ref wc, .ref nx, .ref pu])), (co, .inl (xM g, 24, .inr (.inr (.inr (.inr (fun i => if i < 24 then some (cr i) else none))))))] ++ (xRI (xI g) 24 17 cr cost ++ [(ro, .inl (xI g, 17, .inl (fun j => iI (room j)))), (us, .inl (xI g, 17, .inl (fun j => iI (used j)))), (sl, .inl (xI g, 24, .inl (fun j => nI (slot j)))), (wc, .inl (xI g, 18, .inl (fun j => iI (u j)))), (nx, .inl (xI g, 18, .inl (fun j => nI (n1 j)))), (pu, .inl (xI g, 18, .inl (fun j => iI (p1 j))))])) (A) t) (A)) ([.ref sg, .int (nI gl), .int (nI fp)] : List Value).toArray s 0 0 A) (F0 m 67 ls []) := by
                    intro n9
                    induction n9 with
                    | zero =>
                      intro c9 dj nj pj f2 H locs ls hm hc1 hc2 hbj hlj hpj hqj hfj bb_dj bb_nj bb_pj hP hD hS hl
                      exact absurd hm (Nat.not_lt_zero _)
                    | succ n9 ih67 =>
                      intro c9 dj nj pj f2 H locs ls hm hc1 hc2 hbj hlj hpj hqj hfj bb_dj bb_nj bb_pj hP hD hS hl
                      have hf2 : f2 = 0 ∨ f2 = 1 := by rcases hfj with q | q; · exact Or.inr q; · exact Or.inl q.1
                      refine lv_iload hx hb dX5_findWays_67 (lv_at hl 0 rfl) ?_
                      refine lv_aload_n hx hb dX5_findWays_69 rfl (lv_at hl 1 rfl) ?_
                      refine va_get (D := xD g) (ci := 5) (v := .int (nI n)) (C := RX5) (T := TX5) (N := 8) hx hb hts hFX5 hown hK hP 0 rfl rfl 0 (by decide) (hts (.fieldLink RX5 41 "Stevedore$SlotGiver" "count" "I") (by decide +kernel)) (fun _ h9 => h9) rfl dX5_findWays_70 ?_
                      refine lv_icmp_ge (tgt := 101) hx hb dX5_findWays_73 (by decide) (fun c_18 => ?_) (fun c_18 => ?_)
                      · have nc_18 := (nI_leI (a := n) (b := c9) (by omega) (by omega)).mp c_18
                        refine lv_iinc (v := nI (i + 1)) (lv' := [(4, .int (nI (i + 1))), (5, .int (nI c9)), (0, .ref sg), (2, .int (nI fp)), (3, .int (iI f2))]) hx hb dX5_findWays_101 hl (k := 4) rfl (nI_add i 1) (by decide) rfl (fun ls hl => ?_)
                        refine lv_goto (tgt := 48) hx hb dX5_findWays_104 (by decide) ?_
                        exact ih48 (i + 1) dj nj pj f2 _ _ _ (by omega) (by omega) hbj (by have hq9 := fun (c : Nat) (h1 : fp ≤ c) (h2 : c < n) => hqj c h1 (by omega); rcases hfj with q | ⟨q, q2⟩; · exact Or.inl ⟨q, sDone_pass hsm (by omega) ((hfi.resolve_right (fun z => by omega)).2) hlj (sPs hpj hq9)⟩; · exact Or.inr ⟨q, by rw [q2] at hpj hq9 ⊢; exact sPs hpj hq9⟩) bb_dj bb_nj bb_pj hP hD hS (lv_sub hl [0, 2, 3, 4] rfl)
                      · have nc_18 := mt (nI_leI (a := n) (b := c9) (by omega) (by omega)).mpr c_18
                        refine lv_aload_n hx hb dX5_findWays_76 rfl (lv_at hl 1 rfl) ?_
                        refine lv_iload hx hb dX5_findWays_77 (lv_at hl 0 rfl) ?_
                        have hPc := hP.sub (ws' := ([(sg, .inr (5, [.int (nI n), .ref co, .ref ro, .ref us, .ref sl, .ref wc, .ref nx, .ref pu])), (co, .inl (xM g, 24, .inr (.inr (.inr (.inr (fun i => if i < 24 then some (cr i) else none))))))] ++ (xRI (xI g) 24 17 cr cost ++ [(sl, .inl (xI g, 24, .inl (fun j => nI (slot j)))), (wc, .inl (xI g, 18, .inl (fun j => iI (dj j)))), (nx, .inl (xI g, 18, .inl (fun j => nI (nj j)))), (pu, .inl (xI g, 18, .inl (fun j => iI (pj j))))]))) [0, 1, 2, 3, 4, 5, 6, 7, 8, 9, 10, 11, 12, 13, 14, 15, 16, 17, 18, 19, 20, 21, 22, 23, 24, 25, 28, 29, 30, 31] rfl
                        have hDc := hD.sub (ws' := ([(sg, .inr (5, [.int (nI n), .ref co, .ref ro, .ref us, .ref sl, .ref wc, .ref nx, .ref pu])), (co, .inl (xM g, 24, .inr (.inr (.inr (.inr (fun i => if i < 24 then some (cr i) else none))))))] ++ (xRI (xI g) 24 17 cr cost ++ [(sl, .inl (xI g, 24, .inl (fun j => nI (slot j)))), (wc, .inl (xI g, 18, .inl (fun j => iI (dj j)))), (nx, .inl (xI g, 18, .inl (fun j => nI (nj j)))), (pu, .inl (xI g, 18, .inl (fun j => iI (pj j))))]))) [0, 1, 2, 3, 4, 5, 6, 7, 8, 9, 10, 11, 12, 13, 14, 15, 16, 17, 18, 19, 20, 21, 22, 23, 24, 25, 28, 29, 30, 31] (by decide) rfl
                        have hFc := va_free (wc := ([(sg, .inr (5, [.int (nI n), .ref co, .ref ro, .ref us, .ref sl, .ref wc, .ref nx, .ref pu])), (co, .inl (xM g, 24, .inr (.inr (.inr (.inr (fun i => if i < 24 then some (cr i) else none))))))] ++ (xRI (xI g) 24 17 cr cost ++ [(sl, .inl (xI g, 24, .inl (fun j => nI (slot j)))), (wc, .inl (xI g, 18, .inl (fun j => iI (dj j)))), (nx, .inl (xI g, 18, .inl (fun j => nI (nj j)))), (pu, .inl (xI g, 18, .inl (fun j => iI (pj j))))]))) hD hS hA [0, 1, 2, 3, 4, 5, 6, 7, 8, 9, 10, 11, 12, 13, 14, 15, 16, 17, 18, 19, 20, 21, 22, 23, 24, 25, 28, 29, 30, 31] rfl
                        refine va_calli (va_runV (As := [.int (nI c9)]) (rest := []) ⟨hx, hb, hml, hown, hts⟩ (g_shortenByPush l g H.size sg co sl wc nx pu c9 cr (sE used room slot cost fp n) gl hh (.int (nI n)) (.ref ro) (.ref us) cost slot dj nj pj hp hhb hbj (by first | assumption | omega) (fun s9 h1 h2 h3 => Or.inr (Or.inr ⟨c9, by omega, by omega, rfl, h1, h2, h3, rfl, rfl⟩)) b_cost b_slot bb_dj bb_nj bb_pj) (cwV 1 hts gX5_findWays_X5_shortenByPush rfl rfl rfl (by decide +kernel) ⟨Nat.le_of_ble_eq_true rfl, Nat.le_of_ble_eq_true rfl⟩) ⟨xB.blind, va_recv hK hPc (ci := 5) (q0 := 0) rfl rfl, fun U9 hU9 hW9 => ⟨rfl, xB.mk hPc hK hDc hU9 hW9⟩⟩ rfl rfl hl.1 rfl (lv_room (Nat.le_of_ble_eq_true rfl)) dX5_findWays_79 ⟨Nat.le_of_ble_eq_true rfl, Nat.le_of_ble_eq_true rfl⟩) hS (fun q _ h => hFc q h) hFc (fun r_19 u_21 t H1 locs ht hvm hw_20 hB hz1 hk1 hS => ?_)
                        obtain ⟨n1_22, p1_23, hc_24, hb_25, hb_26, hb_27, hP1, hK1, hD1⟩ := hB
                        rw [ht] at hP1
                        obtain ⟨hP, hD⟩ := va_join (wr := [(ro, .inl (xI g, 17, .inl (fun j => iI (room j)))), (us, .inl (xI g, 17, .inl (fun j => iI (used j))))]) (w1 := ([(sg, .inr (5, [.int (nI n), .ref co, .ref ro, .ref us, .ref sl, .ref wc, .ref nx, .ref pu])), (co, .inl (xM g, 24, .inr (.inr (.inr (.inr (fun i => if i < 24 then some (cr i) else none))))))] ++ (xRI (xI g) 24 17 cr cost ++ [(sl, .inl (xI g, 24, .inl (fun j => nI (slot j)))), (wc, .inl (xI g, 18, .inl (fun j => iI (u_21 j)))), (nx, .inl (xI g, 18, .inl (fun j => nI (n1_22 j)))), (pu, .inl (xI g, 18, .inl (fun j => iI (p1_23 j))))]))) hP hD [0, 1, 2, 3, 4, 5, 6, 7, 8, 9, 10, 11, 12, 13, 14, 15, 16, 17, 18, 19, 20, 21, 22, 23, 24, 25, 28, 29, 30, 31] [26, 27] rfl rfl (by decide) (by decide) hk1 hFc hP1 hD1
                        generalize H1 = H at hP hS ⊢
                        have hP : va_P (xD g) vwCl ([(ro, .inl (xI g, 17, .inl (fun j => iI (room j)))), (us, .inl (xI g, 17, .inl (fun j => iI (used j)))), (sg, .inr (5, [.int (nI n), .ref co, .ref ro, .ref us, .ref sl, .ref wc, .ref nx, .ref pu])), (co, .inl (xM g, 24, .inr (.inr (.inr (.inr (fun i => if i < 24 then some (cr i) else none))))))] ++ (xRI (xI g) 24 17 cr cost ++ [(sl, .inl (xI g, 24, .inl (fun j => nI (slot j)))), (wc, .inl (xI g, 18, .inl (fun j => iI (u_21 j)))), (nx, .inl (xI g, 18, .inl (fun j => nI (n1_22 j)))), (pu, .inl (xI g, 18, .inl (fun j => iI (p1_23 j))))])) H := hP
                        have hD : va_D A ([(ro, .inl (xI g, 17, .inl (fun j => iI (room j)))), (us, .inl (xI g, 17, .inl (fun j => iI (used j)))), (sg, .inr (5, [.int (nI n), .ref co, .ref ro, .ref us, .ref sl, .ref wc, .ref nx, .ref pu])), (co, .inl (xM g, 24, .inr (.inr (.inr (.inr (fun i => if i < 24 then some (cr i) else none))))))] ++ (xRI (xI g) 24 17 cr cost ++ [(sl, .inl (xI g, 24, .inl (fun j => nI (slot j)))), (wc, .inl (xI g, 18, .inl (fun j => iI (u_21 j)))), (nx, .inl (xI g, 18, .inl (fun j => nI (n1_22 j)))), (pu, .inl (xI g, 18, .inl (fun j => iI (p1_23 j))))])) := hD
                        try dsimp only at hw_20
                        obtain ⟨hb_28, hle_28, hp_28⟩ := hc_24
                        rcases hw_20 with rfl | ⟨rfl, hu_28⟩
                        · refine lv_if_ne (tgt := 89) hx hb dX5_findWays_82 (by decide) (fun _ => ?_) (fun c0 => absurd c0 (by decide))
                          refine lv_iconst (v := 1) hx hb dX5_findWays_89 (by decide) ?_
                          refine lv_goto (tgt := 94) hx hb dX5_findWays_90 (by decide) ?_
                          refine lv_istore_n (lv' := [(3, .int 1), (5, .int (nI c9)), (0, .ref sg), (2, .int (nI fp)), (4, .int (nI i))]) hx hb dX5_findWays_94 rfl hl (by decide) rfl (fun ls hl => ?_)
                          refine lv_iinc (v := nI (c9 + 1)) (lv' := [(5, .int (nI (c9 + 1))), (3, .int 1), (0, .ref sg), (2, .int (nI fp)), (4, .int (nI i))]) hx hb dX5_findWays_95 hl (k := 1) rfl (nI_add c9 1) (by decide) rfl (fun ls hl => ?_)
                          refine lv_goto (tgt := 67) hx hb dX5_findWays_98 (by decide) ?_
                          have hP := hP.sub (ws' := ([(sg, .inr (5, [.int (nI n), .ref co, .ref ro, .ref us, .ref sl, .ref wc, .ref nx, .ref pu])), (co, .inl (xM g, 24, .inr (.inr (.inr (.inr (fun i => if i < 24 then some (cr i) else none))))))] ++ (xRI (xI g) 24 17 cr cost ++ [(ro, .inl (xI g, 17, .inl (fun j => iI (room j)))), (us, .inl (xI g, 17, .inl (fun j => iI (used j)))), (sl, .inl (xI g, 24, .inl (fun j => nI (slot j)))), (wc, .inl (xI g, 18, .inl (fun j => iI (u_21 j)))), (nx, .inl (xI g, 18, .inl (fun j => nI (n1_22 j)))), (pu, .inl (xI g, 18, .inl (fun j => iI (p1_23 j))))]))) [2, 3, 4, 5, 6, 7, 8, 9, 10, 11, 12, 13, 14, 15, 16, 17, 18, 19, 20, 21, 22, 23, 24, 25, 26, 27, 0, 1, 28, 29, 30, 31] rfl
                          have hD := hD.sub (ws' := ([(sg, .inr (5, [.int (nI n), .ref co, .ref ro, .ref us, .ref sl, .ref wc, .ref nx, .ref pu])), (co, .inl (xM g, 24, .inr (.inr (.inr (.inr (fun i => if i < 24 then some (cr i) else none))))))] ++ (xRI (xI g) 24 17 cr cost ++ [(ro, .inl (xI g, 17, .inl (fun j => iI (room j)))), (us, .inl (xI g, 17, .inl (fun j => iI (used j)))), (sl, .inl (xI g, 24, .inl (fun j => nI (slot j)))), (wc, .inl (xI g, 18, .inl (fun j => iI (u_21 j)))), (nx, .inl (xI g, 18, .inl (fun j => nI (n1_22 j)))), (pu, .inl (xI g, 18, .inl (fun j => iI (p1_23 j))))]))) [2, 3, 4, 5, 6, 7, 8, 9, 10, 11, 12, 13, 14, 15, 16, 17, 18, 19, 20, 21, 22, 23, 24, 25, 26, 27, 0, 1, 28, 29, 30, 31] (by decide) rfl
                          exact ih67 (c9 + 1) u_21 n1_22 p1_23 1 _ _ _ (by omega) (by omega) (by omega) hb_28 (fun x => by have y := hlj x; have z := hle_28 x; omega) (sP1_mono hpj hle_28) (by intro c h1 h2; by_cases q : c = c9; · subst q; exact sP2_mono hp_28 hlj (fun x => Int.le_refl _); · exact sP2_mono (hqj c h1 (by omega)) (fun x => Int.le_refl _) hle_28) (by first | exact Or.inl rfl | exact Or.inr ⟨rfl, hu_28.trans (hfj.resolve_left (by omega)).2⟩) hb_25 hb_26 hb_27 hP hD hS (by rw [(show iI 1 = (1 : Int32) from by decide)]; exact lv_sub hl [0, 2, 3, 1, 4] rfl)
                        · refine lv_if_ne (tgt := 89) hx hb dX5_findWays_82 (by decide) (fun c0 => absurd (by decide) c0) (fun _ => ?_)
                          refine lv_iload_n hx hb dX5_findWays_85 rfl (lv_at hl 3 rfl) ?_
                          refine lv_if_eq (tgt := 93) hx hb dX5_findWays_86 (by decide) (fun c_29 => ?_) (fun c_29 => ?_)
                          · have nc_29 := (iEq (a := f2) (b := 0) rfl (by decide) (by omega)).mp c_29
                            refine lv_iconst (v := 0) hx hb dX5_findWays_93 (by decide) ?_
                            refine lv_istore_n (lv' := [(3, .int 0), (5, .int (nI c9)), (0, .ref sg), (2, .int (nI fp)), (4, .int (nI i))]) hx hb dX5_findWays_94 rfl hl (by decide) rfl (fun ls hl => ?_)
                            refine lv_iinc (v := nI (c9 + 1)) (lv' := [(5, .int (nI (c9 + 1))), (3, .int 0), (0, .ref sg), (2, .int (nI fp)), (4, .int (nI i))]) hx hb dX5_findWays_95 hl (k := 1) rfl (nI_add c9 1) (by decide) rfl (fun ls hl => ?_)
                            refine lv_goto (tgt := 67) hx hb dX5_findWays_98 (by decide) ?_
                            have hP := hP.sub (ws' := ([(sg, .inr (5, [.int (nI n), .ref co, .ref ro, .ref us, .ref sl, .ref wc, .ref nx, .ref pu])), (co, .inl (xM g, 24, .inr (.inr (.inr (.inr (fun i => if i < 24 then some (cr i) else none))))))] ++ (xRI (xI g) 24 17 cr cost ++ [(ro, .inl (xI g, 17, .inl (fun j => iI (room j)))), (us, .inl (xI g, 17, .inl (fun j => iI (used j)))), (sl, .inl (xI g, 24, .inl (fun j => nI (slot j)))), (wc, .inl (xI g, 18, .inl (fun j => iI (u_21 j)))), (nx, .inl (xI g, 18, .inl (fun j => nI (n1_22 j)))), (pu, .inl (xI g, 18, .inl (fun j => iI (p1_23 j))))]))) [2, 3, 4, 5, 6, 7, 8, 9, 10, 11, 12, 13, 14, 15, 16, 17, 18, 19, 20, 21, 22, 23, 24, 25, 26, 27, 0, 1, 28, 29, 30, 31] rfl
                            have hD := hD.sub (ws' := ([(sg, .inr (5, [.int (nI n), .ref co, .ref ro, .ref us, .ref sl, .ref wc, .ref nx, .ref pu])), (co, .inl (xM g, 24, .inr (.inr (.inr (.inr (fun i => if i < 24 then some (cr i) else none))))))] ++ (xRI (xI g) 24 17 cr cost ++ [(ro, .inl (xI g, 17, .inl (fun j => iI (room j)))), (us, .inl (xI g, 17, .inl (fun j => iI (used j)))), (sl, .inl (xI g, 24, .inl (fun j => nI (slot j)))), (wc, .inl (xI g, 18, .inl (fun j => iI (u_21 j)))), (nx, .inl (xI g, 18, .inl (fun j => nI (n1_22 j)))), (pu, .inl (xI g, 18, .inl (fun j => iI (p1_23 j))))]))) [2, 3, 4, 5, 6, 7, 8, 9, 10, 11, 12, 13, 14, 15, 16, 17, 18, 19, 20, 21, 22, 23, 24, 25, 26, 27, 0, 1, 28, 29, 30, 31] (by decide) rfl
                            exact ih67 (c9 + 1) u_21 n1_22 p1_23 0 _ _ _ (by omega) (by omega) (by omega) hb_28 (fun x => by have y := hlj x; have z := hle_28 x; omega) (sP1_mono hpj hle_28) (by intro c h1 h2; by_cases q : c = c9; · subst q; exact sP2_mono hp_28 hlj (fun x => Int.le_refl _); · exact sP2_mono (hqj c h1 (by omega)) (fun x => Int.le_refl _) hle_28) (by first | exact Or.inl rfl | exact Or.inr ⟨rfl, hu_28.trans (hfj.resolve_left (by omega)).2⟩) hb_25 hb_26 hb_27 hP hD hS (by rw [(show iI 0 = (0 : Int32) from by decide)]; exact lv_sub hl [0, 2, 3, 1, 4] rfl)
                          · have nc_29 := mt (iEq (a := f2) (b := 0) rfl (by decide) (by omega)).mpr c_29
                            refine lv_iconst (v := 1) hx hb dX5_findWays_89 (by decide) ?_
                            refine lv_goto (tgt := 94) hx hb dX5_findWays_90 (by decide) ?_
                            refine lv_istore_n (lv' := [(3, .int 1), (5, .int (nI c9)), (0, .ref sg), (2, .int (nI fp)), (4, .int (nI i))]) hx hb dX5_findWays_94 rfl hl (by decide) rfl (fun ls hl => ?_)
                            refine lv_iinc (v := nI (c9 + 1)) (lv' := [(5, .int (nI (c9 + 1))), (3, .int 1), (0, .ref sg), (2, .int (nI fp)), (4, .int (nI i))]) hx hb dX5_findWays_95 hl (k := 1) rfl (nI_add c9 1) (by decide) rfl (fun ls hl => ?_)
                            refine lv_goto (tgt := 67) hx hb dX5_findWays_98 (by decide) ?_
                            have hP := hP.sub (ws' := ([(sg, .inr (5, [.int (nI n), .ref co, .ref ro, .ref us, .ref sl, .ref wc, .ref nx, .ref pu])), (co, .inl (xM g, 24, .inr (.inr (.inr (.inr (fun i => if i < 24 then some (cr i) else none))))))] ++ (xRI (xI g) 24 17 cr cost ++ [(ro, .inl (xI g, 17, .inl (fun j => iI (room j)))), (us, .inl (xI g, 17, .inl (fun j => iI (used j)))), (sl, .inl (xI g, 24, .inl (fun j => nI (slot j)))), (wc, .inl (xI g, 18, .inl (fun j => iI (u_21 j)))), (nx, .inl (xI g, 18, .inl (fun j => nI (n1_22 j)))), (pu, .inl (xI g, 18, .inl (fun j => iI (p1_23 j))))]))) [2, 3, 4, 5, 6, 7, 8, 9, 10, 11, 12, 13, 14, 15, 16, 17, 18, 19, 20, 21, 22, 23, 24, 25, 26, 27, 0, 1, 28, 29, 30, 31] rfl
                            have hD := hD.sub (ws' := ([(sg, .inr (5, [.int (nI n), .ref co, .ref ro, .ref us, .ref sl, .ref wc, .ref nx, .ref pu])), (co, .inl (xM g, 24, .inr (.inr (.inr (.inr (fun i => if i < 24 then some (cr i) else none))))))] ++ (xRI (xI g) 24 17 cr cost ++ [(ro, .inl (xI g, 17, .inl (fun j => iI (room j)))), (us, .inl (xI g, 17, .inl (fun j => iI (used j)))), (sl, .inl (xI g, 24, .inl (fun j => nI (slot j)))), (wc, .inl (xI g, 18, .inl (fun j => iI (u_21 j)))), (nx, .inl (xI g, 18, .inl (fun j => nI (n1_22 j)))), (pu, .inl (xI g, 18, .inl (fun j => iI (p1_23 j))))]))) [2, 3, 4, 5, 6, 7, 8, 9, 10, 11, 12, 13, 14, 15, 16, 17, 18, 19, 20, 21, 22, 23, 24, 25, 26, 27, 0, 1, 28, 29, 30, 31] (by decide) rfl
                            exact ih67 (c9 + 1) u_21 n1_22 p1_23 1 _ _ _ (by omega) (by omega) (by omega) hb_28 (fun x => by have y := hlj x; have z := hle_28 x; omega) (sP1_mono hpj hle_28) (by intro c h1 h2; by_cases q : c = c9; · subst q; exact sP2_mono hp_28 hlj (fun x => Int.le_refl _); · exact sP2_mono (hqj c h1 (by omega)) (fun x => Int.le_refl _) hle_28) (by first | exact Or.inl rfl | exact Or.inr ⟨rfl, hu_28.trans (hfj.resolve_left (by omega)).2⟩) hb_25 hb_26 hb_27 hP hD hS (by rw [(show iI 1 = (1 : Int32) from by decide)]; exact lv_sub hl [0, 2, 3, 1, 4] rfl)
                  have hP := hP.sub (ws' := ([(sg, .inr (5, [.int (nI n), .ref co, .ref ro, .ref us, .ref sl, .ref wc, .ref nx, .ref pu])), (co, .inl (xM g, 24, .inr (.inr (.inr (.inr (fun i => if i < 24 then some (cr i) else none))))))] ++ (xRI (xI g) 24 17 cr cost ++ [(ro, .inl (xI g, 17, .inl (fun j => iI (room j)))), (us, .inl (xI g, 17, .inl (fun j => iI (used j)))), (sl, .inl (xI g, 24, .inl (fun j => nI (slot j)))), (wc, .inl (xI g, 18, .inl (fun j => iI (u_10 j)))), (nx, .inl (xI g, 18, .inl (fun j => nI (n1_11 j)))), (pu, .inl (xI g, 18, .inl (fun j => iI (p1_12 j))))]))) [26, 0, 1, 2, 3, 4, 5, 6, 7, 8, 9, 10, 11, 12, 13, 14, 15, 16, 17, 18, 19, 20, 21, 22, 23, 24, 27, 28, 25, 29, 30, 31] rfl
                  have hD := hD.sub (ws' := ([(sg, .inr (5, [.int (nI n), .ref co, .ref ro, .ref us, .ref sl, .ref wc, .ref nx, .ref pu])), (co, .inl (xM g, 24, .inr (.inr (.inr (.inr (fun i => if i < 24 then some (cr i) else none))))))] ++ (xRI (xI g) 24 17 cr cost ++ [(ro, .inl (xI g, 17, .inl (fun j => iI (room j)))), (us, .inl (xI g, 17, .inl (fun j => iI (used j)))), (sl, .inl (xI g, 24, .inl (fun j => nI (slot j)))), (wc, .inl (xI g, 18, .inl (fun j => iI (u_10 j)))), (nx, .inl (xI g, 18, .inl (fun j => nI (n1_11 j)))), (pu, .inl (xI g, 18, .inl (fun j => iI (p1_12 j))))]))) [26, 0, 1, 2, 3, 4, 5, 6, 7, 8, 9, 10, 11, 12, 13, 14, 15, 16, 17, 18, 19, 20, 21, 22, 23, 24, 27, 28, 25, 29, 30, 31] (by decide) rfl
                  exact hloop67 (n + 1) fp u_10 n1_11 p1_12 1 _ _ _ (by omega) (Nat.le_refl _) (by omega) hb_17 hle_17 hp_17 (fun c h1 h2 => absurd h1 (by omega)) (Or.inl rfl) hb_14 hb_15 hb_16 hP hD hS (by rw [(show iI 1 = (1 : Int32) from by decide)]; exact lv_sub hl [0, 3, 4, 1, 2] rfl)
                · refine lv_istore_n (lv' := [(3, .int 0), (4, .int (nI i)), (0, .ref sg), (2, .int (nI fp))]) hx hb dX5_findWays_63 rfl hl (by decide) rfl (fun ls hl => ?_)
                  refine lv_iload_n hx hb dX5_findWays_64 rfl (lv_at hl 3 rfl) ?_
                  refine lv_istore (lv' := [(5, .int (nI fp)), (3, .int 0), (4, .int (nI i)), (0, .ref sg), (2, .int (nI fp))]) hx hb dX5_findWays_65 hl (by decide) rfl (fun ls hl => ?_)
                  have hloop67 : ∀ (n9 : Nat) (c9 : Nat) (dj : Nat → Int) (nj : Nat → Nat) (pj : Nat → Int) (f2 : Int) (H : Heap) (locs : List Loc) (ls : Array Slot), n - c9 < n9 → (fp ≤ c9) → (c9 ≤ n) → (∃ t T, sBF (sE used room slot cost fp n) gl dj nj pj t T) → (∀ x, dj x ≤ di x) → (sP1 used room di dj 17) → (∀ c, fp ≤ c → c < c9 → sP2 cost di dj c (slot c) 17) → (f2 = 1 ∨ (f2 = 0 ∧ dj = di)) → (∀ j, (-3000000) ≤ dj j ∧ dj j ≤ 1000000) → (∀ j, nj j ≤ 17) → (∀ j, (-1) ≤ pj j ∧ pj j ≤ 23) → va_P (xD g) vwCl ([(sg, .inr (5, [.int (nI n), .ref co, .ref ro, .ref us, .ref sl, .ref wc, .ref nx, .ref pu])), (co, .inl (xM g, 24, .inr (.inr (.inr (.inr (fun i => if i < 24 then some (cr i) else none))))))] ++ (xRI (xI g) 24 17 cr cost ++ [(ro, .inl (xI g, 17, .inl (fun j => iI (room j)))), (us, .inl (xI g, 17, .inl (fun j => iI (used j)))), (sl, .inl (xI g, 24, .inl (fun j => nI (slot j)))), (wc, .inl (xI g, 18, .inl (fun j => iI (dj j)))), (nx, .inl (xI g, 18, .inl (fun j => nI (nj j)))), (pu, .inl (xI g, 18, .inl (fun j => iI (pj j))))])) H → va_D A ([(sg, .inr (5, [.int (nI n), .ref co, .ref ro, .ref us, .ref sl, .ref wc, .ref nx, .ref pu])), (co, .inl (xM g, 24, .inr (.inr (.inr (.inr (fun i => if i < 24 then some (cr i) else none))))))] ++ (xRI (xI g) 24 17 cr cost ++ [(ro, .inl (xI g, 17, .inl (fun j => iI (room j)))), (us, .inl (xI g, 17, .inl (fun j => iI (used j)))), (sl, .inl (xI g, 24, .inl (fun j => nI (slot j)))), (wc, .inl (xI g, 18, .inl (fun j => iI (dj j)))), (nx, .inl (xI g, 18, .inl (fun j => nI (nj j)))), (pu, .inl (xI g, 18, .inl (fun j => iI (pj j))))])) → va_S A s.heap H locs → lv_has ls 6 [(5, .int (nI c9)), (0, .ref sg), (2, .int (nI fp)), (3, .int (iI f2)), (4, .int (nI i))] → W p l e (headSpec wsX5_findWays ({ frames := 2, cells := 0, slots := 0, locals := 49 })).room s m ([.ref sg, .int (nI gl), .int (nI fp)] : List Value).toArray below meth c H locs 0 0 (MQ below (va_Qv (fun (u : Nat → Int) => True) (fun (u : Nat → Int) (t : State) => ∃ (n1 : Nat → Nat) (p1 : Nat → Int), (∃ t, sWays (sE used room slot cost fp n) gl u n1 p1 t) ∧ (∀ j, (-3000000) ≤ u j ∧ u j ≤ 1000000) ∧ (∀ j, n1 j ≤ 17) ∧ (∀ j, (-1) ≤ p1 j ∧ p1 j ≤ 23) ∧ xE g ([(sg, .inr (5, [.int (nI n), .ref co, .ref ro, .ref us, .ref sl, .ref wc, .ref nx, .ref pu])), (co, .inl (xM g, 24, .inr (.inr (.inr (.inr (fun i => if i < 24 then some (cr i) else none))))))] ++ (xRI (xI g) 24 17 cr cost ++ [(ro, .inl (xI g, 17, .inl (fun j => iI (room j)))), (us, .inl (xI g, 17, .inl (fun j => iI (used j)))), (sl, .inl (xI g, 24, .inl (fun j => nI (slot j)))), (wc, .inl (xI g, 18, .inl (fun j => iI (u j)))), (nx, .inl (xI g, 18, .inl (fun j => nI (n1 j)))), (pu, .inl (xI g, 18, .inl (fun j => iI (p1 j))))])) (A) t) (A)) ([.ref sg, .int (nI gl), .int (nI fp)] : List Value).toArray s 0 0 A) (F0 m 67 ls []) := by
                    intro n9
                    induction n9 with
                    | zero =>
                      intro c9 dj nj pj f2 H locs ls hm hc1 hc2 hbj hlj hpj hqj hfj bb_dj bb_nj bb_pj hP hD hS hl
                      exact absurd hm (Nat.not_lt_zero _)
                    | succ n9 ih67 =>
                      intro c9 dj nj pj f2 H locs ls hm hc1 hc2 hbj hlj hpj hqj hfj bb_dj bb_nj bb_pj hP hD hS hl
                      have hf2 : f2 = 0 ∨ f2 = 1 := by rcases hfj with q | q; · exact Or.inr q; · exact Or.inl q.1
                      refine lv_iload hx hb dX5_findWays_67 (lv_at hl 0 rfl) ?_
                      refine lv_aload_n hx hb dX5_findWays_69 rfl (lv_at hl 1 rfl) ?_
                      refine va_get (D := xD g) (ci := 5) (v := .int (nI n)) (C := RX5) (T := TX5) (N := 8) hx hb hts hFX5 hown hK hP 0 rfl rfl 0 (by decide) (hts (.fieldLink RX5 41 "Stevedore$SlotGiver" "count" "I") (by decide +kernel)) (fun _ h9 => h9) rfl dX5_findWays_70 ?_
                      refine lv_icmp_ge (tgt := 101) hx hb dX5_findWays_73 (by decide) (fun c_30 => ?_) (fun c_30 => ?_)
                      · have nc_30 := (nI_leI (a := n) (b := c9) (by omega) (by omega)).mp c_30
                        refine lv_iinc (v := nI (i + 1)) (lv' := [(4, .int (nI (i + 1))), (5, .int (nI c9)), (0, .ref sg), (2, .int (nI fp)), (3, .int (iI f2))]) hx hb dX5_findWays_101 hl (k := 4) rfl (nI_add i 1) (by decide) rfl (fun ls hl => ?_)
                        refine lv_goto (tgt := 48) hx hb dX5_findWays_104 (by decide) ?_
                        exact ih48 (i + 1) dj nj pj f2 _ _ _ (by omega) (by omega) hbj (by have hq9 := fun (c : Nat) (h1 : fp ≤ c) (h2 : c < n) => hqj c h1 (by omega); rcases hfj with q | ⟨q, q2⟩; · exact Or.inl ⟨q, sDone_pass hsm (by omega) ((hfi.resolve_right (fun z => by omega)).2) hlj (sPs hpj hq9)⟩; · exact Or.inr ⟨q, by rw [q2] at hpj hq9 ⊢; exact sPs hpj hq9⟩) bb_dj bb_nj bb_pj hP hD hS (lv_sub hl [0, 2, 3, 4] rfl)
                      · have nc_30 := mt (nI_leI (a := n) (b := c9) (by omega) (by omega)).mpr c_30
                        refine lv_aload_n hx hb dX5_findWays_76 rfl (lv_at hl 1 rfl) ?_
                        refine lv_iload hx hb dX5_findWays_77 (lv_at hl 0 rfl) ?_
                        have hPc := hP.sub (ws' := ([(sg, .inr (5, [.int (nI n), .ref co, .ref ro, .ref us, .ref sl, .ref wc, .ref nx, .ref pu])), (co, .inl (xM g, 24, .inr (.inr (.inr (.inr (fun i => if i < 24 then some (cr i) else none))))))] ++ (xRI (xI g) 24 17 cr cost ++ [(sl, .inl (xI g, 24, .inl (fun j => nI (slot j)))), (wc, .inl (xI g, 18, .inl (fun j => iI (dj j)))), (nx, .inl (xI g, 18, .inl (fun j => nI (nj j)))), (pu, .inl (xI g, 18, .inl (fun j => iI (pj j))))]))) [0, 1, 2, 3, 4, 5, 6, 7, 8, 9, 10, 11, 12, 13, 14, 15, 16, 17, 18, 19, 20, 21, 22, 23, 24, 25, 28, 29, 30, 31] rfl
                        have hDc := hD.sub (ws' := ([(sg, .inr (5, [.int (nI n), .ref co, .ref ro, .ref us, .ref sl, .ref wc, .ref nx, .ref pu])), (co, .inl (xM g, 24, .inr (.inr (.inr (.inr (fun i => if i < 24 then some (cr i) else none))))))] ++ (xRI (xI g) 24 17 cr cost ++ [(sl, .inl (xI g, 24, .inl (fun j => nI (slot j)))), (wc, .inl (xI g, 18, .inl (fun j => iI (dj j)))), (nx, .inl (xI g, 18, .inl (fun j => nI (nj j)))), (pu, .inl (xI g, 18, .inl (fun j => iI (pj j))))]))) [0, 1, 2, 3, 4, 5, 6, 7, 8, 9, 10, 11, 12, 13, 14, 15, 16, 17, 18, 19, 20, 21, 22, 23, 24, 25, 28, 29, 30, 31] (by decide) rfl
                        have hFc := va_free (wc := ([(sg, .inr (5, [.int (nI n), .ref co, .ref ro, .ref us, .ref sl, .ref wc, .ref nx, .ref pu])), (co, .inl (xM g, 24, .inr (.inr (.inr (.inr (fun i => if i < 24 then some (cr i) else none))))))] ++ (xRI (xI g) 24 17 cr cost ++ [(sl, .inl (xI g, 24, .inl (fun j => nI (slot j)))), (wc, .inl (xI g, 18, .inl (fun j => iI (dj j)))), (nx, .inl (xI g, 18, .inl (fun j => nI (nj j)))), (pu, .inl (xI g, 18, .inl (fun j => iI (pj j))))]))) hD hS hA [0, 1, 2, 3, 4, 5, 6, 7, 8, 9, 10, 11, 12, 13, 14, 15, 16, 17, 18, 19, 20, 21, 22, 23, 24, 25, 28, 29, 30, 31] rfl
                        refine va_calli (va_runV (As := [.int (nI c9)]) (rest := []) ⟨hx, hb, hml, hown, hts⟩ (g_shortenByPush l g H.size sg co sl wc nx pu c9 cr (sE used room slot cost fp n) gl hh (.int (nI n)) (.ref ro) (.ref us) cost slot dj nj pj hp hhb hbj (by first | assumption | omega) (fun s9 h1 h2 h3 => Or.inr (Or.inr ⟨c9, by omega, by omega, rfl, h1, h2, h3, rfl, rfl⟩)) b_cost b_slot bb_dj bb_nj bb_pj) (cwV 1 hts gX5_findWays_X5_shortenByPush rfl rfl rfl (by decide +kernel) ⟨Nat.le_of_ble_eq_true rfl, Nat.le_of_ble_eq_true rfl⟩) ⟨xB.blind, va_recv hK hPc (ci := 5) (q0 := 0) rfl rfl, fun U9 hU9 hW9 => ⟨rfl, xB.mk hPc hK hDc hU9 hW9⟩⟩ rfl rfl hl.1 rfl (lv_room (Nat.le_of_ble_eq_true rfl)) dX5_findWays_79 ⟨Nat.le_of_ble_eq_true rfl, Nat.le_of_ble_eq_true rfl⟩) hS (fun q _ h => hFc q h) hFc (fun r_31 u_33 t H1 locs ht hvm hw_32 hB hz1 hk1 hS => ?_)
                        obtain ⟨n1_34, p1_35, hc_36, hb_37, hb_38, hb_39, hP1, hK1, hD1⟩ := hB
                        rw [ht] at hP1
                        obtain ⟨hP, hD⟩ := va_join (wr := [(ro, .inl (xI g, 17, .inl (fun j => iI (room j)))), (us, .inl (xI g, 17, .inl (fun j => iI (used j))))]) (w1 := ([(sg, .inr (5, [.int (nI n), .ref co, .ref ro, .ref us, .ref sl, .ref wc, .ref nx, .ref pu])), (co, .inl (xM g, 24, .inr (.inr (.inr (.inr (fun i => if i < 24 then some (cr i) else none))))))] ++ (xRI (xI g) 24 17 cr cost ++ [(sl, .inl (xI g, 24, .inl (fun j => nI (slot j)))), (wc, .inl (xI g, 18, .inl (fun j => iI (u_33 j)))), (nx, .inl (xI g, 18, .inl (fun j => nI (n1_34 j)))), (pu, .inl (xI g, 18, .inl (fun j => iI (p1_35 j))))]))) hP hD [0, 1, 2, 3, 4, 5, 6, 7, 8, 9, 10, 11, 12, 13, 14, 15, 16, 17, 18, 19, 20, 21, 22, 23, 24, 25, 28, 29, 30, 31] [26, 27] rfl rfl (by decide) (by decide) hk1 hFc hP1 hD1
                        generalize H1 = H at hP hS ⊢
                        have hP : va_P (xD g) vwCl ([(ro, .inl (xI g, 17, .inl (fun j => iI (room j)))), (us, .inl (xI g, 17, .inl (fun j => iI (used j)))), (sg, .inr (5, [.int (nI n), .ref co, .ref ro, .ref us, .ref sl, .ref wc, .ref nx, .ref pu])), (co, .inl (xM g, 24, .inr (.inr (.inr (.inr (fun i => if i < 24 then some (cr i) else none))))))] ++ (xRI (xI g) 24 17 cr cost ++ [(sl, .inl (xI g, 24, .inl (fun j => nI (slot j)))), (wc, .inl (xI g, 18, .inl (fun j => iI (u_33 j)))), (nx, .inl (xI g, 18, .inl (fun j => nI (n1_34 j)))), (pu, .inl (xI g, 18, .inl (fun j => iI (p1_35 j))))])) H := hP
                        have hD : va_D A ([(ro, .inl (xI g, 17, .inl (fun j => iI (room j)))), (us, .inl (xI g, 17, .inl (fun j => iI (used j)))), (sg, .inr (5, [.int (nI n), .ref co, .ref ro, .ref us, .ref sl, .ref wc, .ref nx, .ref pu])), (co, .inl (xM g, 24, .inr (.inr (.inr (.inr (fun i => if i < 24 then some (cr i) else none))))))] ++ (xRI (xI g) 24 17 cr cost ++ [(sl, .inl (xI g, 24, .inl (fun j => nI (slot j)))), (wc, .inl (xI g, 18, .inl (fun j => iI (u_33 j)))), (nx, .inl (xI g, 18, .inl (fun j => nI (n1_34 j)))), (pu, .inl (xI g, 18, .inl (fun j => iI (p1_35 j))))])) := hD
                        try dsimp only at hw_32
                        obtain ⟨hb_40, hle_40, hp_40⟩ := hc_36
                        rcases hw_32 with rfl | ⟨rfl, hu_40⟩
                        · refine lv_if_ne (tgt := 89) hx hb dX5_findWays_82 (by decide) (fun _ => ?_) (fun c0 => absurd c0 (by decide))
                          refine lv_iconst (v := 1) hx hb dX5_findWays_89 (by decide) ?_
                          refine lv_goto (tgt := 94) hx hb dX5_findWays_90 (by decide) ?_
                          refine lv_istore_n (lv' := [(3, .int 1), (5, .int (nI c9)), (0, .ref sg), (2, .int (nI fp)), (4, .int (nI i))]) hx hb dX5_findWays_94 rfl hl (by decide) rfl (fun ls hl => ?_)
                          refine lv_iinc (v := nI (c9 + 1)) (lv' := [(5, .int (nI (c9 + 1))), (3, .int 1), (0, .ref sg), (2, .int (nI fp)), (4, .int (nI i))]) hx hb dX5_findWays_95 hl (k := 1) rfl (nI_add c9 1) (by decide) rfl (fun ls hl => ?_)
                          refine lv_goto (tgt := 67) hx hb dX5_findWays_98 (by decide) ?_
                          have hP := hP.sub (ws' := ([(sg, .inr (5, [.int (nI n), .ref co, .ref ro, .ref us, .ref sl, .ref wc, .ref nx, .ref pu])), (co, .inl (xM g, 24, .inr (.inr (.inr (.inr (fun i => if i < 24 then some (cr i) else none))))))] ++ (xRI (xI g) 24 17 cr cost ++ [(ro, .inl (xI g, 17, .inl (fun j => iI (room j)))), (us, .inl (xI g, 17, .inl (fun j => iI (used j)))), (sl, .inl (xI g, 24, .inl (fun j => nI (slot j)))), (wc, .inl (xI g, 18, .inl (fun j => iI (u_33 j)))), (nx, .inl (xI g, 18, .inl (fun j => nI (n1_34 j)))), (pu, .inl (xI g, 18, .inl (fun j => iI (p1_35 j))))]))) [2, 3, 4, 5, 6, 7, 8, 9, 10, 11, 12, 13, 14, 15, 16, 17, 18, 19, 20, 21, 22, 23, 24, 25, 26, 27, 0, 1, 28, 29, 30, 31] rfl
                          have hD := hD.sub (ws' := ([(sg, .inr (5, [.int (nI n), .ref co, .ref ro, .ref us, .ref sl, .ref wc, .ref nx, .ref pu])), (co, .inl (xM g, 24, .inr (.inr (.inr (.inr (fun i => if i < 24 then some (cr i) else none))))))] ++ (xRI (xI g) 24 17 cr cost ++ [(ro, .inl (xI g, 17, .inl (fun j => iI (room j)))), (us, .inl (xI g, 17, .inl (fun j => iI (used j)))), (sl, .inl (xI g, 24, .inl (fun j => nI (slot j)))), (wc, .inl (xI g, 18, .inl (fun j => iI (u_33 j)))), (nx, .inl (xI g, 18, .inl (fun j => nI (n1_34 j)))), (pu, .inl (xI g, 18, .inl (fun j => iI (p1_35 j))))]))) [2, 3, 4, 5, 6, 7, 8, 9, 10, 11, 12, 13, 14, 15, 16, 17, 18, 19, 20, 21, 22, 23, 24, 25, 26, 27, 0, 1, 28, 29, 30, 31] (by decide) rfl
                          exact ih67 (c9 + 1) u_33 n1_34 p1_35 1 _ _ _ (by omega) (by omega) (by omega) hb_40 (fun x => by have y := hlj x; have z := hle_40 x; omega) (sP1_mono hpj hle_40) (by intro c h1 h2; by_cases q : c = c9; · subst q; exact sP2_mono hp_40 hlj (fun x => Int.le_refl _); · exact sP2_mono (hqj c h1 (by omega)) (fun x => Int.le_refl _) hle_40) (by first | exact Or.inl rfl | exact Or.inr ⟨rfl, hu_40.trans (hfj.resolve_left (by omega)).2⟩) hb_37 hb_38 hb_39 hP hD hS (by rw [(show iI 1 = (1 : Int32) from by decide)]; exact lv_sub hl [0, 2, 3, 1, 4] rfl)
                        · refine lv_if_ne (tgt := 89) hx hb dX5_findWays_82 (by decide) (fun c0 => absurd (by decide) c0) (fun _ => ?_)
                          refine lv_iload_n hx hb dX5_findWays_85 rfl (lv_at hl 3 rfl) ?_
                          refine lv_if_eq (tgt := 93) hx hb dX5_findWays_86 (by decide) (fun c_41 => ?_) (fun c_41 => ?_)
                          · have nc_41 := (iEq (a := f2) (b := 0) rfl (by decide) (by omega)).mp c_41
                            refine lv_iconst (v := 0) hx hb dX5_findWays_93 (by decide) ?_
                            refine lv_istore_n (lv' := [(3, .int 0), (5, .int (nI c9)), (0, .ref sg), (2, .int (nI fp)), (4, .int (nI i))]) hx hb dX5_findWays_94 rfl hl (by decide) rfl (fun ls hl => ?_)
                            refine lv_iinc (v := nI (c9 + 1)) (lv' := [(5, .int (nI (c9 + 1))), (3, .int 0), (0, .ref sg), (2, .int (nI fp)), (4, .int (nI i))]) hx hb dX5_findWays_95 hl (k := 1) rfl (nI_add c9 1) (by decide) rfl (fun ls hl => ?_)
                            refine lv_goto (tgt := 67) hx hb dX5_findWays_98 (by decide) ?_
                            have hP := hP.sub (ws' := ([(sg, .inr (5, [.int (nI n), .ref co, .ref ro, .ref us, .ref sl, .ref wc, .ref nx, .ref pu])), (co, .inl (xM g, 24, .inr (.inr (.inr (.inr (fun i => if i < 24 then some (cr i) else none))))))] ++ (xRI (xI g) 24 17 cr cost ++ [(ro, .inl (xI g, 17, .inl (fun j => iI (room j)))), (us, .inl (xI g, 17, .inl (fun j => iI (used j)))), (sl, .inl (xI g, 24, .inl (fun j => nI (slot j)))), (wc, .inl (xI g, 18, .inl (fun j => iI (u_33 j)))), (nx, .inl (xI g, 18, .inl (fun j => nI (n1_34 j)))), (pu, .inl (xI g, 18, .inl (fun j => iI (p1_35 j))))]))) [2, 3, 4, 5, 6, 7, 8, 9, 10, 11, 12, 13, 14, 15, 16, 17, 18, 19, 20, 21, 22, 23, 24, 25, 26, 27, 0, 1, 28, 29, 30, 31] rfl
                            have hD := hD.sub (ws' := ([(sg, .inr (5, [.int (nI n), .ref co, .ref ro, .ref us, .ref sl, .ref wc, .ref nx, .ref pu])), (co, .inl (xM g, 24, .inr (.inr (.inr (.inr (fun i => if i < 24 then some (cr i) else none))))))] ++ (xRI (xI g) 24 17 cr cost ++ [(ro, .inl (xI g, 17, .inl (fun j => iI (room j)))), (us, .inl (xI g, 17, .inl (fun j => iI (used j)))), (sl, .inl (xI g, 24, .inl (fun j => nI (slot j)))), (wc, .inl (xI g, 18, .inl (fun j => iI (u_33 j)))), (nx, .inl (xI g, 18, .inl (fun j => nI (n1_34 j)))), (pu, .inl (xI g, 18, .inl (fun j => iI (p1_35 j))))]))) [2, 3, 4, 5, 6, 7, 8, 9, 10, 11, 12, 13, 14, 15, 16, 17, 18, 19, 20, 21, 22, 23, 24, 25, 26, 27, 0, 1, 28, 29, 30, 31] (by decide) rfl
                            exact ih67 (c9 + 1) u_33 n1_34 p1_35 0 _ _ _ (by omega) (by omega) (by omega) hb_40 (fun x => by have y := hlj x; have z := hle_40 x; omega) (sP1_mono hpj hle_40) (by intro c h1 h2; by_cases q : c = c9; · subst q; exact sP2_mono hp_40 hlj (fun x => Int.le_refl _); · exact sP2_mono (hqj c h1 (by omega)) (fun x => Int.le_refl _) hle_40) (by first | exact Or.inl rfl | exact Or.inr ⟨rfl, hu_40.trans (hfj.resolve_left (by omega)).2⟩) hb_37 hb_38 hb_39 hP hD hS (by rw [(show iI 0 = (0 : Int32) from by decide)]; exact lv_sub hl [0, 2, 3, 1, 4] rfl)
                          · have nc_41 := mt (iEq (a := f2) (b := 0) rfl (by decide) (by omega)).mpr c_41
                            refine lv_iconst (v := 1) hx hb dX5_findWays_89 (by decide) ?_
                            refine lv_goto (tgt := 94) hx hb dX5_findWays_90 (by decide) ?_
                            refine lv_istore_n (lv' := [(3, .int 1), (5, .int (nI c9)), (0, .ref sg), (2, .int (nI fp)), (4, .int (nI i))]) hx hb dX5_findWays_94 rfl hl (by decide) rfl (fun ls hl => ?_)
                            refine lv_iinc (v := nI (c9 + 1)) (lv' := [(5, .int (nI (c9 + 1))), (3, .int 1), (0, .ref sg), (2, .int (nI fp)), (4, .int (nI i))]) hx hb dX5_findWays_95 hl (k := 1) rfl (nI_add c9 1) (by decide) rfl (fun ls hl => ?_)
                            refine lv_goto (tgt := 67) hx hb dX5_findWays_98 (by decide) ?_
                            have hP := hP.sub (ws' := ([(sg, .inr (5, [.int (nI n), .ref co, .ref ro, .ref us, .ref sl, .ref wc, .ref nx, .ref pu])), (co, .inl (xM g, 24, .inr (.inr (.inr (.inr (fun i => if i < 24 then some (cr i) else none))))))] ++ (xRI (xI g) 24 17 cr cost ++ [(ro, .inl (xI g, 17, .inl (fun j => iI (room j)))), (us, .inl (xI g, 17, .inl (fun j => iI (used j)))), (sl, .inl (xI g, 24, .inl (fun j => nI (slot j)))), (wc, .inl (xI g, 18, .inl (fun j => iI (u_33 j)))), (nx, .inl (xI g, 18, .inl (fun j => nI (n1_34 j)))), (pu, .inl (xI g, 18, .inl (fun j => iI (p1_35 j))))]))) [2, 3, 4, 5, 6, 7, 8, 9, 10, 11, 12, 13, 14, 15, 16, 17, 18, 19, 20, 21, 22, 23, 24, 25, 26, 27, 0, 1, 28, 29, 30, 31] rfl
                            have hD := hD.sub (ws' := ([(sg, .inr (5, [.int (nI n), .ref co, .ref ro, .ref us, .ref sl, .ref wc, .ref nx, .ref pu])), (co, .inl (xM g, 24, .inr (.inr (.inr (.inr (fun i => if i < 24 then some (cr i) else none))))))] ++ (xRI (xI g) 24 17 cr cost ++ [(ro, .inl (xI g, 17, .inl (fun j => iI (room j)))), (us, .inl (xI g, 17, .inl (fun j => iI (used j)))), (sl, .inl (xI g, 24, .inl (fun j => nI (slot j)))), (wc, .inl (xI g, 18, .inl (fun j => iI (u_33 j)))), (nx, .inl (xI g, 18, .inl (fun j => nI (n1_34 j)))), (pu, .inl (xI g, 18, .inl (fun j => iI (p1_35 j))))]))) [2, 3, 4, 5, 6, 7, 8, 9, 10, 11, 12, 13, 14, 15, 16, 17, 18, 19, 20, 21, 22, 23, 24, 25, 26, 27, 0, 1, 28, 29, 30, 31] (by decide) rfl
                            exact ih67 (c9 + 1) u_33 n1_34 p1_35 1 _ _ _ (by omega) (by omega) (by omega) hb_40 (fun x => by have y := hlj x; have z := hle_40 x; omega) (sP1_mono hpj hle_40) (by intro c h1 h2; by_cases q : c = c9; · subst q; exact sP2_mono hp_40 hlj (fun x => Int.le_refl _); · exact sP2_mono (hqj c h1 (by omega)) (fun x => Int.le_refl _) hle_40) (by first | exact Or.inl rfl | exact Or.inr ⟨rfl, hu_40.trans (hfj.resolve_left (by omega)).2⟩) hb_37 hb_38 hb_39 hP hD hS (by rw [(show iI 1 = (1 : Int32) from by decide)]; exact lv_sub hl [0, 2, 3, 1, 4] rfl)
                  have hP := hP.sub (ws' := ([(sg, .inr (5, [.int (nI n), .ref co, .ref ro, .ref us, .ref sl, .ref wc, .ref nx, .ref pu])), (co, .inl (xM g, 24, .inr (.inr (.inr (.inr (fun i => if i < 24 then some (cr i) else none))))))] ++ (xRI (xI g) 24 17 cr cost ++ [(ro, .inl (xI g, 17, .inl (fun j => iI (room j)))), (us, .inl (xI g, 17, .inl (fun j => iI (used j)))), (sl, .inl (xI g, 24, .inl (fun j => nI (slot j)))), (wc, .inl (xI g, 18, .inl (fun j => iI (u_10 j)))), (nx, .inl (xI g, 18, .inl (fun j => nI (n1_11 j)))), (pu, .inl (xI g, 18, .inl (fun j => iI (p1_12 j))))]))) [26, 0, 1, 2, 3, 4, 5, 6, 7, 8, 9, 10, 11, 12, 13, 14, 15, 16, 17, 18, 19, 20, 21, 22, 23, 24, 27, 28, 25, 29, 30, 31] rfl
                  have hD := hD.sub (ws' := ([(sg, .inr (5, [.int (nI n), .ref co, .ref ro, .ref us, .ref sl, .ref wc, .ref nx, .ref pu])), (co, .inl (xM g, 24, .inr (.inr (.inr (.inr (fun i => if i < 24 then some (cr i) else none))))))] ++ (xRI (xI g) 24 17 cr cost ++ [(ro, .inl (xI g, 17, .inl (fun j => iI (room j)))), (us, .inl (xI g, 17, .inl (fun j => iI (used j)))), (sl, .inl (xI g, 24, .inl (fun j => nI (slot j)))), (wc, .inl (xI g, 18, .inl (fun j => iI (u_10 j)))), (nx, .inl (xI g, 18, .inl (fun j => nI (n1_11 j)))), (pu, .inl (xI g, 18, .inl (fun j => iI (p1_12 j))))]))) [26, 0, 1, 2, 3, 4, 5, 6, 7, 8, 9, 10, 11, 12, 13, 14, 15, 16, 17, 18, 19, 20, 21, 22, 23, 24, 27, 28, 25, 29, 30, 31] (by decide) rfl
                  exact hloop67 (n + 1) fp u_10 n1_11 p1_12 0 _ _ _ (by omega) (Nat.le_refl _) (by omega) hb_17 hle_17 hp_17 (fun c h1 h2 => absurd h1 (by omega)) (Or.inr ⟨rfl, hu_17⟩) hb_14 hb_15 hb_16 hP hD hS (by rw [(show iI 0 = (0 : Int32) from by decide)]; exact lv_sub hl [0, 3, 4, 1, 2] rfl)
        exact hloop48 (19) 0 (fun u => if u = gl then 0 else 1000000) (fun _ => gl) (fun _ => -1) 1 _ _ _ (by omega) (by omega) ⟨_, _, sBF_start⟩ (Or.inl ⟨rfl, sDone_start (by simp)⟩) hb_3 hb_4 hb_5 hP hD hS (by rw [(show nI 0 = (0 : Int32) from by decide), (show iI 1 = (1 : Int32) from by decide)]; exact lv_sub hl [0, 2, 4, 1] rfl)
      · have nc_1 := mt (nI_leI (a := 18) (b := k) (by omega) (by omega)).mpr c_1
        refine lv_aload_n hx hb dX5_findWays_8 rfl (lv_at hl 1 rfl) ?_
        refine va_get (D := xD g) (ci := 5) (v := .ref wc) (C := RX5) (T := TX5) (N := 8) hx hb hts hFX5 hown hK hP 0 rfl rfl 5 (by decide) (hts (.fieldLink RX5 26 "Stevedore$SlotGiver" "wayCost" "[I") (by decide +kernel)) (fun _ h9 => h9) rfl dX5_findWays_9 ?_
        refine lv_iload_n hx hb dX5_findWays_12 rfl (lv_at hl 0 rfl) ?_
        refine lv_ldc (v := 1000000) hx hb hown (hts (.constant RX5 52 (1000000)) (by decide +kernel)) dX5_findWays_13 ?_
        refine va_iast (x := 1000000) hx hb hK hP hD hS 29 0 rfl rfl (vp_in_nI (by omega) (by omega)) dX5_findWays_15 (fun H locs hP hD hS => ?_)
        rw [iU (f := dk) (k := k) (v := 1000000) (nI_clamp (by omega)) (by decide)] at hP hD
        have hb_42 : ∀ j, (-3000000) ≤ (zU dk k 1000000) j ∧ (zU dk k 1000000) j ≤ 1000000 := zU_all (P := fun q9 => (-3000000) ≤ q9 ∧ q9 ≤ 1000000) bb_dk (by omega)
        have hP : va_P (xD g) vwCl ([(sg, .inr (5, [.int (nI n), .ref co, .ref ro, .ref us, .ref sl, .ref wc, .ref nx, .ref pu])), (co, .inl (xM g, 24, .inr (.inr (.inr (.inr (fun i => if i < 24 then some (cr i) else none))))))] ++ (xRI (xI g) 24 17 cr cost ++ [(ro, .inl (xI g, 17, .inl (fun j => iI (room j)))), (us, .inl (xI g, 17, .inl (fun j => iI (used j)))), (sl, .inl (xI g, 24, .inl (fun j => nI (slot j)))), (wc, .inl (xI g, 18, .inl (fun j => iI ((zU dk k 1000000) j)))), (nx, .inl (xI g, 18, .inl (fun j => nI (nk j)))), (pu, .inl (xI g, 18, .inl (fun j => iI (pk j))))])) H := hP
        have hD : va_D A ([(sg, .inr (5, [.int (nI n), .ref co, .ref ro, .ref us, .ref sl, .ref wc, .ref nx, .ref pu])), (co, .inl (xM g, 24, .inr (.inr (.inr (.inr (fun i => if i < 24 then some (cr i) else none))))))] ++ (xRI (xI g) 24 17 cr cost ++ [(ro, .inl (xI g, 17, .inl (fun j => iI (room j)))), (us, .inl (xI g, 17, .inl (fun j => iI (used j)))), (sl, .inl (xI g, 24, .inl (fun j => nI (slot j)))), (wc, .inl (xI g, 18, .inl (fun j => iI ((zU dk k 1000000) j)))), (nx, .inl (xI g, 18, .inl (fun j => nI (nk j)))), (pu, .inl (xI g, 18, .inl (fun j => iI (pk j))))])) := hD
        refine lv_aload_n hx hb dX5_findWays_16 rfl (lv_at hl 1 rfl) ?_
        refine va_get (D := xD g) (ci := 5) (v := .ref nx) (C := RX5) (T := TX5) (N := 8) hx hb hts hFX5 hown hK hP 0 rfl rfl 6 (by decide) (hts (.fieldLink RX5 29 "Stevedore$SlotGiver" "next" "[I") (by decide +kernel)) (fun _ h9 => h9) rfl dX5_findWays_17 ?_
        refine lv_iload_n hx hb dX5_findWays_20 rfl (lv_at hl 0 rfl) ?_
        refine lv_iload_n hx hb dX5_findWays_21 rfl (lv_at hl 2 rfl) ?_
        refine va_iast (x := nI gl) hx hb hK hP hD hS 30 0 rfl rfl (vp_in_nI (by omega) (by omega)) dX5_findWays_22 (fun H locs hP hD hS => ?_)
        rw [nU (f := nk) (k := k) (v := gl) (nI_clamp (by omega)) rfl] at hP hD
        have hb_43 : ∀ j, (nV nk k gl) j ≤ 17 := nV_all (P := fun q9 => q9 ≤ 17) bb_nk (by omega)
        have hP : va_P (xD g) vwCl ([(sg, .inr (5, [.int (nI n), .ref co, .ref ro, .ref us, .ref sl, .ref wc, .ref nx, .ref pu])), (co, .inl (xM g, 24, .inr (.inr (.inr (.inr (fun i => if i < 24 then some (cr i) else none))))))] ++ (xRI (xI g) 24 17 cr cost ++ [(ro, .inl (xI g, 17, .inl (fun j => iI (room j)))), (us, .inl (xI g, 17, .inl (fun j => iI (used j)))), (sl, .inl (xI g, 24, .inl (fun j => nI (slot j)))), (wc, .inl (xI g, 18, .inl (fun j => iI ((zU dk k 1000000) j)))), (nx, .inl (xI g, 18, .inl (fun j => nI ((nV nk k gl) j)))), (pu, .inl (xI g, 18, .inl (fun j => iI (pk j))))])) H := hP
        have hD : va_D A ([(sg, .inr (5, [.int (nI n), .ref co, .ref ro, .ref us, .ref sl, .ref wc, .ref nx, .ref pu])), (co, .inl (xM g, 24, .inr (.inr (.inr (.inr (fun i => if i < 24 then some (cr i) else none))))))] ++ (xRI (xI g) 24 17 cr cost ++ [(ro, .inl (xI g, 17, .inl (fun j => iI (room j)))), (us, .inl (xI g, 17, .inl (fun j => iI (used j)))), (sl, .inl (xI g, 24, .inl (fun j => nI (slot j)))), (wc, .inl (xI g, 18, .inl (fun j => iI ((zU dk k 1000000) j)))), (nx, .inl (xI g, 18, .inl (fun j => nI ((nV nk k gl) j)))), (pu, .inl (xI g, 18, .inl (fun j => iI (pk j))))])) := hD
        refine lv_aload_n hx hb dX5_findWays_23 rfl (lv_at hl 1 rfl) ?_
        refine va_get (D := xD g) (ci := 5) (v := .ref pu) (C := RX5) (T := TX5) (N := 8) hx hb hts hFX5 hown hK hP 0 rfl rfl 7 (by decide) (hts (.fieldLink RX5 32 "Stevedore$SlotGiver" "pushed" "[I") (by decide +kernel)) (fun _ h9 => h9) rfl dX5_findWays_24 ?_
        refine lv_iload_n hx hb dX5_findWays_27 rfl (lv_at hl 0 rfl) ?_
        refine lv_iconst (v := (-1)) hx hb dX5_findWays_28 (by decide) ?_
        refine va_iast (x := (-1)) hx hb hK hP hD hS 31 0 rfl rfl (vp_in_nI (by omega) (by omega)) dX5_findWays_29 (fun H locs hP hD hS => ?_)
        rw [iU (f := pk) (k := k) (v := (-1)) (nI_clamp (by omega)) (by decide)] at hP hD
        have hb_44 : ∀ j, (-1) ≤ (zU pk k (-1)) j ∧ (zU pk k (-1)) j ≤ 23 := zU_all (P := fun q9 => (-1) ≤ q9 ∧ q9 ≤ 23) bb_pk (by omega)
        have hP : va_P (xD g) vwCl ([(sg, .inr (5, [.int (nI n), .ref co, .ref ro, .ref us, .ref sl, .ref wc, .ref nx, .ref pu])), (co, .inl (xM g, 24, .inr (.inr (.inr (.inr (fun i => if i < 24 then some (cr i) else none))))))] ++ (xRI (xI g) 24 17 cr cost ++ [(ro, .inl (xI g, 17, .inl (fun j => iI (room j)))), (us, .inl (xI g, 17, .inl (fun j => iI (used j)))), (sl, .inl (xI g, 24, .inl (fun j => nI (slot j)))), (wc, .inl (xI g, 18, .inl (fun j => iI ((zU dk k 1000000) j)))), (nx, .inl (xI g, 18, .inl (fun j => nI ((nV nk k gl) j)))), (pu, .inl (xI g, 18, .inl (fun j => iI ((zU pk k (-1)) j))))])) H := hP
        have hD : va_D A ([(sg, .inr (5, [.int (nI n), .ref co, .ref ro, .ref us, .ref sl, .ref wc, .ref nx, .ref pu])), (co, .inl (xM g, 24, .inr (.inr (.inr (.inr (fun i => if i < 24 then some (cr i) else none))))))] ++ (xRI (xI g) 24 17 cr cost ++ [(ro, .inl (xI g, 17, .inl (fun j => iI (room j)))), (us, .inl (xI g, 17, .inl (fun j => iI (used j)))), (sl, .inl (xI g, 24, .inl (fun j => nI (slot j)))), (wc, .inl (xI g, 18, .inl (fun j => iI ((zU dk k 1000000) j)))), (nx, .inl (xI g, 18, .inl (fun j => nI ((nV nk k gl) j)))), (pu, .inl (xI g, 18, .inl (fun j => iI ((zU pk k (-1)) j))))])) := hD
        refine lv_iinc (v := nI (k + 1)) (lv' := [(3, .int (nI (k + 1))), (0, .ref sg), (1, .int (nI gl)), (2, .int (nI fp))]) hx hb dX5_findWays_30 hl (k := 0) rfl (nI_add k 1) (by decide) rfl (fun ls hl => ?_)
        refine lv_goto (tgt := 2) hx hb dX5_findWays_33 (by decide) ?_
        exact ih2 (k + 1) (zU dk k 1000000) (nV nk k gl) (zU pk k (-1)) _ _ _ (by omega) (by omega) (by intro j hj; by_cases q : j = k; · subst q; exact ⟨zU_at, by simp [nV], zU_at⟩; · have z := ha j (by omega); exact ⟨by rw [zU_ne q]; exact z.1, by simp only [nV, if_neg q]; exact z.2.1, by rw [zU_ne q]; exact z.2.2⟩) hb_42 hb_43 hb_44 hP hD hS (lv_sub hl [0, 1, 2, 3] rfl)
  exact hloop2 (19) 0 dd nxt psh _ _ _ (by omega) (by omega) (fun j hj => absurd hj (Nat.not_lt_zero _)) b_dd b_nxt b_psh hP hD hS (by rw [(show nI 0 = (0 : Int32) from by decide)]; exact lv_sub hl [0, 1, 2, 3] rfl)
theorem dX5_pushAlong_0 : decode cX5_pushAlong 0 = .ok (.iload_n 1, 1) := by decide +kernel
theorem dX5_pushAlong_1 : decode cX5_pushAlong 1 = .ok (.istore_n 3, 1) := by decide +kernel
theorem dX5_pushAlong_2 : decode cX5_pushAlong 2 = .ok (.iconst 0, 1) := by decide +kernel
theorem dX5_pushAlong_3 : decode cX5_pushAlong 3 = .ok (.istore 4, 2) := by decide +kernel
theorem dX5_pushAlong_5 : decode cX5_pushAlong 5 = .ok (.iload 4, 2) := by decide +kernel
theorem dX5_pushAlong_7 : decode cX5_pushAlong 7 = .ok (.bipush 18, 2) := by decide +kernel
theorem dX5_pushAlong_9 : decode cX5_pushAlong 9 = .ok (.if_icmp .ge 68, 3) := by decide +kernel
theorem dX5_pushAlong_12 : decode cX5_pushAlong 12 = .ok (.iload_n 3, 1) := by decide +kernel
theorem dX5_pushAlong_13 : decode cX5_pushAlong 13 = .ok (.iload_n 2, 1) := by decide +kernel
theorem dX5_pushAlong_14 : decode cX5_pushAlong 14 = .ok (.if_icmp .eq 63, 3) := by decide +kernel
theorem dX5_pushAlong_77 : decode cX5_pushAlong 77 = .ok (.return_, 1) := by decide +kernel
theorem dX5_pushAlong_17 : decode cX5_pushAlong 17 = .ok (.aload_n 0, 1) := by decide +kernel
theorem dX5_pushAlong_18 : decode cX5_pushAlong 18 = .ok (.getfield 29, 3) := by decide +kernel
theorem dX5_pushAlong_21 : decode cX5_pushAlong 21 = .ok (.iload_n 3, 1) := by decide +kernel
theorem dX5_pushAlong_22 : decode cX5_pushAlong 22 = .ok (.iaload, 1) := by decide +kernel
theorem dX5_pushAlong_23 : decode cX5_pushAlong 23 = .ok (.istore 5, 2) := by decide +kernel
theorem dX5_pushAlong_25 : decode cX5_pushAlong 25 = .ok (.aload_n 0, 1) := by decide +kernel
theorem dX5_pushAlong_26 : decode cX5_pushAlong 26 = .ok (.getfield 32, 3) := by decide +kernel
theorem dX5_pushAlong_29 : decode cX5_pushAlong 29 = .ok (.iload_n 3, 1) := by decide +kernel
theorem dX5_pushAlong_30 : decode cX5_pushAlong 30 = .ok (.iaload, 1) := by decide +kernel
theorem dX5_pushAlong_31 : decode cX5_pushAlong 31 = .ok (.ifCond .lt 37, 3) := by decide +kernel
theorem dX5_pushAlong_68 : decode cX5_pushAlong 68 = .ok (.iload 5, 2) := by decide +kernel
theorem dX5_pushAlong_70 : decode cX5_pushAlong 70 = .ok (.istore_n 3, 1) := by decide +kernel
theorem dX5_pushAlong_71 : decode cX5_pushAlong 71 = .ok (.iinc 4 1, 3) := by decide +kernel
theorem dX5_pushAlong_74 : decode cX5_pushAlong 74 = .ok (.goto (-69), 3) := by decide +kernel
theorem dX5_pushAlong_34 : decode cX5_pushAlong 34 = .ok (.aload_n 0, 1) := by decide +kernel
theorem dX5_pushAlong_35 : decode cX5_pushAlong 35 = .ok (.getfield 23, 3) := by decide +kernel
theorem dX5_pushAlong_38 : decode cX5_pushAlong 38 = .ok (.aload_n 0, 1) := by decide +kernel
theorem dX5_pushAlong_39 : decode cX5_pushAlong 39 = .ok (.getfield 32, 3) := by decide +kernel
theorem dX5_pushAlong_42 : decode cX5_pushAlong 42 = .ok (.iload_n 3, 1) := by decide +kernel
theorem dX5_pushAlong_43 : decode cX5_pushAlong 43 = .ok (.iaload, 1) := by decide +kernel
theorem dX5_pushAlong_44 : decode cX5_pushAlong 44 = .ok (.iload 5, 2) := by decide +kernel
theorem dX5_pushAlong_46 : decode cX5_pushAlong 46 = .ok (.iastore, 1) := by decide +kernel
theorem dX5_pushAlong_47 : decode cX5_pushAlong 47 = .ok (.aload_n 0, 1) := by decide +kernel
theorem dX5_pushAlong_48 : decode cX5_pushAlong 48 = .ok (.getfield 20, 3) := by decide +kernel
theorem dX5_pushAlong_51 : decode cX5_pushAlong 51 = .ok (.iload_n 3, 1) := by decide +kernel
theorem dX5_pushAlong_52 : decode cX5_pushAlong 52 = .ok (.dup2, 1) := by decide +kernel
theorem dX5_pushAlong_53 : decode cX5_pushAlong 53 = .ok (.iaload, 1) := by decide +kernel
theorem dX5_pushAlong_54 : decode cX5_pushAlong 54 = .ok (.iconst 1, 1) := by decide +kernel
theorem dX5_pushAlong_55 : decode cX5_pushAlong 55 = .ok (.isub, 1) := by decide +kernel
theorem dX5_pushAlong_56 : decode cX5_pushAlong 56 = .ok (.iastore, 1) := by decide +kernel
theorem dX5_pushAlong_57 : decode cX5_pushAlong 57 = .ok (.aload_n 0, 1) := by decide +kernel
theorem dX5_pushAlong_58 : decode cX5_pushAlong 58 = .ok (.getfield 20, 3) := by decide +kernel
theorem dX5_pushAlong_61 : decode cX5_pushAlong 61 = .ok (.iload 5, 2) := by decide +kernel
theorem dX5_pushAlong_63 : decode cX5_pushAlong 63 = .ok (.dup2, 1) := by decide +kernel
theorem dX5_pushAlong_64 : decode cX5_pushAlong 64 = .ok (.iaload, 1) := by decide +kernel
theorem dX5_pushAlong_65 : decode cX5_pushAlong 65 = .ok (.iconst 1, 1) := by decide +kernel
theorem dX5_pushAlong_66 : decode cX5_pushAlong 66 = .ok (.iadd, 1) := by decide +kernel
theorem dX5_pushAlong_67 : decode cX5_pushAlong 67 = .ok (.iastore, 1) := by decide +kernel
set_option maxHeartbeats 4000000 in
set_option maxRecDepth 100000 in
theorem g_pushAlong (l : Launch) (g : xG) (sz : Nat) (sg : Nat) (us : Nat) (sl : Nat) (nx : Nat) (pu : Nat) (frm : Nat) (gl : Nat) (n : Nat) (fp : Nat) (lo : Nat) (room : Nat → Int) (cost : Nat → Nat → Int) (tt : Nat → Nat) (dd : Nat → Int) (g0 : Value) (g1 : Value) (g2 : Value) (g5 : Value) (used : Nat → Int) (slot : Nat → Nat) (nxt : Nat → Nat) (psh : Nat → Int)  (hW : sWays (sE used room slot cost fp n) gl dd nxt psh tt) (hin : sIn slot cost fp n) (hlo : lo ≤ fp) (hn : n ≤ 24) (hfr : frm ≤ 16) (hdf : dd frm < 1000000) (hu : ∀ s, s ≤ 16 → used s = sCnt slot lo n s) (hgl : gl ≤ 17) (b_used : ∀ j, 0 ≤ used j ∧ used j ≤ 30) (b_slot : ∀ j, slot j ≤ 16) (b_nxt : ∀ j, nxt j ≤ 17) (b_psh : ∀ j, (-1) ≤ psh j ∧ psh j ≤ 23) : Met l yX5_pushAlong wsX5_pushAlong ({ frames := 0, cells := 0, slots := 0, locals := 0 }) (va_Pc [.ref sg, .int (nI frm), .int (nI gl)] (fun U => xB g [(sg, .inr (5, [g0, g1, g2, .ref us, .ref sl, g5, .ref nx, .ref pu])), (us, .inl (xI g, 17, .inl (fun j => iI (used j)))), (sl, .inl (xI g, 24, .inl (fun j => nI (slot j)))), (nx, .inl (xI g, 18, .inl (fun j => nI (nxt j)))), (pu, .inl (xI g, 18, .inl (fun j => iI (psh j))))] sz U)) (va_Qv (fun (_ : Unit) => True) (fun (_ : Unit) (t : State) => ∃ (us1 : Nat → Int) (sl1 : Nat → Nat), (sAl used slot cost fp lo n dd tt frm gl us1 sl1) ∧ (∀ j, 0 ≤ us1 j ∧ us1 j ≤ 30) ∧ (∀ j, sl1 j ≤ 16) ∧ xE g [(sg, .inr (5, [g0, g1, g2, .ref us, .ref sl, g5, .ref nx, .ref pu])), (us, .inl (xI g, 17, .inl (fun j => iI (us1 j)))), (sl, .inl (xI g, 24, .inl (fun j => nI (sl1 j)))), (nx, .inl (xI g, 18, .inl (fun j => nI (nxt j)))), (pu, .inl (xI g, 18, .inl (fun j => iI (psh j))))] (va_A [(sg, .inr (5, [g0, g1, g2, .ref us, .ref sl, g5, .ref nx, .ref pu])), (us, .inl (xI g, 17, .inl (fun j => iI (used j)))), (sl, .inl (xI g, 24, .inl (fun j => nI (slot j)))), (nx, .inl (xI g, 18, .inl (fun j => nI (nxt j)))), (pu, .inl (xI g, 18, .inl (fun j => iI (psh j))))] sz) t) (va_A [(sg, .inr (5, [g0, g1, g2, .ref us, .ref sl, g5, .ref nx, .ref pu])), (us, .inl (xI g, 17, .inl (fun j => iI (used j)))), (sl, .inl (xI g, 24, .inl (fun j => nI (slot j)))), (nx, .inl (xI g, 18, .inl (fun j => nI (nxt j)))), (pu, .inl (xI g, 18, .inl (fun j => iI (psh j))))] sz)) 0 0 (va_A [(sg, .inr (5, [g0, g1, g2, .ref us, .ref sl, g5, .ref nx, .ref pu])), (us, .inl (xI g, 17, .inl (fun j => iI (used j)))), (sl, .inl (xI g, 24, .inl (fun j => nI (slot j)))), (nx, .inl (xI g, 18, .inl (fun j => nI (nxt j)))), (pu, .inl (xI g, 18, .inl (fun j => iI (psh j))))] sz) := by
  refine Met.ofW (cc := cX5_pushAlong) (maxL := 6) (ret := none) (by decide) rfl ?_
  intro p e s m args below meth c s₁ B hml hv
  obtain ⟨rfl, hsz, hP, hK, hD0⟩ := hv
  have hx := B.exec
  have hb := B.bytes
  have hr := B.returns
  have hts := atoms_spec (ws := wsX5_pushAlong) B.pre
  have hown : s.vm.findClass RX5 = some m.cls := findClass_of_methodNamed B.named
  have hlocks := B.notSynchronized
  subst hsz
  have hD := hD0.self (sz := s.heap.size)
  generalize hAe : va_A [(sg, .inr (5, [g0, g1, g2, .ref us, .ref sl, g5, .ref nx, .ref pu])), (us, .inl (xI g, 17, .inl (fun j => iI (used j)))), (sl, .inl (xI g, 24, .inl (fun j => nI (slot j)))), (nx, .inl (xI g, 18, .inl (fun j => nI (nxt j)))), (pu, .inl (xI g, 18, .inl (fun j => iI (psh j))))] s.heap.size = A at hD ⊢
  have hA : ∀ q : Nat, s.heap.size ≤ q → A q := fun q h => by rw [← hAe]; exact Or.inr h
  have hS : va_S A s.heap s.heap [] := va_S.rf
  have hl := lv_entry ([.ref sg, .int (nI frm), .int (nI gl)]) (n := 6) (Nat.le_of_ble_eq_true rfl)
  rw [lg_entry_eq]
  generalize (lg_sl ([.ref sg, .int (nI frm), .int (nI gl)]) ++ List.replicate (6 - (lg_sl ([.ref sg, .int (nI frm), .int (nI gl)])).length) Slot.unset).toArray = ls at hl ⊢
  have hl : lv_has ls 6 [(0, .ref sg), (1, .int (nI frm)), (2, .int (nI gl))] := hl
  have hFX5 : ∀ w ∈ u_ws RX5 TX5 8, w ∈ wsX5_pushAlong := by decide +kernel
  refine lv_iload_n hx hb dX5_pushAlong_0 rfl (lv_at hl 1 rfl) ?_
  refine lv_istore_n (lv' := [(3, .int (nI frm)), (0, .ref sg), (1, .int (nI frm)), (2, .int (nI gl))]) hx hb dX5_pushAlong_1 rfl hl (by decide) rfl (fun ls hl => ?_)
  refine lv_iconst (v := 0) hx hb dX5_pushAlong_2 (by decide) ?_
  refine lv_istore (lv' := [(4, .int 0), (3, .int (nI frm)), (0, .ref sg), (1, .int (nI frm)), (2, .int (nI gl))]) hx hb dX5_pushAlong_3 hl (by decide) rfl (fun ls hl => ?_)
  have hloop5 : ∀ (n9 : Nat) (i : Nat) (nd : Nat) (usk : Nat → Int) (slk : Nat → Nat) (H : Heap) (locs : List Loc) (ls : Array Slot), 18 - i < n9 → (i ≤ 18) → (sAl used slot cost fp lo n dd tt frm nd usk slk) → (∃ f : Nat → Nat, (∀ j, j ≤ i → f j ≤ 17) ∧ (∀ j, j < i → tt (f (j + 1)) < tt (f j)) ∧ f i = nd) → (∀ j, 0 ≤ usk j ∧ usk j ≤ 30) → (∀ j, slk j ≤ 16) → va_P (xD g) vwCl [(sg, .inr (5, [g0, g1, g2, .ref us, .ref sl, g5, .ref nx, .ref pu])), (us, .inl (xI g, 17, .inl (fun j => iI (usk j)))), (sl, .inl (xI g, 24, .inl (fun j => nI (slk j)))), (nx, .inl (xI g, 18, .inl (fun j => nI (nxt j)))), (pu, .inl (xI g, 18, .inl (fun j => iI (psh j))))] H → va_D A [(sg, .inr (5, [g0, g1, g2, .ref us, .ref sl, g5, .ref nx, .ref pu])), (us, .inl (xI g, 17, .inl (fun j => iI (usk j)))), (sl, .inl (xI g, 24, .inl (fun j => nI (slk j)))), (nx, .inl (xI g, 18, .inl (fun j => nI (nxt j)))), (pu, .inl (xI g, 18, .inl (fun j => iI (psh j))))] → va_S A s.heap H locs → lv_has ls 6 [(4, .int (nI i)), (0, .ref sg), (2, .int (nI gl)), (3, .int (nI nd))] → W p l e (headSpec wsX5_pushAlong ({ frames := 0, cells := 0, slots := 0, locals := 0 })).room s m ([.ref sg, .int (nI frm), .int (nI gl)] : List Value).toArray below meth c H locs 0 0 (MQ below (va_Qv (fun (_ : Unit) => True) (fun (_ : Unit) (t : State) => ∃ (us1 : Nat → Int) (sl1 : Nat → Nat), (sAl used slot cost fp lo n dd tt frm gl us1 sl1) ∧ (∀ j, 0 ≤ us1 j ∧ us1 j ≤ 30) ∧ (∀ j, sl1 j ≤ 16) ∧ xE g [(sg, .inr (5, [g0, g1, g2, .ref us, .ref sl, g5, .ref nx, .ref pu])), (us, .inl (xI g, 17, .inl (fun j => iI (us1 j)))), (sl, .inl (xI g, 24, .inl (fun j => nI (sl1 j)))), (nx, .inl (xI g, 18, .inl (fun j => nI (nxt j)))), (pu, .inl (xI g, 18, .inl (fun j => iI (psh j))))] (A) t) (A)) ([.ref sg, .int (nI frm), .int (nI gl)] : List Value).toArray s 0 0 A) (F0 m 5 ls []) := by
    intro n9
    induction n9 with
    | zero =>
      intro i nd usk slk H locs ls hm hi hal hseq bb_usk bb_slk hP hD hS hl
      exact absurd hm (Nat.not_lt_zero _)
    | succ n9 ih5 =>
      intro i nd usk slk H locs ls hm hi hal hseq bb_usk bb_slk hP hD hS hl
      have hnd : nd ≤ 17 := hal.1
      have hz1 := bb_slk
      have hz2 := b_psh nd
      have hz3 := b_nxt nd
      refine lv_iload hx hb dX5_pushAlong_5 (lv_at hl 0 rfl) ?_
      refine lv_bipush (v := 18) hx hb dX5_pushAlong_7 (by decide) ?_
      refine lv_icmp_ge (tgt := 77) hx hb dX5_pushAlong_9 (by decide) (fun c_1 => ?_) (fun c_1 => ?_)
      · have nc_1 := (nI_leI (a := 18) (b := i) (by omega) (by omega)).mp c_1
        (obtain ⟨f, f1, f2, f3⟩ := hseq; exact (sNo18 ⟨f, fun j hj => f1 j (by omega), fun j hj => f2 j (by omega)⟩).elim)
      · have nc_1 := mt (nI_leI (a := 18) (b := i) (by omega) (by omega)).mpr c_1
        refine lv_iload_n hx hb dX5_pushAlong_12 rfl (lv_at hl 3 rfl) ?_
        refine lv_iload_n hx hb dX5_pushAlong_13 rfl (lv_at hl 2 rfl) ?_
        refine lv_icmp_eq (tgt := 77) hx hb dX5_pushAlong_14 (by decide) (fun c_2 => ?_) (fun c_2 => ?_)
        · have nc_2 := (nI_eq (a := nd) (b := gl) (by omega) (by omega)).mp c_2
          have hP9 := hP
          have hD9 := hD
          exact W.vret hx hb hr (fun t ht hW => ⟨⟨(), rfl, (by first | trivial | rfl | assumption | omega), ⟨usk, slk, (by obtain rfl : nd = gl := (by omega); exact hal), bb_usk, bb_slk, by rw [ht]; exact hP9, va_K.moved hW.alike hK, hD9⟩⟩, hS.F ht⟩) hS.2.2 dX5_pushAlong_77
        · have nc_2 := mt (nI_eq (a := nd) (b := gl) (by omega) (by omega)).mpr c_2
          have hne : nd ≠ gl := by omega
          refine lv_aload_n hx hb dX5_pushAlong_17 rfl (lv_at hl 1 rfl) ?_
          refine va_get (D := xD g) (ci := 5) (v := .ref nx) (C := RX5) (T := TX5) (N := 8) hx hb hts hFX5 hown hK hP 0 rfl rfl 6 (by decide) (hts (.fieldLink RX5 29 "Stevedore$SlotGiver" "next" "[I") (by decide +kernel)) (fun _ h9 => h9) rfl dX5_pushAlong_18 ?_
          refine lv_iload_n hx hb dX5_pushAlong_21 rfl (lv_at hl 3 rfl) ?_
          refine va_iald hx hb hK hP 3 0 rfl rfl (vp_in_nI (by omega) (by omega)) dX5_pushAlong_22 ?_
          refine lv_topi (fun v_3 ev => ?_)
          obtain rfl : v_3 = nI (nxt nd) := ev.trans (congrArg (fun q9 => nI (nxt q9)) (nI_clamp (by omega)))
          have b_4 := b_nxt nd
          refine lv_istore (lv' := [(5, .int (nI (nxt nd))), (4, .int (nI i)), (0, .ref sg), (2, .int (nI gl)), (3, .int (nI nd))]) hx hb dX5_pushAlong_23 hl (by decide) rfl (fun ls hl => ?_)
          refine lv_aload_n hx hb dX5_pushAlong_25 rfl (lv_at hl 2 rfl) ?_
          refine va_get (D := xD g) (ci := 5) (v := .ref pu) (C := RX5) (T := TX5) (N := 8) hx hb hts hFX5 hown hK hP 0 rfl rfl 7 (by decide) (hts (.fieldLink RX5 32 "Stevedore$SlotGiver" "pushed" "[I") (by decide +kernel)) (fun _ h9 => h9) rfl dX5_pushAlong_26 ?_
          refine lv_iload_n hx hb dX5_pushAlong_29 rfl (lv_at hl 4 rfl) ?_
          refine va_iald hx hb hK hP 4 0 rfl rfl (vp_in_nI (by omega) (by omega)) dX5_pushAlong_30 ?_
          refine lv_topi (fun v_5 ev => ?_)
          obtain rfl : v_5 = iI (psh nd) := ev.trans (congrArg (fun q9 => iI (psh q9)) (nI_clamp (by omega)))
          have b_6 := b_psh nd
          refine lv_if_lt (tgt := 68) hx hb dX5_pushAlong_31 (by decide) (fun c_7 => ?_) (fun c_7 => ?_)
          · have nc_7 := (iLt (a := psh nd) (b := 0) rfl (by decide) (by omega)).mp c_7
            refine lv_iload hx hb dX5_pushAlong_68 (lv_at hl 0 rfl) ?_
            refine lv_istore_n (lv' := [(3, .int (nI (nxt nd))), (5, .int (nI (nxt nd))), (4, .int (nI i)), (0, .ref sg), (2, .int (nI gl))]) hx hb dX5_pushAlong_70 rfl hl (by decide) rfl (fun ls hl => ?_)
            refine lv_iinc (v := nI (i + 1)) (lv' := [(4, .int (nI (i + 1))), (3, .int (nI (nxt nd))), (5, .int (nI (nxt nd))), (0, .ref sg), (2, .int (nI gl))]) hx hb dX5_pushAlong_71 hl (k := 2) rfl (nI_add i 1) (by decide) rfl (fun ls hl => ?_)
            refine lv_goto (tgt := 5) hx hb dX5_pushAlong_74 (by decide) ?_
            exact ih5 (i + 1) (nxt nd) usk slk _ _ _ (by omega) (by omega) (sAl_pass hW hne hal (by omega)).1 (by obtain ⟨f, f1, f2, f3⟩ := hseq; have z := (sAl_pass hW hne hal (by omega)).2; have y := b_nxt nd; refine ⟨fun j => if j ≤ i then f j else nxt nd, fun j hj => ?_, fun j hj => ?_, by simp⟩; · dsimp only; split; · exact f1 j (by omega); · exact y; · dsimp only; rw [if_pos (show j ≤ i by omega)]; by_cases q : j + 1 ≤ i; · rw [if_pos q]; exact f2 j (by omega); · rw [if_neg q, show j = i by omega, f3]; exact z) bb_usk bb_slk hP hD hS (lv_sub hl [0, 3, 4, 1] rfl)
          · have nc_7 := mt (iLt (a := psh nd) (b := 0) rfl (by decide) (by omega)).mpr c_7
            obtain ⟨p1, p2, p3, p4, p5, p6, hal2⟩ := sAl_push2 hW hin hlo hne hal (by omega)
            have p7 : zU usk nd (usk nd - 1) (nxt nd) = usk (nxt nd) := zU_ne p3
            refine lv_aload_n hx hb dX5_pushAlong_34 rfl (lv_at hl 2 rfl) ?_
            refine va_get (D := xD g) (ci := 5) (v := .ref sl) (C := RX5) (T := TX5) (N := 8) hx hb hts hFX5 hown hK hP 0 rfl rfl 4 (by decide) (hts (.fieldLink RX5 23 "Stevedore$SlotGiver" "slot" "[I") (by decide +kernel)) (fun _ h9 => h9) rfl dX5_pushAlong_35 ?_
            refine lv_aload_n hx hb dX5_pushAlong_38 rfl (lv_at hl 2 rfl) ?_
            refine va_get (D := xD g) (ci := 5) (v := .ref pu) (C := RX5) (T := TX5) (N := 8) hx hb hts hFX5 hown hK hP 0 rfl rfl 7 (by decide) (hts (.fieldLink RX5 32 "Stevedore$SlotGiver" "pushed" "[I") (by decide +kernel)) (fun _ h9 => h9) rfl dX5_pushAlong_39 ?_
            refine lv_iload_n hx hb dX5_pushAlong_42 rfl (lv_at hl 4 rfl) ?_
            refine va_iald hx hb hK hP 4 0 rfl rfl (vp_in_nI (by omega) (by omega)) dX5_pushAlong_43 ?_
            refine lv_topi (fun v_8 ev => ?_)
            obtain rfl : v_8 = iI (psh nd) := ev.trans (congrArg (fun q9 => iI (psh q9)) (nI_clamp (by omega)))
            have b_9 := b_psh nd
            refine lv_iload hx hb dX5_pushAlong_44 (lv_at hl 0 rfl) ?_
            refine va_iast (x := nI (nxt nd)) hx hb hK hP hD hS 2 0 rfl rfl (iI_in (by omega) (by omega) (by omega)) dX5_pushAlong_46 (fun H locs hP hD hS => ?_)
            rw [nU (f := slk) (k := (psh nd).toNat) (v := nxt nd) (iI_clamp (by omega) (by omega)) rfl] at hP hD
            have hb_10 : ∀ j, (nV slk ((psh nd).toNat) (nxt nd)) j ≤ 16 := nV_all (P := fun q9 => q9 ≤ 16) bb_slk (by omega)
            have hP : va_P (xD g) vwCl [(sg, .inr (5, [g0, g1, g2, .ref us, .ref sl, g5, .ref nx, .ref pu])), (us, .inl (xI g, 17, .inl (fun j => iI (usk j)))), (sl, .inl (xI g, 24, .inl (fun j => nI ((nV slk ((psh nd).toNat) (nxt nd)) j)))), (nx, .inl (xI g, 18, .inl (fun j => nI (nxt j)))), (pu, .inl (xI g, 18, .inl (fun j => iI (psh j))))] H := hP
            have hD : va_D A [(sg, .inr (5, [g0, g1, g2, .ref us, .ref sl, g5, .ref nx, .ref pu])), (us, .inl (xI g, 17, .inl (fun j => iI (usk j)))), (sl, .inl (xI g, 24, .inl (fun j => nI ((nV slk ((psh nd).toNat) (nxt nd)) j)))), (nx, .inl (xI g, 18, .inl (fun j => nI (nxt j)))), (pu, .inl (xI g, 18, .inl (fun j => iI (psh j))))] := hD
            refine lv_aload_n hx hb dX5_pushAlong_47 rfl (lv_at hl 2 rfl) ?_
            refine va_get (D := xD g) (ci := 5) (v := .ref us) (C := RX5) (T := TX5) (N := 8) hx hb hts hFX5 hown hK hP 0 rfl rfl 3 (by decide) (hts (.fieldLink RX5 20 "Stevedore$SlotGiver" "used" "[I") (by decide +kernel)) (fun _ h9 => h9) rfl dX5_pushAlong_48 ?_
            refine lv_iload_n hx hb dX5_pushAlong_51 rfl (lv_at hl 4 rfl) ?_
            refine lv_dup2_11 hx hb dX5_pushAlong_52 rfl rfl ?_
            refine va_iald hx hb hK hP 1 0 rfl rfl (vp_in_nI (by omega) (by omega)) dX5_pushAlong_53 ?_
            refine lv_topi (fun v_11 ev => ?_)
            obtain rfl : v_11 = iI (usk nd) := ev.trans (congrArg (fun q9 => iI (usk q9)) (nI_clamp (by omega)))
            have b_12 := bb_usk nd
            refine lv_iconst (v := 1) hx hb dX5_pushAlong_54 (by decide) ?_
            refine lv_isub hx hb dX5_pushAlong_55 ?_
            refine lv_topi (fun v_13 ev => ?_)
            obtain rfl : v_13 = iI (usk nd - 1) := ev.trans (iS rfl (by decide))
            refine va_iast (x := iI (usk nd - 1)) hx hb hK hP hD hS 1 0 rfl rfl (vp_in_nI (by omega) (by omega)) dX5_pushAlong_56 (fun H locs hP hD hS => ?_)
            rw [iU (f := usk) (k := nd) (v := usk nd - 1) (nI_clamp (by omega)) rfl] at hP hD
            have hb_14 : ∀ j, 0 ≤ (zU usk nd (usk nd - 1)) j ∧ (zU usk nd (usk nd - 1)) j ≤ 30 := zU_all (P := fun q9 => 0 ≤ q9 ∧ q9 ≤ 30) bb_usk (by omega)
            have hP : va_P (xD g) vwCl [(sg, .inr (5, [g0, g1, g2, .ref us, .ref sl, g5, .ref nx, .ref pu])), (us, .inl (xI g, 17, .inl (fun j => iI ((zU usk nd (usk nd - 1)) j)))), (sl, .inl (xI g, 24, .inl (fun j => nI ((nV slk ((psh nd).toNat) (nxt nd)) j)))), (nx, .inl (xI g, 18, .inl (fun j => nI (nxt j)))), (pu, .inl (xI g, 18, .inl (fun j => iI (psh j))))] H := hP
            have hD : va_D A [(sg, .inr (5, [g0, g1, g2, .ref us, .ref sl, g5, .ref nx, .ref pu])), (us, .inl (xI g, 17, .inl (fun j => iI ((zU usk nd (usk nd - 1)) j)))), (sl, .inl (xI g, 24, .inl (fun j => nI ((nV slk ((psh nd).toNat) (nxt nd)) j)))), (nx, .inl (xI g, 18, .inl (fun j => nI (nxt j)))), (pu, .inl (xI g, 18, .inl (fun j => iI (psh j))))] := hD
            refine lv_aload_n hx hb dX5_pushAlong_57 rfl (lv_at hl 2 rfl) ?_
            refine va_get (D := xD g) (ci := 5) (v := .ref us) (C := RX5) (T := TX5) (N := 8) hx hb hts hFX5 hown hK hP 0 rfl rfl 3 (by decide) (hts (.fieldLink RX5 20 "Stevedore$SlotGiver" "used" "[I") (by decide +kernel)) (fun _ h9 => h9) rfl dX5_pushAlong_58 ?_
            refine lv_iload hx hb dX5_pushAlong_61 (lv_at hl 0 rfl) ?_
            refine lv_dup2_11 hx hb dX5_pushAlong_63 rfl rfl ?_
            refine va_iald hx hb hK hP 1 0 rfl rfl (vp_in_nI (by omega) (by omega)) dX5_pushAlong_64 ?_
            refine lv_topi (fun v_15 ev => ?_)
            obtain rfl : v_15 = iI ((zU usk nd (usk nd - 1)) (nxt nd)) := ev.trans (congrArg (fun q9 => iI ((zU usk nd (usk nd - 1)) q9)) (nI_clamp (by omega)))
            have b_16 := hb_14 (nxt nd)
            refine lv_iconst (v := 1) hx hb dX5_pushAlong_65 (by decide) ?_
            refine lv_iadd hx hb dX5_pushAlong_66 ?_
            refine lv_topi (fun v_17 ev => ?_)
            obtain rfl : v_17 = iI ((zU usk nd (usk nd - 1)) (nxt nd) + 1) := ev.trans (iA rfl (by decide))
            refine va_iast (x := iI ((zU usk nd (usk nd - 1)) (nxt nd) + 1)) hx hb hK hP hD hS 1 0 rfl rfl (vp_in_nI (by omega) (by omega)) dX5_pushAlong_67 (fun H locs hP hD hS => ?_)
            rw [iU (f := zU usk nd (usk nd - 1)) (k := nxt nd) (v := (zU usk nd (usk nd - 1)) (nxt nd) + 1) (nI_clamp (by omega)) rfl] at hP hD
            have hb_18 : ∀ j, 0 ≤ (zU (zU usk nd (usk nd - 1)) (nxt nd) ((zU usk nd (usk nd - 1)) (nxt nd) + 1)) j ∧ (zU (zU usk nd (usk nd - 1)) (nxt nd) ((zU usk nd (usk nd - 1)) (nxt nd) + 1)) j ≤ 30 := zU_all (P := fun q9 => 0 ≤ q9 ∧ q9 ≤ 30) hb_14 (by omega)
            have hP : va_P (xD g) vwCl [(sg, .inr (5, [g0, g1, g2, .ref us, .ref sl, g5, .ref nx, .ref pu])), (us, .inl (xI g, 17, .inl (fun j => iI ((zU (zU usk nd (usk nd - 1)) (nxt nd) ((zU usk nd (usk nd - 1)) (nxt nd) + 1)) j)))), (sl, .inl (xI g, 24, .inl (fun j => nI ((nV slk ((psh nd).toNat) (nxt nd)) j)))), (nx, .inl (xI g, 18, .inl (fun j => nI (nxt j)))), (pu, .inl (xI g, 18, .inl (fun j => iI (psh j))))] H := hP
            have hD : va_D A [(sg, .inr (5, [g0, g1, g2, .ref us, .ref sl, g5, .ref nx, .ref pu])), (us, .inl (xI g, 17, .inl (fun j => iI ((zU (zU usk nd (usk nd - 1)) (nxt nd) ((zU usk nd (usk nd - 1)) (nxt nd) + 1)) j)))), (sl, .inl (xI g, 24, .inl (fun j => nI ((nV slk ((psh nd).toNat) (nxt nd)) j)))), (nx, .inl (xI g, 18, .inl (fun j => nI (nxt j)))), (pu, .inl (xI g, 18, .inl (fun j => iI (psh j))))] := hD
            refine lv_iload hx hb dX5_pushAlong_68 (lv_at hl 0 rfl) ?_
            refine lv_istore_n (lv' := [(3, .int (nI (nxt nd))), (5, .int (nI (nxt nd))), (4, .int (nI i)), (0, .ref sg), (2, .int (nI gl))]) hx hb dX5_pushAlong_70 rfl hl (by decide) rfl (fun ls hl => ?_)
            refine lv_iinc (v := nI (i + 1)) (lv' := [(4, .int (nI (i + 1))), (3, .int (nI (nxt nd))), (5, .int (nI (nxt nd))), (0, .ref sg), (2, .int (nI gl))]) hx hb dX5_pushAlong_71 hl (k := 2) rfl (nI_add i 1) (by decide) rfl (fun ls hl => ?_)
            refine lv_goto (tgt := 5) hx hb dX5_pushAlong_74 (by decide) ?_
            exact ih5 (i + 1) (nxt nd) (zU (zU usk nd (usk nd - 1)) (nxt nd) ((zU usk nd (usk nd - 1)) (nxt nd) + 1)) (nV slk ((psh nd).toNat) (nxt nd)) _ _ _ (by omega) (by omega) hal2 (by obtain ⟨f, f1, f2, f3⟩ := hseq; have z := p4; have y := b_nxt nd; refine ⟨fun j => if j ≤ i then f j else nxt nd, fun j hj => ?_, fun j hj => ?_, by simp⟩; · dsimp only; split; · exact f1 j (by omega); · exact y; · dsimp only; rw [if_pos (show j ≤ i by omega)]; by_cases q : j + 1 ≤ i; · rw [if_pos q]; exact f2 j (by omega); · rw [if_neg q, show j = i by omega, f3]; exact z) hb_18 hb_10 hP hD hS (lv_sub hl [0, 3, 4, 1] rfl)
  exact hloop5 (19) 0 frm used slot _ _ _ (by omega) (by omega) (sAl_start (goal := gl) (nx := nxt) (pu := psh) hfr hdf hu) ⟨fun _ => frm, fun j hj => (by dsimp only; omega), fun j hj => absurd hj (Nat.not_lt_zero _), rfl⟩ b_used b_slot hP hD hS (by rw [(show nI 0 = (0 : Int32) from by decide)]; exact lv_sub hl [0, 2, 4, 1] rfl)
theorem dX5_bringIn_0 : decode cX5_bringIn 0 = .ok (.aload_n 0, 1) := by decide +kernel
theorem dX5_bringIn_1 : decode cX5_bringIn 1 = .ok (.iload_n 2, 1) := by decide +kernel
theorem dX5_bringIn_2 : decode cX5_bringIn 2 = .ok (.iload_n 1, 1) := by decide +kernel
theorem dX5_bringIn_3 : decode cX5_bringIn 3 = .ok (.iconst 1, 1) := by decide +kernel
theorem dX5_bringIn_4 : decode cX5_bringIn 4 = .ok (.iadd, 1) := by decide +kernel
theorem dX5_bringIn_5 : decode cX5_bringIn 5 = .ok (.invokevirtual 49, 3) := by decide +kernel
set_option maxRecDepth 20000 in
theorem ggX5_bringIn_X5_findWays : GoodIn wsX5_bringIn wsX5_findWays := goodIn_r _ [10, 3, 1, 11, 12, 13, 14, 15, 16, 9, 17, 5, 18, 19, 20, 21, 22, 23, 24, 25, 26, 4, 2, 31, 32, 33, 34, 35, 36, 37, 38] rfl (by decide +kernel)
set_option maxRecDepth 20000 in
theorem gX5_bringIn_X5_findWays : GoodIn wsX5_bringIn (wsV RX5 49 RX5 yX5_findWays wsX5_findWays) := goodIn_app (goodIn_of _ (by decide +kernel)) ggX5_bringIn_X5_findWays
theorem dX5_bringIn_8 : decode cX5_bringIn 8 = .ok (.bipush 16, 2) := by decide +kernel
theorem dX5_bringIn_10 : decode cX5_bringIn 10 = .ok (.istore_n 3, 1) := by decide +kernel
theorem dX5_bringIn_11 : decode cX5_bringIn 11 = .ok (.ldc 52, 2) := by decide +kernel
theorem dX5_bringIn_13 : decode cX5_bringIn 13 = .ok (.istore 4, 2) := by decide +kernel
theorem dX5_bringIn_15 : decode cX5_bringIn 15 = .ok (.iconst 0, 1) := by decide +kernel
theorem dX5_bringIn_16 : decode cX5_bringIn 16 = .ok (.istore 5, 2) := by decide +kernel
theorem dX5_bringIn_18 : decode cX5_bringIn 18 = .ok (.iload 5, 2) := by decide +kernel
theorem dX5_bringIn_20 : decode cX5_bringIn 20 = .ok (.bipush 16, 2) := by decide +kernel
theorem dX5_bringIn_22 : decode cX5_bringIn 22 = .ok (.if_icmp .gt 91, 3) := by decide +kernel
theorem dX5_bringIn_113 : decode cX5_bringIn 113 = .ok (.aload_n 0, 1) := by decide +kernel
theorem dX5_bringIn_114 : decode cX5_bringIn 114 = .ok (.iload_n 3, 1) := by decide +kernel
theorem dX5_bringIn_115 : decode cX5_bringIn 115 = .ok (.iload_n 2, 1) := by decide +kernel
theorem dX5_bringIn_116 : decode cX5_bringIn 116 = .ok (.invokevirtual 53, 3) := by decide +kernel
set_option maxRecDepth 20000 in
theorem ggX5_bringIn_X5_pushAlong : GoodIn wsX5_bringIn wsX5_pushAlong := goodIn_r _ [30, 11, 12, 4, 5, 31, 32, 33, 34, 35, 36, 37, 38] rfl (by decide +kernel)
set_option maxRecDepth 20000 in
theorem gX5_bringIn_X5_pushAlong : GoodIn wsX5_bringIn (wsV RX5 53 RX5 yX5_pushAlong wsX5_pushAlong) := goodIn_app (goodIn_of _ (by decide +kernel)) ggX5_bringIn_X5_pushAlong
theorem dX5_bringIn_119 : decode cX5_bringIn 119 = .ok (.aload_n 0, 1) := by decide +kernel
theorem dX5_bringIn_120 : decode cX5_bringIn 120 = .ok (.getfield 23, 3) := by decide +kernel
theorem dX5_bringIn_123 : decode cX5_bringIn 123 = .ok (.iload_n 1, 1) := by decide +kernel
theorem dX5_bringIn_124 : decode cX5_bringIn 124 = .ok (.iload_n 3, 1) := by decide +kernel
theorem dX5_bringIn_125 : decode cX5_bringIn 125 = .ok (.iastore, 1) := by decide +kernel
theorem dX5_bringIn_126 : decode cX5_bringIn 126 = .ok (.aload_n 0, 1) := by decide +kernel
theorem dX5_bringIn_127 : decode cX5_bringIn 127 = .ok (.getfield 20, 3) := by decide +kernel
theorem dX5_bringIn_130 : decode cX5_bringIn 130 = .ok (.iload_n 3, 1) := by decide +kernel
theorem dX5_bringIn_131 : decode cX5_bringIn 131 = .ok (.dup2, 1) := by decide +kernel
theorem dX5_bringIn_132 : decode cX5_bringIn 132 = .ok (.iaload, 1) := by decide +kernel
theorem dX5_bringIn_133 : decode cX5_bringIn 133 = .ok (.iconst 1, 1) := by decide +kernel
theorem dX5_bringIn_134 : decode cX5_bringIn 134 = .ok (.iadd, 1) := by decide +kernel
theorem dX5_bringIn_135 : decode cX5_bringIn 135 = .ok (.iastore, 1) := by decide +kernel
theorem dX5_bringIn_136 : decode cX5_bringIn 136 = .ok (.return_, 1) := by decide +kernel
theorem dX5_bringIn_25 : decode cX5_bringIn 25 = .ok (.aload_n 0, 1) := by decide +kernel
theorem dX5_bringIn_26 : decode cX5_bringIn 26 = .ok (.getfield 11, 3) := by decide +kernel
theorem dX5_bringIn_29 : decode cX5_bringIn 29 = .ok (.iload_n 1, 1) := by decide +kernel
theorem dX5_bringIn_30 : decode cX5_bringIn 30 = .ok (.aaload, 1) := by decide +kernel
theorem dX5_bringIn_31 : decode cX5_bringIn 31 = .ok (.iload 5, 2) := by decide +kernel
theorem dX5_bringIn_33 : decode cX5_bringIn 33 = .ok (.iaload, 1) := by decide +kernel
theorem dX5_bringIn_34 : decode cX5_bringIn 34 = .ok (.ldc 52, 2) := by decide +kernel
theorem dX5_bringIn_36 : decode cX5_bringIn 36 = .ok (.if_icmp .ge 19, 3) := by decide +kernel
theorem dX5_bringIn_55 : decode cX5_bringIn 55 = .ok (.iconst 0, 1) := by decide +kernel
theorem dX5_bringIn_56 : decode cX5_bringIn 56 = .ok (.istore 6, 2) := by decide +kernel
theorem dX5_bringIn_58 : decode cX5_bringIn 58 = .ok (.iload 6, 2) := by decide +kernel
theorem dX5_bringIn_60 : decode cX5_bringIn 60 = .ok (.ifCond .eq 47, 3) := by decide +kernel
theorem dX5_bringIn_107 : decode cX5_bringIn 107 = .ok (.iinc 5 1, 3) := by decide +kernel
theorem dX5_bringIn_110 : decode cX5_bringIn 110 = .ok (.goto (-92), 3) := by decide +kernel
theorem dX5_bringIn_39 : decode cX5_bringIn 39 = .ok (.aload_n 0, 1) := by decide +kernel
theorem dX5_bringIn_40 : decode cX5_bringIn 40 = .ok (.getfield 26, 3) := by decide +kernel
theorem dX5_bringIn_43 : decode cX5_bringIn 43 = .ok (.iload 5, 2) := by decide +kernel
theorem dX5_bringIn_45 : decode cX5_bringIn 45 = .ok (.iaload, 1) := by decide +kernel
theorem dX5_bringIn_46 : decode cX5_bringIn 46 = .ok (.ldc 52, 2) := by decide +kernel
theorem dX5_bringIn_48 : decode cX5_bringIn 48 = .ok (.if_icmp .ge 7, 3) := by decide +kernel
theorem dX5_bringIn_51 : decode cX5_bringIn 51 = .ok (.iconst 1, 1) := by decide +kernel
theorem dX5_bringIn_52 : decode cX5_bringIn 52 = .ok (.goto 4, 3) := by decide +kernel
theorem dX5_bringIn_63 : decode cX5_bringIn 63 = .ok (.aload_n 0, 1) := by decide +kernel
theorem dX5_bringIn_64 : decode cX5_bringIn 64 = .ok (.getfield 11, 3) := by decide +kernel
theorem dX5_bringIn_67 : decode cX5_bringIn 67 = .ok (.iload_n 1, 1) := by decide +kernel
theorem dX5_bringIn_68 : decode cX5_bringIn 68 = .ok (.aaload, 1) := by decide +kernel
theorem dX5_bringIn_69 : decode cX5_bringIn 69 = .ok (.iload 5, 2) := by decide +kernel
theorem dX5_bringIn_71 : decode cX5_bringIn 71 = .ok (.iaload, 1) := by decide +kernel
theorem dX5_bringIn_72 : decode cX5_bringIn 72 = .ok (.aload_n 0, 1) := by decide +kernel
theorem dX5_bringIn_73 : decode cX5_bringIn 73 = .ok (.getfield 26, 3) := by decide +kernel
theorem dX5_bringIn_76 : decode cX5_bringIn 76 = .ok (.iload 5, 2) := by decide +kernel
theorem dX5_bringIn_78 : decode cX5_bringIn 78 = .ok (.iaload, 1) := by decide +kernel
theorem dX5_bringIn_79 : decode cX5_bringIn 79 = .ok (.iadd, 1) := by decide +kernel
theorem dX5_bringIn_80 : decode cX5_bringIn 80 = .ok (.iload 4, 2) := by decide +kernel
theorem dX5_bringIn_82 : decode cX5_bringIn 82 = .ok (.if_icmp .ge 25, 3) := by decide +kernel
theorem dX5_bringIn_85 : decode cX5_bringIn 85 = .ok (.aload_n 0, 1) := by decide +kernel
theorem dX5_bringIn_86 : decode cX5_bringIn 86 = .ok (.getfield 11, 3) := by decide +kernel
theorem dX5_bringIn_89 : decode cX5_bringIn 89 = .ok (.iload_n 1, 1) := by decide +kernel
theorem dX5_bringIn_90 : decode cX5_bringIn 90 = .ok (.aaload, 1) := by decide +kernel
theorem dX5_bringIn_91 : decode cX5_bringIn 91 = .ok (.iload 5, 2) := by decide +kernel
theorem dX5_bringIn_93 : decode cX5_bringIn 93 = .ok (.iaload, 1) := by decide +kernel
theorem dX5_bringIn_94 : decode cX5_bringIn 94 = .ok (.aload_n 0, 1) := by decide +kernel
theorem dX5_bringIn_95 : decode cX5_bringIn 95 = .ok (.getfield 26, 3) := by decide +kernel
theorem dX5_bringIn_98 : decode cX5_bringIn 98 = .ok (.iload 5, 2) := by decide +kernel
theorem dX5_bringIn_100 : decode cX5_bringIn 100 = .ok (.iaload, 1) := by decide +kernel
theorem dX5_bringIn_101 : decode cX5_bringIn 101 = .ok (.iadd, 1) := by decide +kernel
theorem dX5_bringIn_102 : decode cX5_bringIn 102 = .ok (.istore 4, 2) := by decide +kernel
theorem dX5_bringIn_104 : decode cX5_bringIn 104 = .ok (.iload 5, 2) := by decide +kernel
theorem dX5_bringIn_106 : decode cX5_bringIn 106 = .ok (.istore_n 3, 1) := by decide +kernel
set_option maxHeartbeats 4000000 in
set_option maxRecDepth 100000 in
theorem g_bringIn (l : Launch) (g : xG) (sz : Nat) (sg : Nat) (co : Nat) (ro : Nat) (us : Nat) (sl : Nat) (wc : Nat) (nx : Nat) (pu : Nat) (cn : Nat) (gl : Nat) (n : Nat) (lo : Nat) (cr : Nat → Nat) (hh : Nat → Int) (cost : Nat → Nat → Int) (room : Nat → Int) (used : Nat → Int) (slot : Nat → Nat) (dd : Nat → Int) (nxt : Nat → Nat) (psh : Nat → Int)  (hp : sPot (sE used room slot cost (cn + 1) n) hh) (hhb : ∀ u, -680 ≤ hh u ∧ hh u ≤ 1000000) (hcs : sCs cost n) (hin : sIn slot cost (cn + 1) n) (hn : n ≤ 24) (hcn : cn < n) (hgl : gl ≤ 17) (hlo : lo ≤ cn + 1) (hu : ∀ s, s ≤ 16 → used s = sCnt slot lo n s) (hr16 : used 16 < room 16) (hg17 : gl = 17 ∨ (gl ≤ 16 ∧ 0 < used gl)) (b_cost : ∀ i j, 0 ≤ cost i j ∧ cost i j ≤ 1000000) (b_room : ∀ j, 0 ≤ room j ∧ room j ≤ 24) (b_used : ∀ j, 0 ≤ used j ∧ used j ≤ 30) (b_slot : ∀ j, slot j ≤ 16) (b_dd : ∀ j, (-3000000) ≤ dd j ∧ dd j ≤ 1000000) (b_nxt : ∀ j, nxt j ≤ 17) (b_psh : ∀ j, (-1) ≤ psh j ∧ psh j ≤ 23) : Met l yX5_bringIn wsX5_bringIn ({ frames := 3, cells := 0, slots := 0, locals := 74 }) (va_Pc [.ref sg, .int (nI cn), .int (nI gl)] (fun U => xB g ([(sg, .inr (5, [.int (nI n), .ref co, .ref ro, .ref us, .ref sl, .ref wc, .ref nx, .ref pu])), (co, .inl (xM g, 24, .inr (.inr (.inr (.inr (fun i => if i < 24 then some (cr i) else none))))))] ++ (xRI (xI g) 24 17 cr cost ++ [(ro, .inl (xI g, 17, .inl (fun j => iI (room j)))), (us, .inl (xI g, 17, .inl (fun j => iI (used j)))), (sl, .inl (xI g, 24, .inl (fun j => nI (slot j)))), (wc, .inl (xI g, 18, .inl (fun j => iI (dd j)))), (nx, .inl (xI g, 18, .inl (fun j => nI (nxt j)))), (pu, .inl (xI g, 18, .inl (fun j => iI (psh j))))])) sz U)) (va_Qv (fun (_ : Unit) => True) (fun (_ : Unit) (t : State) => ∃ (d2 : Nat → Int) (n2 : Nat → Nat) (p2 : Nat → Int) (us2 : Nat → Int) (sl2 : Nat → Nat), (∃ (tt : Nat → Nat) (us1 : Nat → Int) (sl1 : Nat → Nat) (ch : Nat), sWays (sE used room slot cost (cn + 1) n) gl d2 n2 p2 tt ∧ sAl used slot cost (cn + 1) lo n d2 tt ch gl us1 sl1 ∧ ch ≤ 16 ∧ cost cn ch < 1000000 ∧ d2 ch < 1000000 ∧ (∀ s, s ≤ 16 → cost cn s < 1000000 → d2 s < 1000000 → cost cn ch + d2 ch ≤ cost cn s + d2 s) ∧ us2 = zU us1 ch (us1 ch + 1) ∧ sl2 = nV sl1 cn ch) ∧ (∀ j, 0 ≤ us2 j ∧ us2 j ≤ 30) ∧ (∀ j, sl2 j ≤ 16) ∧ (∀ j, (-3000000) ≤ d2 j ∧ d2 j ≤ 1000000) ∧ (∀ j, n2 j ≤ 17) ∧ (∀ j, (-1) ≤ p2 j ∧ p2 j ≤ 23) ∧ xE g ([(sg, .inr (5, [.int (nI n), .ref co, .ref ro, .ref us, .ref sl, .ref wc, .ref nx, .ref pu])), (co, .inl (xM g, 24, .inr (.inr (.inr (.inr (fun i => if i < 24 then some (cr i) else none))))))] ++ (xRI (xI g) 24 17 cr cost ++ [(ro, .inl (xI g, 17, .inl (fun j => iI (room j)))), (us, .inl (xI g, 17, .inl (fun j => iI (us2 j)))), (sl, .inl (xI g, 24, .inl (fun j => nI (sl2 j)))), (wc, .inl (xI g, 18, .inl (fun j => iI (d2 j)))), (nx, .inl (xI g, 18, .inl (fun j => nI (n2 j)))), (pu, .inl (xI g, 18, .inl (fun j => iI (p2 j))))])) (va_A ([(sg, .inr (5, [.int (nI n), .ref co, .ref ro, .ref us, .ref sl, .ref wc, .ref nx, .ref pu])), (co, .inl (xM g, 24, .inr (.inr (.inr (.inr (fun i => if i < 24 then some (cr i) else none))))))] ++ (xRI (xI g) 24 17 cr cost ++ [(ro, .inl (xI g, 17, .inl (fun j => iI (room j)))), (us, .inl (xI g, 17, .inl (fun j => iI (used j)))), (sl, .inl (xI g, 24, .inl (fun j => nI (slot j)))), (wc, .inl (xI g, 18, .inl (fun j => iI (dd j)))), (nx, .inl (xI g, 18, .inl (fun j => nI (nxt j)))), (pu, .inl (xI g, 18, .inl (fun j => iI (psh j))))])) sz) t) (va_A ([(sg, .inr (5, [.int (nI n), .ref co, .ref ro, .ref us, .ref sl, .ref wc, .ref nx, .ref pu])), (co, .inl (xM g, 24, .inr (.inr (.inr (.inr (fun i => if i < 24 then some (cr i) else none))))))] ++ (xRI (xI g) 24 17 cr cost ++ [(ro, .inl (xI g, 17, .inl (fun j => iI (room j)))), (us, .inl (xI g, 17, .inl (fun j => iI (used j)))), (sl, .inl (xI g, 24, .inl (fun j => nI (slot j)))), (wc, .inl (xI g, 18, .inl (fun j => iI (dd j)))), (nx, .inl (xI g, 18, .inl (fun j => nI (nxt j)))), (pu, .inl (xI g, 18, .inl (fun j => iI (psh j))))])) sz)) 0 0 (va_A ([(sg, .inr (5, [.int (nI n), .ref co, .ref ro, .ref us, .ref sl, .ref wc, .ref nx, .ref pu])), (co, .inl (xM g, 24, .inr (.inr (.inr (.inr (fun i => if i < 24 then some (cr i) else none))))))] ++ (xRI (xI g) 24 17 cr cost ++ [(ro, .inl (xI g, 17, .inl (fun j => iI (room j)))), (us, .inl (xI g, 17, .inl (fun j => iI (used j)))), (sl, .inl (xI g, 24, .inl (fun j => nI (slot j)))), (wc, .inl (xI g, 18, .inl (fun j => iI (dd j)))), (nx, .inl (xI g, 18, .inl (fun j => nI (nxt j)))), (pu, .inl (xI g, 18, .inl (fun j => iI (psh j))))])) sz) := by
  refine Met.ofW (cc := cX5_bringIn) (maxL := 7) (ret := none) (by decide) rfl ?_
  intro p e s m args below meth c s₁ B hml hv
  obtain ⟨rfl, hsz, hP, hK, hD0⟩ := hv
  have hx := B.exec
  have hb := B.bytes
  have hr := B.returns
  have hts := atoms_spec (ws := wsX5_bringIn) B.pre
  have hown : s.vm.findClass RX5 = some m.cls := findClass_of_methodNamed B.named
  have hlocks := B.notSynchronized
  subst hsz
  have hD := hD0.self (sz := s.heap.size)
  generalize hAe : va_A ([(sg, .inr (5, [.int (nI n), .ref co, .ref ro, .ref us, .ref sl, .ref wc, .ref nx, .ref pu])), (co, .inl (xM g, 24, .inr (.inr (.inr (.inr (fun i => if i < 24 then some (cr i) else none))))))] ++ (xRI (xI g) 24 17 cr cost ++ [(ro, .inl (xI g, 17, .inl (fun j => iI (room j)))), (us, .inl (xI g, 17, .inl (fun j => iI (used j)))), (sl, .inl (xI g, 24, .inl (fun j => nI (slot j)))), (wc, .inl (xI g, 18, .inl (fun j => iI (dd j)))), (nx, .inl (xI g, 18, .inl (fun j => nI (nxt j)))), (pu, .inl (xI g, 18, .inl (fun j => iI (psh j))))])) s.heap.size = A at hD ⊢
  have hA : ∀ q : Nat, s.heap.size ≤ q → A q := fun q h => by rw [← hAe]; exact Or.inr h
  have hS : va_S A s.heap s.heap [] := va_S.rf
  have hl := lv_entry ([.ref sg, .int (nI cn), .int (nI gl)]) (n := 7) (Nat.le_of_ble_eq_true rfl)
  rw [lg_entry_eq]
  generalize (lg_sl ([.ref sg, .int (nI cn), .int (nI gl)]) ++ List.replicate (7 - (lg_sl ([.ref sg, .int (nI cn), .int (nI gl)])).length) Slot.unset).toArray = ls at hl ⊢
  have hl : lv_has ls 7 [(0, .ref sg), (1, .int (nI cn)), (2, .int (nI gl))] := hl
  have hFX5 : ∀ w ∈ u_ws RX5 TX5 8, w ∈ wsX5_bringIn := by decide +kernel
  refine lv_aload_n hx hb dX5_bringIn_0 rfl (lv_at hl 0 rfl) ?_
  refine lv_iload_n hx hb dX5_bringIn_1 rfl (lv_at hl 2 rfl) ?_
  refine lv_iload_n hx hb dX5_bringIn_2 rfl (lv_at hl 1 rfl) ?_
  refine lv_iconst (v := 1) hx hb dX5_bringIn_3 (by decide) ?_
  refine lv_iadd hx hb dX5_bringIn_4 ?_
  refine lv_topi (fun v_1 ev => ?_)
  obtain rfl : v_1 = nI (cn + 1) := ev.trans (nI_add cn 1)
  have hPc := hP.sub (ws' := ([(sg, .inr (5, [.int (nI n), .ref co, .ref ro, .ref us, .ref sl, .ref wc, .ref nx, .ref pu])), (co, .inl (xM g, 24, .inr (.inr (.inr (.inr (fun i => if i < 24 then some (cr i) else none))))))] ++ (xRI (xI g) 24 17 cr cost ++ [(ro, .inl (xI g, 17, .inl (fun j => iI (room j)))), (us, .inl (xI g, 17, .inl (fun j => iI (used j)))), (sl, .inl (xI g, 24, .inl (fun j => nI (slot j)))), (wc, .inl (xI g, 18, .inl (fun j => iI (dd j)))), (nx, .inl (xI g, 18, .inl (fun j => nI (nxt j)))), (pu, .inl (xI g, 18, .inl (fun j => iI (psh j))))]))) [0, 1, 2, 3, 4, 5, 6, 7, 8, 9, 10, 11, 12, 13, 14, 15, 16, 17, 18, 19, 20, 21, 22, 23, 24, 25, 26, 27, 28, 29, 30, 31] rfl
  have hDc := hD.sub (ws' := ([(sg, .inr (5, [.int (nI n), .ref co, .ref ro, .ref us, .ref sl, .ref wc, .ref nx, .ref pu])), (co, .inl (xM g, 24, .inr (.inr (.inr (.inr (fun i => if i < 24 then some (cr i) else none))))))] ++ (xRI (xI g) 24 17 cr cost ++ [(ro, .inl (xI g, 17, .inl (fun j => iI (room j)))), (us, .inl (xI g, 17, .inl (fun j => iI (used j)))), (sl, .inl (xI g, 24, .inl (fun j => nI (slot j)))), (wc, .inl (xI g, 18, .inl (fun j => iI (dd j)))), (nx, .inl (xI g, 18, .inl (fun j => nI (nxt j)))), (pu, .inl (xI g, 18, .inl (fun j => iI (psh j))))]))) [0, 1, 2, 3, 4, 5, 6, 7, 8, 9, 10, 11, 12, 13, 14, 15, 16, 17, 18, 19, 20, 21, 22, 23, 24, 25, 26, 27, 28, 29, 30, 31] (by decide) rfl
  have hFc := va_free (wc := ([(sg, .inr (5, [.int (nI n), .ref co, .ref ro, .ref us, .ref sl, .ref wc, .ref nx, .ref pu])), (co, .inl (xM g, 24, .inr (.inr (.inr (.inr (fun i => if i < 24 then some (cr i) else none))))))] ++ (xRI (xI g) 24 17 cr cost ++ [(ro, .inl (xI g, 17, .inl (fun j => iI (room j)))), (us, .inl (xI g, 17, .inl (fun j => iI (used j)))), (sl, .inl (xI g, 24, .inl (fun j => nI (slot j)))), (wc, .inl (xI g, 18, .inl (fun j => iI (dd j)))), (nx, .inl (xI g, 18, .inl (fun j => nI (nxt j)))), (pu, .inl (xI g, 18, .inl (fun j => iI (psh j))))]))) hD hS hA [0, 1, 2, 3, 4, 5, 6, 7, 8, 9, 10, 11, 12, 13, 14, 15, 16, 17, 18, 19, 20, 21, 22, 23, 24, 25, 26, 27, 28, 29, 30, 31] rfl
  refine va_callv (va_runV (As := [.int (nI gl), .int (nI (cn + 1))]) (rest := []) ⟨hx, hb, hml, hown, hts⟩ (g_findWays l g s.heap.size sg co ro us sl wc nx pu gl (cn + 1) n cr hh cost room used slot dd nxt psh (by first | assumption | omega) (by first | assumption | omega) (by first | assumption | omega) (by first | assumption | omega) (by first | assumption | omega) (by first | assumption | omega) (by first | assumption | omega) b_cost b_room b_used b_slot b_dd b_nxt b_psh) (cwV 2 hts gX5_bringIn_X5_findWays rfl rfl rfl (by decide +kernel) ⟨Nat.le_of_ble_eq_true rfl, Nat.le_of_ble_eq_true rfl⟩) ⟨xB.blind, va_recv hK hPc (ci := 5) (q0 := 0) rfl rfl, fun U9 hU9 hW9 => ⟨rfl, xB.mk hPc hK hDc hU9 hW9⟩⟩ rfl rfl hl.1 rfl (lv_room (Nat.le_of_ble_eq_true rfl)) dX5_bringIn_5 ⟨Nat.le_of_ble_eq_true rfl, Nat.le_of_ble_eq_true rfl⟩) hS (fun q _ h => hFc q h) hFc (fun u_4 t H1 locs ht hvm hw_3 hB hz1 hk1 hS => ?_)
  obtain ⟨n1_5, p1_6, hc_7, hb_8, hb_9, hb_10, hP1, hK1, hD1⟩ := hB
  rw [ht] at hP1
  obtain ⟨hP, hD⟩ := va_join (wr := []) (w1 := ([(sg, .inr (5, [.int (nI n), .ref co, .ref ro, .ref us, .ref sl, .ref wc, .ref nx, .ref pu])), (co, .inl (xM g, 24, .inr (.inr (.inr (.inr (fun i => if i < 24 then some (cr i) else none))))))] ++ (xRI (xI g) 24 17 cr cost ++ [(ro, .inl (xI g, 17, .inl (fun j => iI (room j)))), (us, .inl (xI g, 17, .inl (fun j => iI (used j)))), (sl, .inl (xI g, 24, .inl (fun j => nI (slot j)))), (wc, .inl (xI g, 18, .inl (fun j => iI (u_4 j)))), (nx, .inl (xI g, 18, .inl (fun j => nI (n1_5 j)))), (pu, .inl (xI g, 18, .inl (fun j => iI (p1_6 j))))]))) hP hD [0, 1, 2, 3, 4, 5, 6, 7, 8, 9, 10, 11, 12, 13, 14, 15, 16, 17, 18, 19, 20, 21, 22, 23, 24, 25, 26, 27, 28, 29, 30, 31] [] rfl rfl (by decide) (by decide) hk1 hFc hP1 hD1
  generalize H1 = H at hP hS ⊢
  have hP : va_P (xD g) vwCl ([(sg, .inr (5, [.int (nI n), .ref co, .ref ro, .ref us, .ref sl, .ref wc, .ref nx, .ref pu])), (co, .inl (xM g, 24, .inr (.inr (.inr (.inr (fun i => if i < 24 then some (cr i) else none))))))] ++ (xRI (xI g) 24 17 cr cost ++ [(ro, .inl (xI g, 17, .inl (fun j => iI (room j)))), (us, .inl (xI g, 17, .inl (fun j => iI (used j)))), (sl, .inl (xI g, 24, .inl (fun j => nI (slot j)))), (wc, .inl (xI g, 18, .inl (fun j => iI (u_4 j)))), (nx, .inl (xI g, 18, .inl (fun j => nI (n1_5 j)))), (pu, .inl (xI g, 18, .inl (fun j => iI (p1_6 j))))])) H := hP
  have hD : va_D A ([(sg, .inr (5, [.int (nI n), .ref co, .ref ro, .ref us, .ref sl, .ref wc, .ref nx, .ref pu])), (co, .inl (xM g, 24, .inr (.inr (.inr (.inr (fun i => if i < 24 then some (cr i) else none))))))] ++ (xRI (xI g) 24 17 cr cost ++ [(ro, .inl (xI g, 17, .inl (fun j => iI (room j)))), (us, .inl (xI g, 17, .inl (fun j => iI (used j)))), (sl, .inl (xI g, 24, .inl (fun j => nI (slot j)))), (wc, .inl (xI g, 18, .inl (fun j => iI (u_4 j)))), (nx, .inl (xI g, 18, .inl (fun j => nI (n1_5 j)))), (pu, .inl (xI g, 18, .inl (fun j => iI (p1_6 j))))])) := hD
  try dsimp only at hw_3
  obtain ⟨tt, hW⟩ := hc_7
  have hd17 : u_4 17 < 1000000 := by rcases hg17 with q | ⟨q, q2⟩; · have z := hW.1; rw [q] at z; omega; · exact sG_reach17 hW q q2
  have hd16 := sG_reach hW hd17 hr16
  refine lv_bipush (v := 16) hx hb dX5_bringIn_8 (by decide) ?_
  refine lv_istore_n (lv' := [(3, .int 16), (0, .ref sg), (1, .int (nI cn)), (2, .int (nI gl))]) hx hb dX5_bringIn_10 rfl hl (by decide) rfl (fun ls hl => ?_)
  refine lv_ldc (v := 1000000) hx hb hown (hts (.constant RX5 52 (1000000)) (by decide +kernel)) dX5_bringIn_11 ?_
  refine lv_istore (lv' := [(4, .int 1000000), (3, .int 16), (0, .ref sg), (1, .int (nI cn)), (2, .int (nI gl))]) hx hb dX5_bringIn_13 hl (by decide) rfl (fun ls hl => ?_)
  refine lv_iconst (v := 0) hx hb dX5_bringIn_15 (by decide) ?_
  refine lv_istore (lv' := [(5, .int 0), (4, .int 1000000), (3, .int 16), (0, .ref sg), (1, .int (nI cn)), (2, .int (nI gl))]) hx hb dX5_bringIn_16 hl (by decide) rfl (fun ls hl => ?_)
  have hloop18 : ∀ (n9 : Nat) (k : Nat) (ch : Nat) (le9 : Int) (H : Heap) (locs : List Loc) (ls : Array Slot), 17 - k < n9 → (k ≤ 17) → (ch ≤ 16) → (le9 = 1000000 ∨ (cost cn ch < 1000000 ∧ u_4 ch < 1000000 ∧ le9 = cost cn ch + u_4 ch)) → (∀ s, s < k → cost cn s < 1000000 → u_4 s < 1000000 → le9 ≤ cost cn s + u_4 s) → (le9 ≤ 1000000) → va_P (xD g) vwCl ([(sg, .inr (5, [.int (nI n), .ref co, .ref ro, .ref us, .ref sl, .ref wc, .ref nx, .ref pu])), (co, .inl (xM g, 24, .inr (.inr (.inr (.inr (fun i => if i < 24 then some (cr i) else none))))))] ++ (xRI (xI g) 24 17 cr cost ++ [(ro, .inl (xI g, 17, .inl (fun j => iI (room j)))), (us, .inl (xI g, 17, .inl (fun j => iI (used j)))), (sl, .inl (xI g, 24, .inl (fun j => nI (slot j)))), (wc, .inl (xI g, 18, .inl (fun j => iI (u_4 j)))), (nx, .inl (xI g, 18, .inl (fun j => nI (n1_5 j)))), (pu, .inl (xI g, 18, .inl (fun j => iI (p1_6 j))))])) H → va_D A ([(sg, .inr (5, [.int (nI n), .ref co, .ref ro, .ref us, .ref sl, .ref wc, .ref nx, .ref pu])), (co, .inl (xM g, 24, .inr (.inr (.inr (.inr (fun i => if i < 24 then some (cr i) else none))))))] ++ (xRI (xI g) 24 17 cr cost ++ [(ro, .inl (xI g, 17, .inl (fun j => iI (room j)))), (us, .inl (xI g, 17, .inl (fun j => iI (used j)))), (sl, .inl (xI g, 24, .inl (fun j => nI (slot j)))), (wc, .inl (xI g, 18, .inl (fun j => iI (u_4 j)))), (nx, .inl (xI g, 18, .inl (fun j => nI (n1_5 j)))), (pu, .inl (xI g, 18, .inl (fun j => iI (p1_6 j))))])) → va_S A s.heap H locs → lv_has ls 7 [(5, .int (nI k)), (0, .ref sg), (1, .int (nI cn)), (2, .int (nI gl)), (3, .int (nI ch)), (4, .int (iI le9))] → W p l e (headSpec wsX5_bringIn ({ frames := 3, cells := 0, slots := 0, locals := 74 })).room s m ([.ref sg, .int (nI cn), .int (nI gl)] : List Value).toArray below meth c H locs 0 0 (MQ below (va_Qv (fun (_ : Unit) => True) (fun (_ : Unit) (t : State) => ∃ (d2 : Nat → Int) (n2 : Nat → Nat) (p2 : Nat → Int) (us2 : Nat → Int) (sl2 : Nat → Nat), (∃ (tt : Nat → Nat) (us1 : Nat → Int) (sl1 : Nat → Nat) (ch : Nat), sWays (sE used room slot cost (cn + 1) n) gl d2 n2 p2 tt ∧ sAl used slot cost (cn + 1) lo n d2 tt ch gl us1 sl1 ∧ ch ≤ 16 ∧ cost cn ch < 1000000 ∧ d2 ch < 1000000 ∧ (∀ s, s ≤ 16 → cost cn s < 1000000 → d2 s < 1000000 → cost cn ch + d2 ch ≤ cost cn s + d2 s) ∧ us2 = zU us1 ch (us1 ch + 1) ∧ sl2 = nV sl1 cn ch) ∧ (∀ j, 0 ≤ us2 j ∧ us2 j ≤ 30) ∧ (∀ j, sl2 j ≤ 16) ∧ (∀ j, (-3000000) ≤ d2 j ∧ d2 j ≤ 1000000) ∧ (∀ j, n2 j ≤ 17) ∧ (∀ j, (-1) ≤ p2 j ∧ p2 j ≤ 23) ∧ xE g ([(sg, .inr (5, [.int (nI n), .ref co, .ref ro, .ref us, .ref sl, .ref wc, .ref nx, .ref pu])), (co, .inl (xM g, 24, .inr (.inr (.inr (.inr (fun i => if i < 24 then some (cr i) else none))))))] ++ (xRI (xI g) 24 17 cr cost ++ [(ro, .inl (xI g, 17, .inl (fun j => iI (room j)))), (us, .inl (xI g, 17, .inl (fun j => iI (us2 j)))), (sl, .inl (xI g, 24, .inl (fun j => nI (sl2 j)))), (wc, .inl (xI g, 18, .inl (fun j => iI (d2 j)))), (nx, .inl (xI g, 18, .inl (fun j => nI (n2 j)))), (pu, .inl (xI g, 18, .inl (fun j => iI (p2 j))))])) (A) t) (A)) ([.ref sg, .int (nI cn), .int (nI gl)] : List Value).toArray s 0 0 A) (F0 m 18 ls []) := by
    intro n9
    induction n9 with
    | zero =>
      intro k ch le9 H locs ls hm hk hch hle9 hmin hl6 hP hD hS hl
      exact absurd hm (Nat.not_lt_zero _)
    | succ n9 ih18 =>
      intro k ch le9 H locs ls hm hk hch hle9 hmin hl6 hP hD hS hl
      have hbq := (hW.2.2.1 k)
      have hbc := b_cost cn k
      have hlb : -680 ≤ le9 := by rcases hle9 with q | ⟨q1, q2, q3⟩; · omega; · have z := hW.2.2.1 ch q2; have y := b_cost cn ch; omega
      refine lv_iload hx hb dX5_bringIn_18 (lv_at hl 0 rfl) ?_
      refine lv_bipush (v := 16) hx hb dX5_bringIn_20 (by decide) ?_
      refine lv_icmp_gt (tgt := 113) hx hb dX5_bringIn_22 (by decide) (fun c_11 => ?_) (fun c_11 => ?_)
      · have nc_11 := (nI_ltI (a := 16) (b := k) (by omega) (by omega)).mp c_11
        have hc16 := (hcs cn hcn).1
        have hopen := hmin 16 (by omega) (by omega) hd16
        have hb16 := hW.2.2.1 16 hd16
        obtain ⟨ho1, ho2, ho3⟩ := hle9.resolve_left (by omega)
        refine lv_aload_n hx hb dX5_bringIn_113 rfl (lv_at hl 1 rfl) ?_
        refine lv_iload_n hx hb dX5_bringIn_114 rfl (lv_at hl 4 rfl) ?_
        refine lv_iload_n hx hb dX5_bringIn_115 rfl (lv_at hl 3 rfl) ?_
        have hPc := hP.sub (ws' := [(sg, .inr (5, [.int (nI n), .ref co, .ref ro, .ref us, .ref sl, .ref wc, .ref nx, .ref pu])), (us, .inl (xI g, 17, .inl (fun j => iI (used j)))), (sl, .inl (xI g, 24, .inl (fun j => nI (slot j)))), (nx, .inl (xI g, 18, .inl (fun j => nI (n1_5 j)))), (pu, .inl (xI g, 18, .inl (fun j => iI (p1_6 j))))]) [0, 27, 28, 30, 31] rfl
        have hDc := hD.sub (ws' := [(sg, .inr (5, [.int (nI n), .ref co, .ref ro, .ref us, .ref sl, .ref wc, .ref nx, .ref pu])), (us, .inl (xI g, 17, .inl (fun j => iI (used j)))), (sl, .inl (xI g, 24, .inl (fun j => nI (slot j)))), (nx, .inl (xI g, 18, .inl (fun j => nI (n1_5 j)))), (pu, .inl (xI g, 18, .inl (fun j => iI (p1_6 j))))]) [0, 27, 28, 30, 31] (by decide) rfl
        have hFc := va_free (wc := [(sg, .inr (5, [.int (nI n), .ref co, .ref ro, .ref us, .ref sl, .ref wc, .ref nx, .ref pu])), (us, .inl (xI g, 17, .inl (fun j => iI (used j)))), (sl, .inl (xI g, 24, .inl (fun j => nI (slot j)))), (nx, .inl (xI g, 18, .inl (fun j => nI (n1_5 j)))), (pu, .inl (xI g, 18, .inl (fun j => iI (p1_6 j))))]) hD hS hA [0, 27, 28, 30, 31] rfl
        refine va_callv (va_runV (As := [.int (nI ch), .int (nI gl)]) (rest := []) ⟨hx, hb, hml, hown, hts⟩ (g_pushAlong l g H.size sg us sl nx pu ch gl n (cn + 1) lo room cost tt u_4 (.int (nI n)) (.ref co) (.ref ro) (.ref wc) used slot n1_5 p1_6 hW hin (by first | assumption | omega) (by first | assumption | omega) (by first | assumption | omega) (by first | assumption | omega) (by first | assumption | omega) (by first | assumption | omega) b_used b_slot hb_9 hb_10) (cwV 2 hts gX5_bringIn_X5_pushAlong rfl rfl rfl (by decide +kernel) ⟨Nat.le_of_ble_eq_true rfl, Nat.le_of_ble_eq_true rfl⟩) ⟨xB.blind, va_recv hK hPc (ci := 5) (q0 := 0) rfl rfl, fun U9 hU9 hW9 => ⟨rfl, xB.mk hPc hK hDc hU9 hW9⟩⟩ rfl rfl hl.1 rfl (lv_room (Nat.le_of_ble_eq_true rfl)) dX5_bringIn_116 ⟨Nat.le_of_ble_eq_true rfl, Nat.le_of_ble_eq_true rfl⟩) hS (fun q _ h => hFc q h) hFc (fun _ t H1 locs ht hvm hw_13 hB hz1 hk1 hS => ?_)
        obtain ⟨us1_14, sl1_15, hc_16, hb_17, hb_18, hP1, hK1, hD1⟩ := hB
        rw [ht] at hP1
        obtain ⟨hP, hD⟩ := va_join (wr := ([(co, .inl (xM g, 24, .inr (.inr (.inr (.inr (fun i => if i < 24 then some (cr i) else none))))))] ++ (xRI (xI g) 24 17 cr cost ++ [(ro, .inl (xI g, 17, .inl (fun j => iI (room j)))), (wc, .inl (xI g, 18, .inl (fun j => iI (u_4 j))))]))) (w1 := [(sg, .inr (5, [.int (nI n), .ref co, .ref ro, .ref us, .ref sl, .ref wc, .ref nx, .ref pu])), (us, .inl (xI g, 17, .inl (fun j => iI (us1_14 j)))), (sl, .inl (xI g, 24, .inl (fun j => nI (sl1_15 j)))), (nx, .inl (xI g, 18, .inl (fun j => nI (n1_5 j)))), (pu, .inl (xI g, 18, .inl (fun j => iI (p1_6 j))))]) hP hD [0, 27, 28, 30, 31] [1, 2, 3, 4, 5, 6, 7, 8, 9, 10, 11, 12, 13, 14, 15, 16, 17, 18, 19, 20, 21, 22, 23, 24, 25, 26, 29] rfl rfl (by decide) (by decide) hk1 hFc hP1 hD1
        generalize H1 = H at hP hS ⊢
        have hP : va_P (xD g) vwCl ([(co, .inl (xM g, 24, .inr (.inr (.inr (.inr (fun i => if i < 24 then some (cr i) else none))))))] ++ (xRI (xI g) 24 17 cr cost ++ [(ro, .inl (xI g, 17, .inl (fun j => iI (room j)))), (wc, .inl (xI g, 18, .inl (fun j => iI (u_4 j)))), (sg, .inr (5, [.int (nI n), .ref co, .ref ro, .ref us, .ref sl, .ref wc, .ref nx, .ref pu])), (us, .inl (xI g, 17, .inl (fun j => iI (us1_14 j)))), (sl, .inl (xI g, 24, .inl (fun j => nI (sl1_15 j)))), (nx, .inl (xI g, 18, .inl (fun j => nI (n1_5 j)))), (pu, .inl (xI g, 18, .inl (fun j => iI (p1_6 j))))])) H := hP
        have hD : va_D A ([(co, .inl (xM g, 24, .inr (.inr (.inr (.inr (fun i => if i < 24 then some (cr i) else none))))))] ++ (xRI (xI g) 24 17 cr cost ++ [(ro, .inl (xI g, 17, .inl (fun j => iI (room j)))), (wc, .inl (xI g, 18, .inl (fun j => iI (u_4 j)))), (sg, .inr (5, [.int (nI n), .ref co, .ref ro, .ref us, .ref sl, .ref wc, .ref nx, .ref pu])), (us, .inl (xI g, 17, .inl (fun j => iI (us1_14 j)))), (sl, .inl (xI g, 24, .inl (fun j => nI (sl1_15 j)))), (nx, .inl (xI g, 18, .inl (fun j => nI (n1_5 j)))), (pu, .inl (xI g, 18, .inl (fun j => iI (p1_6 j))))])) := hD
        try dsimp only at hw_13
        have ha7 := hc_16.2.2.2.2.2.2 ch (by omega)
        have hb7 := sCnt_le (f := sl1_15) (lo := lo) (s := ch) n
        have hb8 := sCnt_nn (f := sl1_15) (lo := lo) (n := n) (s := ch)
        refine lv_aload_n hx hb dX5_bringIn_119 rfl (lv_at hl 1 rfl) ?_
        refine va_get (D := xD g) (ci := 5) (v := .ref sl) (C := RX5) (T := TX5) (N := 8) hx hb hts hFX5 hown hK hP 27 rfl rfl 4 (by decide) (hts (.fieldLink RX5 23 "Stevedore$SlotGiver" "slot" "[I") (by decide +kernel)) (fun _ h9 => h9) rfl dX5_bringIn_120 ?_
        refine lv_iload_n hx hb dX5_bringIn_123 rfl (lv_at hl 2 rfl) ?_
        refine lv_iload_n hx hb dX5_bringIn_124 rfl (lv_at hl 4 rfl) ?_
        refine va_iast (x := nI ch) hx hb hK hP hD hS 29 0 rfl rfl (vp_in_nI (by omega) (by omega)) dX5_bringIn_125 (fun H locs hP hD hS => ?_)
        rw [nU (f := sl1_15) (k := cn) (v := ch) (nI_clamp (by omega)) rfl] at hP hD
        have hb_19 : ∀ j, (nV sl1_15 cn ch) j ≤ 16 := nV_all (P := fun q9 => q9 ≤ 16) hb_18 (by omega)
        have hP : va_P (xD g) vwCl ([(co, .inl (xM g, 24, .inr (.inr (.inr (.inr (fun i => if i < 24 then some (cr i) else none))))))] ++ (xRI (xI g) 24 17 cr cost ++ [(ro, .inl (xI g, 17, .inl (fun j => iI (room j)))), (wc, .inl (xI g, 18, .inl (fun j => iI (u_4 j)))), (sg, .inr (5, [.int (nI n), .ref co, .ref ro, .ref us, .ref sl, .ref wc, .ref nx, .ref pu])), (us, .inl (xI g, 17, .inl (fun j => iI (us1_14 j)))), (sl, .inl (xI g, 24, .inl (fun j => nI ((nV sl1_15 cn ch) j)))), (nx, .inl (xI g, 18, .inl (fun j => nI (n1_5 j)))), (pu, .inl (xI g, 18, .inl (fun j => iI (p1_6 j))))])) H := hP
        have hD : va_D A ([(co, .inl (xM g, 24, .inr (.inr (.inr (.inr (fun i => if i < 24 then some (cr i) else none))))))] ++ (xRI (xI g) 24 17 cr cost ++ [(ro, .inl (xI g, 17, .inl (fun j => iI (room j)))), (wc, .inl (xI g, 18, .inl (fun j => iI (u_4 j)))), (sg, .inr (5, [.int (nI n), .ref co, .ref ro, .ref us, .ref sl, .ref wc, .ref nx, .ref pu])), (us, .inl (xI g, 17, .inl (fun j => iI (us1_14 j)))), (sl, .inl (xI g, 24, .inl (fun j => nI ((nV sl1_15 cn ch) j)))), (nx, .inl (xI g, 18, .inl (fun j => nI (n1_5 j)))), (pu, .inl (xI g, 18, .inl (fun j => iI (p1_6 j))))])) := hD
        refine lv_aload_n hx hb dX5_bringIn_126 rfl (lv_at hl 1 rfl) ?_
        refine va_get (D := xD g) (ci := 5) (v := .ref us) (C := RX5) (T := TX5) (N := 8) hx hb hts hFX5 hown hK hP 27 rfl rfl 3 (by decide) (hts (.fieldLink RX5 20 "Stevedore$SlotGiver" "used" "[I") (by decide +kernel)) (fun _ h9 => h9) rfl dX5_bringIn_127 ?_
        refine lv_iload_n hx hb dX5_bringIn_130 rfl (lv_at hl 4 rfl) ?_
        refine lv_dup2_11 hx hb dX5_bringIn_131 rfl rfl ?_
        refine va_iald hx hb hK hP 28 0 rfl rfl (vp_in_nI (by omega) (by omega)) dX5_bringIn_132 ?_
        refine lv_topi (fun v_20 ev => ?_)
        obtain rfl : v_20 = iI (us1_14 ch) := ev.trans (congrArg (fun q9 => iI (us1_14 q9)) (nI_clamp (by omega)))
        have b_21 := hb_17 ch
        refine lv_iconst (v := 1) hx hb dX5_bringIn_133 (by decide) ?_
        refine lv_iadd hx hb dX5_bringIn_134 ?_
        refine lv_topi (fun v_22 ev => ?_)
        obtain rfl : v_22 = iI (us1_14 ch + 1) := ev.trans (iA rfl (by decide))
        refine va_iast (x := iI (us1_14 ch + 1)) hx hb hK hP hD hS 28 0 rfl rfl (vp_in_nI (by omega) (by omega)) dX5_bringIn_135 (fun H locs hP hD hS => ?_)
        rw [iU (f := us1_14) (k := ch) (v := us1_14 ch + 1) (nI_clamp (by omega)) rfl] at hP hD
        have hb_23 : ∀ j, 0 ≤ (zU us1_14 ch (us1_14 ch + 1)) j ∧ (zU us1_14 ch (us1_14 ch + 1)) j ≤ 30 := zU_all (P := fun q9 => 0 ≤ q9 ∧ q9 ≤ 30) hb_17 (by omega)
        have hP : va_P (xD g) vwCl ([(co, .inl (xM g, 24, .inr (.inr (.inr (.inr (fun i => if i < 24 then some (cr i) else none))))))] ++ (xRI (xI g) 24 17 cr cost ++ [(ro, .inl (xI g, 17, .inl (fun j => iI (room j)))), (wc, .inl (xI g, 18, .inl (fun j => iI (u_4 j)))), (sg, .inr (5, [.int (nI n), .ref co, .ref ro, .ref us, .ref sl, .ref wc, .ref nx, .ref pu])), (us, .inl (xI g, 17, .inl (fun j => iI ((zU us1_14 ch (us1_14 ch + 1)) j)))), (sl, .inl (xI g, 24, .inl (fun j => nI ((nV sl1_15 cn ch) j)))), (nx, .inl (xI g, 18, .inl (fun j => nI (n1_5 j)))), (pu, .inl (xI g, 18, .inl (fun j => iI (p1_6 j))))])) H := hP
        have hD : va_D A ([(co, .inl (xM g, 24, .inr (.inr (.inr (.inr (fun i => if i < 24 then some (cr i) else none))))))] ++ (xRI (xI g) 24 17 cr cost ++ [(ro, .inl (xI g, 17, .inl (fun j => iI (room j)))), (wc, .inl (xI g, 18, .inl (fun j => iI (u_4 j)))), (sg, .inr (5, [.int (nI n), .ref co, .ref ro, .ref us, .ref sl, .ref wc, .ref nx, .ref pu])), (us, .inl (xI g, 17, .inl (fun j => iI ((zU us1_14 ch (us1_14 ch + 1)) j)))), (sl, .inl (xI g, 24, .inl (fun j => nI ((nV sl1_15 cn ch) j)))), (nx, .inl (xI g, 18, .inl (fun j => nI (n1_5 j)))), (pu, .inl (xI g, 18, .inl (fun j => iI (p1_6 j))))])) := hD
        have hP9 := hP.sub (ws' := ([(sg, .inr (5, [.int (nI n), .ref co, .ref ro, .ref us, .ref sl, .ref wc, .ref nx, .ref pu])), (co, .inl (xM g, 24, .inr (.inr (.inr (.inr (fun i => if i < 24 then some (cr i) else none))))))] ++ (xRI (xI g) 24 17 cr cost ++ [(ro, .inl (xI g, 17, .inl (fun j => iI (room j)))), (us, .inl (xI g, 17, .inl (fun j => iI ((zU us1_14 ch (us1_14 ch + 1)) j)))), (sl, .inl (xI g, 24, .inl (fun j => nI ((nV sl1_15 cn ch) j)))), (wc, .inl (xI g, 18, .inl (fun j => iI (u_4 j)))), (nx, .inl (xI g, 18, .inl (fun j => nI (n1_5 j)))), (pu, .inl (xI g, 18, .inl (fun j => iI (p1_6 j))))]))) [27, 0, 1, 2, 3, 4, 5, 6, 7, 8, 9, 10, 11, 12, 13, 14, 15, 16, 17, 18, 19, 20, 21, 22, 23, 24, 25, 28, 29, 26, 30, 31] rfl
        have hD9 := hD.sub (ws' := ([(sg, .inr (5, [.int (nI n), .ref co, .ref ro, .ref us, .ref sl, .ref wc, .ref nx, .ref pu])), (co, .inl (xM g, 24, .inr (.inr (.inr (.inr (fun i => if i < 24 then some (cr i) else none))))))] ++ (xRI (xI g) 24 17 cr cost ++ [(ro, .inl (xI g, 17, .inl (fun j => iI (room j)))), (us, .inl (xI g, 17, .inl (fun j => iI ((zU us1_14 ch (us1_14 ch + 1)) j)))), (sl, .inl (xI g, 24, .inl (fun j => nI ((nV sl1_15 cn ch) j)))), (wc, .inl (xI g, 18, .inl (fun j => iI (u_4 j)))), (nx, .inl (xI g, 18, .inl (fun j => nI (n1_5 j)))), (pu, .inl (xI g, 18, .inl (fun j => iI (p1_6 j))))]))) [27, 0, 1, 2, 3, 4, 5, 6, 7, 8, 9, 10, 11, 12, 13, 14, 15, 16, 17, 18, 19, 20, 21, 22, 23, 24, 25, 28, 29, 26, 30, 31] (by decide) rfl
        exact W.vret hx hb hr (fun t ht hW => ⟨⟨(), rfl, (by first | trivial | rfl | assumption | omega), ⟨u_4, n1_5, p1_6, (zU us1_14 ch (us1_14 ch + 1)), (nV sl1_15 cn ch), ⟨tt, us1_14, sl1_15, ch, hW, hc_16, hch, ho1, ho2, fun s h1 h2 h3 => (by have z := hmin s (by omega) h2 h3; omega), rfl, rfl⟩, hb_23, hb_19, hb_8, hb_9, hb_10, by rw [ht]; exact hP9, va_K.moved hW.alike hK, hD9⟩⟩, hS.F ht⟩) hS.2.2 dX5_bringIn_136
      · have nc_11 := mt (nI_ltI (a := 16) (b := k) (by omega) (by omega)).mpr c_11
        refine lv_aload_n hx hb dX5_bringIn_25 rfl (lv_at hl 1 rfl) ?_
        refine va_get (D := xD g) (ci := 5) (v := .ref co) (C := RX5) (T := TX5) (N := 8) hx hb hts hFX5 hown hK hP 0 rfl rfl 1 (by decide) (hts (.fieldLink RX5 11 "Stevedore$SlotGiver" "cost" "[[I") (by decide +kernel)) (fun _ h9 => h9) rfl dX5_bringIn_26 ?_
        refine lv_iload_n hx hb dX5_bringIn_29 rfl (lv_at hl 2 rfl) ?_
        refine xAldM hx hb hK hP 1 3 rfl rfl (vp_in_nI (by omega) (by omega)) dX5_bringIn_30 ?_
        refine W.eq (g2 := F0 m 31 ls (.ref (cr cn) :: [])) (congrArg (fun q9 => F0 m 31 ls (q9 :: [])) (xRow (n := 24) (k := cn) (nI_clamp (by omega)) (by omega))) ?_
        refine lv_iload hx hb dX5_bringIn_31 (lv_at hl 0 rfl) ?_
        refine va_iald hx hb hK hP _ 0 (xR_ap (X := [(sg, .inr (5, [.int (nI n), .ref co, .ref ro, .ref us, .ref sl, .ref wc, .ref nx, .ref pu])), (co, .inl (xM g, 24, .inr (.inr (.inr (.inr (fun i => if i < 24 then some (cr i) else none))))))]) (xR_get0 (i := cn) (by omega))) rfl (vp_in_nI (by omega) (by omega)) dX5_bringIn_33 ?_
        refine lv_topi (fun v_24 ev => ?_)
        obtain rfl : v_24 = iI (cost cn k) := ev.trans (congrArg (fun q9 => iI (cost cn q9)) (nI_clamp (by omega)))
        have b_25 := b_cost cn k
        refine lv_ldc (v := 1000000) hx hb hown (hts (.constant RX5 52 (1000000)) (by decide +kernel)) dX5_bringIn_34 ?_
        refine lv_icmp_ge (tgt := 55) hx hb dX5_bringIn_36 (by decide) (fun c_26 => ?_) (fun c_26 => ?_)
        · have nc_26 := (iLe (a := 1000000) (b := cost cn k) (by decide) rfl (by omega)).mp c_26
          refine lv_iconst (v := 0) hx hb dX5_bringIn_55 (by decide) ?_
          refine lv_istore (lv' := [(6, .int 0), (5, .int (nI k)), (0, .ref sg), (1, .int (nI cn)), (2, .int (nI gl)), (3, .int (nI ch)), (4, .int (iI le9))]) hx hb dX5_bringIn_56 hl (by decide) rfl (fun ls hl => ?_)
          refine lv_iload hx hb dX5_bringIn_58 (lv_at hl 0 rfl) ?_
          refine lv_if_eq (tgt := 107) hx hb dX5_bringIn_60 (by decide) (fun _ => ?_) (fun c0 => absurd (by decide) c0)
          refine lv_iinc (v := nI (k + 1)) (lv' := [(5, .int (nI (k + 1))), (6, .int 0), (0, .ref sg), (1, .int (nI cn)), (2, .int (nI gl)), (3, .int (nI ch)), (4, .int (iI le9))]) hx hb dX5_bringIn_107 hl (k := 1) rfl (nI_add k 1) (by decide) rfl (fun ls hl => ?_)
          refine lv_goto (tgt := 18) hx hb dX5_bringIn_110 (by decide) ?_
          exact ih18 (k + 1) ch le9 _ _ _ (by omega) (by omega) (by omega) (by first | exact hle9 | exact Or.inr ⟨by omega, by omega, rfl⟩) (by intro s9 h1 h2 h3; by_cases q : s9 = k; · subst q; omega; · have z := hmin s9 (by omega) h2 h3; omega) (by omega) hP hD hS (lv_sub hl [0, 2, 3, 4, 5, 6] rfl)
        · have nc_26 := mt (iLe (a := 1000000) (b := cost cn k) (by decide) rfl (by omega)).mpr c_26
          refine lv_aload_n hx hb dX5_bringIn_39 rfl (lv_at hl 1 rfl) ?_
          refine va_get (D := xD g) (ci := 5) (v := .ref wc) (C := RX5) (T := TX5) (N := 8) hx hb hts hFX5 hown hK hP 0 rfl rfl 5 (by decide) (hts (.fieldLink RX5 26 "Stevedore$SlotGiver" "wayCost" "[I") (by decide +kernel)) (fun _ h9 => h9) rfl dX5_bringIn_40 ?_
          refine lv_iload hx hb dX5_bringIn_43 (lv_at hl 0 rfl) ?_
          refine va_iald hx hb hK hP 29 0 rfl rfl (vp_in_nI (by omega) (by omega)) dX5_bringIn_45 ?_
          refine lv_topi (fun v_27 ev => ?_)
          obtain rfl : v_27 = iI (u_4 k) := ev.trans (congrArg (fun q9 => iI (u_4 q9)) (nI_clamp (by omega)))
          have b_28 := hb_8 k
          refine lv_ldc (v := 1000000) hx hb hown (hts (.constant RX5 52 (1000000)) (by decide +kernel)) dX5_bringIn_46 ?_
          refine lv_icmp_ge (tgt := 55) hx hb dX5_bringIn_48 (by decide) (fun c_29 => ?_) (fun c_29 => ?_)
          · have nc_29 := (iLe (a := 1000000) (b := u_4 k) (by decide) rfl (by omega)).mp c_29
            refine lv_iconst (v := 0) hx hb dX5_bringIn_55 (by decide) ?_
            refine lv_istore (lv' := [(6, .int 0), (5, .int (nI k)), (0, .ref sg), (1, .int (nI cn)), (2, .int (nI gl)), (3, .int (nI ch)), (4, .int (iI le9))]) hx hb dX5_bringIn_56 hl (by decide) rfl (fun ls hl => ?_)
            refine lv_iload hx hb dX5_bringIn_58 (lv_at hl 0 rfl) ?_
            refine lv_if_eq (tgt := 107) hx hb dX5_bringIn_60 (by decide) (fun _ => ?_) (fun c0 => absurd (by decide) c0)
            refine lv_iinc (v := nI (k + 1)) (lv' := [(5, .int (nI (k + 1))), (6, .int 0), (0, .ref sg), (1, .int (nI cn)), (2, .int (nI gl)), (3, .int (nI ch)), (4, .int (iI le9))]) hx hb dX5_bringIn_107 hl (k := 1) rfl (nI_add k 1) (by decide) rfl (fun ls hl => ?_)
            refine lv_goto (tgt := 18) hx hb dX5_bringIn_110 (by decide) ?_
            exact ih18 (k + 1) ch le9 _ _ _ (by omega) (by omega) (by omega) (by first | exact hle9 | exact Or.inr ⟨by omega, by omega, rfl⟩) (by intro s9 h1 h2 h3; by_cases q : s9 = k; · subst q; omega; · have z := hmin s9 (by omega) h2 h3; omega) (by omega) hP hD hS (lv_sub hl [0, 2, 3, 4, 5, 6] rfl)
          · have nc_29 := mt (iLe (a := 1000000) (b := u_4 k) (by decide) rfl (by omega)).mpr c_29
            refine lv_iconst (v := 1) hx hb dX5_bringIn_51 (by decide) ?_
            refine lv_goto (tgt := 56) hx hb dX5_bringIn_52 (by decide) ?_
            refine lv_istore (lv' := [(6, .int 1), (5, .int (nI k)), (0, .ref sg), (1, .int (nI cn)), (2, .int (nI gl)), (3, .int (nI ch)), (4, .int (iI le9))]) hx hb dX5_bringIn_56 hl (by decide) rfl (fun ls hl => ?_)
            refine lv_iload hx hb dX5_bringIn_58 (lv_at hl 0 rfl) ?_
            refine lv_if_eq (tgt := 107) hx hb dX5_bringIn_60 (by decide) (fun c0 => absurd c0 (by decide)) (fun _ => ?_)
            refine lv_aload_n hx hb dX5_bringIn_63 rfl (lv_at hl 2 rfl) ?_
            refine va_get (D := xD g) (ci := 5) (v := .ref co) (C := RX5) (T := TX5) (N := 8) hx hb hts hFX5 hown hK hP 0 rfl rfl 1 (by decide) (hts (.fieldLink RX5 11 "Stevedore$SlotGiver" "cost" "[[I") (by decide +kernel)) (fun _ h9 => h9) rfl dX5_bringIn_64 ?_
            refine lv_iload_n hx hb dX5_bringIn_67 rfl (lv_at hl 3 rfl) ?_
            refine xAldM hx hb hK hP 1 3 rfl rfl (vp_in_nI (by omega) (by omega)) dX5_bringIn_68 ?_
            refine W.eq (g2 := F0 m 69 ls (.ref (cr cn) :: [])) (congrArg (fun q9 => F0 m 69 ls (q9 :: [])) (xRow (n := 24) (k := cn) (nI_clamp (by omega)) (by omega))) ?_
            refine lv_iload hx hb dX5_bringIn_69 (lv_at hl 1 rfl) ?_
            refine va_iald hx hb hK hP _ 0 (xR_ap (X := [(sg, .inr (5, [.int (nI n), .ref co, .ref ro, .ref us, .ref sl, .ref wc, .ref nx, .ref pu])), (co, .inl (xM g, 24, .inr (.inr (.inr (.inr (fun i => if i < 24 then some (cr i) else none))))))]) (xR_get0 (i := cn) (by omega))) rfl (vp_in_nI (by omega) (by omega)) dX5_bringIn_71 ?_
            refine lv_topi (fun v_30 ev => ?_)
            obtain rfl : v_30 = iI (cost cn k) := ev.trans (congrArg (fun q9 => iI (cost cn q9)) (nI_clamp (by omega)))
            have b_31 := b_cost cn k
            refine lv_aload_n hx hb dX5_bringIn_72 rfl (lv_at hl 2 rfl) ?_
            refine va_get (D := xD g) (ci := 5) (v := .ref wc) (C := RX5) (T := TX5) (N := 8) hx hb hts hFX5 hown hK hP 0 rfl rfl 5 (by decide) (hts (.fieldLink RX5 26 "Stevedore$SlotGiver" "wayCost" "[I") (by decide +kernel)) (fun _ h9 => h9) rfl dX5_bringIn_73 ?_
            refine lv_iload hx hb dX5_bringIn_76 (lv_at hl 1 rfl) ?_
            refine va_iald hx hb hK hP 29 0 rfl rfl (vp_in_nI (by omega) (by omega)) dX5_bringIn_78 ?_
            refine lv_topi (fun v_32 ev => ?_)
            obtain rfl : v_32 = iI (u_4 k) := ev.trans (congrArg (fun q9 => iI (u_4 q9)) (nI_clamp (by omega)))
            have b_33 := hb_8 k
            refine lv_iadd hx hb dX5_bringIn_79 ?_
            refine lv_topi (fun v_34 ev => ?_)
            obtain rfl : v_34 = iI (cost cn k + (u_4 k)) := ev.trans (iA rfl rfl)
            refine lv_iload hx hb dX5_bringIn_80 (lv_at hl 6 rfl) ?_
            refine lv_icmp_ge (tgt := 107) hx hb dX5_bringIn_82 (by decide) (fun c_35 => ?_) (fun c_35 => ?_)
            · have nc_35 := (iLe (a := le9) (b := cost cn k + (u_4 k)) rfl rfl (by omega)).mp c_35
              refine lv_iinc (v := nI (k + 1)) (lv' := [(5, .int (nI (k + 1))), (6, .int 1), (0, .ref sg), (1, .int (nI cn)), (2, .int (nI gl)), (3, .int (nI ch)), (4, .int (iI le9))]) hx hb dX5_bringIn_107 hl (k := 1) rfl (nI_add k 1) (by decide) rfl (fun ls hl => ?_)
              refine lv_goto (tgt := 18) hx hb dX5_bringIn_110 (by decide) ?_
              exact ih18 (k + 1) ch le9 _ _ _ (by omega) (by omega) (by omega) (by first | exact hle9 | exact Or.inr ⟨by omega, by omega, rfl⟩) (by intro s9 h1 h2 h3; by_cases q : s9 = k; · subst q; omega; · have z := hmin s9 (by omega) h2 h3; omega) (by omega) hP hD hS (lv_sub hl [0, 2, 3, 4, 5, 6] rfl)
            · have nc_35 := mt (iLe (a := le9) (b := cost cn k + (u_4 k)) rfl rfl (by omega)).mpr c_35
              refine lv_aload_n hx hb dX5_bringIn_85 rfl (lv_at hl 2 rfl) ?_
              refine va_get (D := xD g) (ci := 5) (v := .ref co) (C := RX5) (T := TX5) (N := 8) hx hb hts hFX5 hown hK hP 0 rfl rfl 1 (by decide) (hts (.fieldLink RX5 11 "Stevedore$SlotGiver" "cost" "[[I") (by decide +kernel)) (fun _ h9 => h9) rfl dX5_bringIn_86 ?_
              refine lv_iload_n hx hb dX5_bringIn_89 rfl (lv_at hl 3 rfl) ?_
              refine xAldM hx hb hK hP 1 3 rfl rfl (vp_in_nI (by omega) (by omega)) dX5_bringIn_90 ?_
              refine W.eq (g2 := F0 m 91 ls (.ref (cr cn) :: [])) (congrArg (fun q9 => F0 m 91 ls (q9 :: [])) (xRow (n := 24) (k := cn) (nI_clamp (by omega)) (by omega))) ?_
              refine lv_iload hx hb dX5_bringIn_91 (lv_at hl 1 rfl) ?_
              refine va_iald hx hb hK hP _ 0 (xR_ap (X := [(sg, .inr (5, [.int (nI n), .ref co, .ref ro, .ref us, .ref sl, .ref wc, .ref nx, .ref pu])), (co, .inl (xM g, 24, .inr (.inr (.inr (.inr (fun i => if i < 24 then some (cr i) else none))))))]) (xR_get0 (i := cn) (by omega))) rfl (vp_in_nI (by omega) (by omega)) dX5_bringIn_93 ?_
              refine lv_topi (fun v_36 ev => ?_)
              obtain rfl : v_36 = iI (cost cn k) := ev.trans (congrArg (fun q9 => iI (cost cn q9)) (nI_clamp (by omega)))
              have b_37 := b_cost cn k
              refine lv_aload_n hx hb dX5_bringIn_94 rfl (lv_at hl 2 rfl) ?_
              refine va_get (D := xD g) (ci := 5) (v := .ref wc) (C := RX5) (T := TX5) (N := 8) hx hb hts hFX5 hown hK hP 0 rfl rfl 5 (by decide) (hts (.fieldLink RX5 26 "Stevedore$SlotGiver" "wayCost" "[I") (by decide +kernel)) (fun _ h9 => h9) rfl dX5_bringIn_95 ?_
              refine lv_iload hx hb dX5_bringIn_98 (lv_at hl 1 rfl) ?_
              refine va_iald hx hb hK hP 29 0 rfl rfl (vp_in_nI (by omega) (by omega)) dX5_bringIn_100 ?_
              refine lv_topi (fun v_38 ev => ?_)
              obtain rfl : v_38 = iI (u_4 k) := ev.trans (congrArg (fun q9 => iI (u_4 q9)) (nI_clamp (by omega)))
              have b_39 := hb_8 k
              refine lv_iadd hx hb dX5_bringIn_101 ?_
              refine lv_topi (fun v_40 ev => ?_)
              obtain rfl : v_40 = iI (cost cn k + (u_4 k)) := ev.trans (iA rfl rfl)
              refine lv_istore (lv' := [(4, .int (iI (cost cn k + (u_4 k)))), (6, .int 1), (5, .int (nI k)), (0, .ref sg), (1, .int (nI cn)), (2, .int (nI gl)), (3, .int (nI ch))]) hx hb dX5_bringIn_102 hl (by decide) rfl (fun ls hl => ?_)
              refine lv_iload hx hb dX5_bringIn_104 (lv_at hl 2 rfl) ?_
              refine lv_istore_n (lv' := [(3, .int (nI k)), (4, .int (iI (cost cn k + (u_4 k)))), (6, .int 1), (5, .int (nI k)), (0, .ref sg), (1, .int (nI cn)), (2, .int (nI gl))]) hx hb dX5_bringIn_106 rfl hl (by decide) rfl (fun ls hl => ?_)
              refine lv_iinc (v := nI (k + 1)) (lv' := [(5, .int (nI (k + 1))), (3, .int (nI k)), (4, .int (iI (cost cn k + (u_4 k)))), (6, .int 1), (0, .ref sg), (1, .int (nI cn)), (2, .int (nI gl))]) hx hb dX5_bringIn_107 hl (k := 3) rfl (nI_add k 1) (by decide) rfl (fun ls hl => ?_)
              refine lv_goto (tgt := 18) hx hb dX5_bringIn_110 (by decide) ?_
              exact ih18 (k + 1) k (cost cn k + (u_4 k)) _ _ _ (by omega) (by omega) (by omega) (by first | exact hle9 | exact Or.inr ⟨by omega, by omega, rfl⟩) (by intro s9 h1 h2 h3; by_cases q : s9 = k; · subst q; omega; · have z := hmin s9 (by omega) h2 h3; omega) (by omega) hP hD hS (lv_sub hl [0, 4, 5, 6, 1, 2] rfl)
  exact hloop18 (18) 0 16 1000000 _ _ _ (by omega) (by omega) (by omega) (Or.inl rfl) (fun q hq => absurd hq (Nat.not_lt_zero _)) (by omega) hP hD hS (by rw [(show nI 0 = (0 : Int32) from by decide), (show nI 16 = (16 : Int32) from by decide), (show iI 1000000 = (1000000 : Int32) from by decide)]; exact lv_sub hl [0, 3, 4, 5, 2, 1] rfl)
