/-! The checksum, step by step. -/
def dM (d : Int64) (x : Int32) : Int64 := d * 31 + x.toInt64
def dRg (fr : Nat → Nat) (d : Int64) : Nat → Int64
  | 0 => d
  | k + 1 => dM (dRg fr d k) (nI (fr k))
def dBy (wb bg : Nat → Int) (d : Int64) : Nat → Int64
  | 0 => d
  | k + 1 => dM (dM (dM (dBy wb bg d k) (iI (wb k))) (iI (bg k))) (iI (bg k + vTk wb k))
def dVe (d : Int64) (R : Nat) (fr : Nat → Nat) (gl hd wt : Int) (Nb : Nat) (wb bg : Nat → Int) : Int64 := dBy wb bg (dM (dM (dM (dRg fr (dM d (nI R)) R) (iI gl)) (iI hd)) (iI wt)) Nb
def dVs (Vba Vrc : Nat → Nat) (Vgl Vhd Vwt : Nat → Int) (wbz : Nat → Nat → Int) (frh : Nat → Nat → Nat) (bgz : Nat → Nat → Int) (d : Int64) : Nat → Int64
  | 0 => d
  | k + 1 => dVe (dVs Vba Vrc Vgl Vhd Vwt wbz frh bgz d k) (Vrc k) (frh k) (Vgl k) (Vhd k) (Vwt k) (Vba k) (wbz k) (bgz k)
def dSp (a b : Nat → Int) (d : Int64) : Nat → Int64
  | 0 => d
  | k + 1 => dM (dM (dSp a b d k) (iI (a k))) (iI (b k))
def dGs (gs : Nat → Nat) (d : Int64) : Nat → Int64
  | 0 => d
  | k + 1 => dM (dGs gs d k) (if gs k = 16 then -1 else nI (gs k))
def dAg (kf : Nat → Nat) (d : Int64) : Nat → Int64
  | 0 => d
  | k + 1 => dM (dM (dM (dAg kf d k) (nI (kf k / 128))) (nI (eK kf k))) (nI (eC kf k))
def dSt (hgt : Nat → Nat) (sd : Nat → Nat → Nat) (d : Int64) : Nat → Int64
  | 0 => d
  | k + 1 => dRg (sd k) (dM (dSt hgt sd d k) (nI (hgt k))) (hgt k)
theorem dX8_mixed_0 : decode cX8_mixed 0 = .ok (.lload_n 0, 1) := by decide +kernel
theorem dX8_mixed_1 : decode cX8_mixed 1 = .ok (.ldc2_w 360, 3) := by decide +kernel
theorem dX8_mixed_4 : decode cX8_mixed 4 = .ok (.lmul, 1) := by decide +kernel
theorem dX8_mixed_5 : decode cX8_mixed 5 = .ok (.iload_n 2, 1) := by decide +kernel
theorem dX8_mixed_6 : decode cX8_mixed 6 = .ok (.i2l, 1) := by decide +kernel
theorem dX8_mixed_7 : decode cX8_mixed 7 = .ok (.ladd, 1) := by decide +kernel
theorem dX8_mixed_8 : decode cX8_mixed 8 = .ok (.lreturn, 1) := by decide +kernel
set_option maxHeartbeats 4000000 in
set_option maxRecDepth 100000 in
theorem d_mixed (l : Launch) (g : xG) (sz : Nat) (d : Int64) (x : Int32)  : Met l yX8_mixed wsX8_mixed ({ frames := 0, cells := 0, slots := 0, locals := 0 }) (va_Pc [.long d, .int x] (fun U => xB g [] sz U)) (va_Ql (fun (r : Int64) (_ : Unit) => r = dM d x) (fun (_ : Unit) (_ : State) => True) (va_A [] sz)) 0 0 (va_A [] sz) := by
  refine Met.ofW (cc := cX8_mixed) (maxL := 3) (ret := (some .long)) (by decide) rfl ?_
  intro p e s m args below meth c s₁ B hml hv
  obtain ⟨rfl, hsz, hP, hK, hD0⟩ := hv
  have hx := B.exec
  have hb := B.bytes
  have hr := B.returns
  have hts := atoms_spec (ws := wsX8_mixed) B.pre
  have hown : s.vm.findClass RX8 = some m.cls := findClass_of_methodNamed B.named
  have hlocks := B.notSynchronized
  subst hsz
  have hD := hD0
  generalize hAe : va_A [] s.heap.size = A
  have hA : ∀ q : Nat, s.heap.size ≤ q → A q := fun q h => by rw [← hAe]; exact Or.inr h
  have hS : va_S A s.heap s.heap [] := va_S.rf
  have hl := lv_entry ([.long d, .int x]) (n := 3) (Nat.le_of_ble_eq_true rfl)
  rw [lg_entry_eq]
  generalize (lg_sl ([.long d, .int x]) ++ List.replicate (3 - (lg_sl ([.long d, .int x])).length) Slot.unset).toArray = ls at hl ⊢
  have hl : lv_has ls 3 [(0, .long d), (2, .int x)] := hl
  refine lv_lload_n hx hb dX8_mixed_0 rfl (lv_at hl 0 rfl) ?_
  refine lv_ldc2 (v := 31) hx hb hown (hts (.constantLong RX8 360 (31)) (by decide +kernel)) dX8_mixed_1 ?_
  refine lv_lmul hx hb dX8_mixed_4 ?_
  refine lv_topl (fun v_1 ev => ?_)
  obtain rfl : v_1 = d * 31 := ev.trans rfl
  refine lv_iload_n hx hb dX8_mixed_5 rfl (lv_at hl 1 rfl) ?_
  refine lv_i2l (v := x.toInt64) hx hb dX8_mixed_6 rfl ?_
  refine lv_ladd hx hb dX8_mixed_7 ?_
  refine lv_topl (fun v_2 ev => ?_)
  obtain rfl : v_2 = (d * 31) + x.toInt64 := ev.trans rfl
  exact W.lret (v := ((d * 31) + x.toInt64)) hx hb hr (fun t ht hW => ⟨⟨((d * 31) + x.toInt64), (), rfl, (by first | trivial | rfl | assumption | omega), trivial⟩, hS.F ht⟩) hS.2.2 dX8_mixed_8
theorem dX8_mixedVessel_0 : decode cX8_mixedVessel 0 = .ok (.lload_n 0, 1) := by decide +kernel
theorem dX8_mixedVessel_1 : decode cX8_mixedVessel 1 = .ok (.aload_n 2, 1) := by decide +kernel
theorem dX8_mixedVessel_2 : decode cX8_mixedVessel 2 = .ok (.getfield 173, 3) := by decide +kernel
theorem dX8_mixedVessel_5 : decode cX8_mixedVessel 5 = .ok (.invokestatic 339, 3) := by decide +kernel
set_option maxRecDepth 20000 in
theorem ggX8_mixedVessel_X8_mixed : GoodIn wsX8_mixedVessel wsX8_mixed := goodIn_r _ [12, 13] rfl (by decide +kernel)
set_option maxRecDepth 20000 in
theorem gX8_mixedVessel_X8_mixed : GoodIn wsX8_mixedVessel (va_wsS RX8 339 yX8_mixed wsX8_mixed) := goodIn_app (goodIn_of _ (by decide +kernel)) ggX8_mixedVessel_X8_mixed
theorem dX8_mixedVessel_8 : decode cX8_mixedVessel 8 = .ok (.lstore_n 3, 1) := by decide +kernel
theorem dX8_mixedVessel_9 : decode cX8_mixedVessel 9 = .ok (.iconst 0, 1) := by decide +kernel
theorem dX8_mixedVessel_10 : decode cX8_mixedVessel 10 = .ok (.istore 5, 2) := by decide +kernel
theorem dX8_mixedVessel_12 : decode cX8_mixedVessel 12 = .ok (.iload 5, 2) := by decide +kernel
theorem dX8_mixedVessel_14 : decode cX8_mixedVessel 14 = .ok (.aload_n 2, 1) := by decide +kernel
theorem dX8_mixedVessel_15 : decode cX8_mixedVessel 15 = .ok (.getfield 173, 3) := by decide +kernel
theorem dX8_mixedVessel_18 : decode cX8_mixedVessel 18 = .ok (.if_icmp .ge 21, 3) := by decide +kernel
theorem dX8_mixedVessel_39 : decode cX8_mixedVessel 39 = .ok (.lload_n 3, 1) := by decide +kernel
theorem dX8_mixedVessel_40 : decode cX8_mixedVessel 40 = .ok (.aload_n 2, 1) := by decide +kernel
theorem dX8_mixedVessel_41 : decode cX8_mixedVessel 41 = .ok (.getfield 184, 3) := by decide +kernel
theorem dX8_mixedVessel_44 : decode cX8_mixedVessel 44 = .ok (.invokestatic 339, 3) := by decide +kernel
theorem dX8_mixedVessel_47 : decode cX8_mixedVessel 47 = .ok (.lstore_n 3, 1) := by decide +kernel
theorem dX8_mixedVessel_48 : decode cX8_mixedVessel 48 = .ok (.lload_n 3, 1) := by decide +kernel
theorem dX8_mixedVessel_49 : decode cX8_mixedVessel 49 = .ok (.aload_n 2, 1) := by decide +kernel
theorem dX8_mixedVessel_50 : decode cX8_mixedVessel 50 = .ok (.getfield 194, 3) := by decide +kernel
theorem dX8_mixedVessel_53 : decode cX8_mixedVessel 53 = .ok (.invokestatic 339, 3) := by decide +kernel
theorem dX8_mixedVessel_56 : decode cX8_mixedVessel 56 = .ok (.lstore_n 3, 1) := by decide +kernel
theorem dX8_mixedVessel_57 : decode cX8_mixedVessel 57 = .ok (.lload_n 3, 1) := by decide +kernel
theorem dX8_mixedVessel_58 : decode cX8_mixedVessel 58 = .ok (.aload_n 2, 1) := by decide +kernel
theorem dX8_mixedVessel_59 : decode cX8_mixedVessel 59 = .ok (.getfield 197, 3) := by decide +kernel
theorem dX8_mixedVessel_62 : decode cX8_mixedVessel 62 = .ok (.invokestatic 339, 3) := by decide +kernel
theorem dX8_mixedVessel_65 : decode cX8_mixedVessel 65 = .ok (.lstore_n 3, 1) := by decide +kernel
theorem dX8_mixedVessel_66 : decode cX8_mixedVessel 66 = .ok (.iconst 0, 1) := by decide +kernel
theorem dX8_mixedVessel_67 : decode cX8_mixedVessel 67 = .ok (.istore 5, 2) := by decide +kernel
theorem dX8_mixedVessel_69 : decode cX8_mixedVessel 69 = .ok (.iload 5, 2) := by decide +kernel
theorem dX8_mixedVessel_71 : decode cX8_mixedVessel 71 = .ok (.aload_n 2, 1) := by decide +kernel
theorem dX8_mixedVessel_72 : decode cX8_mixedVessel 72 = .ok (.getfield 108, 3) := by decide +kernel
theorem dX8_mixedVessel_75 : decode cX8_mixedVessel 75 = .ok (.if_icmp .ge 44, 3) := by decide +kernel
theorem dX8_mixedVessel_119 : decode cX8_mixedVessel 119 = .ok (.lload_n 3, 1) := by decide +kernel
theorem dX8_mixedVessel_120 : decode cX8_mixedVessel 120 = .ok (.lreturn, 1) := by decide +kernel
theorem dX8_mixedVessel_78 : decode cX8_mixedVessel 78 = .ok (.lload_n 3, 1) := by decide +kernel
theorem dX8_mixedVessel_79 : decode cX8_mixedVessel 79 = .ok (.aload_n 2, 1) := by decide +kernel
theorem dX8_mixedVessel_80 : decode cX8_mixedVessel 80 = .ok (.getfield 150, 3) := by decide +kernel
theorem dX8_mixedVessel_83 : decode cX8_mixedVessel 83 = .ok (.iload 5, 2) := by decide +kernel
theorem dX8_mixedVessel_85 : decode cX8_mixedVessel 85 = .ok (.iaload, 1) := by decide +kernel
theorem dX8_mixedVessel_86 : decode cX8_mixedVessel 86 = .ok (.invokestatic 339, 3) := by decide +kernel
theorem dX8_mixedVessel_89 : decode cX8_mixedVessel 89 = .ok (.lstore_n 3, 1) := by decide +kernel
theorem dX8_mixedVessel_90 : decode cX8_mixedVessel 90 = .ok (.lload_n 3, 1) := by decide +kernel
theorem dX8_mixedVessel_91 : decode cX8_mixedVessel 91 = .ok (.aload_n 2, 1) := by decide +kernel
theorem dX8_mixedVessel_92 : decode cX8_mixedVessel 92 = .ok (.getfield 187, 3) := by decide +kernel
theorem dX8_mixedVessel_95 : decode cX8_mixedVessel 95 = .ok (.iload 5, 2) := by decide +kernel
theorem dX8_mixedVessel_97 : decode cX8_mixedVessel 97 = .ok (.iaload, 1) := by decide +kernel
theorem dX8_mixedVessel_98 : decode cX8_mixedVessel 98 = .ok (.invokestatic 339, 3) := by decide +kernel
theorem dX8_mixedVessel_101 : decode cX8_mixedVessel 101 = .ok (.lstore_n 3, 1) := by decide +kernel
theorem dX8_mixedVessel_102 : decode cX8_mixedVessel 102 = .ok (.lload_n 3, 1) := by decide +kernel
theorem dX8_mixedVessel_103 : decode cX8_mixedVessel 103 = .ok (.aload_n 2, 1) := by decide +kernel
theorem dX8_mixedVessel_104 : decode cX8_mixedVessel 104 = .ok (.iload 5, 2) := by decide +kernel
theorem dX8_mixedVessel_106 : decode cX8_mixedVessel 106 = .ok (.invokevirtual 190, 3) := by decide +kernel
set_option maxRecDepth 20000 in
theorem ggX8_mixedVessel_X6_end : GoodIn wsX8_mixedVessel wsX6_end := goodIn_r _ [18, 19, 20, 21, 22, 17, 23, 24, 25, 26, 27, 28, 29, 30, 31, 32, 33, 34, 35, 36, 37, 38, 39] rfl (by decide +kernel)
set_option maxRecDepth 20000 in
theorem gX8_mixedVessel_X6_end : GoodIn wsX8_mixedVessel (wsV RX8 190 RX6 yX6_end wsX6_end) := goodIn_app (goodIn_of _ (by decide +kernel)) ggX8_mixedVessel_X6_end
theorem dX8_mixedVessel_109 : decode cX8_mixedVessel 109 = .ok (.invokestatic 339, 3) := by decide +kernel
theorem dX8_mixedVessel_112 : decode cX8_mixedVessel 112 = .ok (.lstore_n 3, 1) := by decide +kernel
theorem dX8_mixedVessel_113 : decode cX8_mixedVessel 113 = .ok (.iinc 5 1, 3) := by decide +kernel
theorem dX8_mixedVessel_116 : decode cX8_mixedVessel 116 = .ok (.goto (-47), 3) := by decide +kernel
theorem dX8_mixedVessel_21 : decode cX8_mixedVessel 21 = .ok (.lload_n 3, 1) := by decide +kernel
theorem dX8_mixedVessel_22 : decode cX8_mixedVessel 22 = .ok (.aload_n 2, 1) := by decide +kernel
theorem dX8_mixedVessel_23 : decode cX8_mixedVessel 23 = .ok (.getfield 181, 3) := by decide +kernel
theorem dX8_mixedVessel_26 : decode cX8_mixedVessel 26 = .ok (.iload 5, 2) := by decide +kernel
theorem dX8_mixedVessel_28 : decode cX8_mixedVessel 28 = .ok (.iaload, 1) := by decide +kernel
theorem dX8_mixedVessel_29 : decode cX8_mixedVessel 29 = .ok (.invokestatic 339, 3) := by decide +kernel
theorem dX8_mixedVessel_32 : decode cX8_mixedVessel 32 = .ok (.lstore_n 3, 1) := by decide +kernel
theorem dX8_mixedVessel_33 : decode cX8_mixedVessel 33 = .ok (.iinc 5 1, 3) := by decide +kernel
theorem dX8_mixedVessel_36 : decode cX8_mixedVessel 36 = .ok (.goto (-24), 3) := by decide +kernel
set_option maxHeartbeats 4000000 in
set_option maxRecDepth 100000 in
theorem d_vessel (l : Launch) (g : xG) (sz : Nat) (d : Int64) (ve : Nat) (wb : Nat) (fr : Nat) (bg : Nat) (Nb : Nat) (R : Nat) (gl : Int) (hd : Int) (wt : Int) (v0 : Value) (v2 : Value) (v3 : Value) (wbz : Nat → Int) (frh : Nat → Nat) (bgz : Nat → Int)  (hN : Nb ≤ 10) (hR4 : R ≤ 4) (b_wbz : ∀ j, 0 ≤ wbz j ∧ wbz j ≤ 100) (b_frh : ∀ j, frh j ≤ 10) (b_bgz : ∀ j, 0 ≤ bgz j ∧ bgz j ≤ 10000) : Met l yX8_mixedVessel wsX8_mixedVessel ({ frames := 3, cells := 0, slots := 0, locals := 66 }) (va_Pc [.long d, .ref ve] (fun U => xB g [(ve, .inr (6, [v0, .int (nI Nb), v2, v3, .int (nI R), .int (iI gl), .int (iI hd), .int (iI wt), .ref wb, .ref fr, .ref bg])), (wb, .inl (xI g, 10, .inl (fun j => iI (wbz j)))), (fr, .inl (xI g, 4, .inl (fun j => nI (frh j)))), (bg, .inl (xI g, 10, .inl (fun j => iI (bgz j))))] sz U)) (va_Ql (fun (r : Int64) (_ : Unit) => r = dVe d R frh gl hd wt Nb wbz bgz) (fun (_ : Unit) (_ : State) => True) (va_A [] sz)) 0 0 (va_A [] sz) := by
  refine Met.ofW (cc := cX8_mixedVessel) (maxL := 6) (ret := (some .long)) (by decide) rfl ?_
  intro p e s m args below meth c s₁ B hml hv
  obtain ⟨rfl, hsz, hP, hK, hD0⟩ := hv
  have hx := B.exec
  have hb := B.bytes
  have hr := B.returns
  have hts := atoms_spec (ws := wsX8_mixedVessel) B.pre
  have hown : s.vm.findClass RX8 = some m.cls := findClass_of_methodNamed B.named
  have hlocks := B.notSynchronized
  subst hsz
  have hD := hD0
  generalize hAe : va_A [] s.heap.size = A
  have hA : ∀ q : Nat, s.heap.size ≤ q → A q := fun q h => by rw [← hAe]; exact Or.inr h
  have hS : va_S A s.heap s.heap [] := va_S.rf
  have hl := lv_entry ([.long d, .ref ve]) (n := 6) (Nat.le_of_ble_eq_true rfl)
  rw [lg_entry_eq]
  generalize (lg_sl ([.long d, .ref ve]) ++ List.replicate (6 - (lg_sl ([.long d, .ref ve])).length) Slot.unset).toArray = ls at hl ⊢
  have hl : lv_has ls 6 [(0, .long d), (2, .ref ve)] := hl
  have hFX6 : ∀ w ∈ u_ws RX6 TX6 11, w ∈ wsX8_mixedVessel := by decide +kernel
  refine lv_lload_n hx hb dX8_mixedVessel_0 rfl (lv_at hl 0 rfl) ?_
  refine lv_aload_n hx hb dX8_mixedVessel_1 rfl (lv_at hl 1 rfl) ?_
  refine va_get (D := xD g) (ci := 6) (v := .int (nI R)) (C := RX6) (T := TX6) (N := 11) hx hb hts hFX6 hown hK hP 0 rfl rfl 4 (by decide) (hts (.fieldLink RX8 173 "Stevedore$Vessel" "rangeCount" "I") (by decide +kernel)) (fun _ h9 => h9) rfl dX8_mixedVessel_2 ?_
  have hPc := hP.sub (ws' := []) [] rfl
  have hDc := hD.sub (ws' := []) [] (by decide) rfl
  have hFc := xFree hS hA
  refine va_calll (va_runS (As := [.long d, .int (nI R)]) (rest := []) ⟨hx, hb, hml, hown, hts⟩ (d_mixed l g s.heap.size d (nI R)) (va_cwS 2 hts gX8_mixedVessel_X8_mixed rfl rfl rfl (by decide +kernel) ⟨Nat.le_of_ble_eq_true rfl, Nat.le_of_ble_eq_true rfl⟩) ⟨xB.blind, fun U9 hU9 hW9 => ⟨rfl, xB.mk hPc hK hDc hU9 hW9⟩⟩ rfl rfl hl.1 rfl (lv_room (Nat.le_of_ble_eq_true rfl)) dX8_mixedVessel_5 ⟨Nat.le_of_ble_eq_true rfl, Nat.le_of_ble_eq_true rfl⟩) hS (fun q _ h => hFc q h) hFc (fun r_1 _ t H1 locs ht hvm hw_2 hB hz1 hk1 hS => ?_)
  have hP := xSame hP hk1
  generalize H1 = H at hP hS ⊢
  have hP : va_P (xD g) vwCl [(ve, .inr (6, [v0, .int (nI Nb), v2, v3, .int (nI R), .int (iI gl), .int (iI hd), .int (iI wt), .ref wb, .ref fr, .ref bg])), (wb, .inl (xI g, 10, .inl (fun j => iI (wbz j)))), (fr, .inl (xI g, 4, .inl (fun j => nI (frh j)))), (bg, .inl (xI g, 10, .inl (fun j => iI (bgz j))))] H := hP
  have hD : va_D (fun _ => True) [(ve, .inr (6, [v0, .int (nI Nb), v2, v3, .int (nI R), .int (iI gl), .int (iI hd), .int (iI wt), .ref wb, .ref fr, .ref bg])), (wb, .inl (xI g, 10, .inl (fun j => iI (wbz j)))), (fr, .inl (xI g, 4, .inl (fun j => nI (frh j)))), (bg, .inl (xI g, 10, .inl (fun j => iI (bgz j))))] := hD
  try dsimp only at hw_2
  obtain rfl : r_1 = dM d (nI R) := hw_2
  refine lv_lstore_n (lv' := [(3, .long (dM d (nI R))), (0, .long d), (2, .ref ve)]) hx hb dX8_mixedVessel_8 rfl hl (by decide) rfl (fun ls hl => ?_)
  refine lv_iconst (v := 0) hx hb dX8_mixedVessel_9 (by decide) ?_
  refine lv_istore (lv' := [(5, .int 0), (3, .long (dM d (nI R))), (0, .long d), (2, .ref ve)]) hx hb dX8_mixedVessel_10 hl (by decide) rfl (fun ls hl => ?_)
  have hloop12 : ∀ (n9 : Nat) (k : Nat) (dl : Int64) (H : Heap) (locs : List Loc) (ls : Array Slot), R - k < n9 → (k ≤ R) → (dl = dRg frh (dM d (nI R)) k) → va_P (xD g) vwCl [(ve, .inr (6, [v0, .int (nI Nb), v2, v3, .int (nI R), .int (iI gl), .int (iI hd), .int (iI wt), .ref wb, .ref fr, .ref bg])), (wb, .inl (xI g, 10, .inl (fun j => iI (wbz j)))), (fr, .inl (xI g, 4, .inl (fun j => nI (frh j)))), (bg, .inl (xI g, 10, .inl (fun j => iI (bgz j))))] H → va_D (fun _ => True) [(ve, .inr (6, [v0, .int (nI Nb), v2, v3, .int (nI R), .int (iI gl), .int (iI hd), .int (iI wt), .ref wb, .ref fr, .ref bg])), (wb, .inl (xI g, 10, .inl (fun j => iI (wbz j)))), (fr, .inl (xI g, 4, .inl (fun j => nI (frh j)))), (bg, .inl (xI g, 10, .inl (fun j => iI (bgz j))))] → va_S A s.heap H locs → lv_has ls 6 [(5, .int (nI k)), (2, .ref ve), (3, .long dl)] → W p l e (headSpec wsX8_mixedVessel ({ frames := 3, cells := 0, slots := 0, locals := 66 })).room s m ([.long d, .ref ve] : List Value).toArray below meth c H locs 0 0 (MQ below (va_Ql (fun (r : Int64) (_ : Unit) => r = dVe d R frh gl hd wt Nb wbz bgz) (fun (_ : Unit) (_ : State) => True) (A)) ([.long d, .ref ve] : List Value).toArray s 0 0 A) (F0 m 12 ls []) := by
    intro n9
    induction n9 with
    | zero =>
      intro k dl H locs ls hm hk hdl hP hD hS hl
      exact absurd hm (Nat.not_lt_zero _)
    | succ n9 ih12 =>
      intro k dl H locs ls hm hk hdl hP hD hS hl
      refine lv_iload hx hb dX8_mixedVessel_12 (lv_at hl 0 rfl) ?_
      refine lv_aload_n hx hb dX8_mixedVessel_14 rfl (lv_at hl 1 rfl) ?_
      refine va_get (D := xD g) (ci := 6) (v := .int (nI R)) (C := RX6) (T := TX6) (N := 11) hx hb hts hFX6 hown hK hP 0 rfl rfl 4 (by decide) (hts (.fieldLink RX8 173 "Stevedore$Vessel" "rangeCount" "I") (by decide +kernel)) (fun _ h9 => h9) rfl dX8_mixedVessel_15 ?_
      refine lv_icmp_ge (tgt := 39) hx hb dX8_mixedVessel_18 (by decide) (fun c_3 => ?_) (fun c_3 => ?_)
      · have nc_3 := (nI_leI (a := R) (b := k) (by omega) (by omega)).mp c_3
        refine lv_lload_n hx hb dX8_mixedVessel_39 rfl (lv_at hl 2 rfl) ?_
        refine lv_aload_n hx hb dX8_mixedVessel_40 rfl (lv_at hl 1 rfl) ?_
        refine va_get (D := xD g) (ci := 6) (v := .int (iI gl)) (C := RX6) (T := TX6) (N := 11) hx hb hts hFX6 hown hK hP 0 rfl rfl 5 (by decide) (hts (.fieldLink RX8 184 "Stevedore$Vessel" "greatestLoad" "I") (by decide +kernel)) (fun _ h9 => h9) rfl dX8_mixedVessel_41 ?_
        have hPc := hP.sub (ws' := []) [] rfl
        have hDc := hD.sub (ws' := []) [] (by decide) rfl
        have hFc := xFree hS hA
        refine va_calll (va_runS (As := [.long dl, .int (iI gl)]) (rest := []) ⟨hx, hb, hml, hown, hts⟩ (d_mixed l g H.size dl (iI gl)) (va_cwS 2 hts gX8_mixedVessel_X8_mixed rfl rfl rfl (by decide +kernel) ⟨Nat.le_of_ble_eq_true rfl, Nat.le_of_ble_eq_true rfl⟩) ⟨xB.blind, fun U9 hU9 hW9 => ⟨rfl, xB.mk hPc hK hDc hU9 hW9⟩⟩ rfl rfl hl.1 rfl (lv_room (Nat.le_of_ble_eq_true rfl)) dX8_mixedVessel_44 ⟨Nat.le_of_ble_eq_true rfl, Nat.le_of_ble_eq_true rfl⟩) hS (fun q _ h => hFc q h) hFc (fun r_4 _ t H1 locs ht hvm hw_5 hB hz1 hk1 hS => ?_)
        have hP := xSame hP hk1
        generalize H1 = H at hP hS ⊢
        have hP : va_P (xD g) vwCl [(ve, .inr (6, [v0, .int (nI Nb), v2, v3, .int (nI R), .int (iI gl), .int (iI hd), .int (iI wt), .ref wb, .ref fr, .ref bg])), (wb, .inl (xI g, 10, .inl (fun j => iI (wbz j)))), (fr, .inl (xI g, 4, .inl (fun j => nI (frh j)))), (bg, .inl (xI g, 10, .inl (fun j => iI (bgz j))))] H := hP
        have hD : va_D (fun _ => True) [(ve, .inr (6, [v0, .int (nI Nb), v2, v3, .int (nI R), .int (iI gl), .int (iI hd), .int (iI wt), .ref wb, .ref fr, .ref bg])), (wb, .inl (xI g, 10, .inl (fun j => iI (wbz j)))), (fr, .inl (xI g, 4, .inl (fun j => nI (frh j)))), (bg, .inl (xI g, 10, .inl (fun j => iI (bgz j))))] := hD
        try dsimp only at hw_5
        obtain rfl : r_4 = dM dl (iI gl) := hw_5
        refine lv_lstore_n (lv' := [(3, .long (dM dl (iI gl))), (5, .int (nI k)), (2, .ref ve)]) hx hb dX8_mixedVessel_47 rfl hl (by decide) rfl (fun ls hl => ?_)
        refine lv_lload_n hx hb dX8_mixedVessel_48 rfl (lv_at hl 0 rfl) ?_
        refine lv_aload_n hx hb dX8_mixedVessel_49 rfl (lv_at hl 2 rfl) ?_
        refine va_get (D := xD g) (ci := 6) (v := .int (iI hd)) (C := RX6) (T := TX6) (N := 11) hx hb hts hFX6 hown hK hP 0 rfl rfl 6 (by decide) (hts (.fieldLink RX8 194 "Stevedore$Vessel" "handlingTicks" "I") (by decide +kernel)) (fun _ h9 => h9) rfl dX8_mixedVessel_50 ?_
        have hPc := hP.sub (ws' := []) [] rfl
        have hDc := hD.sub (ws' := []) [] (by decide) rfl
        have hFc := xFree hS hA
        refine va_calll (va_runS (As := [.long (dM dl (iI gl)), .int (iI hd)]) (rest := []) ⟨hx, hb, hml, hown, hts⟩ (d_mixed l g H.size (dM dl (iI gl)) (iI hd)) (va_cwS 2 hts gX8_mixedVessel_X8_mixed rfl rfl rfl (by decide +kernel) ⟨Nat.le_of_ble_eq_true rfl, Nat.le_of_ble_eq_true rfl⟩) ⟨xB.blind, fun U9 hU9 hW9 => ⟨rfl, xB.mk hPc hK hDc hU9 hW9⟩⟩ rfl rfl hl.1 rfl (lv_room (Nat.le_of_ble_eq_true rfl)) dX8_mixedVessel_53 ⟨Nat.le_of_ble_eq_true rfl, Nat.le_of_ble_eq_true rfl⟩) hS (fun q _ h => hFc q h) hFc (fun r_6 _ t H1 locs ht hvm hw_7 hB hz1 hk1 hS => ?_)
        have hP := xSame hP hk1
        generalize H1 = H at hP hS ⊢
        have hP : va_P (xD g) vwCl [(ve, .inr (6, [v0, .int (nI Nb), v2, v3, .int (nI R), .int (iI gl), .int (iI hd), .int (iI wt), .ref wb, .ref fr, .ref bg])), (wb, .inl (xI g, 10, .inl (fun j => iI (wbz j)))), (fr, .inl (xI g, 4, .inl (fun j => nI (frh j)))), (bg, .inl (xI g, 10, .inl (fun j => iI (bgz j))))] H := hP
        have hD : va_D (fun _ => True) [(ve, .inr (6, [v0, .int (nI Nb), v2, v3, .int (nI R), .int (iI gl), .int (iI hd), .int (iI wt), .ref wb, .ref fr, .ref bg])), (wb, .inl (xI g, 10, .inl (fun j => iI (wbz j)))), (fr, .inl (xI g, 4, .inl (fun j => nI (frh j)))), (bg, .inl (xI g, 10, .inl (fun j => iI (bgz j))))] := hD
        try dsimp only at hw_7
        obtain rfl : r_6 = dM (dM dl (iI gl)) (iI hd) := hw_7
        refine lv_lstore_n (lv' := [(3, .long (dM (dM dl (iI gl)) (iI hd))), (5, .int (nI k)), (2, .ref ve)]) hx hb dX8_mixedVessel_56 rfl hl (by decide) rfl (fun ls hl => ?_)
        refine lv_lload_n hx hb dX8_mixedVessel_57 rfl (lv_at hl 0 rfl) ?_
        refine lv_aload_n hx hb dX8_mixedVessel_58 rfl (lv_at hl 2 rfl) ?_
        refine va_get (D := xD g) (ci := 6) (v := .int (iI wt)) (C := RX6) (T := TX6) (N := 11) hx hb hts hFX6 hown hK hP 0 rfl rfl 7 (by decide) (hts (.fieldLink RX8 197 "Stevedore$Vessel" "waitTicks" "I") (by decide +kernel)) (fun _ h9 => h9) rfl dX8_mixedVessel_59 ?_
        have hPc := hP.sub (ws' := []) [] rfl
        have hDc := hD.sub (ws' := []) [] (by decide) rfl
        have hFc := xFree hS hA
        refine va_calll (va_runS (As := [.long (dM (dM dl (iI gl)) (iI hd)), .int (iI wt)]) (rest := []) ⟨hx, hb, hml, hown, hts⟩ (d_mixed l g H.size (dM (dM dl (iI gl)) (iI hd)) (iI wt)) (va_cwS 2 hts gX8_mixedVessel_X8_mixed rfl rfl rfl (by decide +kernel) ⟨Nat.le_of_ble_eq_true rfl, Nat.le_of_ble_eq_true rfl⟩) ⟨xB.blind, fun U9 hU9 hW9 => ⟨rfl, xB.mk hPc hK hDc hU9 hW9⟩⟩ rfl rfl hl.1 rfl (lv_room (Nat.le_of_ble_eq_true rfl)) dX8_mixedVessel_62 ⟨Nat.le_of_ble_eq_true rfl, Nat.le_of_ble_eq_true rfl⟩) hS (fun q _ h => hFc q h) hFc (fun r_8 _ t H1 locs ht hvm hw_9 hB hz1 hk1 hS => ?_)
        have hP := xSame hP hk1
        generalize H1 = H at hP hS ⊢
        have hP : va_P (xD g) vwCl [(ve, .inr (6, [v0, .int (nI Nb), v2, v3, .int (nI R), .int (iI gl), .int (iI hd), .int (iI wt), .ref wb, .ref fr, .ref bg])), (wb, .inl (xI g, 10, .inl (fun j => iI (wbz j)))), (fr, .inl (xI g, 4, .inl (fun j => nI (frh j)))), (bg, .inl (xI g, 10, .inl (fun j => iI (bgz j))))] H := hP
        have hD : va_D (fun _ => True) [(ve, .inr (6, [v0, .int (nI Nb), v2, v3, .int (nI R), .int (iI gl), .int (iI hd), .int (iI wt), .ref wb, .ref fr, .ref bg])), (wb, .inl (xI g, 10, .inl (fun j => iI (wbz j)))), (fr, .inl (xI g, 4, .inl (fun j => nI (frh j)))), (bg, .inl (xI g, 10, .inl (fun j => iI (bgz j))))] := hD
        try dsimp only at hw_9
        obtain rfl : r_8 = dM (dM (dM dl (iI gl)) (iI hd)) (iI wt) := hw_9
        refine lv_lstore_n (lv' := [(3, .long (dM (dM (dM dl (iI gl)) (iI hd)) (iI wt))), (5, .int (nI k)), (2, .ref ve)]) hx hb dX8_mixedVessel_65 rfl hl (by decide) rfl (fun ls hl => ?_)
        refine lv_iconst (v := 0) hx hb dX8_mixedVessel_66 (by decide) ?_
        refine lv_istore (lv' := [(5, .int 0), (3, .long (dM (dM (dM dl (iI gl)) (iI hd)) (iI wt))), (2, .ref ve)]) hx hb dX8_mixedVessel_67 hl (by decide) rfl (fun ls hl => ?_)
        have hloop69 : ∀ (n9 : Nat) (b : Nat) (d2 : Int64) (H : Heap) (locs : List Loc) (ls : Array Slot), Nb - b < n9 → (b ≤ Nb) → (d2 = dBy wbz bgz (dM (dM (dM dl (iI gl)) (iI hd)) (iI wt)) b) → va_P (xD g) vwCl [(ve, .inr (6, [v0, .int (nI Nb), v2, v3, .int (nI R), .int (iI gl), .int (iI hd), .int (iI wt), .ref wb, .ref fr, .ref bg])), (wb, .inl (xI g, 10, .inl (fun j => iI (wbz j)))), (fr, .inl (xI g, 4, .inl (fun j => nI (frh j)))), (bg, .inl (xI g, 10, .inl (fun j => iI (bgz j))))] H → va_D (fun _ => True) [(ve, .inr (6, [v0, .int (nI Nb), v2, v3, .int (nI R), .int (iI gl), .int (iI hd), .int (iI wt), .ref wb, .ref fr, .ref bg])), (wb, .inl (xI g, 10, .inl (fun j => iI (wbz j)))), (fr, .inl (xI g, 4, .inl (fun j => nI (frh j)))), (bg, .inl (xI g, 10, .inl (fun j => iI (bgz j))))] → va_S A s.heap H locs → lv_has ls 6 [(5, .int (nI b)), (2, .ref ve), (3, .long d2)] → W p l e (headSpec wsX8_mixedVessel ({ frames := 3, cells := 0, slots := 0, locals := 66 })).room s m ([.long d, .ref ve] : List Value).toArray below meth c H locs 0 0 (MQ below (va_Ql (fun (r : Int64) (_ : Unit) => r = dVe d R frh gl hd wt Nb wbz bgz) (fun (_ : Unit) (_ : State) => True) (A)) ([.long d, .ref ve] : List Value).toArray s 0 0 A) (F0 m 69 ls []) := by
          intro n9
          induction n9 with
          | zero =>
            intro b d2 H locs ls hm hb9 hd2 hP hD hS hl
            exact absurd hm (Nat.not_lt_zero _)
          | succ n9 ih69 =>
            intro b d2 H locs ls hm hb9 hd2 hP hD hS hl
            refine lv_iload hx hb dX8_mixedVessel_69 (lv_at hl 0 rfl) ?_
            refine lv_aload_n hx hb dX8_mixedVessel_71 rfl (lv_at hl 1 rfl) ?_
            refine va_get (D := xD g) (ci := 6) (v := .int (nI Nb)) (C := RX6) (T := TX6) (N := 11) hx hb hts hFX6 hown hK hP 0 rfl rfl 1 (by decide) (hts (.fieldLink RX8 108 "Stevedore$Vessel" "bays" "I") (by decide +kernel)) (fun _ h9 => h9) rfl dX8_mixedVessel_72 ?_
            refine lv_icmp_ge (tgt := 119) hx hb dX8_mixedVessel_75 (by decide) (fun c_10 => ?_) (fun c_10 => ?_)
            · have nc_10 := (nI_leI (a := Nb) (b := b) (by omega) (by omega)).mp c_10
              refine lv_lload_n hx hb dX8_mixedVessel_119 rfl (lv_at hl 2 rfl) ?_
              exact W.lret (v := d2) hx hb hr (fun t ht hW => ⟨⟨d2, (), rfl, (by obtain rfl : k = R := (by omega); obtain rfl : b = Nb := (by omega); rw [hd2, hdl]; rfl), trivial⟩, hS.F ht⟩) hS.2.2 dX8_mixedVessel_120
            · have nc_10 := mt (nI_leI (a := Nb) (b := b) (by omega) (by omega)).mpr c_10
              refine lv_lload_n hx hb dX8_mixedVessel_78 rfl (lv_at hl 2 rfl) ?_
              refine lv_aload_n hx hb dX8_mixedVessel_79 rfl (lv_at hl 1 rfl) ?_
              refine va_get (D := xD g) (ci := 6) (v := .ref wb) (C := RX6) (T := TX6) (N := 11) hx hb hts hFX6 hown hK hP 0 rfl rfl 8 (by decide) (hts (.fieldLink RX8 150 "Stevedore$Vessel" "workOfBay" "[I") (by decide +kernel)) (fun _ h9 => h9) rfl dX8_mixedVessel_80 ?_
              refine lv_iload hx hb dX8_mixedVessel_83 (lv_at hl 0 rfl) ?_
              refine va_iald hx hb hK hP 1 0 rfl rfl (vp_in_nI (by omega) (by omega)) dX8_mixedVessel_85 ?_
              refine lv_topi (fun v_11 ev => ?_)
              obtain rfl : v_11 = iI (wbz b) := ev.trans (congrArg (fun q9 => iI (wbz q9)) (nI_clamp (by omega)))
              have b_12 := b_wbz b
              have hPc := hP.sub (ws' := []) [] rfl
              have hDc := hD.sub (ws' := []) [] (by decide) rfl
              have hFc := xFree hS hA
              refine va_calll (va_runS (As := [.long d2, .int (iI (wbz b))]) (rest := []) ⟨hx, hb, hml, hown, hts⟩ (d_mixed l g H.size d2 (iI (wbz b))) (va_cwS 2 hts gX8_mixedVessel_X8_mixed rfl rfl rfl (by decide +kernel) ⟨Nat.le_of_ble_eq_true rfl, Nat.le_of_ble_eq_true rfl⟩) ⟨xB.blind, fun U9 hU9 hW9 => ⟨rfl, xB.mk hPc hK hDc hU9 hW9⟩⟩ rfl rfl hl.1 rfl (lv_room (Nat.le_of_ble_eq_true rfl)) dX8_mixedVessel_86 ⟨Nat.le_of_ble_eq_true rfl, Nat.le_of_ble_eq_true rfl⟩) hS (fun q _ h => hFc q h) hFc (fun r_13 _ t H1 locs ht hvm hw_14 hB hz1 hk1 hS => ?_)
              have hP := xSame hP hk1
              generalize H1 = H at hP hS ⊢
              have hP : va_P (xD g) vwCl [(ve, .inr (6, [v0, .int (nI Nb), v2, v3, .int (nI R), .int (iI gl), .int (iI hd), .int (iI wt), .ref wb, .ref fr, .ref bg])), (wb, .inl (xI g, 10, .inl (fun j => iI (wbz j)))), (fr, .inl (xI g, 4, .inl (fun j => nI (frh j)))), (bg, .inl (xI g, 10, .inl (fun j => iI (bgz j))))] H := hP
              have hD : va_D (fun _ => True) [(ve, .inr (6, [v0, .int (nI Nb), v2, v3, .int (nI R), .int (iI gl), .int (iI hd), .int (iI wt), .ref wb, .ref fr, .ref bg])), (wb, .inl (xI g, 10, .inl (fun j => iI (wbz j)))), (fr, .inl (xI g, 4, .inl (fun j => nI (frh j)))), (bg, .inl (xI g, 10, .inl (fun j => iI (bgz j))))] := hD
              try dsimp only at hw_14
              obtain rfl : r_13 = dM d2 (iI (wbz b)) := hw_14
              refine lv_lstore_n (lv' := [(3, .long (dM d2 (iI (wbz b)))), (5, .int (nI b)), (2, .ref ve)]) hx hb dX8_mixedVessel_89 rfl hl (by decide) rfl (fun ls hl => ?_)
              refine lv_lload_n hx hb dX8_mixedVessel_90 rfl (lv_at hl 0 rfl) ?_
              refine lv_aload_n hx hb dX8_mixedVessel_91 rfl (lv_at hl 2 rfl) ?_
              refine va_get (D := xD g) (ci := 6) (v := .ref bg) (C := RX6) (T := TX6) (N := 11) hx hb hts hFX6 hown hK hP 0 rfl rfl 10 (by decide) (hts (.fieldLink RX8 187 "Stevedore$Vessel" "begin" "[I") (by decide +kernel)) (fun _ h9 => h9) rfl dX8_mixedVessel_92 ?_
              refine lv_iload hx hb dX8_mixedVessel_95 (lv_at hl 1 rfl) ?_
              refine va_iald hx hb hK hP 3 0 rfl rfl (vp_in_nI (by omega) (by omega)) dX8_mixedVessel_97 ?_
              refine lv_topi (fun v_15 ev => ?_)
              obtain rfl : v_15 = iI (bgz b) := ev.trans (congrArg (fun q9 => iI (bgz q9)) (nI_clamp (by omega)))
              have b_16 := b_bgz b
              have hPc := hP.sub (ws' := []) [] rfl
              have hDc := hD.sub (ws' := []) [] (by decide) rfl
              have hFc := xFree hS hA
              refine va_calll (va_runS (As := [.long (dM d2 (iI (wbz b))), .int (iI (bgz b))]) (rest := []) ⟨hx, hb, hml, hown, hts⟩ (d_mixed l g H.size (dM d2 (iI (wbz b))) (iI (bgz b))) (va_cwS 2 hts gX8_mixedVessel_X8_mixed rfl rfl rfl (by decide +kernel) ⟨Nat.le_of_ble_eq_true rfl, Nat.le_of_ble_eq_true rfl⟩) ⟨xB.blind, fun U9 hU9 hW9 => ⟨rfl, xB.mk hPc hK hDc hU9 hW9⟩⟩ rfl rfl hl.1 rfl (lv_room (Nat.le_of_ble_eq_true rfl)) dX8_mixedVessel_98 ⟨Nat.le_of_ble_eq_true rfl, Nat.le_of_ble_eq_true rfl⟩) hS (fun q _ h => hFc q h) hFc (fun r_17 _ t H1 locs ht hvm hw_18 hB hz1 hk1 hS => ?_)
              have hP := xSame hP hk1
              generalize H1 = H at hP hS ⊢
              have hP : va_P (xD g) vwCl [(ve, .inr (6, [v0, .int (nI Nb), v2, v3, .int (nI R), .int (iI gl), .int (iI hd), .int (iI wt), .ref wb, .ref fr, .ref bg])), (wb, .inl (xI g, 10, .inl (fun j => iI (wbz j)))), (fr, .inl (xI g, 4, .inl (fun j => nI (frh j)))), (bg, .inl (xI g, 10, .inl (fun j => iI (bgz j))))] H := hP
              have hD : va_D (fun _ => True) [(ve, .inr (6, [v0, .int (nI Nb), v2, v3, .int (nI R), .int (iI gl), .int (iI hd), .int (iI wt), .ref wb, .ref fr, .ref bg])), (wb, .inl (xI g, 10, .inl (fun j => iI (wbz j)))), (fr, .inl (xI g, 4, .inl (fun j => nI (frh j)))), (bg, .inl (xI g, 10, .inl (fun j => iI (bgz j))))] := hD
              try dsimp only at hw_18
              obtain rfl : r_17 = dM (dM d2 (iI (wbz b))) (iI (bgz b)) := hw_18
              refine lv_lstore_n (lv' := [(3, .long (dM (dM d2 (iI (wbz b))) (iI (bgz b)))), (5, .int (nI b)), (2, .ref ve)]) hx hb dX8_mixedVessel_101 rfl hl (by decide) rfl (fun ls hl => ?_)
              refine lv_lload_n hx hb dX8_mixedVessel_102 rfl (lv_at hl 0 rfl) ?_
              refine lv_aload_n hx hb dX8_mixedVessel_103 rfl (lv_at hl 2 rfl) ?_
              refine lv_iload hx hb dX8_mixedVessel_104 (lv_at hl 1 rfl) ?_
              have hPc := hP.sub (ws' := [(ve, .inr (6, [v0, .int (nI Nb), v2, v3, .int (nI R), .int (iI gl), .int (iI hd), .int (iI wt), .ref wb, .ref fr, .ref bg])), (wb, .inl (xI g, 10, .inl (fun j => iI (wbz j)))), (bg, .inl (xI g, 10, .inl (fun j => iI (bgz j))))]) [0, 1, 3] rfl
              have hDc := hD.sub (ws' := [(ve, .inr (6, [v0, .int (nI Nb), v2, v3, .int (nI R), .int (iI gl), .int (iI hd), .int (iI wt), .ref wb, .ref fr, .ref bg])), (wb, .inl (xI g, 10, .inl (fun j => iI (wbz j)))), (bg, .inl (xI g, 10, .inl (fun j => iI (bgz j))))]) [0, 1, 3] (by decide) rfl
              have hFc := xFree hS hA
              refine va_calli (va_runV (As := [.int (nI b)]) (rest := [.long (dM (dM d2 (iI (wbz b))) (iI (bgz b)))]) ⟨hx, hb, hml, hown, hts⟩ (s_end l g H.size ve wb bg b v0 (.int (nI Nb)) v2 v3 (.int (nI R)) (.int (iI gl)) (.int (iI hd)) (.int (iI wt)) (.ref fr) wbz bgz (by first | assumption | omega) b_wbz b_bgz) (cwV 1 hts gX8_mixedVessel_X6_end rfl rfl rfl (by decide +kernel) ⟨Nat.le_of_ble_eq_true rfl, Nat.le_of_ble_eq_true rfl⟩) ⟨xB.blind, va_recv hK hPc (ci := 6) (q0 := 0) rfl rfl, fun U9 hU9 hW9 => ⟨rfl, xB.mk hPc hK hDc hU9 hW9⟩⟩ rfl rfl hl.1 rfl (lv_room (Nat.le_of_ble_eq_true rfl)) dX8_mixedVessel_106 ⟨Nat.le_of_ble_eq_true rfl, Nat.le_of_ble_eq_true rfl⟩) hS (fun q _ h => hFc q h) hFc (fun r_19 _ t H1 locs ht hvm hw_20 hB hz1 hk1 hS => ?_)
              have hP := xSame hP hk1
              generalize H1 = H at hP hS ⊢
              have hP : va_P (xD g) vwCl [(ve, .inr (6, [v0, .int (nI Nb), v2, v3, .int (nI R), .int (iI gl), .int (iI hd), .int (iI wt), .ref wb, .ref fr, .ref bg])), (wb, .inl (xI g, 10, .inl (fun j => iI (wbz j)))), (fr, .inl (xI g, 4, .inl (fun j => nI (frh j)))), (bg, .inl (xI g, 10, .inl (fun j => iI (bgz j))))] H := hP
              have hD : va_D (fun _ => True) [(ve, .inr (6, [v0, .int (nI Nb), v2, v3, .int (nI R), .int (iI gl), .int (iI hd), .int (iI wt), .ref wb, .ref fr, .ref bg])), (wb, .inl (xI g, 10, .inl (fun j => iI (wbz j)))), (fr, .inl (xI g, 4, .inl (fun j => nI (frh j)))), (bg, .inl (xI g, 10, .inl (fun j => iI (bgz j))))] := hD
              try dsimp only at hw_20
              obtain rfl : r_19 = iI (bgz b + vTk wbz b) := hw_20
              have hPc := hP.sub (ws' := []) [] rfl
              have hDc := hD.sub (ws' := []) [] (by decide) rfl
              have hFc := xFree hS hA
              refine va_calll (va_runS (As := [.long (dM (dM d2 (iI (wbz b))) (iI (bgz b))), .int (iI (bgz b + vTk wbz b))]) (rest := []) ⟨hx, hb, hml, hown, hts⟩ (d_mixed l g H.size (dM (dM d2 (iI (wbz b))) (iI (bgz b))) (iI (bgz b + vTk wbz b))) (va_cwS 2 hts gX8_mixedVessel_X8_mixed rfl rfl rfl (by decide +kernel) ⟨Nat.le_of_ble_eq_true rfl, Nat.le_of_ble_eq_true rfl⟩) ⟨xB.blind, fun U9 hU9 hW9 => ⟨rfl, xB.mk hPc hK hDc hU9 hW9⟩⟩ rfl rfl hl.1 rfl (lv_room (Nat.le_of_ble_eq_true rfl)) dX8_mixedVessel_109 ⟨Nat.le_of_ble_eq_true rfl, Nat.le_of_ble_eq_true rfl⟩) hS (fun q _ h => hFc q h) hFc (fun r_21 _ t H1 locs ht hvm hw_22 hB hz1 hk1 hS => ?_)
              have hP := xSame hP hk1
              generalize H1 = H at hP hS ⊢
              have hP : va_P (xD g) vwCl [(ve, .inr (6, [v0, .int (nI Nb), v2, v3, .int (nI R), .int (iI gl), .int (iI hd), .int (iI wt), .ref wb, .ref fr, .ref bg])), (wb, .inl (xI g, 10, .inl (fun j => iI (wbz j)))), (fr, .inl (xI g, 4, .inl (fun j => nI (frh j)))), (bg, .inl (xI g, 10, .inl (fun j => iI (bgz j))))] H := hP
              have hD : va_D (fun _ => True) [(ve, .inr (6, [v0, .int (nI Nb), v2, v3, .int (nI R), .int (iI gl), .int (iI hd), .int (iI wt), .ref wb, .ref fr, .ref bg])), (wb, .inl (xI g, 10, .inl (fun j => iI (wbz j)))), (fr, .inl (xI g, 4, .inl (fun j => nI (frh j)))), (bg, .inl (xI g, 10, .inl (fun j => iI (bgz j))))] := hD
              try dsimp only at hw_22
              obtain rfl : r_21 = dM (dM (dM d2 (iI (wbz b))) (iI (bgz b))) (iI (bgz b + vTk wbz b)) := hw_22
              refine lv_lstore_n (lv' := [(3, .long (dM (dM (dM d2 (iI (wbz b))) (iI (bgz b))) (iI (bgz b + vTk wbz b)))), (5, .int (nI b)), (2, .ref ve)]) hx hb dX8_mixedVessel_112 rfl hl (by decide) rfl (fun ls hl => ?_)
              refine lv_iinc (v := nI (b + 1)) (lv' := [(5, .int (nI (b + 1))), (3, .long (dM (dM (dM d2 (iI (wbz b))) (iI (bgz b))) (iI (bgz b + vTk wbz b)))), (2, .ref ve)]) hx hb dX8_mixedVessel_113 hl (k := 1) rfl (nI_add b 1) (by decide) rfl (fun ls hl => ?_)
              refine lv_goto (tgt := 69) hx hb dX8_mixedVessel_116 (by decide) ?_
              exact ih69 (b + 1) (dM (dM (dM d2 (iI (wbz b))) (iI (bgz b))) (iI (bgz b + vTk wbz b))) _ _ _ (by omega) (by omega) (by rw [hd2]; rfl) hP hD hS (lv_sub hl [0, 2, 1] rfl)
        exact hloop69 (Nb + 1) 0 (dM (dM (dM dl (iI gl)) (iI hd)) (iI wt)) _ _ _ (by omega) (Nat.zero_le _) rfl hP hD hS (by rw [(show nI 0 = (0 : Int32) from by decide)]; exact lv_sub hl [0, 2, 1] rfl)
      · have nc_3 := mt (nI_leI (a := R) (b := k) (by omega) (by omega)).mpr c_3
        refine lv_lload_n hx hb dX8_mixedVessel_21 rfl (lv_at hl 2 rfl) ?_
        refine lv_aload_n hx hb dX8_mixedVessel_22 rfl (lv_at hl 1 rfl) ?_
        refine va_get (D := xD g) (ci := 6) (v := .ref fr) (C := RX6) (T := TX6) (N := 11) hx hb hts hFX6 hown hK hP 0 rfl rfl 9 (by decide) (hts (.fieldLink RX8 181 "Stevedore$Vessel" "firstOfRange" "[I") (by decide +kernel)) (fun _ h9 => h9) rfl dX8_mixedVessel_23 ?_
        refine lv_iload hx hb dX8_mixedVessel_26 (lv_at hl 0 rfl) ?_
        refine va_iald hx hb hK hP 2 0 rfl rfl (vp_in_nI (by omega) (by omega)) dX8_mixedVessel_28 ?_
        refine lv_topi (fun v_23 ev => ?_)
        obtain rfl : v_23 = nI (frh k) := ev.trans (congrArg (fun q9 => nI (frh q9)) (nI_clamp (by omega)))
        have b_24 := b_frh k
        have hPc := hP.sub (ws' := []) [] rfl
        have hDc := hD.sub (ws' := []) [] (by decide) rfl
        have hFc := xFree hS hA
        refine va_calll (va_runS (As := [.long dl, .int (nI (frh k))]) (rest := []) ⟨hx, hb, hml, hown, hts⟩ (d_mixed l g H.size dl (nI (frh k))) (va_cwS 2 hts gX8_mixedVessel_X8_mixed rfl rfl rfl (by decide +kernel) ⟨Nat.le_of_ble_eq_true rfl, Nat.le_of_ble_eq_true rfl⟩) ⟨xB.blind, fun U9 hU9 hW9 => ⟨rfl, xB.mk hPc hK hDc hU9 hW9⟩⟩ rfl rfl hl.1 rfl (lv_room (Nat.le_of_ble_eq_true rfl)) dX8_mixedVessel_29 ⟨Nat.le_of_ble_eq_true rfl, Nat.le_of_ble_eq_true rfl⟩) hS (fun q _ h => hFc q h) hFc (fun r_25 _ t H1 locs ht hvm hw_26 hB hz1 hk1 hS => ?_)
        have hP := xSame hP hk1
        generalize H1 = H at hP hS ⊢
        have hP : va_P (xD g) vwCl [(ve, .inr (6, [v0, .int (nI Nb), v2, v3, .int (nI R), .int (iI gl), .int (iI hd), .int (iI wt), .ref wb, .ref fr, .ref bg])), (wb, .inl (xI g, 10, .inl (fun j => iI (wbz j)))), (fr, .inl (xI g, 4, .inl (fun j => nI (frh j)))), (bg, .inl (xI g, 10, .inl (fun j => iI (bgz j))))] H := hP
        have hD : va_D (fun _ => True) [(ve, .inr (6, [v0, .int (nI Nb), v2, v3, .int (nI R), .int (iI gl), .int (iI hd), .int (iI wt), .ref wb, .ref fr, .ref bg])), (wb, .inl (xI g, 10, .inl (fun j => iI (wbz j)))), (fr, .inl (xI g, 4, .inl (fun j => nI (frh j)))), (bg, .inl (xI g, 10, .inl (fun j => iI (bgz j))))] := hD
        try dsimp only at hw_26
        obtain rfl : r_25 = dM dl (nI (frh k)) := hw_26
        refine lv_lstore_n (lv' := [(3, .long (dM dl (nI (frh k)))), (5, .int (nI k)), (2, .ref ve)]) hx hb dX8_mixedVessel_32 rfl hl (by decide) rfl (fun ls hl => ?_)
        refine lv_iinc (v := nI (k + 1)) (lv' := [(5, .int (nI (k + 1))), (3, .long (dM dl (nI (frh k)))), (2, .ref ve)]) hx hb dX8_mixedVessel_33 hl (k := 1) rfl (nI_add k 1) (by decide) rfl (fun ls hl => ?_)
        refine lv_goto (tgt := 12) hx hb dX8_mixedVessel_36 (by decide) ?_
        exact ih12 (k + 1) (dM dl (nI (frh k))) _ _ _ (by omega) (by omega) (by rw [hdl]; rfl) hP hD hS (lv_sub hl [0, 2, 1] rfl)
  exact hloop12 (R + 1) 0 (dM d (nI R)) _ _ _ (by omega) (Nat.zero_le _) rfl hP hD hS (by rw [(show nI 0 = (0 : Int32) from by decide)]; exact lv_sub hl [0, 3, 1] rfl)
def dMt (mt : Nat → Nat) (d : Int64) : Nat → Int64
  | 0 => d
  | k + 1 => dM (dMt mt d k) (nI (mt k))
theorem dX8_mixedPlan_0 : decode cX8_mixedPlan 0 = .ok (.lload_n 1, 1) := by decide +kernel
theorem dX8_mixedPlan_1 : decode cX8_mixedPlan 1 = .ok (.aload_n 0, 1) := by decide +kernel
theorem dX8_mixedPlan_2 : decode cX8_mixedPlan 2 = .ok (.getfield 57, 3) := by decide +kernel
theorem dX8_mixedPlan_5 : decode cX8_mixedPlan 5 = .ok (.getfield 218, 3) := by decide +kernel
theorem dX8_mixedPlan_8 : decode cX8_mixedPlan 8 = .ok (.ifCond .eq 7, 3) := by decide +kernel
theorem dX8_mixedPlan_11 : decode cX8_mixedPlan 11 = .ok (.iconst 1, 1) := by decide +kernel
theorem dX8_mixedPlan_12 : decode cX8_mixedPlan 12 = .ok (.goto 4, 3) := by decide +kernel
theorem dX8_mixedPlan_16 : decode cX8_mixedPlan 16 = .ok (.invokestatic 339, 3) := by decide +kernel
set_option maxRecDepth 20000 in
theorem ggX8_mixedPlan_X8_mixed : GoodIn wsX8_mixedPlan wsX8_mixed := goodIn_r _ [12, 13] rfl (by decide +kernel)
set_option maxRecDepth 20000 in
theorem gX8_mixedPlan_X8_mixed : GoodIn wsX8_mixedPlan (va_wsS RX8 339 yX8_mixed wsX8_mixed) := goodIn_app (goodIn_of _ (by decide +kernel)) ggX8_mixedPlan_X8_mixed
theorem dX8_mixedPlan_19 : decode cX8_mixedPlan 19 = .ok (.lstore_n 3, 1) := by decide +kernel
theorem dX8_mixedPlan_20 : decode cX8_mixedPlan 20 = .ok (.aload_n 0, 1) := by decide +kernel
theorem dX8_mixedPlan_21 : decode cX8_mixedPlan 21 = .ok (.getfield 57, 3) := by decide +kernel
theorem dX8_mixedPlan_24 : decode cX8_mixedPlan 24 = .ok (.getfield 218, 3) := by decide +kernel
theorem dX8_mixedPlan_27 : decode cX8_mixedPlan 27 = .ok (.ifCond .ne 5, 3) := by decide +kernel
theorem dX8_mixedPlan_32 : decode cX8_mixedPlan 32 = .ok (.iconst 0, 1) := by decide +kernel
theorem dX8_mixedPlan_33 : decode cX8_mixedPlan 33 = .ok (.istore 5, 2) := by decide +kernel
theorem dX8_mixedPlan_35 : decode cX8_mixedPlan 35 = .ok (.iload 5, 2) := by decide +kernel
theorem dX8_mixedPlan_37 : decode cX8_mixedPlan 37 = .ok (.aload_n 0, 1) := by decide +kernel
theorem dX8_mixedPlan_38 : decode cX8_mixedPlan 38 = .ok (.getfield 95, 3) := by decide +kernel
theorem dX8_mixedPlan_41 : decode cX8_mixedPlan 41 = .ok (.if_icmp .ge 24, 3) := by decide +kernel
theorem dX8_mixedPlan_65 : decode cX8_mixedPlan 65 = .ok (.iconst 0, 1) := by decide +kernel
theorem dX8_mixedPlan_66 : decode cX8_mixedPlan 66 = .ok (.istore 5, 2) := by decide +kernel
theorem dX8_mixedPlan_68 : decode cX8_mixedPlan 68 = .ok (.iload 5, 2) := by decide +kernel
theorem dX8_mixedPlan_70 : decode cX8_mixedPlan 70 = .ok (.aload_n 0, 1) := by decide +kernel
theorem dX8_mixedPlan_71 : decode cX8_mixedPlan 71 = .ok (.getfield 95, 3) := by decide +kernel
theorem dX8_mixedPlan_74 : decode cX8_mixedPlan 74 = .ok (.if_icmp .ge 39, 3) := by decide +kernel
theorem dX8_mixedPlan_113 : decode cX8_mixedPlan 113 = .ok (.iconst 0, 1) := by decide +kernel
theorem dX8_mixedPlan_114 : decode cX8_mixedPlan 114 = .ok (.istore 5, 2) := by decide +kernel
theorem dX8_mixedPlan_116 : decode cX8_mixedPlan 116 = .ok (.iload 5, 2) := by decide +kernel
theorem dX8_mixedPlan_118 : decode cX8_mixedPlan 118 = .ok (.aload_n 0, 1) := by decide +kernel
theorem dX8_mixedPlan_119 : decode cX8_mixedPlan 119 = .ok (.getfield 26, 3) := by decide +kernel
theorem dX8_mixedPlan_122 : decode cX8_mixedPlan 122 = .ok (.getfield 129, 3) := by decide +kernel
theorem dX8_mixedPlan_125 : decode cX8_mixedPlan 125 = .ok (.if_icmp .ge 20, 3) := by decide +kernel
theorem dX8_mixedPlan_145 : decode cX8_mixedPlan 145 = .ok (.lload_n 3, 1) := by decide +kernel
theorem dX8_mixedPlan_146 : decode cX8_mixedPlan 146 = .ok (.lreturn, 1) := by decide +kernel
theorem dX8_mixedPlan_128 : decode cX8_mixedPlan 128 = .ok (.lload_n 3, 1) := by decide +kernel
theorem dX8_mixedPlan_129 : decode cX8_mixedPlan 129 = .ok (.aload_n 0, 1) := by decide +kernel
theorem dX8_mixedPlan_130 : decode cX8_mixedPlan 130 = .ok (.iload 5, 2) := by decide +kernel
theorem dX8_mixedPlan_132 : decode cX8_mixedPlan 132 = .ok (.invokevirtual 247, 3) := by decide +kernel
set_option maxRecDepth 20000 in
theorem ggX8_mixedPlan_X8_moveTime : GoodIn wsX8_mixedPlan wsX8_moveTime := goodIn_r _ [17, 7, 18, 19, 20, 21, 1, 5, 22, 23, 24, 25, 26, 27, 28, 29, 30, 31, 32, 33, 34, 35, 36, 37, 38, 39, 40, 41, 42, 43, 44, 45, 46, 47, 48, 49, 54, 55, 56, 57, 58, 59, 60, 61, 62, 63, 64, 65, 66, 67, 68, 69, 70, 50, 51, 52, 53] rfl (by decide +kernel)
set_option maxRecDepth 20000 in
theorem gX8_mixedPlan_X8_moveTime : GoodIn wsX8_mixedPlan (wsV RX8 247 RX8 yX8_moveTime wsX8_moveTime) := goodIn_app (goodIn_of _ (by decide +kernel)) ggX8_mixedPlan_X8_moveTime
theorem dX8_mixedPlan_135 : decode cX8_mixedPlan 135 = .ok (.invokestatic 339, 3) := by decide +kernel
theorem dX8_mixedPlan_138 : decode cX8_mixedPlan 138 = .ok (.lstore_n 3, 1) := by decide +kernel
theorem dX8_mixedPlan_139 : decode cX8_mixedPlan 139 = .ok (.iinc 5 1, 3) := by decide +kernel
theorem dX8_mixedPlan_142 : decode cX8_mixedPlan 142 = .ok (.goto (-26), 3) := by decide +kernel
theorem dX8_mixedPlan_77 : decode cX8_mixedPlan 77 = .ok (.lload_n 3, 1) := by decide +kernel
theorem dX8_mixedPlan_78 : decode cX8_mixedPlan 78 = .ok (.aload_n 0, 1) := by decide +kernel
theorem dX8_mixedPlan_79 : decode cX8_mixedPlan 79 = .ok (.getfield 57, 3) := by decide +kernel
theorem dX8_mixedPlan_82 : decode cX8_mixedPlan 82 = .ok (.getfield 230, 3) := by decide +kernel
theorem dX8_mixedPlan_85 : decode cX8_mixedPlan 85 = .ok (.iload 5, 2) := by decide +kernel
theorem dX8_mixedPlan_87 : decode cX8_mixedPlan 87 = .ok (.iaload, 1) := by decide +kernel
theorem dX8_mixedPlan_88 : decode cX8_mixedPlan 88 = .ok (.invokestatic 339, 3) := by decide +kernel
theorem dX8_mixedPlan_91 : decode cX8_mixedPlan 91 = .ok (.lstore_n 3, 1) := by decide +kernel
theorem dX8_mixedPlan_92 : decode cX8_mixedPlan 92 = .ok (.lload_n 3, 1) := by decide +kernel
theorem dX8_mixedPlan_93 : decode cX8_mixedPlan 93 = .ok (.aload_n 0, 1) := by decide +kernel
theorem dX8_mixedPlan_94 : decode cX8_mixedPlan 94 = .ok (.getfield 57, 3) := by decide +kernel
theorem dX8_mixedPlan_97 : decode cX8_mixedPlan 97 = .ok (.getfield 233, 3) := by decide +kernel
theorem dX8_mixedPlan_100 : decode cX8_mixedPlan 100 = .ok (.iload 5, 2) := by decide +kernel
theorem dX8_mixedPlan_102 : decode cX8_mixedPlan 102 = .ok (.iaload, 1) := by decide +kernel
theorem dX8_mixedPlan_103 : decode cX8_mixedPlan 103 = .ok (.invokestatic 339, 3) := by decide +kernel
theorem dX8_mixedPlan_106 : decode cX8_mixedPlan 106 = .ok (.lstore_n 3, 1) := by decide +kernel
theorem dX8_mixedPlan_107 : decode cX8_mixedPlan 107 = .ok (.iinc 5 1, 3) := by decide +kernel
theorem dX8_mixedPlan_110 : decode cX8_mixedPlan 110 = .ok (.goto (-42), 3) := by decide +kernel
theorem dX8_mixedPlan_44 : decode cX8_mixedPlan 44 = .ok (.lload_n 3, 1) := by decide +kernel
theorem dX8_mixedPlan_45 : decode cX8_mixedPlan 45 = .ok (.aload_n 0, 1) := by decide +kernel
theorem dX8_mixedPlan_46 : decode cX8_mixedPlan 46 = .ok (.getfield 57, 3) := by decide +kernel
theorem dX8_mixedPlan_49 : decode cX8_mixedPlan 49 = .ok (.getfield 227, 3) := by decide +kernel
theorem dX8_mixedPlan_52 : decode cX8_mixedPlan 52 = .ok (.iload 5, 2) := by decide +kernel
theorem dX8_mixedPlan_54 : decode cX8_mixedPlan 54 = .ok (.iaload, 1) := by decide +kernel
theorem dX8_mixedPlan_55 : decode cX8_mixedPlan 55 = .ok (.invokestatic 339, 3) := by decide +kernel
theorem dX8_mixedPlan_58 : decode cX8_mixedPlan 58 = .ok (.lstore_n 3, 1) := by decide +kernel
theorem dX8_mixedPlan_59 : decode cX8_mixedPlan 59 = .ok (.iinc 5 1, 3) := by decide +kernel
theorem dX8_mixedPlan_62 : decode cX8_mixedPlan 62 = .ok (.goto (-27), 3) := by decide +kernel
set_option maxHeartbeats 4000000 in
set_option maxRecDepth 100000 in
theorem d_plan (l : Launch) (g : xG) (sz : Nat) (d : Int64) (st : Nat) (fl : Nat) (ca : Nat) (cv : Nat) (cb : Nat) (ce : Nat) (pn : Nat) (ps : Nat) (n : Nat) (vr : Nat → Nat) (wb : Nat → Nat) (fr : Nat → Nat) (bg : Nat → Nat) (po : Nat) (pp : Nat) (vc : Nat) (s0 : Value) (s1 : Value) (s5 : Value) (s6 : Value) (s7 : Value) (s9 : Value) (s10 : Value) (s11 : Value) (s12 : Value) (s13 : Value) (s14 : Value) (c4 : Value) (c5 : Value) (Var : Nat → Int) (Vba : Nat → Nat) (Vrk : Nat → Int) (Vwa : Nat → Nat) (Vrc : Nat → Nat) (Vgl : Nat → Int) (Vhd : Nat → Int) (Vwt : Nat → Int) (bgz : Nat → Nat → Int) (qrd : Nat → Nat) (qta : Nat → Int) (qla : Nat → Int) (cve : Nat → Nat) (cba : Nat → Nat) (cex : Nat → Int)  (hvc : vc ≤ 6) (hn : n ≤ 24) (b_cve : ∀ j, cve j ≤ 5) (b_cba : ∀ j, cba j ≤ 9) (b_cex : ∀ j, 0 ≤ cex j ∧ cex j ≤ 1) (b_qrd : ∀ j, qrd j ≤ 5) (b_qta : ∀ j, 0 ≤ qta j ∧ qta j ≤ 1000000) (b_qla : ∀ j, (-1) ≤ qla j ∧ qla j ≤ 60) (b_bgz : ∀ i j, 0 ≤ bgz i j ∧ bgz i j ≤ 10000) : Met l yX8_mixedPlan wsX8_mixedPlan ({ frames := 3, cells := 0, slots := 0, locals := 68 }) (va_Pc [.ref st, .long d] (fun U => xB g ([(st, .inr (8, [s0, s1, .int (nI vc), .ref fl, .ref ca, s5, s6, s7, .ref pn, s9, s10, s11, s12, s13, s14])), (ca, .inr (2, [.int (nI n), .ref cv, .ref cb, .ref ce, c4, c5])), (cv, .inl (xI g, 24, .inl (fun j => nI (cve j)))), (cb, .inl (xI g, 24, .inl (fun j => nI (cba j)))), (ce, .inl (xZ g, 24, .inl (fun j => iI (cex j)))), (pn, .inr (4, [.int 1, .ref po, .ref ps, .ref pp])), (po, .inl (xI g, 6, .inl (fun j => nI (qrd j)))), (ps, .inl (xI g, 6, .inl (fun j => iI (qta j)))), (pp, .inl (xI g, 6, .inl (fun j => iI (qla j)))), (fl, .inl (xV g, 6, .inr (.inr (.inr (.inr (fun i => if i < 6 then some (vr i) else none))))))] ++ (xR 6 (fun i => (vr i, .inr (6, [.int (iI (Var i)), .int (nI (Vba i)), .int (iI (Vrk i)), .int (nI (Vwa i)), .int (nI (Vrc i)), .int (iI (Vgl i)), .int (iI (Vhd i)), .int (iI (Vwt i)), .ref (wb i), .ref (fr i), .ref (bg i)]))) ++ (xRI (xI g) 6 10 bg bgz ++ []))) sz U)) (va_Ql (fun (r : Int64) (_ : Unit) => r = dMt (mT qta bgz cve cba cex n) (dSp qta qla (dRg qrd (dM d 1) vc) vc) n) (fun (_ : Unit) (_ : State) => True) (va_A [] sz)) 0 0 (va_A [] sz) := by
  refine Met.ofW (cc := cX8_mixedPlan) (maxL := 6) (ret := (some .long)) (by decide) rfl ?_
  intro p e s m args below meth c s₁ B hml hv
  obtain ⟨rfl, hsz, hP, hK, hD0⟩ := hv
  have hx := B.exec
  have hb := B.bytes
  have hr := B.returns
  have hts := atoms_spec (ws := wsX8_mixedPlan) B.pre
  have hown : s.vm.findClass RX8 = some m.cls := findClass_of_methodNamed B.named
  have hlocks := B.notSynchronized
  subst hsz
  have hD := hD0
  generalize hAe : va_A [] s.heap.size = A
  have hA : ∀ q : Nat, s.heap.size ≤ q → A q := fun q h => by rw [← hAe]; exact Or.inr h
  have hS : va_S A s.heap s.heap [] := va_S.rf
  have hl := lv_entry ([.ref st, .long d]) (n := 6) (Nat.le_of_ble_eq_true rfl)
  rw [lg_entry_eq]
  generalize (lg_sl ([.ref st, .long d]) ++ List.replicate (6 - (lg_sl ([.ref st, .long d])).length) Slot.unset).toArray = ls at hl ⊢
  have hl : lv_has ls 6 [(0, .ref st), (1, .long d)] := hl
  have hFX2 : ∀ w ∈ u_ws RX2 TX2 6, w ∈ wsX8_mixedPlan := by decide +kernel
  have hFX4 : ∀ w ∈ u_ws RX4 TX4 4, w ∈ wsX8_mixedPlan := by decide +kernel
  have hFX8 : ∀ w ∈ u_ws RX8 TX8 15, w ∈ wsX8_mixedPlan := by decide +kernel
  refine lv_lload_n hx hb dX8_mixedPlan_0 rfl (lv_at hl 1 rfl) ?_
  refine lv_aload_n hx hb dX8_mixedPlan_1 rfl (lv_at hl 0 rfl) ?_
  refine va_get (D := xD g) (ci := 8) (v := .ref pn) (C := RX8) (T := TX8) (N := 15) hx hb hts hFX8 hown hK hP 0 rfl rfl 8 (by decide) (hts (.fieldLink RX8 57 "Stevedore" "plan" "LStevedore$Plan;") (by decide +kernel)) (fun _ h9 => h9) rfl dX8_mixedPlan_2 ?_
  refine va_get (D := xD g) (ci := 4) (v := .int 1) (C := RX4) (T := TX4) (N := 4) hx hb hts hFX4 hown hK hP 5 rfl rfl 0 (by decide) (hts (.fieldLink RX8 218 "Stevedore$Plan" "isMade" "Z") (by decide +kernel)) (fun _ h9 => h9) rfl dX8_mixedPlan_5 ?_
  refine lv_if_eq (tgt := 15) hx hb dX8_mixedPlan_8 (by decide) (fun c0 => absurd c0 (by decide)) (fun _ => ?_)
  refine lv_iconst (v := 1) hx hb dX8_mixedPlan_11 (by decide) ?_
  refine lv_goto (tgt := 16) hx hb dX8_mixedPlan_12 (by decide) ?_
  have hPc := hP.sub (ws' := []) [] rfl
  have hDc := hD.sub (ws' := []) [] (by decide) rfl
  have hFc := xFree hS hA
  refine va_calll (va_runS (As := [.long d, .int 1]) (rest := []) ⟨hx, hb, hml, hown, hts⟩ (d_mixed l g s.heap.size d 1) (va_cwS 2 hts gX8_mixedPlan_X8_mixed rfl rfl rfl (by decide +kernel) ⟨Nat.le_of_ble_eq_true rfl, Nat.le_of_ble_eq_true rfl⟩) ⟨xB.blind, fun U9 hU9 hW9 => ⟨rfl, xB.mk hPc hK hDc hU9 hW9⟩⟩ rfl rfl hl.1 rfl (lv_room (Nat.le_of_ble_eq_true rfl)) dX8_mixedPlan_16 ⟨Nat.le_of_ble_eq_true rfl, Nat.le_of_ble_eq_true rfl⟩) hS (fun q _ h => hFc q h) hFc (fun r_1 _ t H1 locs ht hvm hw_2 hB hz1 hk1 hS => ?_)
  have hP := xSame hP hk1
  generalize H1 = H at hP hS ⊢
  have hP : va_P (xD g) vwCl ([(st, .inr (8, [s0, s1, .int (nI vc), .ref fl, .ref ca, s5, s6, s7, .ref pn, s9, s10, s11, s12, s13, s14])), (ca, .inr (2, [.int (nI n), .ref cv, .ref cb, .ref ce, c4, c5])), (cv, .inl (xI g, 24, .inl (fun j => nI (cve j)))), (cb, .inl (xI g, 24, .inl (fun j => nI (cba j)))), (ce, .inl (xZ g, 24, .inl (fun j => iI (cex j)))), (pn, .inr (4, [.int 1, .ref po, .ref ps, .ref pp])), (po, .inl (xI g, 6, .inl (fun j => nI (qrd j)))), (ps, .inl (xI g, 6, .inl (fun j => iI (qta j)))), (pp, .inl (xI g, 6, .inl (fun j => iI (qla j)))), (fl, .inl (xV g, 6, .inr (.inr (.inr (.inr (fun i => if i < 6 then some (vr i) else none))))))] ++ (xR 6 (fun i => (vr i, .inr (6, [.int (iI (Var i)), .int (nI (Vba i)), .int (iI (Vrk i)), .int (nI (Vwa i)), .int (nI (Vrc i)), .int (iI (Vgl i)), .int (iI (Vhd i)), .int (iI (Vwt i)), .ref (wb i), .ref (fr i), .ref (bg i)]))) ++ (xRI (xI g) 6 10 bg bgz ++ []))) H := hP
  have hD : va_D (fun _ => True) ([(st, .inr (8, [s0, s1, .int (nI vc), .ref fl, .ref ca, s5, s6, s7, .ref pn, s9, s10, s11, s12, s13, s14])), (ca, .inr (2, [.int (nI n), .ref cv, .ref cb, .ref ce, c4, c5])), (cv, .inl (xI g, 24, .inl (fun j => nI (cve j)))), (cb, .inl (xI g, 24, .inl (fun j => nI (cba j)))), (ce, .inl (xZ g, 24, .inl (fun j => iI (cex j)))), (pn, .inr (4, [.int 1, .ref po, .ref ps, .ref pp])), (po, .inl (xI g, 6, .inl (fun j => nI (qrd j)))), (ps, .inl (xI g, 6, .inl (fun j => iI (qta j)))), (pp, .inl (xI g, 6, .inl (fun j => iI (qla j)))), (fl, .inl (xV g, 6, .inr (.inr (.inr (.inr (fun i => if i < 6 then some (vr i) else none))))))] ++ (xR 6 (fun i => (vr i, .inr (6, [.int (iI (Var i)), .int (nI (Vba i)), .int (iI (Vrk i)), .int (nI (Vwa i)), .int (nI (Vrc i)), .int (iI (Vgl i)), .int (iI (Vhd i)), .int (iI (Vwt i)), .ref (wb i), .ref (fr i), .ref (bg i)]))) ++ (xRI (xI g) 6 10 bg bgz ++ []))) := hD
  try dsimp only at hw_2
  obtain rfl : r_1 = dM d 1 := hw_2
  refine lv_lstore_n (lv' := [(3, .long (dM d 1)), (0, .ref st), (1, .long d)]) hx hb dX8_mixedPlan_19 rfl hl (by decide) rfl (fun ls hl => ?_)
  refine lv_aload_n hx hb dX8_mixedPlan_20 rfl (lv_at hl 1 rfl) ?_
  refine va_get (D := xD g) (ci := 8) (v := .ref pn) (C := RX8) (T := TX8) (N := 15) hx hb hts hFX8 hown hK hP 0 rfl rfl 8 (by decide) (hts (.fieldLink RX8 57 "Stevedore" "plan" "LStevedore$Plan;") (by decide +kernel)) (fun _ h9 => h9) rfl dX8_mixedPlan_21 ?_
  refine va_get (D := xD g) (ci := 4) (v := .int 1) (C := RX4) (T := TX4) (N := 4) hx hb hts hFX4 hown hK hP 5 rfl rfl 0 (by decide) (hts (.fieldLink RX8 218 "Stevedore$Plan" "isMade" "Z") (by decide +kernel)) (fun _ h9 => h9) rfl dX8_mixedPlan_24 ?_
  refine lv_if_ne (tgt := 32) hx hb dX8_mixedPlan_27 (by decide) (fun _ => ?_) (fun c0 => absurd c0 (by decide))
  refine lv_iconst (v := 0) hx hb dX8_mixedPlan_32 (by decide) ?_
  refine lv_istore (lv' := [(5, .int 0), (3, .long (dM d 1)), (0, .ref st), (1, .long d)]) hx hb dX8_mixedPlan_33 hl (by decide) rfl (fun ls hl => ?_)
  have hloop35 : ∀ (n9 : Nat) (a : Nat) (da : Int64) (H : Heap) (locs : List Loc) (ls : Array Slot), vc - a < n9 → (a ≤ vc) → (da = dRg qrd (dM d 1) a) → va_P (xD g) vwCl ([(st, .inr (8, [s0, s1, .int (nI vc), .ref fl, .ref ca, s5, s6, s7, .ref pn, s9, s10, s11, s12, s13, s14])), (ca, .inr (2, [.int (nI n), .ref cv, .ref cb, .ref ce, c4, c5])), (cv, .inl (xI g, 24, .inl (fun j => nI (cve j)))), (cb, .inl (xI g, 24, .inl (fun j => nI (cba j)))), (ce, .inl (xZ g, 24, .inl (fun j => iI (cex j)))), (pn, .inr (4, [.int 1, .ref po, .ref ps, .ref pp])), (po, .inl (xI g, 6, .inl (fun j => nI (qrd j)))), (ps, .inl (xI g, 6, .inl (fun j => iI (qta j)))), (pp, .inl (xI g, 6, .inl (fun j => iI (qla j)))), (fl, .inl (xV g, 6, .inr (.inr (.inr (.inr (fun i => if i < 6 then some (vr i) else none))))))] ++ (xR 6 (fun i => (vr i, .inr (6, [.int (iI (Var i)), .int (nI (Vba i)), .int (iI (Vrk i)), .int (nI (Vwa i)), .int (nI (Vrc i)), .int (iI (Vgl i)), .int (iI (Vhd i)), .int (iI (Vwt i)), .ref (wb i), .ref (fr i), .ref (bg i)]))) ++ (xRI (xI g) 6 10 bg bgz ++ []))) H → va_D (fun _ => True) ([(st, .inr (8, [s0, s1, .int (nI vc), .ref fl, .ref ca, s5, s6, s7, .ref pn, s9, s10, s11, s12, s13, s14])), (ca, .inr (2, [.int (nI n), .ref cv, .ref cb, .ref ce, c4, c5])), (cv, .inl (xI g, 24, .inl (fun j => nI (cve j)))), (cb, .inl (xI g, 24, .inl (fun j => nI (cba j)))), (ce, .inl (xZ g, 24, .inl (fun j => iI (cex j)))), (pn, .inr (4, [.int 1, .ref po, .ref ps, .ref pp])), (po, .inl (xI g, 6, .inl (fun j => nI (qrd j)))), (ps, .inl (xI g, 6, .inl (fun j => iI (qta j)))), (pp, .inl (xI g, 6, .inl (fun j => iI (qla j)))), (fl, .inl (xV g, 6, .inr (.inr (.inr (.inr (fun i => if i < 6 then some (vr i) else none))))))] ++ (xR 6 (fun i => (vr i, .inr (6, [.int (iI (Var i)), .int (nI (Vba i)), .int (iI (Vrk i)), .int (nI (Vwa i)), .int (nI (Vrc i)), .int (iI (Vgl i)), .int (iI (Vhd i)), .int (iI (Vwt i)), .ref (wb i), .ref (fr i), .ref (bg i)]))) ++ (xRI (xI g) 6 10 bg bgz ++ []))) → va_S A s.heap H locs → lv_has ls 6 [(5, .int (nI a)), (0, .ref st), (3, .long da)] → W p l e (headSpec wsX8_mixedPlan ({ frames := 3, cells := 0, slots := 0, locals := 68 })).room s m ([.ref st, .long d] : List Value).toArray below meth c H locs 0 0 (MQ below (va_Ql (fun (r : Int64) (_ : Unit) => r = dMt (mT qta bgz cve cba cex n) (dSp qta qla (dRg qrd (dM d 1) vc) vc) n) (fun (_ : Unit) (_ : State) => True) (A)) ([.ref st, .long d] : List Value).toArray s 0 0 A) (F0 m 35 ls []) := by
    intro n9
    induction n9 with
    | zero =>
      intro a da H locs ls hm ha hda hP hD hS hl
      exact absurd hm (Nat.not_lt_zero _)
    | succ n9 ih35 =>
      intro a da H locs ls hm ha hda hP hD hS hl
      refine lv_iload hx hb dX8_mixedPlan_35 (lv_at hl 0 rfl) ?_
      refine lv_aload_n hx hb dX8_mixedPlan_37 rfl (lv_at hl 1 rfl) ?_
      refine va_get (D := xD g) (ci := 8) (v := .int (nI vc)) (C := RX8) (T := TX8) (N := 15) hx hb hts hFX8 hown hK hP 0 rfl rfl 2 (by decide) (hts (.fieldLink RX8 95 "Stevedore" "vesselCount" "I") (by decide +kernel)) (fun _ h9 => h9) rfl dX8_mixedPlan_38 ?_
      refine lv_icmp_ge (tgt := 65) hx hb dX8_mixedPlan_41 (by decide) (fun c_3 => ?_) (fun c_3 => ?_)
      · have nc_3 := (nI_leI (a := vc) (b := a) (by omega) (by omega)).mp c_3
        refine lv_iconst (v := 0) hx hb dX8_mixedPlan_65 (by decide) ?_
        refine lv_istore (lv' := [(5, .int 0), (0, .ref st), (3, .long da)]) hx hb dX8_mixedPlan_66 hl (by decide) rfl (fun ls hl => ?_)
        have hloop68 : ∀ (n9 : Nat) (y5 : Nat) (dy5 : Int64) (H : Heap) (locs : List Loc) (ls : Array Slot), vc - y5 < n9 → (y5 ≤ vc) → (dy5 = dSp qta qla (da) y5) → va_P (xD g) vwCl ([(st, .inr (8, [s0, s1, .int (nI vc), .ref fl, .ref ca, s5, s6, s7, .ref pn, s9, s10, s11, s12, s13, s14])), (ca, .inr (2, [.int (nI n), .ref cv, .ref cb, .ref ce, c4, c5])), (cv, .inl (xI g, 24, .inl (fun j => nI (cve j)))), (cb, .inl (xI g, 24, .inl (fun j => nI (cba j)))), (ce, .inl (xZ g, 24, .inl (fun j => iI (cex j)))), (pn, .inr (4, [.int 1, .ref po, .ref ps, .ref pp])), (po, .inl (xI g, 6, .inl (fun j => nI (qrd j)))), (ps, .inl (xI g, 6, .inl (fun j => iI (qta j)))), (pp, .inl (xI g, 6, .inl (fun j => iI (qla j)))), (fl, .inl (xV g, 6, .inr (.inr (.inr (.inr (fun i => if i < 6 then some (vr i) else none))))))] ++ (xR 6 (fun i => (vr i, .inr (6, [.int (iI (Var i)), .int (nI (Vba i)), .int (iI (Vrk i)), .int (nI (Vwa i)), .int (nI (Vrc i)), .int (iI (Vgl i)), .int (iI (Vhd i)), .int (iI (Vwt i)), .ref (wb i), .ref (fr i), .ref (bg i)]))) ++ (xRI (xI g) 6 10 bg bgz ++ []))) H → va_D (fun _ => True) ([(st, .inr (8, [s0, s1, .int (nI vc), .ref fl, .ref ca, s5, s6, s7, .ref pn, s9, s10, s11, s12, s13, s14])), (ca, .inr (2, [.int (nI n), .ref cv, .ref cb, .ref ce, c4, c5])), (cv, .inl (xI g, 24, .inl (fun j => nI (cve j)))), (cb, .inl (xI g, 24, .inl (fun j => nI (cba j)))), (ce, .inl (xZ g, 24, .inl (fun j => iI (cex j)))), (pn, .inr (4, [.int 1, .ref po, .ref ps, .ref pp])), (po, .inl (xI g, 6, .inl (fun j => nI (qrd j)))), (ps, .inl (xI g, 6, .inl (fun j => iI (qta j)))), (pp, .inl (xI g, 6, .inl (fun j => iI (qla j)))), (fl, .inl (xV g, 6, .inr (.inr (.inr (.inr (fun i => if i < 6 then some (vr i) else none))))))] ++ (xR 6 (fun i => (vr i, .inr (6, [.int (iI (Var i)), .int (nI (Vba i)), .int (iI (Vrk i)), .int (nI (Vwa i)), .int (nI (Vrc i)), .int (iI (Vgl i)), .int (iI (Vhd i)), .int (iI (Vwt i)), .ref (wb i), .ref (fr i), .ref (bg i)]))) ++ (xRI (xI g) 6 10 bg bgz ++ []))) → va_S A s.heap H locs → lv_has ls 6 [(5, .int (nI y5)), (0, .ref st), (3, .long dy5)] → W p l e (headSpec wsX8_mixedPlan ({ frames := 3, cells := 0, slots := 0, locals := 68 })).room s m ([.ref st, .long d] : List Value).toArray below meth c H locs 0 0 (MQ below (va_Ql (fun (r : Int64) (_ : Unit) => r = dMt (mT qta bgz cve cba cex n) (dSp qta qla (dRg qrd (dM d 1) vc) vc) n) (fun (_ : Unit) (_ : State) => True) (A)) ([.ref st, .long d] : List Value).toArray s 0 0 A) (F0 m 68 ls []) := by
          intro n9
          induction n9 with
          | zero =>
            intro y5 dy5 H locs ls hm hy5 hdy5 hP hD hS hl
            exact absurd hm (Nat.not_lt_zero _)
          | succ n9 ih68 =>
            intro y5 dy5 H locs ls hm hy5 hdy5 hP hD hS hl
            refine lv_iload hx hb dX8_mixedPlan_68 (lv_at hl 0 rfl) ?_
            refine lv_aload_n hx hb dX8_mixedPlan_70 rfl (lv_at hl 1 rfl) ?_
            refine va_get (D := xD g) (ci := 8) (v := .int (nI vc)) (C := RX8) (T := TX8) (N := 15) hx hb hts hFX8 hown hK hP 0 rfl rfl 2 (by decide) (hts (.fieldLink RX8 95 "Stevedore" "vesselCount" "I") (by decide +kernel)) (fun _ h9 => h9) rfl dX8_mixedPlan_71 ?_
            refine lv_icmp_ge (tgt := 113) hx hb dX8_mixedPlan_74 (by decide) (fun c_4 => ?_) (fun c_4 => ?_)
            · have nc_4 := (nI_leI (a := vc) (b := y5) (by omega) (by omega)).mp c_4
              refine lv_iconst (v := 0) hx hb dX8_mixedPlan_113 (by decide) ?_
              refine lv_istore (lv' := [(5, .int 0), (0, .ref st), (3, .long dy5)]) hx hb dX8_mixedPlan_114 hl (by decide) rfl (fun ls hl => ?_)
              have hloop116 : ∀ (n9 : Nat) (f : Nat) (df : Int64) (H : Heap) (locs : List Loc) (ls : Array Slot), n - f < n9 → (f ≤ n) → (df = dMt (mT qta bgz cve cba cex n) (dy5) f) → va_P (xD g) vwCl ([(st, .inr (8, [s0, s1, .int (nI vc), .ref fl, .ref ca, s5, s6, s7, .ref pn, s9, s10, s11, s12, s13, s14])), (ca, .inr (2, [.int (nI n), .ref cv, .ref cb, .ref ce, c4, c5])), (cv, .inl (xI g, 24, .inl (fun j => nI (cve j)))), (cb, .inl (xI g, 24, .inl (fun j => nI (cba j)))), (ce, .inl (xZ g, 24, .inl (fun j => iI (cex j)))), (pn, .inr (4, [.int 1, .ref po, .ref ps, .ref pp])), (po, .inl (xI g, 6, .inl (fun j => nI (qrd j)))), (ps, .inl (xI g, 6, .inl (fun j => iI (qta j)))), (pp, .inl (xI g, 6, .inl (fun j => iI (qla j)))), (fl, .inl (xV g, 6, .inr (.inr (.inr (.inr (fun i => if i < 6 then some (vr i) else none))))))] ++ (xR 6 (fun i => (vr i, .inr (6, [.int (iI (Var i)), .int (nI (Vba i)), .int (iI (Vrk i)), .int (nI (Vwa i)), .int (nI (Vrc i)), .int (iI (Vgl i)), .int (iI (Vhd i)), .int (iI (Vwt i)), .ref (wb i), .ref (fr i), .ref (bg i)]))) ++ (xRI (xI g) 6 10 bg bgz ++ []))) H → va_D (fun _ => True) ([(st, .inr (8, [s0, s1, .int (nI vc), .ref fl, .ref ca, s5, s6, s7, .ref pn, s9, s10, s11, s12, s13, s14])), (ca, .inr (2, [.int (nI n), .ref cv, .ref cb, .ref ce, c4, c5])), (cv, .inl (xI g, 24, .inl (fun j => nI (cve j)))), (cb, .inl (xI g, 24, .inl (fun j => nI (cba j)))), (ce, .inl (xZ g, 24, .inl (fun j => iI (cex j)))), (pn, .inr (4, [.int 1, .ref po, .ref ps, .ref pp])), (po, .inl (xI g, 6, .inl (fun j => nI (qrd j)))), (ps, .inl (xI g, 6, .inl (fun j => iI (qta j)))), (pp, .inl (xI g, 6, .inl (fun j => iI (qla j)))), (fl, .inl (xV g, 6, .inr (.inr (.inr (.inr (fun i => if i < 6 then some (vr i) else none))))))] ++ (xR 6 (fun i => (vr i, .inr (6, [.int (iI (Var i)), .int (nI (Vba i)), .int (iI (Vrk i)), .int (nI (Vwa i)), .int (nI (Vrc i)), .int (iI (Vgl i)), .int (iI (Vhd i)), .int (iI (Vwt i)), .ref (wb i), .ref (fr i), .ref (bg i)]))) ++ (xRI (xI g) 6 10 bg bgz ++ []))) → va_S A s.heap H locs → lv_has ls 6 [(5, .int (nI f)), (0, .ref st), (3, .long df)] → W p l e (headSpec wsX8_mixedPlan ({ frames := 3, cells := 0, slots := 0, locals := 68 })).room s m ([.ref st, .long d] : List Value).toArray below meth c H locs 0 0 (MQ below (va_Ql (fun (r : Int64) (_ : Unit) => r = dMt (mT qta bgz cve cba cex n) (dSp qta qla (dRg qrd (dM d 1) vc) vc) n) (fun (_ : Unit) (_ : State) => True) (A)) ([.ref st, .long d] : List Value).toArray s 0 0 A) (F0 m 116 ls []) := by
                intro n9
                induction n9 with
                | zero =>
                  intro f df H locs ls hm hf hdf hP hD hS hl
                  exact absurd hm (Nat.not_lt_zero _)
                | succ n9 ih116 =>
                  intro f df H locs ls hm hf hdf hP hD hS hl
                  refine lv_iload hx hb dX8_mixedPlan_116 (lv_at hl 0 rfl) ?_
                  refine lv_aload_n hx hb dX8_mixedPlan_118 rfl (lv_at hl 1 rfl) ?_
                  refine va_get (D := xD g) (ci := 8) (v := .ref ca) (C := RX8) (T := TX8) (N := 15) hx hb hts hFX8 hown hK hP 0 rfl rfl 4 (by decide) (hts (.fieldLink RX8 26 "Stevedore" "cargo" "LStevedore$Cargo;") (by decide +kernel)) (fun _ h9 => h9) rfl dX8_mixedPlan_119 ?_
                  refine va_get (D := xD g) (ci := 2) (v := .int (nI n)) (C := RX2) (T := TX2) (N := 6) hx hb hts hFX2 hown hK hP 1 rfl rfl 0 (by decide) (hts (.fieldLink RX8 129 "Stevedore$Cargo" "count" "I") (by decide +kernel)) (fun _ h9 => h9) rfl dX8_mixedPlan_122 ?_
                  refine lv_icmp_ge (tgt := 145) hx hb dX8_mixedPlan_125 (by decide) (fun c_5 => ?_) (fun c_5 => ?_)
                  · have nc_5 := (nI_leI (a := n) (b := f) (by omega) (by omega)).mp c_5
                    refine lv_lload_n hx hb dX8_mixedPlan_145 rfl (lv_at hl 2 rfl) ?_
                    exact W.lret (v := df) hx hb hr (fun t ht hW => ⟨⟨df, (), rfl, (by obtain rfl : a = vc := (by omega); obtain rfl : y5 = a := (by omega); obtain rfl : f = n := (by omega); rw [hdf, hdy5, hda]), trivial⟩, hS.F ht⟩) hS.2.2 dX8_mixedPlan_146
                  · have nc_5 := mt (nI_leI (a := n) (b := f) (by omega) (by omega)).mpr c_5
                    refine lv_lload_n hx hb dX8_mixedPlan_128 rfl (lv_at hl 2 rfl) ?_
                    refine lv_aload_n hx hb dX8_mixedPlan_129 rfl (lv_at hl 1 rfl) ?_
                    refine lv_iload hx hb dX8_mixedPlan_130 (lv_at hl 0 rfl) ?_
                    have hPc := hP.sub (ws' := ([(st, .inr (8, [s0, s1, .int (nI vc), .ref fl, .ref ca, s5, s6, s7, .ref pn, s9, s10, s11, s12, s13, s14])), (ca, .inr (2, [.int (nI n), .ref cv, .ref cb, .ref ce, c4, c5])), (cv, .inl (xI g, 24, .inl (fun j => nI (cve j)))), (cb, .inl (xI g, 24, .inl (fun j => nI (cba j)))), (ce, .inl (xZ g, 24, .inl (fun j => iI (cex j)))), (pn, .inr (4, [.int 1, .ref po, .ref ps, .ref pp])), (ps, .inl (xI g, 6, .inl (fun j => iI (qta j)))), (fl, .inl (xV g, 6, .inr (.inr (.inr (.inr (fun i => if i < 6 then some (vr i) else none))))))] ++ (xR 6 (fun i => (vr i, .inr (6, [.int (iI (Var i)), .int (nI (Vba i)), .int (iI (Vrk i)), .int (nI (Vwa i)), .int (nI (Vrc i)), .int (iI (Vgl i)), .int (iI (Vhd i)), .int (iI (Vwt i)), .ref (wb i), .ref (fr i), .ref (bg i)]))) ++ (xRI (xI g) 6 10 bg bgz ++ [])))) [0, 1, 2, 3, 4, 5, 7, 9, 10, 11, 12, 13, 14, 15, 16, 17, 18, 19, 20, 21] rfl
                    have hDc := hD.sub (ws' := ([(st, .inr (8, [s0, s1, .int (nI vc), .ref fl, .ref ca, s5, s6, s7, .ref pn, s9, s10, s11, s12, s13, s14])), (ca, .inr (2, [.int (nI n), .ref cv, .ref cb, .ref ce, c4, c5])), (cv, .inl (xI g, 24, .inl (fun j => nI (cve j)))), (cb, .inl (xI g, 24, .inl (fun j => nI (cba j)))), (ce, .inl (xZ g, 24, .inl (fun j => iI (cex j)))), (pn, .inr (4, [.int 1, .ref po, .ref ps, .ref pp])), (ps, .inl (xI g, 6, .inl (fun j => iI (qta j)))), (fl, .inl (xV g, 6, .inr (.inr (.inr (.inr (fun i => if i < 6 then some (vr i) else none))))))] ++ (xR 6 (fun i => (vr i, .inr (6, [.int (iI (Var i)), .int (nI (Vba i)), .int (iI (Vrk i)), .int (nI (Vwa i)), .int (nI (Vrc i)), .int (iI (Vgl i)), .int (iI (Vhd i)), .int (iI (Vwt i)), .ref (wb i), .ref (fr i), .ref (bg i)]))) ++ (xRI (xI g) 6 10 bg bgz ++ [])))) [0, 1, 2, 3, 4, 5, 7, 9, 10, 11, 12, 13, 14, 15, 16, 17, 18, 19, 20, 21] (by decide) rfl
                    have hFc := xFree hS hA
                    refine va_calli (va_runV (As := [.int (nI f)]) (rest := [.long df]) ⟨hx, hb, hml, hown, hts⟩ (t_moveTime l g H.size st fl ca cv cb ce pn ps n vr wb fr bg f s0 s1 (.int (nI vc)) s5 s6 s7 s9 s10 s11 s12 s13 s14 c4 c5 (.int 1) (.ref po) (.ref pp) Var Vba Vrk Vwa Vrc Vgl Vhd Vwt bgz qta cve cba cex (by first | assumption | omega) (by first | assumption | omega) b_cve b_cba b_cex b_qta b_bgz) (cwV 1 hts gX8_mixedPlan_X8_moveTime rfl rfl rfl (by decide +kernel) ⟨Nat.le_of_ble_eq_true rfl, Nat.le_of_ble_eq_true rfl⟩) ⟨xB.blind, va_recv hK hPc (ci := 8) (q0 := 0) rfl rfl, fun U9 hU9 hW9 => ⟨rfl, xB.mk hPc hK hDc hU9 hW9⟩⟩ rfl rfl hl.1 rfl (lv_room (Nat.le_of_ble_eq_true rfl)) dX8_mixedPlan_132 ⟨Nat.le_of_ble_eq_true rfl, Nat.le_of_ble_eq_true rfl⟩) hS (fun q _ h => hFc q h) hFc (fun r_6 _ t H1 locs ht hvm hw_7 hB hz1 hk1 hS => ?_)
                    have hP := xSame hP hk1
                    generalize H1 = H at hP hS ⊢
                    have hP : va_P (xD g) vwCl ([(st, .inr (8, [s0, s1, .int (nI vc), .ref fl, .ref ca, s5, s6, s7, .ref pn, s9, s10, s11, s12, s13, s14])), (ca, .inr (2, [.int (nI n), .ref cv, .ref cb, .ref ce, c4, c5])), (cv, .inl (xI g, 24, .inl (fun j => nI (cve j)))), (cb, .inl (xI g, 24, .inl (fun j => nI (cba j)))), (ce, .inl (xZ g, 24, .inl (fun j => iI (cex j)))), (pn, .inr (4, [.int 1, .ref po, .ref ps, .ref pp])), (po, .inl (xI g, 6, .inl (fun j => nI (qrd j)))), (ps, .inl (xI g, 6, .inl (fun j => iI (qta j)))), (pp, .inl (xI g, 6, .inl (fun j => iI (qla j)))), (fl, .inl (xV g, 6, .inr (.inr (.inr (.inr (fun i => if i < 6 then some (vr i) else none))))))] ++ (xR 6 (fun i => (vr i, .inr (6, [.int (iI (Var i)), .int (nI (Vba i)), .int (iI (Vrk i)), .int (nI (Vwa i)), .int (nI (Vrc i)), .int (iI (Vgl i)), .int (iI (Vhd i)), .int (iI (Vwt i)), .ref (wb i), .ref (fr i), .ref (bg i)]))) ++ (xRI (xI g) 6 10 bg bgz ++ []))) H := hP
                    have hD : va_D (fun _ => True) ([(st, .inr (8, [s0, s1, .int (nI vc), .ref fl, .ref ca, s5, s6, s7, .ref pn, s9, s10, s11, s12, s13, s14])), (ca, .inr (2, [.int (nI n), .ref cv, .ref cb, .ref ce, c4, c5])), (cv, .inl (xI g, 24, .inl (fun j => nI (cve j)))), (cb, .inl (xI g, 24, .inl (fun j => nI (cba j)))), (ce, .inl (xZ g, 24, .inl (fun j => iI (cex j)))), (pn, .inr (4, [.int 1, .ref po, .ref ps, .ref pp])), (po, .inl (xI g, 6, .inl (fun j => nI (qrd j)))), (ps, .inl (xI g, 6, .inl (fun j => iI (qta j)))), (pp, .inl (xI g, 6, .inl (fun j => iI (qla j)))), (fl, .inl (xV g, 6, .inr (.inr (.inr (.inr (fun i => if i < 6 then some (vr i) else none))))))] ++ (xR 6 (fun i => (vr i, .inr (6, [.int (iI (Var i)), .int (nI (Vba i)), .int (iI (Vrk i)), .int (nI (Vwa i)), .int (nI (Vrc i)), .int (iI (Vgl i)), .int (iI (Vhd i)), .int (iI (Vwt i)), .ref (wb i), .ref (fr i), .ref (bg i)]))) ++ (xRI (xI g) 6 10 bg bgz ++ []))) := hD
                    try dsimp only at hw_7
                    obtain rfl : r_6 = nI (mT qta bgz cve cba cex n f) := hw_7
                    have hPc := hP.sub (ws' := []) [] rfl
                    have hDc := hD.sub (ws' := []) [] (by decide) rfl
                    have hFc := xFree hS hA
                    refine va_calll (va_runS (As := [.long df, .int (nI (mT qta bgz cve cba cex n f))]) (rest := []) ⟨hx, hb, hml, hown, hts⟩ (d_mixed l g H.size df (nI (mT qta bgz cve cba cex n f))) (va_cwS 2 hts gX8_mixedPlan_X8_mixed rfl rfl rfl (by decide +kernel) ⟨Nat.le_of_ble_eq_true rfl, Nat.le_of_ble_eq_true rfl⟩) ⟨xB.blind, fun U9 hU9 hW9 => ⟨rfl, xB.mk hPc hK hDc hU9 hW9⟩⟩ rfl rfl hl.1 rfl (lv_room (Nat.le_of_ble_eq_true rfl)) dX8_mixedPlan_135 ⟨Nat.le_of_ble_eq_true rfl, Nat.le_of_ble_eq_true rfl⟩) hS (fun q _ h => hFc q h) hFc (fun r_8 _ t H1 locs ht hvm hw_9 hB hz1 hk1 hS => ?_)
                    have hP := xSame hP hk1
                    generalize H1 = H at hP hS ⊢
                    have hP : va_P (xD g) vwCl ([(st, .inr (8, [s0, s1, .int (nI vc), .ref fl, .ref ca, s5, s6, s7, .ref pn, s9, s10, s11, s12, s13, s14])), (ca, .inr (2, [.int (nI n), .ref cv, .ref cb, .ref ce, c4, c5])), (cv, .inl (xI g, 24, .inl (fun j => nI (cve j)))), (cb, .inl (xI g, 24, .inl (fun j => nI (cba j)))), (ce, .inl (xZ g, 24, .inl (fun j => iI (cex j)))), (pn, .inr (4, [.int 1, .ref po, .ref ps, .ref pp])), (po, .inl (xI g, 6, .inl (fun j => nI (qrd j)))), (ps, .inl (xI g, 6, .inl (fun j => iI (qta j)))), (pp, .inl (xI g, 6, .inl (fun j => iI (qla j)))), (fl, .inl (xV g, 6, .inr (.inr (.inr (.inr (fun i => if i < 6 then some (vr i) else none))))))] ++ (xR 6 (fun i => (vr i, .inr (6, [.int (iI (Var i)), .int (nI (Vba i)), .int (iI (Vrk i)), .int (nI (Vwa i)), .int (nI (Vrc i)), .int (iI (Vgl i)), .int (iI (Vhd i)), .int (iI (Vwt i)), .ref (wb i), .ref (fr i), .ref (bg i)]))) ++ (xRI (xI g) 6 10 bg bgz ++ []))) H := hP
                    have hD : va_D (fun _ => True) ([(st, .inr (8, [s0, s1, .int (nI vc), .ref fl, .ref ca, s5, s6, s7, .ref pn, s9, s10, s11, s12, s13, s14])), (ca, .inr (2, [.int (nI n), .ref cv, .ref cb, .ref ce, c4, c5])), (cv, .inl (xI g, 24, .inl (fun j => nI (cve j)))), (cb, .inl (xI g, 24, .inl (fun j => nI (cba j)))), (ce, .inl (xZ g, 24, .inl (fun j => iI (cex j)))), (pn, .inr (4, [.int 1, .ref po, .ref ps, .ref pp])), (po, .inl (xI g, 6, .inl (fun j => nI (qrd j)))), (ps, .inl (xI g, 6, .inl (fun j => iI (qta j)))), (pp, .inl (xI g, 6, .inl (fun j => iI (qla j)))), (fl, .inl (xV g, 6, .inr (.inr (.inr (.inr (fun i => if i < 6 then some (vr i) else none))))))] ++ (xR 6 (fun i => (vr i, .inr (6, [.int (iI (Var i)), .int (nI (Vba i)), .int (iI (Vrk i)), .int (nI (Vwa i)), .int (nI (Vrc i)), .int (iI (Vgl i)), .int (iI (Vhd i)), .int (iI (Vwt i)), .ref (wb i), .ref (fr i), .ref (bg i)]))) ++ (xRI (xI g) 6 10 bg bgz ++ []))) := hD
                    try dsimp only at hw_9
                    obtain rfl : r_8 = dM df (nI (mT qta bgz cve cba cex n f)) := hw_9
                    refine lv_lstore_n (lv' := [(3, .long (dM df (nI (mT qta bgz cve cba cex n f)))), (5, .int (nI f)), (0, .ref st)]) hx hb dX8_mixedPlan_138 rfl hl (by decide) rfl (fun ls hl => ?_)
                    refine lv_iinc (v := nI (f + 1)) (lv' := [(5, .int (nI (f + 1))), (3, .long (dM df (nI (mT qta bgz cve cba cex n f)))), (0, .ref st)]) hx hb dX8_mixedPlan_139 hl (k := 1) rfl (nI_add f 1) (by decide) rfl (fun ls hl => ?_)
                    refine lv_goto (tgt := 116) hx hb dX8_mixedPlan_142 (by decide) ?_
                    exact ih116 (f + 1) (dM df (nI (mT qta bgz cve cba cex n f))) _ _ _ (by omega) (by omega) (by rw [hdf]; rfl) hP hD hS (lv_sub hl [0, 2, 1] rfl)
              exact hloop116 (n + 1) 0 dy5 _ _ _ (by omega) (Nat.zero_le _) rfl hP hD hS (by rw [(show nI 0 = (0 : Int32) from by decide)]; exact lv_sub hl [0, 1, 2] rfl)
            · have nc_4 := mt (nI_leI (a := vc) (b := y5) (by omega) (by omega)).mpr c_4
              refine lv_lload_n hx hb dX8_mixedPlan_77 rfl (lv_at hl 2 rfl) ?_
              refine lv_aload_n hx hb dX8_mixedPlan_78 rfl (lv_at hl 1 rfl) ?_
              refine va_get (D := xD g) (ci := 8) (v := .ref pn) (C := RX8) (T := TX8) (N := 15) hx hb hts hFX8 hown hK hP 0 rfl rfl 8 (by decide) (hts (.fieldLink RX8 57 "Stevedore" "plan" "LStevedore$Plan;") (by decide +kernel)) (fun _ h9 => h9) rfl dX8_mixedPlan_79 ?_
              refine va_get (D := xD g) (ci := 4) (v := .ref ps) (C := RX4) (T := TX4) (N := 4) hx hb hts hFX4 hown hK hP 5 rfl rfl 2 (by decide) (hts (.fieldLink RX8 230 "Stevedore$Plan" "start" "[I") (by decide +kernel)) (fun _ h9 => h9) rfl dX8_mixedPlan_82 ?_
              refine lv_iload hx hb dX8_mixedPlan_85 (lv_at hl 0 rfl) ?_
              refine va_iald hx hb hK hP 7 0 rfl rfl (vp_in_nI (by omega) (by omega)) dX8_mixedPlan_87 ?_
              refine lv_topi (fun v_10 ev => ?_)
              obtain rfl : v_10 = iI (qta y5) := ev.trans (congrArg (fun q9 => iI (qta q9)) (nI_clamp (by omega)))
              have b_11 := b_qta y5
              have hPc := hP.sub (ws' := []) [] rfl
              have hDc := hD.sub (ws' := []) [] (by decide) rfl
              have hFc := xFree hS hA
              refine va_calll (va_runS (As := [.long dy5, .int (iI (qta y5))]) (rest := []) ⟨hx, hb, hml, hown, hts⟩ (d_mixed l g H.size dy5 (iI (qta y5))) (va_cwS 2 hts gX8_mixedPlan_X8_mixed rfl rfl rfl (by decide +kernel) ⟨Nat.le_of_ble_eq_true rfl, Nat.le_of_ble_eq_true rfl⟩) ⟨xB.blind, fun U9 hU9 hW9 => ⟨rfl, xB.mk hPc hK hDc hU9 hW9⟩⟩ rfl rfl hl.1 rfl (lv_room (Nat.le_of_ble_eq_true rfl)) dX8_mixedPlan_88 ⟨Nat.le_of_ble_eq_true rfl, Nat.le_of_ble_eq_true rfl⟩) hS (fun q _ h => hFc q h) hFc (fun r_12 _ t H1 locs ht hvm hw_13 hB hz1 hk1 hS => ?_)
              have hP := xSame hP hk1
              generalize H1 = H at hP hS ⊢
              have hP : va_P (xD g) vwCl ([(st, .inr (8, [s0, s1, .int (nI vc), .ref fl, .ref ca, s5, s6, s7, .ref pn, s9, s10, s11, s12, s13, s14])), (ca, .inr (2, [.int (nI n), .ref cv, .ref cb, .ref ce, c4, c5])), (cv, .inl (xI g, 24, .inl (fun j => nI (cve j)))), (cb, .inl (xI g, 24, .inl (fun j => nI (cba j)))), (ce, .inl (xZ g, 24, .inl (fun j => iI (cex j)))), (pn, .inr (4, [.int 1, .ref po, .ref ps, .ref pp])), (po, .inl (xI g, 6, .inl (fun j => nI (qrd j)))), (ps, .inl (xI g, 6, .inl (fun j => iI (qta j)))), (pp, .inl (xI g, 6, .inl (fun j => iI (qla j)))), (fl, .inl (xV g, 6, .inr (.inr (.inr (.inr (fun i => if i < 6 then some (vr i) else none))))))] ++ (xR 6 (fun i => (vr i, .inr (6, [.int (iI (Var i)), .int (nI (Vba i)), .int (iI (Vrk i)), .int (nI (Vwa i)), .int (nI (Vrc i)), .int (iI (Vgl i)), .int (iI (Vhd i)), .int (iI (Vwt i)), .ref (wb i), .ref (fr i), .ref (bg i)]))) ++ (xRI (xI g) 6 10 bg bgz ++ []))) H := hP
              have hD : va_D (fun _ => True) ([(st, .inr (8, [s0, s1, .int (nI vc), .ref fl, .ref ca, s5, s6, s7, .ref pn, s9, s10, s11, s12, s13, s14])), (ca, .inr (2, [.int (nI n), .ref cv, .ref cb, .ref ce, c4, c5])), (cv, .inl (xI g, 24, .inl (fun j => nI (cve j)))), (cb, .inl (xI g, 24, .inl (fun j => nI (cba j)))), (ce, .inl (xZ g, 24, .inl (fun j => iI (cex j)))), (pn, .inr (4, [.int 1, .ref po, .ref ps, .ref pp])), (po, .inl (xI g, 6, .inl (fun j => nI (qrd j)))), (ps, .inl (xI g, 6, .inl (fun j => iI (qta j)))), (pp, .inl (xI g, 6, .inl (fun j => iI (qla j)))), (fl, .inl (xV g, 6, .inr (.inr (.inr (.inr (fun i => if i < 6 then some (vr i) else none))))))] ++ (xR 6 (fun i => (vr i, .inr (6, [.int (iI (Var i)), .int (nI (Vba i)), .int (iI (Vrk i)), .int (nI (Vwa i)), .int (nI (Vrc i)), .int (iI (Vgl i)), .int (iI (Vhd i)), .int (iI (Vwt i)), .ref (wb i), .ref (fr i), .ref (bg i)]))) ++ (xRI (xI g) 6 10 bg bgz ++ []))) := hD
              try dsimp only at hw_13
              obtain rfl : r_12 = dM dy5 (iI (qta y5)) := hw_13
              refine lv_lstore_n (lv' := [(3, .long (dM dy5 (iI (qta y5)))), (5, .int (nI y5)), (0, .ref st)]) hx hb dX8_mixedPlan_91 rfl hl (by decide) rfl (fun ls hl => ?_)
              refine lv_lload_n hx hb dX8_mixedPlan_92 rfl (lv_at hl 0 rfl) ?_
              refine lv_aload_n hx hb dX8_mixedPlan_93 rfl (lv_at hl 2 rfl) ?_
              refine va_get (D := xD g) (ci := 8) (v := .ref pn) (C := RX8) (T := TX8) (N := 15) hx hb hts hFX8 hown hK hP 0 rfl rfl 8 (by decide) (hts (.fieldLink RX8 57 "Stevedore" "plan" "LStevedore$Plan;") (by decide +kernel)) (fun _ h9 => h9) rfl dX8_mixedPlan_94 ?_
              refine va_get (D := xD g) (ci := 4) (v := .ref pp) (C := RX4) (T := TX4) (N := 4) hx hb hts hFX4 hown hK hP 5 rfl rfl 3 (by decide) (hts (.fieldLink RX8 233 "Stevedore$Plan" "place" "[I") (by decide +kernel)) (fun _ h9 => h9) rfl dX8_mixedPlan_97 ?_
              refine lv_iload hx hb dX8_mixedPlan_100 (lv_at hl 1 rfl) ?_
              refine va_iald hx hb hK hP 8 0 rfl rfl (vp_in_nI (by omega) (by omega)) dX8_mixedPlan_102 ?_
              refine lv_topi (fun v_14 ev => ?_)
              obtain rfl : v_14 = iI (qla y5) := ev.trans (congrArg (fun q9 => iI (qla q9)) (nI_clamp (by omega)))
              have b_15 := b_qla y5
              have hPc := hP.sub (ws' := []) [] rfl
              have hDc := hD.sub (ws' := []) [] (by decide) rfl
              have hFc := xFree hS hA
              refine va_calll (va_runS (As := [.long (dM dy5 (iI (qta y5))), .int (iI (qla y5))]) (rest := []) ⟨hx, hb, hml, hown, hts⟩ (d_mixed l g H.size (dM dy5 (iI (qta y5))) (iI (qla y5))) (va_cwS 2 hts gX8_mixedPlan_X8_mixed rfl rfl rfl (by decide +kernel) ⟨Nat.le_of_ble_eq_true rfl, Nat.le_of_ble_eq_true rfl⟩) ⟨xB.blind, fun U9 hU9 hW9 => ⟨rfl, xB.mk hPc hK hDc hU9 hW9⟩⟩ rfl rfl hl.1 rfl (lv_room (Nat.le_of_ble_eq_true rfl)) dX8_mixedPlan_103 ⟨Nat.le_of_ble_eq_true rfl, Nat.le_of_ble_eq_true rfl⟩) hS (fun q _ h => hFc q h) hFc (fun r_16 _ t H1 locs ht hvm hw_17 hB hz1 hk1 hS => ?_)
              have hP := xSame hP hk1
              generalize H1 = H at hP hS ⊢
              have hP : va_P (xD g) vwCl ([(st, .inr (8, [s0, s1, .int (nI vc), .ref fl, .ref ca, s5, s6, s7, .ref pn, s9, s10, s11, s12, s13, s14])), (ca, .inr (2, [.int (nI n), .ref cv, .ref cb, .ref ce, c4, c5])), (cv, .inl (xI g, 24, .inl (fun j => nI (cve j)))), (cb, .inl (xI g, 24, .inl (fun j => nI (cba j)))), (ce, .inl (xZ g, 24, .inl (fun j => iI (cex j)))), (pn, .inr (4, [.int 1, .ref po, .ref ps, .ref pp])), (po, .inl (xI g, 6, .inl (fun j => nI (qrd j)))), (ps, .inl (xI g, 6, .inl (fun j => iI (qta j)))), (pp, .inl (xI g, 6, .inl (fun j => iI (qla j)))), (fl, .inl (xV g, 6, .inr (.inr (.inr (.inr (fun i => if i < 6 then some (vr i) else none))))))] ++ (xR 6 (fun i => (vr i, .inr (6, [.int (iI (Var i)), .int (nI (Vba i)), .int (iI (Vrk i)), .int (nI (Vwa i)), .int (nI (Vrc i)), .int (iI (Vgl i)), .int (iI (Vhd i)), .int (iI (Vwt i)), .ref (wb i), .ref (fr i), .ref (bg i)]))) ++ (xRI (xI g) 6 10 bg bgz ++ []))) H := hP
              have hD : va_D (fun _ => True) ([(st, .inr (8, [s0, s1, .int (nI vc), .ref fl, .ref ca, s5, s6, s7, .ref pn, s9, s10, s11, s12, s13, s14])), (ca, .inr (2, [.int (nI n), .ref cv, .ref cb, .ref ce, c4, c5])), (cv, .inl (xI g, 24, .inl (fun j => nI (cve j)))), (cb, .inl (xI g, 24, .inl (fun j => nI (cba j)))), (ce, .inl (xZ g, 24, .inl (fun j => iI (cex j)))), (pn, .inr (4, [.int 1, .ref po, .ref ps, .ref pp])), (po, .inl (xI g, 6, .inl (fun j => nI (qrd j)))), (ps, .inl (xI g, 6, .inl (fun j => iI (qta j)))), (pp, .inl (xI g, 6, .inl (fun j => iI (qla j)))), (fl, .inl (xV g, 6, .inr (.inr (.inr (.inr (fun i => if i < 6 then some (vr i) else none))))))] ++ (xR 6 (fun i => (vr i, .inr (6, [.int (iI (Var i)), .int (nI (Vba i)), .int (iI (Vrk i)), .int (nI (Vwa i)), .int (nI (Vrc i)), .int (iI (Vgl i)), .int (iI (Vhd i)), .int (iI (Vwt i)), .ref (wb i), .ref (fr i), .ref (bg i)]))) ++ (xRI (xI g) 6 10 bg bgz ++ []))) := hD
              try dsimp only at hw_17
              obtain rfl : r_16 = dM (dM dy5 (iI (qta y5))) (iI (qla y5)) := hw_17
              refine lv_lstore_n (lv' := [(3, .long (dM (dM dy5 (iI (qta y5))) (iI (qla y5)))), (5, .int (nI y5)), (0, .ref st)]) hx hb dX8_mixedPlan_106 rfl hl (by decide) rfl (fun ls hl => ?_)
              refine lv_iinc (v := nI (y5 + 1)) (lv' := [(5, .int (nI (y5 + 1))), (3, .long (dM (dM dy5 (iI (qta y5))) (iI (qla y5)))), (0, .ref st)]) hx hb dX8_mixedPlan_107 hl (k := 1) rfl (nI_add y5 1) (by decide) rfl (fun ls hl => ?_)
              refine lv_goto (tgt := 68) hx hb dX8_mixedPlan_110 (by decide) ?_
              exact ih68 (y5 + 1) (dM (dM dy5 (iI (qta y5))) (iI (qla y5))) _ _ _ (by omega) (by omega) (by rw [hdy5]; rfl) hP hD hS (lv_sub hl [0, 2, 1] rfl)
        exact hloop68 (vc + 1) 0 da _ _ _ (by omega) (Nat.zero_le _) rfl hP hD hS (by rw [(show nI 0 = (0 : Int32) from by decide)]; exact lv_sub hl [0, 1, 2] rfl)
      · have nc_3 := mt (nI_leI (a := vc) (b := a) (by omega) (by omega)).mpr c_3
        refine lv_lload_n hx hb dX8_mixedPlan_44 rfl (lv_at hl 2 rfl) ?_
        refine lv_aload_n hx hb dX8_mixedPlan_45 rfl (lv_at hl 1 rfl) ?_
        refine va_get (D := xD g) (ci := 8) (v := .ref pn) (C := RX8) (T := TX8) (N := 15) hx hb hts hFX8 hown hK hP 0 rfl rfl 8 (by decide) (hts (.fieldLink RX8 57 "Stevedore" "plan" "LStevedore$Plan;") (by decide +kernel)) (fun _ h9 => h9) rfl dX8_mixedPlan_46 ?_
        refine va_get (D := xD g) (ci := 4) (v := .ref po) (C := RX4) (T := TX4) (N := 4) hx hb hts hFX4 hown hK hP 5 rfl rfl 1 (by decide) (hts (.fieldLink RX8 227 "Stevedore$Plan" "order" "[I") (by decide +kernel)) (fun _ h9 => h9) rfl dX8_mixedPlan_49 ?_
        refine lv_iload hx hb dX8_mixedPlan_52 (lv_at hl 0 rfl) ?_
        refine va_iald hx hb hK hP 6 0 rfl rfl (vp_in_nI (by omega) (by omega)) dX8_mixedPlan_54 ?_
        refine lv_topi (fun v_18 ev => ?_)
        obtain rfl : v_18 = nI (qrd a) := ev.trans (congrArg (fun q9 => nI (qrd q9)) (nI_clamp (by omega)))
        have b_19 := b_qrd a
        have hPc := hP.sub (ws' := []) [] rfl
        have hDc := hD.sub (ws' := []) [] (by decide) rfl
        have hFc := xFree hS hA
        refine va_calll (va_runS (As := [.long da, .int (nI (qrd a))]) (rest := []) ⟨hx, hb, hml, hown, hts⟩ (d_mixed l g H.size da (nI (qrd a))) (va_cwS 2 hts gX8_mixedPlan_X8_mixed rfl rfl rfl (by decide +kernel) ⟨Nat.le_of_ble_eq_true rfl, Nat.le_of_ble_eq_true rfl⟩) ⟨xB.blind, fun U9 hU9 hW9 => ⟨rfl, xB.mk hPc hK hDc hU9 hW9⟩⟩ rfl rfl hl.1 rfl (lv_room (Nat.le_of_ble_eq_true rfl)) dX8_mixedPlan_55 ⟨Nat.le_of_ble_eq_true rfl, Nat.le_of_ble_eq_true rfl⟩) hS (fun q _ h => hFc q h) hFc (fun r_20 _ t H1 locs ht hvm hw_21 hB hz1 hk1 hS => ?_)
        have hP := xSame hP hk1
        generalize H1 = H at hP hS ⊢
        have hP : va_P (xD g) vwCl ([(st, .inr (8, [s0, s1, .int (nI vc), .ref fl, .ref ca, s5, s6, s7, .ref pn, s9, s10, s11, s12, s13, s14])), (ca, .inr (2, [.int (nI n), .ref cv, .ref cb, .ref ce, c4, c5])), (cv, .inl (xI g, 24, .inl (fun j => nI (cve j)))), (cb, .inl (xI g, 24, .inl (fun j => nI (cba j)))), (ce, .inl (xZ g, 24, .inl (fun j => iI (cex j)))), (pn, .inr (4, [.int 1, .ref po, .ref ps, .ref pp])), (po, .inl (xI g, 6, .inl (fun j => nI (qrd j)))), (ps, .inl (xI g, 6, .inl (fun j => iI (qta j)))), (pp, .inl (xI g, 6, .inl (fun j => iI (qla j)))), (fl, .inl (xV g, 6, .inr (.inr (.inr (.inr (fun i => if i < 6 then some (vr i) else none))))))] ++ (xR 6 (fun i => (vr i, .inr (6, [.int (iI (Var i)), .int (nI (Vba i)), .int (iI (Vrk i)), .int (nI (Vwa i)), .int (nI (Vrc i)), .int (iI (Vgl i)), .int (iI (Vhd i)), .int (iI (Vwt i)), .ref (wb i), .ref (fr i), .ref (bg i)]))) ++ (xRI (xI g) 6 10 bg bgz ++ []))) H := hP
        have hD : va_D (fun _ => True) ([(st, .inr (8, [s0, s1, .int (nI vc), .ref fl, .ref ca, s5, s6, s7, .ref pn, s9, s10, s11, s12, s13, s14])), (ca, .inr (2, [.int (nI n), .ref cv, .ref cb, .ref ce, c4, c5])), (cv, .inl (xI g, 24, .inl (fun j => nI (cve j)))), (cb, .inl (xI g, 24, .inl (fun j => nI (cba j)))), (ce, .inl (xZ g, 24, .inl (fun j => iI (cex j)))), (pn, .inr (4, [.int 1, .ref po, .ref ps, .ref pp])), (po, .inl (xI g, 6, .inl (fun j => nI (qrd j)))), (ps, .inl (xI g, 6, .inl (fun j => iI (qta j)))), (pp, .inl (xI g, 6, .inl (fun j => iI (qla j)))), (fl, .inl (xV g, 6, .inr (.inr (.inr (.inr (fun i => if i < 6 then some (vr i) else none))))))] ++ (xR 6 (fun i => (vr i, .inr (6, [.int (iI (Var i)), .int (nI (Vba i)), .int (iI (Vrk i)), .int (nI (Vwa i)), .int (nI (Vrc i)), .int (iI (Vgl i)), .int (iI (Vhd i)), .int (iI (Vwt i)), .ref (wb i), .ref (fr i), .ref (bg i)]))) ++ (xRI (xI g) 6 10 bg bgz ++ []))) := hD
        try dsimp only at hw_21
        obtain rfl : r_20 = dM da (nI (qrd a)) := hw_21
        refine lv_lstore_n (lv' := [(3, .long (dM da (nI (qrd a)))), (5, .int (nI a)), (0, .ref st)]) hx hb dX8_mixedPlan_58 rfl hl (by decide) rfl (fun ls hl => ?_)
        refine lv_iinc (v := nI (a + 1)) (lv' := [(5, .int (nI (a + 1))), (3, .long (dM da (nI (qrd a)))), (0, .ref st)]) hx hb dX8_mixedPlan_59 hl (k := 1) rfl (nI_add a 1) (by decide) rfl (fun ls hl => ?_)
        refine lv_goto (tgt := 35) hx hb dX8_mixedPlan_62 (by decide) ?_
        exact ih35 (a + 1) (dM da (nI (qrd a))) _ _ _ (by omega) (by omega) (by rw [hda]; rfl) hP hD hS (lv_sub hl [0, 2, 1] rfl)
  exact hloop35 (vc + 1) 0 (dM d 1) _ _ _ (by omega) (Nat.zero_le _) rfl hP hD hS (by rw [(show nI 0 = (0 : Int32) from by decide)]; exact lv_sub hl [0, 2, 1] rfl)
theorem dX8_mixedSlots_0 : decode cX8_mixedSlots 0 = .ok (.lload_n 1, 1) := by decide +kernel
theorem dX8_mixedSlots_1 : decode cX8_mixedSlots 1 = .ok (.lstore_n 3, 1) := by decide +kernel
theorem dX8_mixedSlots_2 : decode cX8_mixedSlots 2 = .ok (.aload_n 0, 1) := by decide +kernel
theorem dX8_mixedSlots_3 : decode cX8_mixedSlots 3 = .ok (.getfield 268, 3) := by decide +kernel
theorem dX8_mixedSlots_6 : decode cX8_mixedSlots 6 = .ok (.ifCond .ne 5, 3) := by decide +kernel
theorem dX8_mixedSlots_11 : decode cX8_mixedSlots 11 = .ok (.iconst 0, 1) := by decide +kernel
theorem dX8_mixedSlots_12 : decode cX8_mixedSlots 12 = .ok (.istore 5, 2) := by decide +kernel
theorem dX8_mixedSlots_14 : decode cX8_mixedSlots 14 = .ok (.iload 5, 2) := by decide +kernel
theorem dX8_mixedSlots_16 : decode cX8_mixedSlots 16 = .ok (.aload_n 0, 1) := by decide +kernel
theorem dX8_mixedSlots_17 : decode cX8_mixedSlots 17 = .ok (.getfield 26, 3) := by decide +kernel
theorem dX8_mixedSlots_20 : decode cX8_mixedSlots 20 = .ok (.getfield 129, 3) := by decide +kernel
theorem dX8_mixedSlots_23 : decode cX8_mixedSlots 23 = .ok (.if_icmp .ge 37, 3) := by decide +kernel
theorem dX8_mixedSlots_60 : decode cX8_mixedSlots 60 = .ok (.lload_n 3, 1) := by decide +kernel
theorem dX8_mixedSlots_61 : decode cX8_mixedSlots 61 = .ok (.lreturn, 1) := by decide +kernel
theorem dX8_mixedSlots_26 : decode cX8_mixedSlots 26 = .ok (.lload_n 3, 1) := by decide +kernel
theorem dX8_mixedSlots_27 : decode cX8_mixedSlots 27 = .ok (.aload_n 0, 1) := by decide +kernel
theorem dX8_mixedSlots_28 : decode cX8_mixedSlots 28 = .ok (.getfield 68, 3) := by decide +kernel
theorem dX8_mixedSlots_31 : decode cX8_mixedSlots 31 = .ok (.iload 5, 2) := by decide +kernel
theorem dX8_mixedSlots_33 : decode cX8_mixedSlots 33 = .ok (.iaload, 1) := by decide +kernel
theorem dX8_mixedSlots_34 : decode cX8_mixedSlots 34 = .ok (.bipush 16, 2) := by decide +kernel
theorem dX8_mixedSlots_36 : decode cX8_mixedSlots 36 = .ok (.if_icmp .ne 7, 3) := by decide +kernel
theorem dX8_mixedSlots_43 : decode cX8_mixedSlots 43 = .ok (.aload_n 0, 1) := by decide +kernel
theorem dX8_mixedSlots_44 : decode cX8_mixedSlots 44 = .ok (.getfield 68, 3) := by decide +kernel
theorem dX8_mixedSlots_47 : decode cX8_mixedSlots 47 = .ok (.iload 5, 2) := by decide +kernel
theorem dX8_mixedSlots_49 : decode cX8_mixedSlots 49 = .ok (.iaload, 1) := by decide +kernel
theorem dX8_mixedSlots_50 : decode cX8_mixedSlots 50 = .ok (.invokestatic 339, 3) := by decide +kernel
set_option maxRecDepth 20000 in
theorem ggX8_mixedSlots_X8_mixed : GoodIn wsX8_mixedSlots wsX8_mixed := goodIn_r _ [8, 9] rfl (by decide +kernel)
set_option maxRecDepth 20000 in
theorem gX8_mixedSlots_X8_mixed : GoodIn wsX8_mixedSlots (va_wsS RX8 339 yX8_mixed wsX8_mixed) := goodIn_app (goodIn_of _ (by decide +kernel)) ggX8_mixedSlots_X8_mixed
theorem dX8_mixedSlots_53 : decode cX8_mixedSlots 53 = .ok (.lstore_n 3, 1) := by decide +kernel
theorem dX8_mixedSlots_54 : decode cX8_mixedSlots 54 = .ok (.iinc 5 1, 3) := by decide +kernel
theorem dX8_mixedSlots_57 : decode cX8_mixedSlots 57 = .ok (.goto (-43), 3) := by decide +kernel
theorem dX8_mixedSlots_39 : decode cX8_mixedSlots 39 = .ok (.iconst (-1), 1) := by decide +kernel
theorem dX8_mixedSlots_40 : decode cX8_mixedSlots 40 = .ok (.goto 10, 3) := by decide +kernel
set_option maxHeartbeats 4000000 in
set_option maxRecDepth 100000 in
theorem d_slots (l : Launch) (g : xG) (sz : Nat) (d : Int64) (st : Nat) (ca : Nat) (gv : Nat) (n : Nat) (s0 : Value) (s1 : Value) (s2 : Value) (s3 : Value) (s5 : Value) (s6 : Value) (s7 : Value) (s8 : Value) (s9 : Value) (s12 : Value) (s13 : Value) (s14 : Value) (c1 : Value) (c2 : Value) (c3 : Value) (c4 : Value) (c5 : Value) (gsv : Nat → Nat)  (hn : n ≤ 24) (b_gsv : ∀ j, gsv j ≤ 16) : Met l yX8_mixedSlots wsX8_mixedSlots ({ frames := 1, cells := 0, slots := 0, locals := 22 }) (va_Pc [.ref st, .long d] (fun U => xB g [(st, .inr (8, [s0, s1, s2, s3, .ref ca, s5, s6, s7, s8, s9, .int 1, .ref gv, s12, s13, s14])), (ca, .inr (2, [.int (nI n), c1, c2, c3, c4, c5])), (gv, .inl (xI g, 24, .inl (fun j => nI (gsv j))))] sz U)) (va_Ql (fun (r : Int64) (_ : Unit) => r = dGs gsv d n) (fun (_ : Unit) (_ : State) => True) (va_A [] sz)) 0 0 (va_A [] sz) := by
  refine Met.ofW (cc := cX8_mixedSlots) (maxL := 6) (ret := (some .long)) (by decide) rfl ?_
  intro p e s m args below meth c s₁ B hml hv
  obtain ⟨rfl, hsz, hP, hK, hD0⟩ := hv
  have hx := B.exec
  have hb := B.bytes
  have hr := B.returns
  have hts := atoms_spec (ws := wsX8_mixedSlots) B.pre
  have hown : s.vm.findClass RX8 = some m.cls := findClass_of_methodNamed B.named
  have hlocks := B.notSynchronized
  subst hsz
  have hD := hD0
  generalize hAe : va_A [] s.heap.size = A
  have hA : ∀ q : Nat, s.heap.size ≤ q → A q := fun q h => by rw [← hAe]; exact Or.inr h
  have hS : va_S A s.heap s.heap [] := va_S.rf
  have hl := lv_entry ([.ref st, .long d]) (n := 6) (Nat.le_of_ble_eq_true rfl)
  rw [lg_entry_eq]
  generalize (lg_sl ([.ref st, .long d]) ++ List.replicate (6 - (lg_sl ([.ref st, .long d])).length) Slot.unset).toArray = ls at hl ⊢
  have hl : lv_has ls 6 [(0, .ref st), (1, .long d)] := hl
  have hFX2 : ∀ w ∈ u_ws RX2 TX2 6, w ∈ wsX8_mixedSlots := by decide +kernel
  have hFX8 : ∀ w ∈ u_ws RX8 TX8 15, w ∈ wsX8_mixedSlots := by decide +kernel
  refine lv_lload_n hx hb dX8_mixedSlots_0 rfl (lv_at hl 1 rfl) ?_
  refine lv_lstore_n (lv' := [(3, .long d), (0, .ref st), (1, .long d)]) hx hb dX8_mixedSlots_1 rfl hl (by decide) rfl (fun ls hl => ?_)
  refine lv_aload_n hx hb dX8_mixedSlots_2 rfl (lv_at hl 1 rfl) ?_
  refine va_get (D := xD g) (ci := 8) (v := .int 1) (C := RX8) (T := TX8) (N := 15) hx hb hts hFX8 hown hK hP 0 rfl rfl 10 (by decide) (hts (.fieldLink RX8 268 "Stevedore" "hasSlots" "Z") (by decide +kernel)) (fun _ h9 => h9) rfl dX8_mixedSlots_3 ?_
  refine lv_if_ne (tgt := 11) hx hb dX8_mixedSlots_6 (by decide) (fun _ => ?_) (fun c0 => absurd c0 (by decide))
  refine lv_iconst (v := 0) hx hb dX8_mixedSlots_11 (by decide) ?_
  refine lv_istore (lv' := [(5, .int 0), (3, .long d), (0, .ref st), (1, .long d)]) hx hb dX8_mixedSlots_12 hl (by decide) rfl (fun ls hl => ?_)
  have hloop14 : ∀ (n9 : Nat) (k : Nat) (dl : Int64) (H : Heap) (locs : List Loc) (ls : Array Slot), n - k < n9 → (k ≤ n) → (dl = dGs gsv d k) → va_P (xD g) vwCl [(st, .inr (8, [s0, s1, s2, s3, .ref ca, s5, s6, s7, s8, s9, .int 1, .ref gv, s12, s13, s14])), (ca, .inr (2, [.int (nI n), c1, c2, c3, c4, c5])), (gv, .inl (xI g, 24, .inl (fun j => nI (gsv j))))] H → va_D (fun _ => True) [(st, .inr (8, [s0, s1, s2, s3, .ref ca, s5, s6, s7, s8, s9, .int 1, .ref gv, s12, s13, s14])), (ca, .inr (2, [.int (nI n), c1, c2, c3, c4, c5])), (gv, .inl (xI g, 24, .inl (fun j => nI (gsv j))))] → va_S A s.heap H locs → lv_has ls 6 [(5, .int (nI k)), (0, .ref st), (3, .long dl)] → W p l e (headSpec wsX8_mixedSlots ({ frames := 1, cells := 0, slots := 0, locals := 22 })).room s m ([.ref st, .long d] : List Value).toArray below meth c H locs 0 0 (MQ below (va_Ql (fun (r : Int64) (_ : Unit) => r = dGs gsv d n) (fun (_ : Unit) (_ : State) => True) (A)) ([.ref st, .long d] : List Value).toArray s 0 0 A) (F0 m 14 ls []) := by
    intro n9
    induction n9 with
    | zero =>
      intro k dl H locs ls hm hk hdl hP hD hS hl
      exact absurd hm (Nat.not_lt_zero _)
    | succ n9 ih14 =>
      intro k dl H locs ls hm hk hdl hP hD hS hl
      refine lv_iload hx hb dX8_mixedSlots_14 (lv_at hl 0 rfl) ?_
      refine lv_aload_n hx hb dX8_mixedSlots_16 rfl (lv_at hl 1 rfl) ?_
      refine va_get (D := xD g) (ci := 8) (v := .ref ca) (C := RX8) (T := TX8) (N := 15) hx hb hts hFX8 hown hK hP 0 rfl rfl 4 (by decide) (hts (.fieldLink RX8 26 "Stevedore" "cargo" "LStevedore$Cargo;") (by decide +kernel)) (fun _ h9 => h9) rfl dX8_mixedSlots_17 ?_
      refine va_get (D := xD g) (ci := 2) (v := .int (nI n)) (C := RX2) (T := TX2) (N := 6) hx hb hts hFX2 hown hK hP 1 rfl rfl 0 (by decide) (hts (.fieldLink RX8 129 "Stevedore$Cargo" "count" "I") (by decide +kernel)) (fun _ h9 => h9) rfl dX8_mixedSlots_20 ?_
      refine lv_icmp_ge (tgt := 60) hx hb dX8_mixedSlots_23 (by decide) (fun c_1 => ?_) (fun c_1 => ?_)
      · have nc_1 := (nI_leI (a := n) (b := k) (by omega) (by omega)).mp c_1
        refine lv_lload_n hx hb dX8_mixedSlots_60 rfl (lv_at hl 2 rfl) ?_
        exact W.lret (v := dl) hx hb hr (fun t ht hW => ⟨⟨dl, (), rfl, (by obtain rfl : k = n := (by omega); rw [hdl]), trivial⟩, hS.F ht⟩) hS.2.2 dX8_mixedSlots_61
      · have nc_1 := mt (nI_leI (a := n) (b := k) (by omega) (by omega)).mpr c_1
        refine lv_lload_n hx hb dX8_mixedSlots_26 rfl (lv_at hl 2 rfl) ?_
        refine lv_aload_n hx hb dX8_mixedSlots_27 rfl (lv_at hl 1 rfl) ?_
        refine va_get (D := xD g) (ci := 8) (v := .ref gv) (C := RX8) (T := TX8) (N := 15) hx hb hts hFX8 hown hK hP 0 rfl rfl 11 (by decide) (hts (.fieldLink RX8 68 "Stevedore" "givenSlot" "[I") (by decide +kernel)) (fun _ h9 => h9) rfl dX8_mixedSlots_28 ?_
        refine lv_iload hx hb dX8_mixedSlots_31 (lv_at hl 0 rfl) ?_
        refine va_iald hx hb hK hP 2 0 rfl rfl (vp_in_nI (by omega) (by omega)) dX8_mixedSlots_33 ?_
        refine lv_topi (fun v_2 ev => ?_)
        obtain rfl : v_2 = nI (gsv k) := ev.trans (congrArg (fun q9 => nI (gsv q9)) (nI_clamp (by omega)))
        have b_3 := b_gsv k
        refine lv_bipush (v := 16) hx hb dX8_mixedSlots_34 (by decide) ?_
        refine lv_icmp_ne (tgt := 43) hx hb dX8_mixedSlots_36 (by decide) (fun c_4 => ?_) (fun c_4 => ?_)
        · have nc_4 := mt (nI_eq (a := gsv k) (b := 16) (by omega) (by omega)).mpr c_4
          refine lv_aload_n hx hb dX8_mixedSlots_43 rfl (lv_at hl 1 rfl) ?_
          refine va_get (D := xD g) (ci := 8) (v := .ref gv) (C := RX8) (T := TX8) (N := 15) hx hb hts hFX8 hown hK hP 0 rfl rfl 11 (by decide) (hts (.fieldLink RX8 68 "Stevedore" "givenSlot" "[I") (by decide +kernel)) (fun _ h9 => h9) rfl dX8_mixedSlots_44 ?_
          refine lv_iload hx hb dX8_mixedSlots_47 (lv_at hl 0 rfl) ?_
          refine va_iald hx hb hK hP 2 0 rfl rfl (vp_in_nI (by omega) (by omega)) dX8_mixedSlots_49 ?_
          refine lv_topi (fun v_5 ev => ?_)
          obtain rfl : v_5 = nI (gsv k) := ev.trans (congrArg (fun q9 => nI (gsv q9)) (nI_clamp (by omega)))
          have b_6 := b_gsv k
          have hPc := hP.sub (ws' := []) [] rfl
          have hDc := hD.sub (ws' := []) [] (by decide) rfl
          have hFc := xFree hS hA
          refine va_calll (va_runS (As := [.long dl, .int (nI (gsv k))]) (rest := []) ⟨hx, hb, hml, hown, hts⟩ (d_mixed l g H.size dl (nI (gsv k))) (va_cwS 2 hts gX8_mixedSlots_X8_mixed rfl rfl rfl (by decide +kernel) ⟨Nat.le_of_ble_eq_true rfl, Nat.le_of_ble_eq_true rfl⟩) ⟨xB.blind, fun U9 hU9 hW9 => ⟨rfl, xB.mk hPc hK hDc hU9 hW9⟩⟩ rfl rfl hl.1 rfl (lv_room (Nat.le_of_ble_eq_true rfl)) dX8_mixedSlots_50 ⟨Nat.le_of_ble_eq_true rfl, Nat.le_of_ble_eq_true rfl⟩) hS (fun q _ h => hFc q h) hFc (fun r_7 _ t H1 locs ht hvm hw_8 hB hz1 hk1 hS => ?_)
          have hP := xSame hP hk1
          generalize H1 = H at hP hS ⊢
          have hP : va_P (xD g) vwCl [(st, .inr (8, [s0, s1, s2, s3, .ref ca, s5, s6, s7, s8, s9, .int 1, .ref gv, s12, s13, s14])), (ca, .inr (2, [.int (nI n), c1, c2, c3, c4, c5])), (gv, .inl (xI g, 24, .inl (fun j => nI (gsv j))))] H := hP
          have hD : va_D (fun _ => True) [(st, .inr (8, [s0, s1, s2, s3, .ref ca, s5, s6, s7, s8, s9, .int 1, .ref gv, s12, s13, s14])), (ca, .inr (2, [.int (nI n), c1, c2, c3, c4, c5])), (gv, .inl (xI g, 24, .inl (fun j => nI (gsv j))))] := hD
          try dsimp only at hw_8
          obtain rfl : r_7 = dM dl (nI (gsv k)) := hw_8
          refine lv_lstore_n (lv' := [(3, .long (dM dl (nI (gsv k)))), (5, .int (nI k)), (0, .ref st)]) hx hb dX8_mixedSlots_53 rfl hl (by decide) rfl (fun ls hl => ?_)
          refine lv_iinc (v := nI (k + 1)) (lv' := [(5, .int (nI (k + 1))), (3, .long (dM dl (nI (gsv k)))), (0, .ref st)]) hx hb dX8_mixedSlots_54 hl (k := 1) rfl (nI_add k 1) (by decide) rfl (fun ls hl => ?_)
          refine lv_goto (tgt := 14) hx hb dX8_mixedSlots_57 (by decide) ?_
          exact ih14 (k + 1) (dM dl (nI (gsv k))) _ _ _ (by omega) (by omega) (by rw [hdl]; simp only [dGs]; first | (rw [if_pos (by omega)]) | (rw [if_neg (by omega)])) hP hD hS (lv_sub hl [0, 2, 1] rfl)
        · have nc_4 := (nI_eq (a := gsv k) (b := 16) (by omega) (by omega)).mp c_4
          refine lv_iconst (v := (-1)) hx hb dX8_mixedSlots_39 (by decide) ?_
          refine lv_goto (tgt := 50) hx hb dX8_mixedSlots_40 (by decide) ?_
          have hPc := hP.sub (ws' := []) [] rfl
          have hDc := hD.sub (ws' := []) [] (by decide) rfl
          have hFc := xFree hS hA
          refine va_calll (va_runS (As := [.long dl, .int (-1)]) (rest := []) ⟨hx, hb, hml, hown, hts⟩ (d_mixed l g H.size dl (-1)) (va_cwS 2 hts gX8_mixedSlots_X8_mixed rfl rfl rfl (by decide +kernel) ⟨Nat.le_of_ble_eq_true rfl, Nat.le_of_ble_eq_true rfl⟩) ⟨xB.blind, fun U9 hU9 hW9 => ⟨rfl, xB.mk hPc hK hDc hU9 hW9⟩⟩ rfl rfl hl.1 rfl (lv_room (Nat.le_of_ble_eq_true rfl)) dX8_mixedSlots_50 ⟨Nat.le_of_ble_eq_true rfl, Nat.le_of_ble_eq_true rfl⟩) hS (fun q _ h => hFc q h) hFc (fun r_9 _ t H1 locs ht hvm hw_10 hB hz1 hk1 hS => ?_)
          have hP := xSame hP hk1
          generalize H1 = H at hP hS ⊢
          have hP : va_P (xD g) vwCl [(st, .inr (8, [s0, s1, s2, s3, .ref ca, s5, s6, s7, s8, s9, .int 1, .ref gv, s12, s13, s14])), (ca, .inr (2, [.int (nI n), c1, c2, c3, c4, c5])), (gv, .inl (xI g, 24, .inl (fun j => nI (gsv j))))] H := hP
          have hD : va_D (fun _ => True) [(st, .inr (8, [s0, s1, s2, s3, .ref ca, s5, s6, s7, s8, s9, .int 1, .ref gv, s12, s13, s14])), (ca, .inr (2, [.int (nI n), c1, c2, c3, c4, c5])), (gv, .inl (xI g, 24, .inl (fun j => nI (gsv j))))] := hD
          try dsimp only at hw_10
          obtain rfl : r_9 = dM dl (-1) := hw_10
          refine lv_lstore_n (lv' := [(3, .long (dM dl (-1))), (5, .int (nI k)), (0, .ref st)]) hx hb dX8_mixedSlots_53 rfl hl (by decide) rfl (fun ls hl => ?_)
          refine lv_iinc (v := nI (k + 1)) (lv' := [(5, .int (nI (k + 1))), (3, .long (dM dl (-1))), (0, .ref st)]) hx hb dX8_mixedSlots_54 hl (k := 1) rfl (nI_add k 1) (by decide) rfl (fun ls hl => ?_)
          refine lv_goto (tgt := 14) hx hb dX8_mixedSlots_57 (by decide) ?_
          exact ih14 (k + 1) (dM dl (-1)) _ _ _ (by omega) (by omega) (by rw [hdl]; simp only [dGs]; first | (rw [if_pos (by omega)]) | (rw [if_neg (by omega)])) hP hD hS (lv_sub hl [0, 2, 1] rfl)
  exact hloop14 (n + 1) 0 d _ _ _ (by omega) (Nat.zero_le _) rfl hP hD hS (by rw [(show nI 0 = (0 : Int32) from by decide)]; exact lv_sub hl [0, 2, 1] rfl)
theorem dX8_mixedAgenda_0 : decode cX8_mixedAgenda 0 = .ok (.lload_n 1, 1) := by decide +kernel
theorem dX8_mixedAgenda_1 : decode cX8_mixedAgenda 1 = .ok (.aload_n 0, 1) := by decide +kernel
theorem dX8_mixedAgenda_2 : decode cX8_mixedAgenda 2 = .ok (.getfield 74, 3) := by decide +kernel
theorem dX8_mixedAgenda_5 : decode cX8_mixedAgenda 5 = .ok (.getfield 278, 3) := by decide +kernel
theorem dX8_mixedAgenda_8 : decode cX8_mixedAgenda 8 = .ok (.invokestatic 339, 3) := by decide +kernel
set_option maxRecDepth 20000 in
theorem ggX8_mixedAgenda_X8_mixed : GoodIn wsX8_mixedAgenda wsX8_mixed := goodIn_r _ [6, 7] rfl (by decide +kernel)
set_option maxRecDepth 20000 in
theorem gX8_mixedAgenda_X8_mixed : GoodIn wsX8_mixedAgenda (va_wsS RX8 339 yX8_mixed wsX8_mixed) := goodIn_app (goodIn_of _ (by decide +kernel)) ggX8_mixedAgenda_X8_mixed
theorem dX8_mixedAgenda_11 : decode cX8_mixedAgenda 11 = .ok (.lstore_n 3, 1) := by decide +kernel
theorem dX8_mixedAgenda_12 : decode cX8_mixedAgenda 12 = .ok (.iconst 0, 1) := by decide +kernel
theorem dX8_mixedAgenda_13 : decode cX8_mixedAgenda 13 = .ok (.istore 5, 2) := by decide +kernel
theorem dX8_mixedAgenda_15 : decode cX8_mixedAgenda 15 = .ok (.iload 5, 2) := by decide +kernel
theorem dX8_mixedAgenda_17 : decode cX8_mixedAgenda 17 = .ok (.aload_n 0, 1) := by decide +kernel
theorem dX8_mixedAgenda_18 : decode cX8_mixedAgenda 18 = .ok (.getfield 74, 3) := by decide +kernel
theorem dX8_mixedAgenda_21 : decode cX8_mixedAgenda 21 = .ok (.getfield 278, 3) := by decide +kernel
theorem dX8_mixedAgenda_24 : decode cX8_mixedAgenda 24 = .ok (.if_icmp .ge 51, 3) := by decide +kernel
theorem dX8_mixedAgenda_75 : decode cX8_mixedAgenda 75 = .ok (.lload_n 3, 1) := by decide +kernel
theorem dX8_mixedAgenda_76 : decode cX8_mixedAgenda 76 = .ok (.lreturn, 1) := by decide +kernel
theorem dX8_mixedAgenda_27 : decode cX8_mixedAgenda 27 = .ok (.lload_n 3, 1) := by decide +kernel
theorem dX8_mixedAgenda_28 : decode cX8_mixedAgenda 28 = .ok (.aload_n 0, 1) := by decide +kernel
theorem dX8_mixedAgenda_29 : decode cX8_mixedAgenda 29 = .ok (.getfield 74, 3) := by decide +kernel
theorem dX8_mixedAgenda_32 : decode cX8_mixedAgenda 32 = .ok (.iload 5, 2) := by decide +kernel
theorem dX8_mixedAgenda_34 : decode cX8_mixedAgenda 34 = .ok (.invokevirtual 282, 3) := by decide +kernel
set_option maxRecDepth 20000 in
theorem ggX8_mixedAgenda_X0_time : GoodIn wsX8_mixedAgenda wsX0_time := goodIn_r _ [12, 13, 37, 38] rfl (by decide +kernel)
set_option maxRecDepth 20000 in
theorem gX8_mixedAgenda_X0_time : GoodIn wsX8_mixedAgenda (wsV RX8 282 RX0 yX0_time wsX0_time) := goodIn_app (goodIn_of _ (by decide +kernel)) ggX8_mixedAgenda_X0_time
theorem dX8_mixedAgenda_37 : decode cX8_mixedAgenda 37 = .ok (.invokestatic 339, 3) := by decide +kernel
theorem dX8_mixedAgenda_40 : decode cX8_mixedAgenda 40 = .ok (.lstore_n 3, 1) := by decide +kernel
theorem dX8_mixedAgenda_41 : decode cX8_mixedAgenda 41 = .ok (.lload_n 3, 1) := by decide +kernel
theorem dX8_mixedAgenda_42 : decode cX8_mixedAgenda 42 = .ok (.aload_n 0, 1) := by decide +kernel
theorem dX8_mixedAgenda_43 : decode cX8_mixedAgenda 43 = .ok (.getfield 74, 3) := by decide +kernel
theorem dX8_mixedAgenda_46 : decode cX8_mixedAgenda 46 = .ok (.iload 5, 2) := by decide +kernel
theorem dX8_mixedAgenda_48 : decode cX8_mixedAgenda 48 = .ok (.invokevirtual 285, 3) := by decide +kernel
set_option maxRecDepth 20000 in
theorem ggX8_mixedAgenda_X0_kind : GoodIn wsX8_mixedAgenda wsX0_kind := goodIn_r _ [17, 13, 37, 38] rfl (by decide +kernel)
set_option maxRecDepth 20000 in
theorem gX8_mixedAgenda_X0_kind : GoodIn wsX8_mixedAgenda (wsV RX8 285 RX0 yX0_kind wsX0_kind) := goodIn_app (goodIn_of _ (by decide +kernel)) ggX8_mixedAgenda_X0_kind
theorem dX8_mixedAgenda_51 : decode cX8_mixedAgenda 51 = .ok (.invokestatic 339, 3) := by decide +kernel
theorem dX8_mixedAgenda_54 : decode cX8_mixedAgenda 54 = .ok (.lstore_n 3, 1) := by decide +kernel
theorem dX8_mixedAgenda_55 : decode cX8_mixedAgenda 55 = .ok (.lload_n 3, 1) := by decide +kernel
theorem dX8_mixedAgenda_56 : decode cX8_mixedAgenda 56 = .ok (.aload_n 0, 1) := by decide +kernel
theorem dX8_mixedAgenda_57 : decode cX8_mixedAgenda 57 = .ok (.getfield 74, 3) := by decide +kernel
theorem dX8_mixedAgenda_60 : decode cX8_mixedAgenda 60 = .ok (.iload 5, 2) := by decide +kernel
theorem dX8_mixedAgenda_62 : decode cX8_mixedAgenda 62 = .ok (.invokevirtual 288, 3) := by decide +kernel
set_option maxRecDepth 20000 in
theorem ggX8_mixedAgenda_X0_container : GoodIn wsX8_mixedAgenda wsX0_container := goodIn_r _ [21, 13, 37, 38] rfl (by decide +kernel)
set_option maxRecDepth 20000 in
theorem gX8_mixedAgenda_X0_container : GoodIn wsX8_mixedAgenda (wsV RX8 288 RX0 yX0_container wsX0_container) := goodIn_app (goodIn_of _ (by decide +kernel)) ggX8_mixedAgenda_X0_container
theorem dX8_mixedAgenda_65 : decode cX8_mixedAgenda 65 = .ok (.invokestatic 339, 3) := by decide +kernel
theorem dX8_mixedAgenda_68 : decode cX8_mixedAgenda 68 = .ok (.lstore_n 3, 1) := by decide +kernel
theorem dX8_mixedAgenda_69 : decode cX8_mixedAgenda 69 = .ok (.iinc 5 1, 3) := by decide +kernel
theorem dX8_mixedAgenda_72 : decode cX8_mixedAgenda 72 = .ok (.goto (-57), 3) := by decide +kernel
set_option maxHeartbeats 4000000 in
set_option maxRecDepth 100000 in
theorem d_agenda (l : Launch) (g : xG) (sz : Nat) (d : Int64) (st : Nat) (ag : Nat) (ky : Nat) (cnt : Nat) (s0 : Value) (s1 : Value) (s2 : Value) (s3 : Value) (s4 : Value) (s5 : Value) (s6 : Value) (s7 : Value) (s8 : Value) (s9 : Value) (s10 : Value) (s11 : Value) (s13 : Value) (s14 : Value) (kf : Nat → Nat)  (hcnt : cnt ≤ 48) (b_kf : ∀ j, kf j ≤ 100000000) : Met l yX8_mixedAgenda wsX8_mixedAgenda ({ frames := 1, cells := 0, slots := 0, locals := 22 }) (va_Pc [.ref st, .long d] (fun U => xB g [(st, .inr (8, [s0, s1, s2, s3, s4, s5, s6, s7, s8, s9, s10, s11, .ref ag, s13, s14])), (ag, .inr (0, [.int (nI cnt), .ref ky])), (ky, .inl (xI g, 48, .inl (fun j => nI (kf j))))] sz U)) (va_Ql (fun (r : Int64) (_ : Unit) => r = dAg kf (dM d (nI cnt)) cnt) (fun (_ : Unit) (_ : State) => True) (va_A [] sz)) 0 0 (va_A [] sz) := by
  refine Met.ofW (cc := cX8_mixedAgenda) (maxL := 6) (ret := (some .long)) (by decide) rfl ?_
  intro p e s m args below meth c s₁ B hml hv
  obtain ⟨rfl, hsz, hP, hK, hD0⟩ := hv
  have hx := B.exec
  have hb := B.bytes
  have hr := B.returns
  have hts := atoms_spec (ws := wsX8_mixedAgenda) B.pre
  have hown : s.vm.findClass RX8 = some m.cls := findClass_of_methodNamed B.named
  have hlocks := B.notSynchronized
  subst hsz
  have hD := hD0
  generalize hAe : va_A [] s.heap.size = A
  have hA : ∀ q : Nat, s.heap.size ≤ q → A q := fun q h => by rw [← hAe]; exact Or.inr h
  have hS : va_S A s.heap s.heap [] := va_S.rf
  have hl := lv_entry ([.ref st, .long d]) (n := 6) (Nat.le_of_ble_eq_true rfl)
  rw [lg_entry_eq]
  generalize (lg_sl ([.ref st, .long d]) ++ List.replicate (6 - (lg_sl ([.ref st, .long d])).length) Slot.unset).toArray = ls at hl ⊢
  have hl : lv_has ls 6 [(0, .ref st), (1, .long d)] := hl
  have hFX0 : ∀ w ∈ u_ws RX0 TX0 2, w ∈ wsX8_mixedAgenda := by decide +kernel
  have hFX8 : ∀ w ∈ u_ws RX8 TX8 15, w ∈ wsX8_mixedAgenda := by decide +kernel
  refine lv_lload_n hx hb dX8_mixedAgenda_0 rfl (lv_at hl 1 rfl) ?_
  refine lv_aload_n hx hb dX8_mixedAgenda_1 rfl (lv_at hl 0 rfl) ?_
  refine va_get (D := xD g) (ci := 8) (v := .ref ag) (C := RX8) (T := TX8) (N := 15) hx hb hts hFX8 hown hK hP 0 rfl rfl 12 (by decide) (hts (.fieldLink RX8 74 "Stevedore" "agenda" "LStevedore$Agenda;") (by decide +kernel)) (fun _ h9 => h9) rfl dX8_mixedAgenda_2 ?_
  refine va_get (D := xD g) (ci := 0) (v := .int (nI cnt)) (C := RX0) (T := TX0) (N := 2) hx hb hts hFX0 hown hK hP 1 rfl rfl 0 (by decide) (hts (.fieldLink RX8 278 "Stevedore$Agenda" "count" "I") (by decide +kernel)) (fun _ h9 => h9) rfl dX8_mixedAgenda_5 ?_
  have hPc := hP.sub (ws' := []) [] rfl
  have hDc := hD.sub (ws' := []) [] (by decide) rfl
  have hFc := xFree hS hA
  refine va_calll (va_runS (As := [.long d, .int (nI cnt)]) (rest := []) ⟨hx, hb, hml, hown, hts⟩ (d_mixed l g s.heap.size d (nI cnt)) (va_cwS 2 hts gX8_mixedAgenda_X8_mixed rfl rfl rfl (by decide +kernel) ⟨Nat.le_of_ble_eq_true rfl, Nat.le_of_ble_eq_true rfl⟩) ⟨xB.blind, fun U9 hU9 hW9 => ⟨rfl, xB.mk hPc hK hDc hU9 hW9⟩⟩ rfl rfl hl.1 rfl (lv_room (Nat.le_of_ble_eq_true rfl)) dX8_mixedAgenda_8 ⟨Nat.le_of_ble_eq_true rfl, Nat.le_of_ble_eq_true rfl⟩) hS (fun q _ h => hFc q h) hFc (fun r_1 _ t H1 locs ht hvm hw_2 hB hz1 hk1 hS => ?_)
  have hP := xSame hP hk1
  generalize H1 = H at hP hS ⊢
  have hP : va_P (xD g) vwCl [(st, .inr (8, [s0, s1, s2, s3, s4, s5, s6, s7, s8, s9, s10, s11, .ref ag, s13, s14])), (ag, .inr (0, [.int (nI cnt), .ref ky])), (ky, .inl (xI g, 48, .inl (fun j => nI (kf j))))] H := hP
  have hD : va_D (fun _ => True) [(st, .inr (8, [s0, s1, s2, s3, s4, s5, s6, s7, s8, s9, s10, s11, .ref ag, s13, s14])), (ag, .inr (0, [.int (nI cnt), .ref ky])), (ky, .inl (xI g, 48, .inl (fun j => nI (kf j))))] := hD
  try dsimp only at hw_2
  obtain rfl : r_1 = dM d (nI cnt) := hw_2
  refine lv_lstore_n (lv' := [(3, .long (dM d (nI cnt))), (0, .ref st), (1, .long d)]) hx hb dX8_mixedAgenda_11 rfl hl (by decide) rfl (fun ls hl => ?_)
  refine lv_iconst (v := 0) hx hb dX8_mixedAgenda_12 (by decide) ?_
  refine lv_istore (lv' := [(5, .int 0), (3, .long (dM d (nI cnt))), (0, .ref st), (1, .long d)]) hx hb dX8_mixedAgenda_13 hl (by decide) rfl (fun ls hl => ?_)
  have hloop15 : ∀ (n9 : Nat) (k : Nat) (dl : Int64) (H : Heap) (locs : List Loc) (ls : Array Slot), cnt - k < n9 → (k ≤ cnt) → (dl = dAg kf (dM d (nI cnt)) k) → va_P (xD g) vwCl [(st, .inr (8, [s0, s1, s2, s3, s4, s5, s6, s7, s8, s9, s10, s11, .ref ag, s13, s14])), (ag, .inr (0, [.int (nI cnt), .ref ky])), (ky, .inl (xI g, 48, .inl (fun j => nI (kf j))))] H → va_D (fun _ => True) [(st, .inr (8, [s0, s1, s2, s3, s4, s5, s6, s7, s8, s9, s10, s11, .ref ag, s13, s14])), (ag, .inr (0, [.int (nI cnt), .ref ky])), (ky, .inl (xI g, 48, .inl (fun j => nI (kf j))))] → va_S A s.heap H locs → lv_has ls 6 [(5, .int (nI k)), (0, .ref st), (3, .long dl)] → W p l e (headSpec wsX8_mixedAgenda ({ frames := 1, cells := 0, slots := 0, locals := 22 })).room s m ([.ref st, .long d] : List Value).toArray below meth c H locs 0 0 (MQ below (va_Ql (fun (r : Int64) (_ : Unit) => r = dAg kf (dM d (nI cnt)) cnt) (fun (_ : Unit) (_ : State) => True) (A)) ([.ref st, .long d] : List Value).toArray s 0 0 A) (F0 m 15 ls []) := by
    intro n9
    induction n9 with
    | zero =>
      intro k dl H locs ls hm hk hdl hP hD hS hl
      exact absurd hm (Nat.not_lt_zero _)
    | succ n9 ih15 =>
      intro k dl H locs ls hm hk hdl hP hD hS hl
      refine lv_iload hx hb dX8_mixedAgenda_15 (lv_at hl 0 rfl) ?_
      refine lv_aload_n hx hb dX8_mixedAgenda_17 rfl (lv_at hl 1 rfl) ?_
      refine va_get (D := xD g) (ci := 8) (v := .ref ag) (C := RX8) (T := TX8) (N := 15) hx hb hts hFX8 hown hK hP 0 rfl rfl 12 (by decide) (hts (.fieldLink RX8 74 "Stevedore" "agenda" "LStevedore$Agenda;") (by decide +kernel)) (fun _ h9 => h9) rfl dX8_mixedAgenda_18 ?_
      refine va_get (D := xD g) (ci := 0) (v := .int (nI cnt)) (C := RX0) (T := TX0) (N := 2) hx hb hts hFX0 hown hK hP 1 rfl rfl 0 (by decide) (hts (.fieldLink RX8 278 "Stevedore$Agenda" "count" "I") (by decide +kernel)) (fun _ h9 => h9) rfl dX8_mixedAgenda_21 ?_
      refine lv_icmp_ge (tgt := 75) hx hb dX8_mixedAgenda_24 (by decide) (fun c_3 => ?_) (fun c_3 => ?_)
      · have nc_3 := (nI_leI (a := cnt) (b := k) (by omega) (by omega)).mp c_3
        refine lv_lload_n hx hb dX8_mixedAgenda_75 rfl (lv_at hl 2 rfl) ?_
        exact W.lret (v := dl) hx hb hr (fun t ht hW => ⟨⟨dl, (), rfl, (by obtain rfl : k = cnt := (by omega); rw [hdl]), trivial⟩, hS.F ht⟩) hS.2.2 dX8_mixedAgenda_76
      · have nc_3 := mt (nI_leI (a := cnt) (b := k) (by omega) (by omega)).mpr c_3
        refine lv_lload_n hx hb dX8_mixedAgenda_27 rfl (lv_at hl 2 rfl) ?_
        refine lv_aload_n hx hb dX8_mixedAgenda_28 rfl (lv_at hl 1 rfl) ?_
        refine va_get (D := xD g) (ci := 8) (v := .ref ag) (C := RX8) (T := TX8) (N := 15) hx hb hts hFX8 hown hK hP 0 rfl rfl 12 (by decide) (hts (.fieldLink RX8 74 "Stevedore" "agenda" "LStevedore$Agenda;") (by decide +kernel)) (fun _ h9 => h9) rfl dX8_mixedAgenda_29 ?_
        refine lv_iload hx hb dX8_mixedAgenda_32 (lv_at hl 0 rfl) ?_
        have hPc := hP.sub (ws' := [(ag, .inr (0, [.int (nI cnt), .ref ky])), (ky, .inl (xI g, 48, .inl (fun j => nI (kf j))))]) [1, 2] rfl
        have hDc := hD.sub (ws' := [(ag, .inr (0, [.int (nI cnt), .ref ky])), (ky, .inl (xI g, 48, .inl (fun j => nI (kf j))))]) [1, 2] (by decide) rfl
        have hFc := xFree hS hA
        refine va_calli (va_runV (As := [.int (nI k)]) (rest := [.long dl]) ⟨hx, hb, hml, hown, hts⟩ (a_time l g H.size ag ky k (.int (nI cnt)) kf (by first | assumption | omega) b_kf) (cwV 1 hts gX8_mixedAgenda_X0_time rfl rfl rfl (by decide +kernel) ⟨Nat.le_of_ble_eq_true rfl, Nat.le_of_ble_eq_true rfl⟩) ⟨xB.blind, va_recv hK hPc (ci := 0) (q0 := 0) rfl rfl, fun U9 hU9 hW9 => ⟨rfl, xB.mk hPc hK hDc hU9 hW9⟩⟩ rfl rfl hl.1 rfl (lv_room (Nat.le_of_ble_eq_true rfl)) dX8_mixedAgenda_34 ⟨Nat.le_of_ble_eq_true rfl, Nat.le_of_ble_eq_true rfl⟩) hS (fun q _ h => hFc q h) hFc (fun r_4 _ t H1 locs ht hvm hw_5 hB hz1 hk1 hS => ?_)
        have hP := xSame hP hk1
        generalize H1 = H at hP hS ⊢
        have hP : va_P (xD g) vwCl [(st, .inr (8, [s0, s1, s2, s3, s4, s5, s6, s7, s8, s9, s10, s11, .ref ag, s13, s14])), (ag, .inr (0, [.int (nI cnt), .ref ky])), (ky, .inl (xI g, 48, .inl (fun j => nI (kf j))))] H := hP
        have hD : va_D (fun _ => True) [(st, .inr (8, [s0, s1, s2, s3, s4, s5, s6, s7, s8, s9, s10, s11, .ref ag, s13, s14])), (ag, .inr (0, [.int (nI cnt), .ref ky])), (ky, .inl (xI g, 48, .inl (fun j => nI (kf j))))] := hD
        try dsimp only at hw_5
        obtain rfl : r_4 = nI (kf k / 128) := hw_5
        have hPc := hP.sub (ws' := []) [] rfl
        have hDc := hD.sub (ws' := []) [] (by decide) rfl
        have hFc := xFree hS hA
        refine va_calll (va_runS (As := [.long dl, .int (nI (kf k / 128))]) (rest := []) ⟨hx, hb, hml, hown, hts⟩ (d_mixed l g H.size dl (nI (kf k / 128))) (va_cwS 2 hts gX8_mixedAgenda_X8_mixed rfl rfl rfl (by decide +kernel) ⟨Nat.le_of_ble_eq_true rfl, Nat.le_of_ble_eq_true rfl⟩) ⟨xB.blind, fun U9 hU9 hW9 => ⟨rfl, xB.mk hPc hK hDc hU9 hW9⟩⟩ rfl rfl hl.1 rfl (lv_room (Nat.le_of_ble_eq_true rfl)) dX8_mixedAgenda_37 ⟨Nat.le_of_ble_eq_true rfl, Nat.le_of_ble_eq_true rfl⟩) hS (fun q _ h => hFc q h) hFc (fun r_6 _ t H1 locs ht hvm hw_7 hB hz1 hk1 hS => ?_)
        have hP := xSame hP hk1
        generalize H1 = H at hP hS ⊢
        have hP : va_P (xD g) vwCl [(st, .inr (8, [s0, s1, s2, s3, s4, s5, s6, s7, s8, s9, s10, s11, .ref ag, s13, s14])), (ag, .inr (0, [.int (nI cnt), .ref ky])), (ky, .inl (xI g, 48, .inl (fun j => nI (kf j))))] H := hP
        have hD : va_D (fun _ => True) [(st, .inr (8, [s0, s1, s2, s3, s4, s5, s6, s7, s8, s9, s10, s11, .ref ag, s13, s14])), (ag, .inr (0, [.int (nI cnt), .ref ky])), (ky, .inl (xI g, 48, .inl (fun j => nI (kf j))))] := hD
        try dsimp only at hw_7
        obtain rfl : r_6 = dM dl (nI (kf k / 128)) := hw_7
        refine lv_lstore_n (lv' := [(3, .long (dM dl (nI (kf k / 128)))), (5, .int (nI k)), (0, .ref st)]) hx hb dX8_mixedAgenda_40 rfl hl (by decide) rfl (fun ls hl => ?_)
        refine lv_lload_n hx hb dX8_mixedAgenda_41 rfl (lv_at hl 0 rfl) ?_
        refine lv_aload_n hx hb dX8_mixedAgenda_42 rfl (lv_at hl 2 rfl) ?_
        refine va_get (D := xD g) (ci := 8) (v := .ref ag) (C := RX8) (T := TX8) (N := 15) hx hb hts hFX8 hown hK hP 0 rfl rfl 12 (by decide) (hts (.fieldLink RX8 74 "Stevedore" "agenda" "LStevedore$Agenda;") (by decide +kernel)) (fun _ h9 => h9) rfl dX8_mixedAgenda_43 ?_
        refine lv_iload hx hb dX8_mixedAgenda_46 (lv_at hl 1 rfl) ?_
        have hPc := hP.sub (ws' := [(ag, .inr (0, [.int (nI cnt), .ref ky])), (ky, .inl (xI g, 48, .inl (fun j => nI (kf j))))]) [1, 2] rfl
        have hDc := hD.sub (ws' := [(ag, .inr (0, [.int (nI cnt), .ref ky])), (ky, .inl (xI g, 48, .inl (fun j => nI (kf j))))]) [1, 2] (by decide) rfl
        have hFc := xFree hS hA
        refine va_calli (va_runV (As := [.int (nI k)]) (rest := [.long (dM dl (nI (kf k / 128)))]) ⟨hx, hb, hml, hown, hts⟩ (a_kind l g H.size ag ky k (.int (nI cnt)) kf (by first | assumption | omega) b_kf) (cwV 1 hts gX8_mixedAgenda_X0_kind rfl rfl rfl (by decide +kernel) ⟨Nat.le_of_ble_eq_true rfl, Nat.le_of_ble_eq_true rfl⟩) ⟨xB.blind, va_recv hK hPc (ci := 0) (q0 := 0) rfl rfl, fun U9 hU9 hW9 => ⟨rfl, xB.mk hPc hK hDc hU9 hW9⟩⟩ rfl rfl hl.1 rfl (lv_room (Nat.le_of_ble_eq_true rfl)) dX8_mixedAgenda_48 ⟨Nat.le_of_ble_eq_true rfl, Nat.le_of_ble_eq_true rfl⟩) hS (fun q _ h => hFc q h) hFc (fun r_8 _ t H1 locs ht hvm hw_9 hB hz1 hk1 hS => ?_)
        have hP := xSame hP hk1
        generalize H1 = H at hP hS ⊢
        have hP : va_P (xD g) vwCl [(st, .inr (8, [s0, s1, s2, s3, s4, s5, s6, s7, s8, s9, s10, s11, .ref ag, s13, s14])), (ag, .inr (0, [.int (nI cnt), .ref ky])), (ky, .inl (xI g, 48, .inl (fun j => nI (kf j))))] H := hP
        have hD : va_D (fun _ => True) [(st, .inr (8, [s0, s1, s2, s3, s4, s5, s6, s7, s8, s9, s10, s11, .ref ag, s13, s14])), (ag, .inr (0, [.int (nI cnt), .ref ky])), (ky, .inl (xI g, 48, .inl (fun j => nI (kf j))))] := hD
        try dsimp only at hw_9
        obtain rfl : r_8 = nI (eK kf k) := hw_9
        have hPc := hP.sub (ws' := []) [] rfl
        have hDc := hD.sub (ws' := []) [] (by decide) rfl
        have hFc := xFree hS hA
        refine va_calll (va_runS (As := [.long (dM dl (nI (kf k / 128))), .int (nI (eK kf k))]) (rest := []) ⟨hx, hb, hml, hown, hts⟩ (d_mixed l g H.size (dM dl (nI (kf k / 128))) (nI (eK kf k))) (va_cwS 2 hts gX8_mixedAgenda_X8_mixed rfl rfl rfl (by decide +kernel) ⟨Nat.le_of_ble_eq_true rfl, Nat.le_of_ble_eq_true rfl⟩) ⟨xB.blind, fun U9 hU9 hW9 => ⟨rfl, xB.mk hPc hK hDc hU9 hW9⟩⟩ rfl rfl hl.1 rfl (lv_room (Nat.le_of_ble_eq_true rfl)) dX8_mixedAgenda_51 ⟨Nat.le_of_ble_eq_true rfl, Nat.le_of_ble_eq_true rfl⟩) hS (fun q _ h => hFc q h) hFc (fun r_10 _ t H1 locs ht hvm hw_11 hB hz1 hk1 hS => ?_)
        have hP := xSame hP hk1
        generalize H1 = H at hP hS ⊢
        have hP : va_P (xD g) vwCl [(st, .inr (8, [s0, s1, s2, s3, s4, s5, s6, s7, s8, s9, s10, s11, .ref ag, s13, s14])), (ag, .inr (0, [.int (nI cnt), .ref ky])), (ky, .inl (xI g, 48, .inl (fun j => nI (kf j))))] H := hP
        have hD : va_D (fun _ => True) [(st, .inr (8, [s0, s1, s2, s3, s4, s5, s6, s7, s8, s9, s10, s11, .ref ag, s13, s14])), (ag, .inr (0, [.int (nI cnt), .ref ky])), (ky, .inl (xI g, 48, .inl (fun j => nI (kf j))))] := hD
        try dsimp only at hw_11
        obtain rfl : r_10 = dM (dM dl (nI (kf k / 128))) (nI (eK kf k)) := hw_11
        refine lv_lstore_n (lv' := [(3, .long (dM (dM dl (nI (kf k / 128))) (nI (eK kf k)))), (5, .int (nI k)), (0, .ref st)]) hx hb dX8_mixedAgenda_54 rfl hl (by decide) rfl (fun ls hl => ?_)
        refine lv_lload_n hx hb dX8_mixedAgenda_55 rfl (lv_at hl 0 rfl) ?_
        refine lv_aload_n hx hb dX8_mixedAgenda_56 rfl (lv_at hl 2 rfl) ?_
        refine va_get (D := xD g) (ci := 8) (v := .ref ag) (C := RX8) (T := TX8) (N := 15) hx hb hts hFX8 hown hK hP 0 rfl rfl 12 (by decide) (hts (.fieldLink RX8 74 "Stevedore" "agenda" "LStevedore$Agenda;") (by decide +kernel)) (fun _ h9 => h9) rfl dX8_mixedAgenda_57 ?_
        refine lv_iload hx hb dX8_mixedAgenda_60 (lv_at hl 1 rfl) ?_
        have hPc := hP.sub (ws' := [(ag, .inr (0, [.int (nI cnt), .ref ky])), (ky, .inl (xI g, 48, .inl (fun j => nI (kf j))))]) [1, 2] rfl
        have hDc := hD.sub (ws' := [(ag, .inr (0, [.int (nI cnt), .ref ky])), (ky, .inl (xI g, 48, .inl (fun j => nI (kf j))))]) [1, 2] (by decide) rfl
        have hFc := xFree hS hA
        refine va_calli (va_runV (As := [.int (nI k)]) (rest := [.long (dM (dM dl (nI (kf k / 128))) (nI (eK kf k)))]) ⟨hx, hb, hml, hown, hts⟩ (a_container l g H.size ag ky k (.int (nI cnt)) kf (by first | assumption | omega) b_kf) (cwV 1 hts gX8_mixedAgenda_X0_container rfl rfl rfl (by decide +kernel) ⟨Nat.le_of_ble_eq_true rfl, Nat.le_of_ble_eq_true rfl⟩) ⟨xB.blind, va_recv hK hPc (ci := 0) (q0 := 0) rfl rfl, fun U9 hU9 hW9 => ⟨rfl, xB.mk hPc hK hDc hU9 hW9⟩⟩ rfl rfl hl.1 rfl (lv_room (Nat.le_of_ble_eq_true rfl)) dX8_mixedAgenda_62 ⟨Nat.le_of_ble_eq_true rfl, Nat.le_of_ble_eq_true rfl⟩) hS (fun q _ h => hFc q h) hFc (fun r_12 _ t H1 locs ht hvm hw_13 hB hz1 hk1 hS => ?_)
        have hP := xSame hP hk1
        generalize H1 = H at hP hS ⊢
        have hP : va_P (xD g) vwCl [(st, .inr (8, [s0, s1, s2, s3, s4, s5, s6, s7, s8, s9, s10, s11, .ref ag, s13, s14])), (ag, .inr (0, [.int (nI cnt), .ref ky])), (ky, .inl (xI g, 48, .inl (fun j => nI (kf j))))] H := hP
        have hD : va_D (fun _ => True) [(st, .inr (8, [s0, s1, s2, s3, s4, s5, s6, s7, s8, s9, s10, s11, .ref ag, s13, s14])), (ag, .inr (0, [.int (nI cnt), .ref ky])), (ky, .inl (xI g, 48, .inl (fun j => nI (kf j))))] := hD
        try dsimp only at hw_13
        obtain rfl : r_12 = nI (eC kf k) := hw_13
        have hPc := hP.sub (ws' := []) [] rfl
        have hDc := hD.sub (ws' := []) [] (by decide) rfl
        have hFc := xFree hS hA
        refine va_calll (va_runS (As := [.long (dM (dM dl (nI (kf k / 128))) (nI (eK kf k))), .int (nI (eC kf k))]) (rest := []) ⟨hx, hb, hml, hown, hts⟩ (d_mixed l g H.size (dM (dM dl (nI (kf k / 128))) (nI (eK kf k))) (nI (eC kf k))) (va_cwS 2 hts gX8_mixedAgenda_X8_mixed rfl rfl rfl (by decide +kernel) ⟨Nat.le_of_ble_eq_true rfl, Nat.le_of_ble_eq_true rfl⟩) ⟨xB.blind, fun U9 hU9 hW9 => ⟨rfl, xB.mk hPc hK hDc hU9 hW9⟩⟩ rfl rfl hl.1 rfl (lv_room (Nat.le_of_ble_eq_true rfl)) dX8_mixedAgenda_65 ⟨Nat.le_of_ble_eq_true rfl, Nat.le_of_ble_eq_true rfl⟩) hS (fun q _ h => hFc q h) hFc (fun r_14 _ t H1 locs ht hvm hw_15 hB hz1 hk1 hS => ?_)
        have hP := xSame hP hk1
        generalize H1 = H at hP hS ⊢
        have hP : va_P (xD g) vwCl [(st, .inr (8, [s0, s1, s2, s3, s4, s5, s6, s7, s8, s9, s10, s11, .ref ag, s13, s14])), (ag, .inr (0, [.int (nI cnt), .ref ky])), (ky, .inl (xI g, 48, .inl (fun j => nI (kf j))))] H := hP
        have hD : va_D (fun _ => True) [(st, .inr (8, [s0, s1, s2, s3, s4, s5, s6, s7, s8, s9, s10, s11, .ref ag, s13, s14])), (ag, .inr (0, [.int (nI cnt), .ref ky])), (ky, .inl (xI g, 48, .inl (fun j => nI (kf j))))] := hD
        try dsimp only at hw_15
        obtain rfl : r_14 = dM (dM (dM dl (nI (kf k / 128))) (nI (eK kf k))) (nI (eC kf k)) := hw_15
        refine lv_lstore_n (lv' := [(3, .long (dM (dM (dM dl (nI (kf k / 128))) (nI (eK kf k))) (nI (eC kf k)))), (5, .int (nI k)), (0, .ref st)]) hx hb dX8_mixedAgenda_68 rfl hl (by decide) rfl (fun ls hl => ?_)
        refine lv_iinc (v := nI (k + 1)) (lv' := [(5, .int (nI (k + 1))), (3, .long (dM (dM (dM dl (nI (kf k / 128))) (nI (eK kf k))) (nI (eC kf k)))), (0, .ref st)]) hx hb dX8_mixedAgenda_69 hl (k := 1) rfl (nI_add k 1) (by decide) rfl (fun ls hl => ?_)
        refine lv_goto (tgt := 15) hx hb dX8_mixedAgenda_72 (by decide) ?_
        exact ih15 (k + 1) (dM (dM (dM dl (nI (kf k / 128))) (nI (eK kf k))) (nI (eC kf k))) _ _ _ (by omega) (by omega) (by rw [hdl]; rfl) hP hD hS (lv_sub hl [0, 2, 1] rfl)
  exact hloop15 (cnt + 1) 0 (dM d (nI cnt)) _ _ _ (by omega) (Nat.zero_le _) rfl hP hD hS (by rw [(show nI 0 = (0 : Int32) from by decide)]; exact lv_sub hl [0, 2, 1] rfl)
theorem dX8_mixedYard_0 : decode cX8_mixedYard 0 = .ok (.lload_n 1, 1) := by decide +kernel
theorem dX8_mixedYard_1 : decode cX8_mixedYard 1 = .ok (.lstore_n 3, 1) := by decide +kernel
theorem dX8_mixedYard_2 : decode cX8_mixedYard 2 = .ok (.iconst 0, 1) := by decide +kernel
theorem dX8_mixedYard_3 : decode cX8_mixedYard 3 = .ok (.istore 5, 2) := by decide +kernel
theorem dX8_mixedYard_5 : decode cX8_mixedYard 5 = .ok (.iload 5, 2) := by decide +kernel
theorem dX8_mixedYard_7 : decode cX8_mixedYard 7 = .ok (.aload_n 0, 1) := by decide +kernel
theorem dX8_mixedYard_8 : decode cX8_mixedYard 8 = .ok (.getfield 26, 3) := by decide +kernel
theorem dX8_mixedYard_11 : decode cX8_mixedYard 11 = .ok (.getfield 129, 3) := by decide +kernel
theorem dX8_mixedYard_14 : decode cX8_mixedYard 14 = .ok (.if_icmp .ge 39, 3) := by decide +kernel
theorem dX8_mixedYard_53 : decode cX8_mixedYard 53 = .ok (.iconst 0, 1) := by decide +kernel
theorem dX8_mixedYard_54 : decode cX8_mixedYard 54 = .ok (.istore 5, 2) := by decide +kernel
theorem dX8_mixedYard_56 : decode cX8_mixedYard 56 = .ok (.iload 5, 2) := by decide +kernel
theorem dX8_mixedYard_58 : decode cX8_mixedYard 58 = .ok (.aload_n 0, 1) := by decide +kernel
theorem dX8_mixedYard_59 : decode cX8_mixedYard 59 = .ok (.getfield 81, 3) := by decide +kernel
theorem dX8_mixedYard_62 : decode cX8_mixedYard 62 = .ok (.getfield 162, 3) := by decide +kernel
theorem dX8_mixedYard_65 : decode cX8_mixedYard 65 = .ok (.if_icmp .ge 66, 3) := by decide +kernel
theorem dX8_mixedYard_131 : decode cX8_mixedYard 131 = .ok (.lload_n 3, 1) := by decide +kernel
theorem dX8_mixedYard_132 : decode cX8_mixedYard 132 = .ok (.aload_n 0, 1) := by decide +kernel
theorem dX8_mixedYard_133 : decode cX8_mixedYard 133 = .ok (.getfield 81, 3) := by decide +kernel
theorem dX8_mixedYard_136 : decode cX8_mixedYard 136 = .ok (.getfield 319, 3) := by decide +kernel
theorem dX8_mixedYard_139 : decode cX8_mixedYard 139 = .ok (.invokestatic 339, 3) := by decide +kernel
set_option maxRecDepth 20000 in
theorem ggX8_mixedYard_X8_mixed : GoodIn wsX8_mixedYard wsX8_mixed := goodIn_r _ [13, 14] rfl (by decide +kernel)
set_option maxRecDepth 20000 in
theorem gX8_mixedYard_X8_mixed : GoodIn wsX8_mixedYard (va_wsS RX8 339 yX8_mixed wsX8_mixed) := goodIn_app (goodIn_of _ (by decide +kernel)) ggX8_mixedYard_X8_mixed
theorem dX8_mixedYard_142 : decode cX8_mixedYard 142 = .ok (.lstore_n 3, 1) := by decide +kernel
theorem dX8_mixedYard_143 : decode cX8_mixedYard 143 = .ok (.lload_n 3, 1) := by decide +kernel
theorem dX8_mixedYard_144 : decode cX8_mixedYard 144 = .ok (.aload_n 0, 1) := by decide +kernel
theorem dX8_mixedYard_145 : decode cX8_mixedYard 145 = .ok (.getfield 81, 3) := by decide +kernel
theorem dX8_mixedYard_148 : decode cX8_mixedYard 148 = .ok (.invokevirtual 322, 3) := by decide +kernel
set_option maxRecDepth 20000 in
theorem ggX8_mixedYard_X7_countBlocking : GoodIn wsX8_mixedYard wsX7_countBlocking := goodIn_r _ [19, 20, 21, 22, 23, 24, 18, 25, 26, 27, 28, 29, 30, 31, 32, 33, 34, 35, 57, 58, 59, 60, 61, 62, 63, 64, 65, 66, 67] rfl (by decide +kernel)
set_option maxRecDepth 20000 in
theorem gX8_mixedYard_X7_countBlocking : GoodIn wsX8_mixedYard (wsV RX8 322 RX7 yX7_countBlocking wsX7_countBlocking) := goodIn_app (goodIn_of _ (by decide +kernel)) ggX8_mixedYard_X7_countBlocking
theorem dX8_mixedYard_151 : decode cX8_mixedYard 151 = .ok (.invokestatic 339, 3) := by decide +kernel
theorem dX8_mixedYard_154 : decode cX8_mixedYard 154 = .ok (.lreturn, 1) := by decide +kernel
theorem dX8_mixedYard_68 : decode cX8_mixedYard 68 = .ok (.lload_n 3, 1) := by decide +kernel
theorem dX8_mixedYard_69 : decode cX8_mixedYard 69 = .ok (.aload_n 0, 1) := by decide +kernel
theorem dX8_mixedYard_70 : decode cX8_mixedYard 70 = .ok (.getfield 81, 3) := by decide +kernel
theorem dX8_mixedYard_73 : decode cX8_mixedYard 73 = .ok (.getfield 310, 3) := by decide +kernel
theorem dX8_mixedYard_76 : decode cX8_mixedYard 76 = .ok (.iload 5, 2) := by decide +kernel
theorem dX8_mixedYard_78 : decode cX8_mixedYard 78 = .ok (.iaload, 1) := by decide +kernel
theorem dX8_mixedYard_79 : decode cX8_mixedYard 79 = .ok (.invokestatic 339, 3) := by decide +kernel
theorem dX8_mixedYard_82 : decode cX8_mixedYard 82 = .ok (.lstore_n 3, 1) := by decide +kernel
theorem dX8_mixedYard_83 : decode cX8_mixedYard 83 = .ok (.iconst 0, 1) := by decide +kernel
theorem dX8_mixedYard_84 : decode cX8_mixedYard 84 = .ok (.istore 6, 2) := by decide +kernel
theorem dX8_mixedYard_86 : decode cX8_mixedYard 86 = .ok (.iload 6, 2) := by decide +kernel
theorem dX8_mixedYard_88 : decode cX8_mixedYard 88 = .ok (.aload_n 0, 1) := by decide +kernel
theorem dX8_mixedYard_89 : decode cX8_mixedYard 89 = .ok (.getfield 81, 3) := by decide +kernel
theorem dX8_mixedYard_92 : decode cX8_mixedYard 92 = .ok (.getfield 310, 3) := by decide +kernel
theorem dX8_mixedYard_95 : decode cX8_mixedYard 95 = .ok (.iload 5, 2) := by decide +kernel
theorem dX8_mixedYard_97 : decode cX8_mixedYard 97 = .ok (.iaload, 1) := by decide +kernel
theorem dX8_mixedYard_98 : decode cX8_mixedYard 98 = .ok (.if_icmp .ge 27, 3) := by decide +kernel
theorem dX8_mixedYard_125 : decode cX8_mixedYard 125 = .ok (.iinc 5 1, 3) := by decide +kernel
theorem dX8_mixedYard_128 : decode cX8_mixedYard 128 = .ok (.goto (-72), 3) := by decide +kernel
theorem dX8_mixedYard_101 : decode cX8_mixedYard 101 = .ok (.lload_n 3, 1) := by decide +kernel
theorem dX8_mixedYard_102 : decode cX8_mixedYard 102 = .ok (.aload_n 0, 1) := by decide +kernel
theorem dX8_mixedYard_103 : decode cX8_mixedYard 103 = .ok (.getfield 81, 3) := by decide +kernel
theorem dX8_mixedYard_106 : decode cX8_mixedYard 106 = .ok (.getfield 315, 3) := by decide +kernel
theorem dX8_mixedYard_109 : decode cX8_mixedYard 109 = .ok (.iload 5, 2) := by decide +kernel
theorem dX8_mixedYard_111 : decode cX8_mixedYard 111 = .ok (.aaload, 1) := by decide +kernel
theorem dX8_mixedYard_112 : decode cX8_mixedYard 112 = .ok (.iload 6, 2) := by decide +kernel
theorem dX8_mixedYard_114 : decode cX8_mixedYard 114 = .ok (.iaload, 1) := by decide +kernel
theorem dX8_mixedYard_115 : decode cX8_mixedYard 115 = .ok (.invokestatic 339, 3) := by decide +kernel
theorem dX8_mixedYard_118 : decode cX8_mixedYard 118 = .ok (.lstore_n 3, 1) := by decide +kernel
theorem dX8_mixedYard_119 : decode cX8_mixedYard 119 = .ok (.iinc 6 1, 3) := by decide +kernel
theorem dX8_mixedYard_122 : decode cX8_mixedYard 122 = .ok (.goto (-36), 3) := by decide +kernel
theorem dX8_mixedYard_17 : decode cX8_mixedYard 17 = .ok (.lload_n 3, 1) := by decide +kernel
theorem dX8_mixedYard_18 : decode cX8_mixedYard 18 = .ok (.aload_n 0, 1) := by decide +kernel
theorem dX8_mixedYard_19 : decode cX8_mixedYard 19 = .ok (.getfield 81, 3) := by decide +kernel
theorem dX8_mixedYard_22 : decode cX8_mixedYard 22 = .ok (.getfield 301, 3) := by decide +kernel
theorem dX8_mixedYard_25 : decode cX8_mixedYard 25 = .ok (.iload 5, 2) := by decide +kernel
theorem dX8_mixedYard_27 : decode cX8_mixedYard 27 = .ok (.iaload, 1) := by decide +kernel
theorem dX8_mixedYard_28 : decode cX8_mixedYard 28 = .ok (.invokestatic 339, 3) := by decide +kernel
theorem dX8_mixedYard_31 : decode cX8_mixedYard 31 = .ok (.lstore_n 3, 1) := by decide +kernel
theorem dX8_mixedYard_32 : decode cX8_mixedYard 32 = .ok (.lload_n 3, 1) := by decide +kernel
theorem dX8_mixedYard_33 : decode cX8_mixedYard 33 = .ok (.aload_n 0, 1) := by decide +kernel
theorem dX8_mixedYard_34 : decode cX8_mixedYard 34 = .ok (.getfield 81, 3) := by decide +kernel
theorem dX8_mixedYard_37 : decode cX8_mixedYard 37 = .ok (.getfield 304, 3) := by decide +kernel
theorem dX8_mixedYard_40 : decode cX8_mixedYard 40 = .ok (.iload 5, 2) := by decide +kernel
theorem dX8_mixedYard_42 : decode cX8_mixedYard 42 = .ok (.iaload, 1) := by decide +kernel
theorem dX8_mixedYard_43 : decode cX8_mixedYard 43 = .ok (.invokestatic 339, 3) := by decide +kernel
theorem dX8_mixedYard_46 : decode cX8_mixedYard 46 = .ok (.lstore_n 3, 1) := by decide +kernel
theorem dX8_mixedYard_47 : decode cX8_mixedYard 47 = .ok (.iinc 5 1, 3) := by decide +kernel
theorem dX8_mixedYard_50 : decode cX8_mixedYard 50 = .ok (.goto (-45), 3) := by decide +kernel
set_option maxHeartbeats 4000000 in
set_option maxRecDepth 100000 in
theorem d_yard (l : Launch) (g : xG) (sz : Nat) (d : Int64) (st : Nat) (ca : Nat) (ya : Nat) (he : Nat) (so : Nat) (le : Nat) (sa : Nat) (so2 : Nat) (n : Nat) (sc : Nat) (rs : Nat) (rr : Nat → Nat) (s0 : Value) (s1 : Value) (s2 : Value) (s3 : Value) (s5 : Value) (s6 : Value) (s7 : Value) (s8 : Value) (s9 : Value) (s10 : Value) (s11 : Value) (s12 : Value) (s14 : Value) (c1 : Value) (c2 : Value) (c3 : Value) (c4 : Value) (c5 : Value) (y2 : Value) (y3 : Value) (y6 : Value) (y10 : Value) (hgt : Nat → Nat) (sd : Nat → Nat → Nat) (lv : Nat → Int) (stt : Nat → Int) (oo : Nat → Int)  (hn : n ≤ 24) (hsc : sc ≤ 12) (b_hgt : ∀ j, hgt j ≤ 5) (b_sd : ∀ i j, sd i j ≤ 23) (b_lv : ∀ j, 0 ≤ lv j ∧ lv j ≤ 1000000) (b_stt : ∀ j, 0 ≤ stt j ∧ stt j ≤ 4) (b_oo : ∀ j, (-1) ≤ oo j ∧ oo j ≤ 11) : Met l yX8_mixedYard wsX8_mixedYard ({ frames := 4, cells := 0, slots := 0, locals := 93 }) (va_Pc [.ref st, .long d] (fun U => xB g ([(st, .inr (8, [s0, s1, s2, s3, .ref ca, s5, s6, s7, s8, s9, s10, s11, s12, .ref ya, s14])), (ca, .inr (2, [.int (nI n), c1, c2, c3, c4, c5])), (ya, .inr (7, [.int (nI sc), .int (nI rs), y2, y3, .ref he, .ref so, y6, .ref le, .ref sa, .ref so2, y10])), (he, .inl (xI g, 12, .inl (fun j => nI (hgt j)))), (so, .inl (xM g, 12, .inr (.inr (.inr (.inr (fun i => if i < 12 then some (rr i) else none))))))] ++ (xRN (xI g) 12 5 rr sd ++ [(le, .inl (xI g, 24, .inl (fun j => iI (lv j)))), (sa, .inl (xI g, 24, .inl (fun j => iI (stt j)))), (so2, .inl (xI g, 24, .inl (fun j => iI (oo j))))])) sz U)) (va_Ql (fun (r : Int64) (_ : Unit) => r = dM (dM (dSt hgt sd (dSp stt oo d n) sc) (nI rs)) (nI (yBl lv hgt sd sc))) (fun (_ : Unit) (_ : State) => True) (va_A [] sz)) 0 0 (va_A [] sz) := by
  refine Met.ofW (cc := cX8_mixedYard) (maxL := 7) (ret := (some .long)) (by decide) rfl ?_
  intro p e s m args below meth c s₁ B hml hv
  obtain ⟨rfl, hsz, hP, hK, hD0⟩ := hv
  have hx := B.exec
  have hb := B.bytes
  have hr := B.returns
  have hts := atoms_spec (ws := wsX8_mixedYard) B.pre
  have hown : s.vm.findClass RX8 = some m.cls := findClass_of_methodNamed B.named
  have hlocks := B.notSynchronized
  subst hsz
  have hD := hD0
  generalize hAe : va_A [] s.heap.size = A
  have hA : ∀ q : Nat, s.heap.size ≤ q → A q := fun q h => by rw [← hAe]; exact Or.inr h
  have hS : va_S A s.heap s.heap [] := va_S.rf
  have hl := lv_entry ([.ref st, .long d]) (n := 7) (Nat.le_of_ble_eq_true rfl)
  rw [lg_entry_eq]
  generalize (lg_sl ([.ref st, .long d]) ++ List.replicate (7 - (lg_sl ([.ref st, .long d])).length) Slot.unset).toArray = ls at hl ⊢
  have hl : lv_has ls 7 [(0, .ref st), (1, .long d)] := hl
  have hFX2 : ∀ w ∈ u_ws RX2 TX2 6, w ∈ wsX8_mixedYard := by decide +kernel
  have hFX7 : ∀ w ∈ u_ws RX7 TX7 11, w ∈ wsX8_mixedYard := by decide +kernel
  have hFX8 : ∀ w ∈ u_ws RX8 TX8 15, w ∈ wsX8_mixedYard := by decide +kernel
  refine lv_lload_n hx hb dX8_mixedYard_0 rfl (lv_at hl 1 rfl) ?_
  refine lv_lstore_n (lv' := [(3, .long d), (0, .ref st), (1, .long d)]) hx hb dX8_mixedYard_1 rfl hl (by decide) rfl (fun ls hl => ?_)
  refine lv_iconst (v := 0) hx hb dX8_mixedYard_2 (by decide) ?_
  refine lv_istore (lv' := [(5, .int 0), (3, .long d), (0, .ref st), (1, .long d)]) hx hb dX8_mixedYard_3 hl (by decide) rfl (fun ls hl => ?_)
  have hloop5 : ∀ (n9 : Nat) (k : Nat) (dk : Int64) (H : Heap) (locs : List Loc) (ls : Array Slot), n - k < n9 → (k ≤ n) → (dk = dSp stt oo d k) → va_P (xD g) vwCl ([(st, .inr (8, [s0, s1, s2, s3, .ref ca, s5, s6, s7, s8, s9, s10, s11, s12, .ref ya, s14])), (ca, .inr (2, [.int (nI n), c1, c2, c3, c4, c5])), (ya, .inr (7, [.int (nI sc), .int (nI rs), y2, y3, .ref he, .ref so, y6, .ref le, .ref sa, .ref so2, y10])), (he, .inl (xI g, 12, .inl (fun j => nI (hgt j)))), (so, .inl (xM g, 12, .inr (.inr (.inr (.inr (fun i => if i < 12 then some (rr i) else none))))))] ++ (xRN (xI g) 12 5 rr sd ++ [(le, .inl (xI g, 24, .inl (fun j => iI (lv j)))), (sa, .inl (xI g, 24, .inl (fun j => iI (stt j)))), (so2, .inl (xI g, 24, .inl (fun j => iI (oo j))))])) H → va_D (fun _ => True) ([(st, .inr (8, [s0, s1, s2, s3, .ref ca, s5, s6, s7, s8, s9, s10, s11, s12, .ref ya, s14])), (ca, .inr (2, [.int (nI n), c1, c2, c3, c4, c5])), (ya, .inr (7, [.int (nI sc), .int (nI rs), y2, y3, .ref he, .ref so, y6, .ref le, .ref sa, .ref so2, y10])), (he, .inl (xI g, 12, .inl (fun j => nI (hgt j)))), (so, .inl (xM g, 12, .inr (.inr (.inr (.inr (fun i => if i < 12 then some (rr i) else none))))))] ++ (xRN (xI g) 12 5 rr sd ++ [(le, .inl (xI g, 24, .inl (fun j => iI (lv j)))), (sa, .inl (xI g, 24, .inl (fun j => iI (stt j)))), (so2, .inl (xI g, 24, .inl (fun j => iI (oo j))))])) → va_S A s.heap H locs → lv_has ls 7 [(5, .int (nI k)), (0, .ref st), (3, .long dk)] → W p l e (headSpec wsX8_mixedYard ({ frames := 4, cells := 0, slots := 0, locals := 93 })).room s m ([.ref st, .long d] : List Value).toArray below meth c H locs 0 0 (MQ below (va_Ql (fun (r : Int64) (_ : Unit) => r = dM (dM (dSt hgt sd (dSp stt oo d n) sc) (nI rs)) (nI (yBl lv hgt sd sc))) (fun (_ : Unit) (_ : State) => True) (A)) ([.ref st, .long d] : List Value).toArray s 0 0 A) (F0 m 5 ls []) := by
    intro n9
    induction n9 with
    | zero =>
      intro k dk H locs ls hm hk hdk hP hD hS hl
      exact absurd hm (Nat.not_lt_zero _)
    | succ n9 ih5 =>
      intro k dk H locs ls hm hk hdk hP hD hS hl
      refine lv_iload hx hb dX8_mixedYard_5 (lv_at hl 0 rfl) ?_
      refine lv_aload_n hx hb dX8_mixedYard_7 rfl (lv_at hl 1 rfl) ?_
      refine va_get (D := xD g) (ci := 8) (v := .ref ca) (C := RX8) (T := TX8) (N := 15) hx hb hts hFX8 hown hK hP 0 rfl rfl 4 (by decide) (hts (.fieldLink RX8 26 "Stevedore" "cargo" "LStevedore$Cargo;") (by decide +kernel)) (fun _ h9 => h9) rfl dX8_mixedYard_8 ?_
      refine va_get (D := xD g) (ci := 2) (v := .int (nI n)) (C := RX2) (T := TX2) (N := 6) hx hb hts hFX2 hown hK hP 1 rfl rfl 0 (by decide) (hts (.fieldLink RX8 129 "Stevedore$Cargo" "count" "I") (by decide +kernel)) (fun _ h9 => h9) rfl dX8_mixedYard_11 ?_
      refine lv_icmp_ge (tgt := 53) hx hb dX8_mixedYard_14 (by decide) (fun c_1 => ?_) (fun c_1 => ?_)
      · have nc_1 := (nI_leI (a := n) (b := k) (by omega) (by omega)).mp c_1
        refine lv_iconst (v := 0) hx hb dX8_mixedYard_53 (by decide) ?_
        refine lv_istore (lv' := [(5, .int 0), (0, .ref st), (3, .long dk)]) hx hb dX8_mixedYard_54 hl (by decide) rfl (fun ls hl => ?_)
        have hloop56 : ∀ (n9 : Nat) (tq : Nat) (dt : Int64) (H : Heap) (locs : List Loc) (ls : Array Slot), sc - tq < n9 → (tq ≤ sc) → (dt = dSt hgt sd dk tq) → va_P (xD g) vwCl ([(st, .inr (8, [s0, s1, s2, s3, .ref ca, s5, s6, s7, s8, s9, s10, s11, s12, .ref ya, s14])), (ca, .inr (2, [.int (nI n), c1, c2, c3, c4, c5])), (ya, .inr (7, [.int (nI sc), .int (nI rs), y2, y3, .ref he, .ref so, y6, .ref le, .ref sa, .ref so2, y10])), (he, .inl (xI g, 12, .inl (fun j => nI (hgt j)))), (so, .inl (xM g, 12, .inr (.inr (.inr (.inr (fun i => if i < 12 then some (rr i) else none))))))] ++ (xRN (xI g) 12 5 rr sd ++ [(le, .inl (xI g, 24, .inl (fun j => iI (lv j)))), (sa, .inl (xI g, 24, .inl (fun j => iI (stt j)))), (so2, .inl (xI g, 24, .inl (fun j => iI (oo j))))])) H → va_D (fun _ => True) ([(st, .inr (8, [s0, s1, s2, s3, .ref ca, s5, s6, s7, s8, s9, s10, s11, s12, .ref ya, s14])), (ca, .inr (2, [.int (nI n), c1, c2, c3, c4, c5])), (ya, .inr (7, [.int (nI sc), .int (nI rs), y2, y3, .ref he, .ref so, y6, .ref le, .ref sa, .ref so2, y10])), (he, .inl (xI g, 12, .inl (fun j => nI (hgt j)))), (so, .inl (xM g, 12, .inr (.inr (.inr (.inr (fun i => if i < 12 then some (rr i) else none))))))] ++ (xRN (xI g) 12 5 rr sd ++ [(le, .inl (xI g, 24, .inl (fun j => iI (lv j)))), (sa, .inl (xI g, 24, .inl (fun j => iI (stt j)))), (so2, .inl (xI g, 24, .inl (fun j => iI (oo j))))])) → va_S A s.heap H locs → lv_has ls 7 [(5, .int (nI tq)), (0, .ref st), (3, .long dt)] → W p l e (headSpec wsX8_mixedYard ({ frames := 4, cells := 0, slots := 0, locals := 93 })).room s m ([.ref st, .long d] : List Value).toArray below meth c H locs 0 0 (MQ below (va_Ql (fun (r : Int64) (_ : Unit) => r = dM (dM (dSt hgt sd (dSp stt oo d n) sc) (nI rs)) (nI (yBl lv hgt sd sc))) (fun (_ : Unit) (_ : State) => True) (A)) ([.ref st, .long d] : List Value).toArray s 0 0 A) (F0 m 56 ls []) := by
          intro n9
          induction n9 with
          | zero =>
            intro tq dt H locs ls hm ht9 hdt hP hD hS hl
            exact absurd hm (Nat.not_lt_zero _)
          | succ n9 ih56 =>
            intro tq dt H locs ls hm ht9 hdt hP hD hS hl
            have hbh := b_hgt tq
            refine lv_iload hx hb dX8_mixedYard_56 (lv_at hl 0 rfl) ?_
            refine lv_aload_n hx hb dX8_mixedYard_58 rfl (lv_at hl 1 rfl) ?_
            refine va_get (D := xD g) (ci := 8) (v := .ref ya) (C := RX8) (T := TX8) (N := 15) hx hb hts hFX8 hown hK hP 0 rfl rfl 13 (by decide) (hts (.fieldLink RX8 81 "Stevedore" "yard" "LStevedore$Yard;") (by decide +kernel)) (fun _ h9 => h9) rfl dX8_mixedYard_59 ?_
            refine va_get (D := xD g) (ci := 7) (v := .int (nI sc)) (C := RX7) (T := TX7) (N := 11) hx hb hts hFX7 hown hK hP 2 rfl rfl 0 (by decide) (hts (.fieldLink RX8 162 "Stevedore$Yard" "stackCount" "I") (by decide +kernel)) (fun _ h9 => h9) rfl dX8_mixedYard_62 ?_
            refine lv_icmp_ge (tgt := 131) hx hb dX8_mixedYard_65 (by decide) (fun c_2 => ?_) (fun c_2 => ?_)
            · have nc_2 := (nI_leI (a := sc) (b := tq) (by omega) (by omega)).mp c_2
              refine lv_lload_n hx hb dX8_mixedYard_131 rfl (lv_at hl 2 rfl) ?_
              refine lv_aload_n hx hb dX8_mixedYard_132 rfl (lv_at hl 1 rfl) ?_
              refine va_get (D := xD g) (ci := 8) (v := .ref ya) (C := RX8) (T := TX8) (N := 15) hx hb hts hFX8 hown hK hP 0 rfl rfl 13 (by decide) (hts (.fieldLink RX8 81 "Stevedore" "yard" "LStevedore$Yard;") (by decide +kernel)) (fun _ h9 => h9) rfl dX8_mixedYard_133 ?_
              refine va_get (D := xD g) (ci := 7) (v := .int (nI rs)) (C := RX7) (T := TX7) (N := 11) hx hb hts hFX7 hown hK hP 2 rfl rfl 1 (by decide) (hts (.fieldLink RX8 319 "Stevedore$Yard" "reshuffleCount" "I") (by decide +kernel)) (fun _ h9 => h9) rfl dX8_mixedYard_136 ?_
              have hPc := hP.sub (ws' := []) [] rfl
              have hDc := hD.sub (ws' := []) [] (by decide) rfl
              have hFc := xFree hS hA
              refine va_calll (va_runS (As := [.long dt, .int (nI rs)]) (rest := []) ⟨hx, hb, hml, hown, hts⟩ (d_mixed l g H.size dt (nI rs)) (va_cwS 2 hts gX8_mixedYard_X8_mixed rfl rfl rfl (by decide +kernel) ⟨Nat.le_of_ble_eq_true rfl, Nat.le_of_ble_eq_true rfl⟩) ⟨xB.blind, fun U9 hU9 hW9 => ⟨rfl, xB.mk hPc hK hDc hU9 hW9⟩⟩ rfl rfl hl.1 rfl (lv_room (Nat.le_of_ble_eq_true rfl)) dX8_mixedYard_139 ⟨Nat.le_of_ble_eq_true rfl, Nat.le_of_ble_eq_true rfl⟩) hS (fun q _ h => hFc q h) hFc (fun r_3 _ t H1 locs ht hvm hw_4 hB hz1 hk1 hS => ?_)
              have hP := xSame hP hk1
              generalize H1 = H at hP hS ⊢
              have hP : va_P (xD g) vwCl ([(st, .inr (8, [s0, s1, s2, s3, .ref ca, s5, s6, s7, s8, s9, s10, s11, s12, .ref ya, s14])), (ca, .inr (2, [.int (nI n), c1, c2, c3, c4, c5])), (ya, .inr (7, [.int (nI sc), .int (nI rs), y2, y3, .ref he, .ref so, y6, .ref le, .ref sa, .ref so2, y10])), (he, .inl (xI g, 12, .inl (fun j => nI (hgt j)))), (so, .inl (xM g, 12, .inr (.inr (.inr (.inr (fun i => if i < 12 then some (rr i) else none))))))] ++ (xRN (xI g) 12 5 rr sd ++ [(le, .inl (xI g, 24, .inl (fun j => iI (lv j)))), (sa, .inl (xI g, 24, .inl (fun j => iI (stt j)))), (so2, .inl (xI g, 24, .inl (fun j => iI (oo j))))])) H := hP
              have hD : va_D (fun _ => True) ([(st, .inr (8, [s0, s1, s2, s3, .ref ca, s5, s6, s7, s8, s9, s10, s11, s12, .ref ya, s14])), (ca, .inr (2, [.int (nI n), c1, c2, c3, c4, c5])), (ya, .inr (7, [.int (nI sc), .int (nI rs), y2, y3, .ref he, .ref so, y6, .ref le, .ref sa, .ref so2, y10])), (he, .inl (xI g, 12, .inl (fun j => nI (hgt j)))), (so, .inl (xM g, 12, .inr (.inr (.inr (.inr (fun i => if i < 12 then some (rr i) else none))))))] ++ (xRN (xI g) 12 5 rr sd ++ [(le, .inl (xI g, 24, .inl (fun j => iI (lv j)))), (sa, .inl (xI g, 24, .inl (fun j => iI (stt j)))), (so2, .inl (xI g, 24, .inl (fun j => iI (oo j))))])) := hD
              try dsimp only at hw_4
              obtain rfl : r_3 = dM dt (nI rs) := hw_4
              refine lv_lstore_n (lv' := [(3, .long (dM dt (nI rs))), (5, .int (nI tq)), (0, .ref st)]) hx hb dX8_mixedYard_142 rfl hl (by decide) rfl (fun ls hl => ?_)
              refine lv_lload_n hx hb dX8_mixedYard_143 rfl (lv_at hl 0 rfl) ?_
              refine lv_aload_n hx hb dX8_mixedYard_144 rfl (lv_at hl 2 rfl) ?_
              refine va_get (D := xD g) (ci := 8) (v := .ref ya) (C := RX8) (T := TX8) (N := 15) hx hb hts hFX8 hown hK hP 0 rfl rfl 13 (by decide) (hts (.fieldLink RX8 81 "Stevedore" "yard" "LStevedore$Yard;") (by decide +kernel)) (fun _ h9 => h9) rfl dX8_mixedYard_145 ?_
              have hPc := hP.sub (ws' := ([(ya, .inr (7, [.int (nI sc), .int (nI rs), y2, y3, .ref he, .ref so, y6, .ref le, .ref sa, .ref so2, y10])), (he, .inl (xI g, 12, .inl (fun j => nI (hgt j)))), (so, .inl (xM g, 12, .inr (.inr (.inr (.inr (fun i => if i < 12 then some (rr i) else none))))))] ++ (xRN (xI g) 12 5 rr sd ++ [(le, .inl (xI g, 24, .inl (fun j => iI (lv j))))]))) [2, 3, 4, 5, 6, 7, 8, 9, 10, 11, 12, 13, 14, 15, 16, 17] rfl
              have hDc := hD.sub (ws' := ([(ya, .inr (7, [.int (nI sc), .int (nI rs), y2, y3, .ref he, .ref so, y6, .ref le, .ref sa, .ref so2, y10])), (he, .inl (xI g, 12, .inl (fun j => nI (hgt j)))), (so, .inl (xM g, 12, .inr (.inr (.inr (.inr (fun i => if i < 12 then some (rr i) else none))))))] ++ (xRN (xI g) 12 5 rr sd ++ [(le, .inl (xI g, 24, .inl (fun j => iI (lv j))))]))) [2, 3, 4, 5, 6, 7, 8, 9, 10, 11, 12, 13, 14, 15, 16, 17] (by decide) rfl
              have hFc := xFree hS hA
              refine va_calli (va_runV (As := []) (rest := [.long (dM dt (nI rs))]) ⟨hx, hb, hml, hown, hts⟩ (y_countBlocking l g H.size ya he so le sc rr (.int (nI rs)) y2 y3 y6 (.ref sa) (.ref so2) y10 hgt sd lv (by first | assumption | omega) b_hgt b_sd b_lv) (cwV 0 hts gX8_mixedYard_X7_countBlocking rfl rfl rfl (by decide +kernel) ⟨Nat.le_of_ble_eq_true rfl, Nat.le_of_ble_eq_true rfl⟩) ⟨xB.blind, va_recv hK hPc (ci := 7) (q0 := 0) rfl rfl, fun U9 hU9 hW9 => ⟨rfl, xB.mk hPc hK hDc hU9 hW9⟩⟩ rfl rfl hl.1 rfl (lv_room (Nat.le_of_ble_eq_true rfl)) dX8_mixedYard_148 ⟨Nat.le_of_ble_eq_true rfl, Nat.le_of_ble_eq_true rfl⟩) hS (fun q _ h => hFc q h) hFc (fun r_5 _ t H1 locs ht hvm hw_6 hB hz1 hk1 hS => ?_)
              have hP := xSame hP hk1
              generalize H1 = H at hP hS ⊢
              have hP : va_P (xD g) vwCl ([(st, .inr (8, [s0, s1, s2, s3, .ref ca, s5, s6, s7, s8, s9, s10, s11, s12, .ref ya, s14])), (ca, .inr (2, [.int (nI n), c1, c2, c3, c4, c5])), (ya, .inr (7, [.int (nI sc), .int (nI rs), y2, y3, .ref he, .ref so, y6, .ref le, .ref sa, .ref so2, y10])), (he, .inl (xI g, 12, .inl (fun j => nI (hgt j)))), (so, .inl (xM g, 12, .inr (.inr (.inr (.inr (fun i => if i < 12 then some (rr i) else none))))))] ++ (xRN (xI g) 12 5 rr sd ++ [(le, .inl (xI g, 24, .inl (fun j => iI (lv j)))), (sa, .inl (xI g, 24, .inl (fun j => iI (stt j)))), (so2, .inl (xI g, 24, .inl (fun j => iI (oo j))))])) H := hP
              have hD : va_D (fun _ => True) ([(st, .inr (8, [s0, s1, s2, s3, .ref ca, s5, s6, s7, s8, s9, s10, s11, s12, .ref ya, s14])), (ca, .inr (2, [.int (nI n), c1, c2, c3, c4, c5])), (ya, .inr (7, [.int (nI sc), .int (nI rs), y2, y3, .ref he, .ref so, y6, .ref le, .ref sa, .ref so2, y10])), (he, .inl (xI g, 12, .inl (fun j => nI (hgt j)))), (so, .inl (xM g, 12, .inr (.inr (.inr (.inr (fun i => if i < 12 then some (rr i) else none))))))] ++ (xRN (xI g) 12 5 rr sd ++ [(le, .inl (xI g, 24, .inl (fun j => iI (lv j)))), (sa, .inl (xI g, 24, .inl (fun j => iI (stt j)))), (so2, .inl (xI g, 24, .inl (fun j => iI (oo j))))])) := hD
              try dsimp only at hw_6
              obtain rfl : r_5 = nI (yBl lv hgt sd sc) := hw_6
              have hPc := hP.sub (ws' := []) [] rfl
              have hDc := hD.sub (ws' := []) [] (by decide) rfl
              have hFc := xFree hS hA
              refine va_calll (va_runS (As := [.long (dM dt (nI rs)), .int (nI (yBl lv hgt sd sc))]) (rest := []) ⟨hx, hb, hml, hown, hts⟩ (d_mixed l g H.size (dM dt (nI rs)) (nI (yBl lv hgt sd sc))) (va_cwS 2 hts gX8_mixedYard_X8_mixed rfl rfl rfl (by decide +kernel) ⟨Nat.le_of_ble_eq_true rfl, Nat.le_of_ble_eq_true rfl⟩) ⟨xB.blind, fun U9 hU9 hW9 => ⟨rfl, xB.mk hPc hK hDc hU9 hW9⟩⟩ rfl rfl hl.1 rfl (lv_room (Nat.le_of_ble_eq_true rfl)) dX8_mixedYard_151 ⟨Nat.le_of_ble_eq_true rfl, Nat.le_of_ble_eq_true rfl⟩) hS (fun q _ h => hFc q h) hFc (fun r_7 _ t H1 locs ht hvm hw_8 hB hz1 hk1 hS => ?_)
              have hP := xSame hP hk1
              generalize H1 = H at hP hS ⊢
              have hP : va_P (xD g) vwCl ([(st, .inr (8, [s0, s1, s2, s3, .ref ca, s5, s6, s7, s8, s9, s10, s11, s12, .ref ya, s14])), (ca, .inr (2, [.int (nI n), c1, c2, c3, c4, c5])), (ya, .inr (7, [.int (nI sc), .int (nI rs), y2, y3, .ref he, .ref so, y6, .ref le, .ref sa, .ref so2, y10])), (he, .inl (xI g, 12, .inl (fun j => nI (hgt j)))), (so, .inl (xM g, 12, .inr (.inr (.inr (.inr (fun i => if i < 12 then some (rr i) else none))))))] ++ (xRN (xI g) 12 5 rr sd ++ [(le, .inl (xI g, 24, .inl (fun j => iI (lv j)))), (sa, .inl (xI g, 24, .inl (fun j => iI (stt j)))), (so2, .inl (xI g, 24, .inl (fun j => iI (oo j))))])) H := hP
              have hD : va_D (fun _ => True) ([(st, .inr (8, [s0, s1, s2, s3, .ref ca, s5, s6, s7, s8, s9, s10, s11, s12, .ref ya, s14])), (ca, .inr (2, [.int (nI n), c1, c2, c3, c4, c5])), (ya, .inr (7, [.int (nI sc), .int (nI rs), y2, y3, .ref he, .ref so, y6, .ref le, .ref sa, .ref so2, y10])), (he, .inl (xI g, 12, .inl (fun j => nI (hgt j)))), (so, .inl (xM g, 12, .inr (.inr (.inr (.inr (fun i => if i < 12 then some (rr i) else none))))))] ++ (xRN (xI g) 12 5 rr sd ++ [(le, .inl (xI g, 24, .inl (fun j => iI (lv j)))), (sa, .inl (xI g, 24, .inl (fun j => iI (stt j)))), (so2, .inl (xI g, 24, .inl (fun j => iI (oo j))))])) := hD
              try dsimp only at hw_8
              obtain rfl : r_7 = dM (dM dt (nI rs)) (nI (yBl lv hgt sd sc)) := hw_8
              exact W.lret (v := dM (dM dt (nI rs)) (nI (yBl lv hgt sd sc))) hx hb hr (fun t ht hW => ⟨⟨dM (dM dt (nI rs)) (nI (yBl lv hgt sd sc)), (), rfl, (by obtain rfl : k = n := (by omega); obtain rfl : tq = sc := (by omega); rw [hdt, hdk]), trivial⟩, hS.F ht⟩) hS.2.2 dX8_mixedYard_154
            · have nc_2 := mt (nI_leI (a := sc) (b := tq) (by omega) (by omega)).mpr c_2
              refine lv_lload_n hx hb dX8_mixedYard_68 rfl (lv_at hl 2 rfl) ?_
              refine lv_aload_n hx hb dX8_mixedYard_69 rfl (lv_at hl 1 rfl) ?_
              refine va_get (D := xD g) (ci := 8) (v := .ref ya) (C := RX8) (T := TX8) (N := 15) hx hb hts hFX8 hown hK hP 0 rfl rfl 13 (by decide) (hts (.fieldLink RX8 81 "Stevedore" "yard" "LStevedore$Yard;") (by decide +kernel)) (fun _ h9 => h9) rfl dX8_mixedYard_70 ?_
              refine va_get (D := xD g) (ci := 7) (v := .ref he) (C := RX7) (T := TX7) (N := 11) hx hb hts hFX7 hown hK hP 2 rfl rfl 4 (by decide) (hts (.fieldLink RX8 310 "Stevedore$Yard" "height" "[I") (by decide +kernel)) (fun _ h9 => h9) rfl dX8_mixedYard_73 ?_
              refine lv_iload hx hb dX8_mixedYard_76 (lv_at hl 0 rfl) ?_
              refine va_iald hx hb hK hP 3 0 rfl rfl (vp_in_nI (by omega) (by omega)) dX8_mixedYard_78 ?_
              refine lv_topi (fun v_9 ev => ?_)
              obtain rfl : v_9 = nI (hgt tq) := ev.trans (congrArg (fun q9 => nI (hgt q9)) (nI_clamp (by omega)))
              have b_10 := b_hgt tq
              have hPc := hP.sub (ws' := []) [] rfl
              have hDc := hD.sub (ws' := []) [] (by decide) rfl
              have hFc := xFree hS hA
              refine va_calll (va_runS (As := [.long dt, .int (nI (hgt tq))]) (rest := []) ⟨hx, hb, hml, hown, hts⟩ (d_mixed l g H.size dt (nI (hgt tq))) (va_cwS 2 hts gX8_mixedYard_X8_mixed rfl rfl rfl (by decide +kernel) ⟨Nat.le_of_ble_eq_true rfl, Nat.le_of_ble_eq_true rfl⟩) ⟨xB.blind, fun U9 hU9 hW9 => ⟨rfl, xB.mk hPc hK hDc hU9 hW9⟩⟩ rfl rfl hl.1 rfl (lv_room (Nat.le_of_ble_eq_true rfl)) dX8_mixedYard_79 ⟨Nat.le_of_ble_eq_true rfl, Nat.le_of_ble_eq_true rfl⟩) hS (fun q _ h => hFc q h) hFc (fun r_11 _ t H1 locs ht hvm hw_12 hB hz1 hk1 hS => ?_)
              have hP := xSame hP hk1
              generalize H1 = H at hP hS ⊢
              have hP : va_P (xD g) vwCl ([(st, .inr (8, [s0, s1, s2, s3, .ref ca, s5, s6, s7, s8, s9, s10, s11, s12, .ref ya, s14])), (ca, .inr (2, [.int (nI n), c1, c2, c3, c4, c5])), (ya, .inr (7, [.int (nI sc), .int (nI rs), y2, y3, .ref he, .ref so, y6, .ref le, .ref sa, .ref so2, y10])), (he, .inl (xI g, 12, .inl (fun j => nI (hgt j)))), (so, .inl (xM g, 12, .inr (.inr (.inr (.inr (fun i => if i < 12 then some (rr i) else none))))))] ++ (xRN (xI g) 12 5 rr sd ++ [(le, .inl (xI g, 24, .inl (fun j => iI (lv j)))), (sa, .inl (xI g, 24, .inl (fun j => iI (stt j)))), (so2, .inl (xI g, 24, .inl (fun j => iI (oo j))))])) H := hP
              have hD : va_D (fun _ => True) ([(st, .inr (8, [s0, s1, s2, s3, .ref ca, s5, s6, s7, s8, s9, s10, s11, s12, .ref ya, s14])), (ca, .inr (2, [.int (nI n), c1, c2, c3, c4, c5])), (ya, .inr (7, [.int (nI sc), .int (nI rs), y2, y3, .ref he, .ref so, y6, .ref le, .ref sa, .ref so2, y10])), (he, .inl (xI g, 12, .inl (fun j => nI (hgt j)))), (so, .inl (xM g, 12, .inr (.inr (.inr (.inr (fun i => if i < 12 then some (rr i) else none))))))] ++ (xRN (xI g) 12 5 rr sd ++ [(le, .inl (xI g, 24, .inl (fun j => iI (lv j)))), (sa, .inl (xI g, 24, .inl (fun j => iI (stt j)))), (so2, .inl (xI g, 24, .inl (fun j => iI (oo j))))])) := hD
              try dsimp only at hw_12
              obtain rfl : r_11 = dM dt (nI (hgt tq)) := hw_12
              refine lv_lstore_n (lv' := [(3, .long (dM dt (nI (hgt tq)))), (5, .int (nI tq)), (0, .ref st)]) hx hb dX8_mixedYard_82 rfl hl (by decide) rfl (fun ls hl => ?_)
              refine lv_iconst (v := 0) hx hb dX8_mixedYard_83 (by decide) ?_
              refine lv_istore (lv' := [(6, .int 0), (3, .long (dM dt (nI (hgt tq)))), (5, .int (nI tq)), (0, .ref st)]) hx hb dX8_mixedYard_84 hl (by decide) rfl (fun ls hl => ?_)
              have hloop86 : ∀ (n9 : Nat) (lev : Nat) (de : Int64) (H : Heap) (locs : List Loc) (ls : Array Slot), 6 - lev < n9 → (lev ≤ hgt tq) → (de = dRg (sd tq) (dM dt (nI (hgt tq))) lev) → va_P (xD g) vwCl ([(st, .inr (8, [s0, s1, s2, s3, .ref ca, s5, s6, s7, s8, s9, s10, s11, s12, .ref ya, s14])), (ca, .inr (2, [.int (nI n), c1, c2, c3, c4, c5])), (ya, .inr (7, [.int (nI sc), .int (nI rs), y2, y3, .ref he, .ref so, y6, .ref le, .ref sa, .ref so2, y10])), (he, .inl (xI g, 12, .inl (fun j => nI (hgt j)))), (so, .inl (xM g, 12, .inr (.inr (.inr (.inr (fun i => if i < 12 then some (rr i) else none))))))] ++ (xRN (xI g) 12 5 rr sd ++ [(le, .inl (xI g, 24, .inl (fun j => iI (lv j)))), (sa, .inl (xI g, 24, .inl (fun j => iI (stt j)))), (so2, .inl (xI g, 24, .inl (fun j => iI (oo j))))])) H → va_D (fun _ => True) ([(st, .inr (8, [s0, s1, s2, s3, .ref ca, s5, s6, s7, s8, s9, s10, s11, s12, .ref ya, s14])), (ca, .inr (2, [.int (nI n), c1, c2, c3, c4, c5])), (ya, .inr (7, [.int (nI sc), .int (nI rs), y2, y3, .ref he, .ref so, y6, .ref le, .ref sa, .ref so2, y10])), (he, .inl (xI g, 12, .inl (fun j => nI (hgt j)))), (so, .inl (xM g, 12, .inr (.inr (.inr (.inr (fun i => if i < 12 then some (rr i) else none))))))] ++ (xRN (xI g) 12 5 rr sd ++ [(le, .inl (xI g, 24, .inl (fun j => iI (lv j)))), (sa, .inl (xI g, 24, .inl (fun j => iI (stt j)))), (so2, .inl (xI g, 24, .inl (fun j => iI (oo j))))])) → va_S A s.heap H locs → lv_has ls 7 [(6, .int (nI lev)), (0, .ref st), (3, .long de), (5, .int (nI tq))] → W p l e (headSpec wsX8_mixedYard ({ frames := 4, cells := 0, slots := 0, locals := 93 })).room s m ([.ref st, .long d] : List Value).toArray below meth c H locs 0 0 (MQ below (va_Ql (fun (r : Int64) (_ : Unit) => r = dM (dM (dSt hgt sd (dSp stt oo d n) sc) (nI rs)) (nI (yBl lv hgt sd sc))) (fun (_ : Unit) (_ : State) => True) (A)) ([.ref st, .long d] : List Value).toArray s 0 0 A) (F0 m 86 ls []) := by
                intro n9
                induction n9 with
                | zero =>
                  intro lev de H locs ls hm hlv hde hP hD hS hl
                  exact absurd hm (Nat.not_lt_zero _)
                | succ n9 ih86 =>
                  intro lev de H locs ls hm hlv hde hP hD hS hl
                  refine lv_iload hx hb dX8_mixedYard_86 (lv_at hl 0 rfl) ?_
                  refine lv_aload_n hx hb dX8_mixedYard_88 rfl (lv_at hl 1 rfl) ?_
                  refine va_get (D := xD g) (ci := 8) (v := .ref ya) (C := RX8) (T := TX8) (N := 15) hx hb hts hFX8 hown hK hP 0 rfl rfl 13 (by decide) (hts (.fieldLink RX8 81 "Stevedore" "yard" "LStevedore$Yard;") (by decide +kernel)) (fun _ h9 => h9) rfl dX8_mixedYard_89 ?_
                  refine va_get (D := xD g) (ci := 7) (v := .ref he) (C := RX7) (T := TX7) (N := 11) hx hb hts hFX7 hown hK hP 2 rfl rfl 4 (by decide) (hts (.fieldLink RX8 310 "Stevedore$Yard" "height" "[I") (by decide +kernel)) (fun _ h9 => h9) rfl dX8_mixedYard_92 ?_
                  refine lv_iload hx hb dX8_mixedYard_95 (lv_at hl 3 rfl) ?_
                  refine va_iald hx hb hK hP 3 0 rfl rfl (vp_in_nI (by omega) (by omega)) dX8_mixedYard_97 ?_
                  refine lv_topi (fun v_13 ev => ?_)
                  obtain rfl : v_13 = nI (hgt tq) := ev.trans (congrArg (fun q9 => nI (hgt q9)) (nI_clamp (by omega)))
                  have b_14 := b_hgt tq
                  refine lv_icmp_ge (tgt := 125) hx hb dX8_mixedYard_98 (by decide) (fun c_15 => ?_) (fun c_15 => ?_)
                  · have nc_15 := (nI_leI (a := hgt tq) (b := lev) (by omega) (by omega)).mp c_15
                    refine lv_iinc (v := nI (tq + 1)) (lv' := [(5, .int (nI (tq + 1))), (6, .int (nI lev)), (0, .ref st), (3, .long de)]) hx hb dX8_mixedYard_125 hl (k := 3) rfl (nI_add tq 1) (by decide) rfl (fun ls hl => ?_)
                    refine lv_goto (tgt := 56) hx hb dX8_mixedYard_128 (by decide) ?_
                    exact ih56 (tq + 1) de _ _ _ (by omega) (by omega) (by obtain rfl : lev = hgt tq := (by omega); rw [hde, hdt]; rfl) hP hD hS (lv_sub hl [0, 2, 3] rfl)
                  · have nc_15 := mt (nI_leI (a := hgt tq) (b := lev) (by omega) (by omega)).mpr c_15
                    refine lv_lload_n hx hb dX8_mixedYard_101 rfl (lv_at hl 2 rfl) ?_
                    refine lv_aload_n hx hb dX8_mixedYard_102 rfl (lv_at hl 1 rfl) ?_
                    refine va_get (D := xD g) (ci := 8) (v := .ref ya) (C := RX8) (T := TX8) (N := 15) hx hb hts hFX8 hown hK hP 0 rfl rfl 13 (by decide) (hts (.fieldLink RX8 81 "Stevedore" "yard" "LStevedore$Yard;") (by decide +kernel)) (fun _ h9 => h9) rfl dX8_mixedYard_103 ?_
                    refine va_get (D := xD g) (ci := 7) (v := .ref so) (C := RX7) (T := TX7) (N := 11) hx hb hts hFX7 hown hK hP 2 rfl rfl 5 (by decide) (hts (.fieldLink RX8 315 "Stevedore$Yard" "standing" "[[I") (by decide +kernel)) (fun _ h9 => h9) rfl dX8_mixedYard_106 ?_
                    refine lv_iload hx hb dX8_mixedYard_109 (lv_at hl 3 rfl) ?_
                    refine xAldM hx hb hK hP 4 3 rfl rfl (vp_in_nI (by omega) (by omega)) dX8_mixedYard_111 ?_
                    refine W.eq (g2 := F0 m 112 ls (.ref (rr tq) :: .long de :: [])) (congrArg (fun q9 => F0 m 112 ls (q9 :: .long de :: [])) (xRow (n := 12) (k := tq) (nI_clamp (by omega)) (by omega))) ?_
                    refine lv_iload hx hb dX8_mixedYard_112 (lv_at hl 0 rfl) ?_
                    refine va_iald hx hb hK hP _ 0 (xR_ap (X := [(st, .inr (8, [s0, s1, s2, s3, .ref ca, s5, s6, s7, s8, s9, s10, s11, s12, .ref ya, s14])), (ca, .inr (2, [.int (nI n), c1, c2, c3, c4, c5])), (ya, .inr (7, [.int (nI sc), .int (nI rs), y2, y3, .ref he, .ref so, y6, .ref le, .ref sa, .ref so2, y10])), (he, .inl (xI g, 12, .inl (fun j => nI (hgt j)))), (so, .inl (xM g, 12, .inr (.inr (.inr (.inr (fun i => if i < 12 then some (rr i) else none))))))]) (xR_get0 (i := tq) (by omega))) rfl (vp_in_nI (by omega) (by omega)) dX8_mixedYard_114 ?_
                    refine lv_topi (fun v_16 ev => ?_)
                    obtain rfl : v_16 = nI (sd tq lev) := ev.trans (congrArg (fun q9 => nI (sd tq q9)) (nI_clamp (by omega)))
                    have b_17 := b_sd tq lev
                    have hPc := hP.sub (ws' := []) [] rfl
                    have hDc := hD.sub (ws' := []) [] (by decide) rfl
                    have hFc := xFree hS hA
                    refine va_calll (va_runS (As := [.long de, .int (nI (sd tq lev))]) (rest := []) ⟨hx, hb, hml, hown, hts⟩ (d_mixed l g H.size de (nI (sd tq lev))) (va_cwS 2 hts gX8_mixedYard_X8_mixed rfl rfl rfl (by decide +kernel) ⟨Nat.le_of_ble_eq_true rfl, Nat.le_of_ble_eq_true rfl⟩) ⟨xB.blind, fun U9 hU9 hW9 => ⟨rfl, xB.mk hPc hK hDc hU9 hW9⟩⟩ rfl rfl hl.1 rfl (lv_room (Nat.le_of_ble_eq_true rfl)) dX8_mixedYard_115 ⟨Nat.le_of_ble_eq_true rfl, Nat.le_of_ble_eq_true rfl⟩) hS (fun q _ h => hFc q h) hFc (fun r_18 _ t H1 locs ht hvm hw_19 hB hz1 hk1 hS => ?_)
                    have hP := xSame hP hk1
                    generalize H1 = H at hP hS ⊢
                    have hP : va_P (xD g) vwCl ([(st, .inr (8, [s0, s1, s2, s3, .ref ca, s5, s6, s7, s8, s9, s10, s11, s12, .ref ya, s14])), (ca, .inr (2, [.int (nI n), c1, c2, c3, c4, c5])), (ya, .inr (7, [.int (nI sc), .int (nI rs), y2, y3, .ref he, .ref so, y6, .ref le, .ref sa, .ref so2, y10])), (he, .inl (xI g, 12, .inl (fun j => nI (hgt j)))), (so, .inl (xM g, 12, .inr (.inr (.inr (.inr (fun i => if i < 12 then some (rr i) else none))))))] ++ (xRN (xI g) 12 5 rr sd ++ [(le, .inl (xI g, 24, .inl (fun j => iI (lv j)))), (sa, .inl (xI g, 24, .inl (fun j => iI (stt j)))), (so2, .inl (xI g, 24, .inl (fun j => iI (oo j))))])) H := hP
                    have hD : va_D (fun _ => True) ([(st, .inr (8, [s0, s1, s2, s3, .ref ca, s5, s6, s7, s8, s9, s10, s11, s12, .ref ya, s14])), (ca, .inr (2, [.int (nI n), c1, c2, c3, c4, c5])), (ya, .inr (7, [.int (nI sc), .int (nI rs), y2, y3, .ref he, .ref so, y6, .ref le, .ref sa, .ref so2, y10])), (he, .inl (xI g, 12, .inl (fun j => nI (hgt j)))), (so, .inl (xM g, 12, .inr (.inr (.inr (.inr (fun i => if i < 12 then some (rr i) else none))))))] ++ (xRN (xI g) 12 5 rr sd ++ [(le, .inl (xI g, 24, .inl (fun j => iI (lv j)))), (sa, .inl (xI g, 24, .inl (fun j => iI (stt j)))), (so2, .inl (xI g, 24, .inl (fun j => iI (oo j))))])) := hD
                    try dsimp only at hw_19
                    obtain rfl : r_18 = dM de (nI (sd tq lev)) := hw_19
                    refine lv_lstore_n (lv' := [(3, .long (dM de (nI (sd tq lev)))), (6, .int (nI lev)), (0, .ref st), (5, .int (nI tq))]) hx hb dX8_mixedYard_118 rfl hl (by decide) rfl (fun ls hl => ?_)
                    refine lv_iinc (v := nI (lev + 1)) (lv' := [(6, .int (nI (lev + 1))), (3, .long (dM de (nI (sd tq lev)))), (0, .ref st), (5, .int (nI tq))]) hx hb dX8_mixedYard_119 hl (k := 1) rfl (nI_add lev 1) (by decide) rfl (fun ls hl => ?_)
                    refine lv_goto (tgt := 86) hx hb dX8_mixedYard_122 (by decide) ?_
                    exact ih86 (lev + 1) (dM de (nI (sd tq lev))) _ _ _ (by omega) (by omega) (by rw [hde]; rfl) hP hD hS (lv_sub hl [0, 2, 1, 3] rfl)
              exact hloop86 (7) 0 (dM dt (nI (hgt tq))) _ _ _ (by omega) (Nat.zero_le _) rfl hP hD hS (by rw [(show nI 0 = (0 : Int32) from by decide)]; exact lv_sub hl [0, 3, 1, 2] rfl)
        exact hloop56 (sc + 1) 0 dk _ _ _ (by omega) (Nat.zero_le _) rfl hP hD hS (by rw [(show nI 0 = (0 : Int32) from by decide)]; exact lv_sub hl [0, 1, 2] rfl)
      · have nc_1 := mt (nI_leI (a := n) (b := k) (by omega) (by omega)).mpr c_1
        refine lv_lload_n hx hb dX8_mixedYard_17 rfl (lv_at hl 2 rfl) ?_
        refine lv_aload_n hx hb dX8_mixedYard_18 rfl (lv_at hl 1 rfl) ?_
        refine va_get (D := xD g) (ci := 8) (v := .ref ya) (C := RX8) (T := TX8) (N := 15) hx hb hts hFX8 hown hK hP 0 rfl rfl 13 (by decide) (hts (.fieldLink RX8 81 "Stevedore" "yard" "LStevedore$Yard;") (by decide +kernel)) (fun _ h9 => h9) rfl dX8_mixedYard_19 ?_
        refine va_get (D := xD g) (ci := 7) (v := .ref sa) (C := RX7) (T := TX7) (N := 11) hx hb hts hFX7 hown hK hP 2 rfl rfl 8 (by decide) (hts (.fieldLink RX8 301 "Stevedore$Yard" "state" "[I") (by decide +kernel)) (fun _ h9 => h9) rfl dX8_mixedYard_22 ?_
        refine lv_iload hx hb dX8_mixedYard_25 (lv_at hl 0 rfl) ?_
        refine va_iald hx hb hK hP 18 0 rfl rfl (vp_in_nI (by omega) (by omega)) dX8_mixedYard_27 ?_
        refine lv_topi (fun v_20 ev => ?_)
        obtain rfl : v_20 = iI (stt k) := ev.trans (congrArg (fun q9 => iI (stt q9)) (nI_clamp (by omega)))
        have b_21 := b_stt k
        have hPc := hP.sub (ws' := []) [] rfl
        have hDc := hD.sub (ws' := []) [] (by decide) rfl
        have hFc := xFree hS hA
        refine va_calll (va_runS (As := [.long dk, .int (iI (stt k))]) (rest := []) ⟨hx, hb, hml, hown, hts⟩ (d_mixed l g H.size dk (iI (stt k))) (va_cwS 2 hts gX8_mixedYard_X8_mixed rfl rfl rfl (by decide +kernel) ⟨Nat.le_of_ble_eq_true rfl, Nat.le_of_ble_eq_true rfl⟩) ⟨xB.blind, fun U9 hU9 hW9 => ⟨rfl, xB.mk hPc hK hDc hU9 hW9⟩⟩ rfl rfl hl.1 rfl (lv_room (Nat.le_of_ble_eq_true rfl)) dX8_mixedYard_28 ⟨Nat.le_of_ble_eq_true rfl, Nat.le_of_ble_eq_true rfl⟩) hS (fun q _ h => hFc q h) hFc (fun r_22 _ t H1 locs ht hvm hw_23 hB hz1 hk1 hS => ?_)
        have hP := xSame hP hk1
        generalize H1 = H at hP hS ⊢
        have hP : va_P (xD g) vwCl ([(st, .inr (8, [s0, s1, s2, s3, .ref ca, s5, s6, s7, s8, s9, s10, s11, s12, .ref ya, s14])), (ca, .inr (2, [.int (nI n), c1, c2, c3, c4, c5])), (ya, .inr (7, [.int (nI sc), .int (nI rs), y2, y3, .ref he, .ref so, y6, .ref le, .ref sa, .ref so2, y10])), (he, .inl (xI g, 12, .inl (fun j => nI (hgt j)))), (so, .inl (xM g, 12, .inr (.inr (.inr (.inr (fun i => if i < 12 then some (rr i) else none))))))] ++ (xRN (xI g) 12 5 rr sd ++ [(le, .inl (xI g, 24, .inl (fun j => iI (lv j)))), (sa, .inl (xI g, 24, .inl (fun j => iI (stt j)))), (so2, .inl (xI g, 24, .inl (fun j => iI (oo j))))])) H := hP
        have hD : va_D (fun _ => True) ([(st, .inr (8, [s0, s1, s2, s3, .ref ca, s5, s6, s7, s8, s9, s10, s11, s12, .ref ya, s14])), (ca, .inr (2, [.int (nI n), c1, c2, c3, c4, c5])), (ya, .inr (7, [.int (nI sc), .int (nI rs), y2, y3, .ref he, .ref so, y6, .ref le, .ref sa, .ref so2, y10])), (he, .inl (xI g, 12, .inl (fun j => nI (hgt j)))), (so, .inl (xM g, 12, .inr (.inr (.inr (.inr (fun i => if i < 12 then some (rr i) else none))))))] ++ (xRN (xI g) 12 5 rr sd ++ [(le, .inl (xI g, 24, .inl (fun j => iI (lv j)))), (sa, .inl (xI g, 24, .inl (fun j => iI (stt j)))), (so2, .inl (xI g, 24, .inl (fun j => iI (oo j))))])) := hD
        try dsimp only at hw_23
        obtain rfl : r_22 = dM dk (iI (stt k)) := hw_23
        refine lv_lstore_n (lv' := [(3, .long (dM dk (iI (stt k)))), (5, .int (nI k)), (0, .ref st)]) hx hb dX8_mixedYard_31 rfl hl (by decide) rfl (fun ls hl => ?_)
        refine lv_lload_n hx hb dX8_mixedYard_32 rfl (lv_at hl 0 rfl) ?_
        refine lv_aload_n hx hb dX8_mixedYard_33 rfl (lv_at hl 2 rfl) ?_
        refine va_get (D := xD g) (ci := 8) (v := .ref ya) (C := RX8) (T := TX8) (N := 15) hx hb hts hFX8 hown hK hP 0 rfl rfl 13 (by decide) (hts (.fieldLink RX8 81 "Stevedore" "yard" "LStevedore$Yard;") (by decide +kernel)) (fun _ h9 => h9) rfl dX8_mixedYard_34 ?_
        refine va_get (D := xD g) (ci := 7) (v := .ref so2) (C := RX7) (T := TX7) (N := 11) hx hb hts hFX7 hown hK hP 2 rfl rfl 9 (by decide) (hts (.fieldLink RX8 304 "Stevedore$Yard" "stackOfContainer" "[I") (by decide +kernel)) (fun _ h9 => h9) rfl dX8_mixedYard_37 ?_
        refine lv_iload hx hb dX8_mixedYard_40 (lv_at hl 1 rfl) ?_
        refine va_iald hx hb hK hP 19 0 rfl rfl (vp_in_nI (by omega) (by omega)) dX8_mixedYard_42 ?_
        refine lv_topi (fun v_24 ev => ?_)
        obtain rfl : v_24 = iI (oo k) := ev.trans (congrArg (fun q9 => iI (oo q9)) (nI_clamp (by omega)))
        have b_25 := b_oo k
        have hPc := hP.sub (ws' := []) [] rfl
        have hDc := hD.sub (ws' := []) [] (by decide) rfl
        have hFc := xFree hS hA
        refine va_calll (va_runS (As := [.long (dM dk (iI (stt k))), .int (iI (oo k))]) (rest := []) ⟨hx, hb, hml, hown, hts⟩ (d_mixed l g H.size (dM dk (iI (stt k))) (iI (oo k))) (va_cwS 2 hts gX8_mixedYard_X8_mixed rfl rfl rfl (by decide +kernel) ⟨Nat.le_of_ble_eq_true rfl, Nat.le_of_ble_eq_true rfl⟩) ⟨xB.blind, fun U9 hU9 hW9 => ⟨rfl, xB.mk hPc hK hDc hU9 hW9⟩⟩ rfl rfl hl.1 rfl (lv_room (Nat.le_of_ble_eq_true rfl)) dX8_mixedYard_43 ⟨Nat.le_of_ble_eq_true rfl, Nat.le_of_ble_eq_true rfl⟩) hS (fun q _ h => hFc q h) hFc (fun r_26 _ t H1 locs ht hvm hw_27 hB hz1 hk1 hS => ?_)
        have hP := xSame hP hk1
        generalize H1 = H at hP hS ⊢
        have hP : va_P (xD g) vwCl ([(st, .inr (8, [s0, s1, s2, s3, .ref ca, s5, s6, s7, s8, s9, s10, s11, s12, .ref ya, s14])), (ca, .inr (2, [.int (nI n), c1, c2, c3, c4, c5])), (ya, .inr (7, [.int (nI sc), .int (nI rs), y2, y3, .ref he, .ref so, y6, .ref le, .ref sa, .ref so2, y10])), (he, .inl (xI g, 12, .inl (fun j => nI (hgt j)))), (so, .inl (xM g, 12, .inr (.inr (.inr (.inr (fun i => if i < 12 then some (rr i) else none))))))] ++ (xRN (xI g) 12 5 rr sd ++ [(le, .inl (xI g, 24, .inl (fun j => iI (lv j)))), (sa, .inl (xI g, 24, .inl (fun j => iI (stt j)))), (so2, .inl (xI g, 24, .inl (fun j => iI (oo j))))])) H := hP
        have hD : va_D (fun _ => True) ([(st, .inr (8, [s0, s1, s2, s3, .ref ca, s5, s6, s7, s8, s9, s10, s11, s12, .ref ya, s14])), (ca, .inr (2, [.int (nI n), c1, c2, c3, c4, c5])), (ya, .inr (7, [.int (nI sc), .int (nI rs), y2, y3, .ref he, .ref so, y6, .ref le, .ref sa, .ref so2, y10])), (he, .inl (xI g, 12, .inl (fun j => nI (hgt j)))), (so, .inl (xM g, 12, .inr (.inr (.inr (.inr (fun i => if i < 12 then some (rr i) else none))))))] ++ (xRN (xI g) 12 5 rr sd ++ [(le, .inl (xI g, 24, .inl (fun j => iI (lv j)))), (sa, .inl (xI g, 24, .inl (fun j => iI (stt j)))), (so2, .inl (xI g, 24, .inl (fun j => iI (oo j))))])) := hD
        try dsimp only at hw_27
        obtain rfl : r_26 = dM (dM dk (iI (stt k))) (iI (oo k)) := hw_27
        refine lv_lstore_n (lv' := [(3, .long (dM (dM dk (iI (stt k))) (iI (oo k)))), (5, .int (nI k)), (0, .ref st)]) hx hb dX8_mixedYard_46 rfl hl (by decide) rfl (fun ls hl => ?_)
        refine lv_iinc (v := nI (k + 1)) (lv' := [(5, .int (nI (k + 1))), (3, .long (dM (dM dk (iI (stt k))) (iI (oo k)))), (0, .ref st)]) hx hb dX8_mixedYard_47 hl (k := 1) rfl (nI_add k 1) (by decide) rfl (fun ls hl => ?_)
        refine lv_goto (tgt := 5) hx hb dX8_mixedYard_50 (by decide) ?_
        exact ih5 (k + 1) (dM (dM dk (iI (stt k))) (iI (oo k))) _ _ _ (by omega) (by omega) (by rw [hdk]; rfl) hP hD hS (lv_sub hl [0, 2, 1] rfl)
  exact hloop5 (n + 1) 0 d _ _ _ (by omega) (Nat.zero_le _) rfl hP hD hS (by rw [(show nI 0 = (0 : Int32) from by decide)]; exact lv_sub hl [0, 2, 1] rfl)
