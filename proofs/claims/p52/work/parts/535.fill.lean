theorem dJ7_fill_53178_0 : decode cJ7_fill_53178 0 = .ok (.iconst 0, 1) := by decide +kernel
theorem dJ7_fill_53178_1 : decode cJ7_fill_53178 1 = .ok (.istore_n 2, 1) := by decide +kernel
theorem dJ7_fill_53178_2 : decode cJ7_fill_53178 2 = .ok (.aload_n 0, 1) := by decide +kernel
theorem dJ7_fill_53178_3 : decode cJ7_fill_53178 3 = .ok (.arraylength, 1) := by decide +kernel
theorem dJ7_fill_53178_4 : decode cJ7_fill_53178 4 = .ok (.istore_n 3, 1) := by decide +kernel
theorem dJ7_fill_53178_5 : decode cJ7_fill_53178 5 = .ok (.iload_n 2, 1) := by decide +kernel
theorem dJ7_fill_53178_6 : decode cJ7_fill_53178 6 = .ok (.iload_n 3, 1) := by decide +kernel
theorem dJ7_fill_53178_7 : decode cJ7_fill_53178 7 = .ok (.if_icmp .ge 13, 3) := by decide +kernel
theorem dJ7_fill_53178_20 : decode cJ7_fill_53178 20 = .ok (.return_, 1) := by decide +kernel
theorem dJ7_fill_53178_10 : decode cJ7_fill_53178 10 = .ok (.aload_n 0, 1) := by decide +kernel
theorem dJ7_fill_53178_11 : decode cJ7_fill_53178 11 = .ok (.iload_n 2, 1) := by decide +kernel
theorem dJ7_fill_53178_12 : decode cJ7_fill_53178 12 = .ok (.iload_n 1, 1) := by decide +kernel
theorem dJ7_fill_53178_13 : decode cJ7_fill_53178 13 = .ok (.iastore, 1) := by decide +kernel
theorem dJ7_fill_53178_14 : decode cJ7_fill_53178 14 = .ok (.iinc 2 1, 3) := by decide +kernel
theorem dJ7_fill_53178_17 : decode cJ7_fill_53178 17 = .ok (.goto (-12), 3) := by decide +kernel
set_option maxHeartbeats 4000000 in
set_option maxRecDepth 100000 in
theorem j_fill (l : Launch) (g : xG) (sz : Nat) (a : Nat) (n : Nat) (p0 : Int) (f : Nat → Int)  (hn : n < 2147483648) : Met l yJ7_fill_53178 wsJ7_fill_53178 ({ frames := 0, cells := 0, slots := 0, locals := 0 }) (va_Pc [.ref a, .int (iI p0)] (fun U => xB g [(a, .inl (xI g, n, .inl (fun j => iI (f j))))] sz U)) (va_Qv (fun (_ : Unit) => True) (fun (_ : Unit) (t : State) => xE g [(a, .inl (xI g, n, .inl (fun j => iI ((fun (_ : Nat) => (p0 : Int)) j))))] (va_A [(a, .inl (xI g, n, .inl (fun j => iI (f j))))] sz) t) (va_A [(a, .inl (xI g, n, .inl (fun j => iI (f j))))] sz)) 0 0 (va_A [(a, .inl (xI g, n, .inl (fun j => iI (f j))))] sz) := by
  refine Met.ofW (cc := cJ7_fill_53178) (maxL := 4) (ret := none) (by decide) rfl ?_
  intro p e s m args below meth c s₁ B hml hv
  obtain ⟨rfl, hsz, hP, hK, hD0⟩ := hv
  have hx := B.exec
  have hb := B.bytes
  have hr := B.returns
  have hts := atoms_spec (ws := wsJ7_fill_53178) B.pre
  have hown : s.vm.findClass RJ7 = some m.cls := findClass_of_methodNamed B.named
  have hlocks := B.notSynchronized
  subst hsz
  have hD := hD0.self (sz := s.heap.size)
  generalize hAe : va_A [(a, .inl (xI g, n, .inl (fun j => iI (f j))))] s.heap.size = A at hD ⊢
  have hA : ∀ q : Nat, s.heap.size ≤ q → A q := fun q h => by rw [← hAe]; exact Or.inr h
  have hS : va_S A s.heap s.heap [] := va_S.rf
  have hl := lv_entry ([.ref a, .int (iI p0)]) (n := 4) (Nat.le_of_ble_eq_true rfl)
  rw [lg_entry_eq]
  generalize (lg_sl ([.ref a, .int (iI p0)]) ++ List.replicate (4 - (lg_sl ([.ref a, .int (iI p0)])).length) Slot.unset).toArray = ls at hl ⊢
  have hl : lv_has ls 4 [(0, .ref a), (1, .int (iI p0))] := hl
  refine lv_iconst (v := 0) hx hb dJ7_fill_53178_0 (by decide) ?_
  refine lv_istore_n (lv' := [(2, .int 0), (0, .ref a), (1, .int (iI p0))]) hx hb dJ7_fill_53178_1 rfl hl (by decide) rfl (fun ls hl => ?_)
  refine lv_aload_n hx hb dJ7_fill_53178_2 rfl (lv_at hl 1 rfl) ?_
  refine va_alen (v := nI n) hx hb hK hP 0 0 rfl rfl rfl dJ7_fill_53178_3 ?_
  refine lv_istore_n (lv' := [(3, .int (nI n)), (2, .int 0), (0, .ref a), (1, .int (iI p0))]) hx hb dJ7_fill_53178_4 rfl hl (by decide) rfl (fun ls hl => ?_)
  have hloop5 : ∀ (n9 : Nat) (k9 : Nat) (g9 : Nat → Int) (H : Heap) (locs : List Loc) (ls : Array Slot), n - k9 < n9 → (k9 ≤ n) → (∀ j : Nat, j < k9 → g9 j = p0) → va_P (xD g) vwCl [(a, .inl (xI g, n, .inl (fun j => iI (g9 j))))] H → va_D A [(a, .inl (xI g, n, .inl (fun j => iI (g9 j))))] → va_S A s.heap H locs → lv_has ls 4 [(2, .int (nI k9)), (0, .ref a), (1, .int (iI p0)), (3, .int (nI n))] → W p l e (headSpec wsJ7_fill_53178 ({ frames := 0, cells := 0, slots := 0, locals := 0 })).room s m ([.ref a, .int (iI p0)] : List Value).toArray below meth c H locs 0 0 (MQ below (va_Qv (fun (_ : Unit) => True) (fun (_ : Unit) (t : State) => xE g [(a, .inl (xI g, n, .inl (fun j => iI ((fun (_ : Nat) => (p0 : Int)) j))))] (A) t) (A)) ([.ref a, .int (iI p0)] : List Value).toArray s 0 0 A) (F0 m 5 ls []) := by
    intro n9
    induction n9 with
    | zero =>
      intro k9 g9 H locs ls hm hi1 hi2 hP hD hS hl
      exact absurd hm (Nat.not_lt_zero _)
    | succ n9 ih5 =>
      intro k9 g9 H locs ls hm hi1 hi2 hP hD hS hl
      refine lv_iload_n hx hb dJ7_fill_53178_5 rfl (lv_at hl 0 rfl) ?_
      refine lv_iload_n hx hb dJ7_fill_53178_6 rfl (lv_at hl 3 rfl) ?_
      refine lv_icmp_ge (tgt := 20) hx hb dJ7_fill_53178_7 (by decide) (fun c_1 => ?_) (fun c_1 => ?_)
      · have nc_1 := (nI_leI (a := n) (b := k9) (by omega) (by omega)).mp c_1
        have hP := xPnorm (k := 0) (f1 := (fun j => iI ((fun (_ : Nat) => (p0 : Int)) j))) hP rfl (fun j hj => congrArg iI (hi2 j (by omega)))
        have hD := xDnorm (k := 0) (f1 := (fun j => iI ((fun (_ : Nat) => (p0 : Int)) j))) hD rfl
        have hP : va_P (xD g) vwCl [(a, .inl (xI g, n, .inl (fun j => iI ((fun (_ : Nat) => (p0 : Int)) j))))] H := hP
        have hD : va_D A [(a, .inl (xI g, n, .inl (fun j => iI ((fun (_ : Nat) => (p0 : Int)) j))))] := hD
        have hP9 := hP
        have hD9 := hD
        exact W.vret hx hb hr (fun t ht hW => ⟨⟨(), rfl, (by first | trivial | rfl | assumption | omega), ⟨by rw [ht]; exact hP9, va_K.moved hW.alike hK, hD9⟩⟩, hS.F ht⟩) hS.2.2 dJ7_fill_53178_20
      · have nc_1 := mt (nI_leI (a := n) (b := k9) (by omega) (by omega)).mpr c_1
        refine lv_aload_n hx hb dJ7_fill_53178_10 rfl (lv_at hl 1 rfl) ?_
        refine lv_iload_n hx hb dJ7_fill_53178_11 rfl (lv_at hl 0 rfl) ?_
        refine lv_iload_n hx hb dJ7_fill_53178_12 rfl (lv_at hl 2 rfl) ?_
        refine va_iast (x := iI p0) hx hb hK hP hD hS 0 0 rfl rfl (vp_in_nI (by omega) (by omega)) dJ7_fill_53178_13 (fun H locs hP hD hS => ?_)
        rw [iU (f := g9) (k := k9) (v := p0) (nI_clamp (by omega)) rfl] at hP hD
        have hP : va_P (xD g) vwCl [(a, .inl (xI g, n, .inl (fun j => iI ((zU g9 k9 p0) j))))] H := hP
        have hD : va_D A [(a, .inl (xI g, n, .inl (fun j => iI ((zU g9 k9 p0) j))))] := hD
        refine lv_iinc (v := nI (k9 + 1)) (lv' := [(2, .int (nI (k9 + 1))), (0, .ref a), (1, .int (iI p0)), (3, .int (nI n))]) hx hb dJ7_fill_53178_14 hl (k := 0) rfl (nI_add k9 1) (by decide) rfl (fun ls hl => ?_)
        refine lv_goto (tgt := 5) hx hb dJ7_fill_53178_17 (by decide) ?_
        exact ih5 (k9 + 1) (zU g9 k9 p0) _ _ _ (by omega) (by omega) (by intro j hj; by_cases q : j = k9; (subst q; exact zU_at); (rw [zU_ne q]; exact hi2 j (by omega))) hP hD hS (lv_sub hl [0, 1, 2, 3] rfl)
  exact hloop5 (n + 1) 0 f _ _ _ (by omega) (Nat.zero_le n) (fun j hj => absurd hj (Nat.not_lt_zero j)) hP hD hS (by rw [(show nI 0 = (0 : Int32) from by decide)]; exact lv_sub hl [1, 2, 3, 0] rfl)
