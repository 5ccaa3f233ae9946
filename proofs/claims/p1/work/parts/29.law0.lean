theorem dL_law_23 : decode cL_law 23 = .ok (.iload 4, 2) := by decide +kernel
theorem dL_law_25 : decode cL_law 25 = .ok (.aload_n 0, 1) := by decide +kernel
theorem dL_law_26 : decode cL_law 26 = .ok (.arraylength, 1) := by decide +kernel
theorem dL_law_27 : decode cL_law 27 = .ok (.bipush 6, 2) := by decide +kernel
theorem dL_law_29 : decode cL_law 29 = .ok (.isub, 1) := by decide +kernel
theorem dL_law_30 : decode cL_law 30 = .ok (.if_icmp .gt 2822, 3) := by decide +kernel
theorem dL_law_2846 : decode cL_law 2846 = .ok (.iinc 4 6, 3) := by decide +kernel
theorem dL_law_2849 : decode cL_law 2849 = .ok (.goto (-2826), 3) := by decide +kernel
theorem dL_law_2852 : decode cL_law 2852 = .ok (.iconst 1, 1) := by decide +kernel
theorem dL_law_2853 : decode cL_law 2853 = .ok (.ireturn, 1) := by decide +kernel
/-- the law's end with 1, wherever its loop is over: a start's own -/
def lawEnd (p : Program) (l : Launch) (e : Env) (s : State) (m : MethodId) (b : Nat) (below : List Frame) (meth : Method) (c : Code) (Q : State → Prop) : Prop :=
  ∀ (H : Heap) (locs : List Loc) (ls : Array Slot) (k n : Nat), k ≤ 233 → n ≤ 2798 → va_S (fun q : Nat => s.heap.size ≤ q) s.heap H locs → W p l e room_1 s m #[Value.ref b] below meth c H locs k n Q (F0 m 2853 ls [.int 1])
set_option maxHeartbeats 4000000 in
/-- the loop's step behind the one call, and its end -/
theorem law_tail {p : Program} {l : Launch} {e : Env} {s : State} {m : MethodId} {below : List Frame} {meth : Method} {c : Code} {b : Nat} {xs : Nat → Int32} {Q : State → Prop} {k n : Nat} (hx : p.tables.exec = Jvm.exec) (hb : c.code = cL_law) (hX : va_X b 6 xs s s.heap) (hbl : b < s.heap.size) (Kend : lawEnd p l e s m b below meth c Q) (hk : k ≤ 233) (hn : n ≤ 2798)
    {H : Heap} {locs : List Loc} (hS : va_S (fun q : Nat => s.heap.size ≤ q) s.heap H locs) {ls : Array Slot} (hl : lv_has ls 9 [(0, .ref b), (4, .int 0)]) : W p l e room_1 s m #[Value.ref b] below meth c H locs k n Q (F0 m 2846 ls []) := by
  have hbA : ¬ (fun q : Nat => s.heap.size ≤ q) b := Nat.not_le.mpr hbl
  refine lv_iinc (v := 6) (lv' := [(4, .int 6), (0, .ref b)]) hx hb dL_law_2846 hl (k := 1) rfl (by decide) (by decide) rfl (fun ls hl => ?_)
  refine lv_goto (tgt := 23) hx hb dL_law_2849 (by decide) ?_
  refine lv_iload hx hb dL_law_23 (lv_at hl 0 rfl) ?_
  refine lv_aload_n hx hb dL_law_25 rfl (lv_at hl 1 rfl) ?_
  refine va_slen hx hb hX hbl hbA hS dL_law_26 ?_
  refine lv_bipush (v := 6) hx hb dL_law_27 (by decide) ?_
  refine lv_isub hx hb dL_law_29 ?_
  refine lv_topi (fun v ev => ?_)
  obtain rfl : v = (0 : Int32) := ev.trans (by decide)
  refine lv_icmp_gt (tgt := 2852) hx hb dL_law_30 (by decide) (fun _ => ?_) (fun c0 => absurd (by decide) c0)
  refine lv_iconst (v := 1) hx hb dL_law_2852 (by decide) ?_
  exact Kend H locs ls k n hk hn hS
