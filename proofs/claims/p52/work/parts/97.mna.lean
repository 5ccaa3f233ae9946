theorem va_AOA.warm {ty : FieldType} {s U : State} (hW : s.WarmedH U.vm) (h : va_AOA ty s) : va_AOA ty U := fun args => by
  have h1 : (Cond.arrayOver (.array ty)).before args (s.setVm U.vm) = true := by
    rw [Cond.arrayOver_setVmC hW.alike]
    exact h args
  exact h1
/-- what the making of Vessel[] and int[][] needs -/
def xO (U : State) : Prop := va_AOA .int U ∧ va_AO "Stevedore$Vessel" U
theorem xO.warm {s U : State} (hW : s.WarmedH U.vm) (h : xO s) : xO U := ⟨va_AOA.warm hW h.1, va_AO.moved hW.alike h.2⟩
theorem xBO.blind {g : xG} {ws : va_W} {sz : Nat} {av : List Value} : FrameBlind (va_Pc av (fun U => xB g ws sz U ∧ xO U)) := fun a U gg mk q => by
  obtain ⟨q0, ⟨q1, qP, qK, qD⟩, qU⟩ := q
  exact ⟨q0, ⟨q1, qP, va_K.moved (u := U) (U := U.calling gg mk a) (Vm.Alike.refl U.vm) qK, qD⟩, fun args => qU.1 args, va_AO.moved (u := U) (U := U.calling gg mk a) (Vm.Alike.refl U.vm) qU.2⟩
section XMN
variable {p : Program} {l : Launch} {e : Env} {R : Room} {s : State} {m : MethodId} {args : Array Value} {below : List Frame} {meth : Method} {c : Code} {H : Heap} {locs : List Loc} {cells slots : Nat} {Q : State → Prop}
variable {pc : Nat} {ls : Array Slot} {rest : List Value} {A : Nat → Prop} {ws : va_W} {H0 : Heap}
/-- new int[n][k]: the outer array and its rows, one by one -/
theorem xMna {g : xG} {cc : ByteArray} (hexec : p.tables.exec = Jvm.exec) (hb : c.code = cc) {own : String} {index : Nat} (hown : s.vm.findClass own = some m.cls) (hclink : (Cond.classLink own index ("[" ++ (FieldType.array .int).toString)).before args s = true) (hover : va_AOA .int s) (harr : (Cond.arrayClass .int).before args s = true)
    (hK : va_K (xD g) vwCl (xT g) s) (hP : va_P (xD g) vwCl ws H) (hD : va_D A ws) (hS : va_S A H0 H locs) (hA : ∀ q, H0.size ≤ q → A q) {n k : Int32} {N' K' : Nat} (hn : ¬ n < 0) (hk : ¬ k < 0) (hN : n.toNatClampNeg = N') (hM : k.toNatClampNeg = K')
    (hb1 : N' * 4 ≤ 536870912) (hb2 : K' * componentBytes .int ≤ 536870912) (hb3 : K' ≤ 536870912) (hcells : cells + (1 + N') ≤ R.cells) (hslots : slots + (N' + N' * K') ≤ R.slots) (hdg : decode cc pc = .ok (.multianewarray index 2, 4))
    (kk : ∀ (q : Nat) (r : Nat → Nat) (H1 : Heap), va_P (xD g) vwCl ((ws ++ [(q, .inl (xM g, N', .inr (.inr (.inr (.inr (fun i => if i < N' then some (r i) else none))))))]) ++ (List.range N').map (fun i => (r i, .inl (xI g, K', .inl (fun _ => 0))))) H1 →
      va_D A ((ws ++ [(q, .inl (xM g, N', .inr (.inr (.inr (.inr (fun i => if i < N' then some (r i) else none))))))]) ++ (List.range N').map (fun i => (r i, .inl (xI g, K', .inl (fun _ => 0))))) → va_S A H0 H1 locs →
      W p l e R s m args below meth c H1 locs (cells + 1 + N') (slots + N' + N' * K') Q (F0 m (pc + 4) ls (.ref q :: rest))) : W p l e R s m args below meth c H locs cells slots Q (F0 m pc ls (.int k :: .int n :: rest)) := by
  have hcy : s.vm.findClass (FieldType.array .int).toString = some (xI g) := by
    have e1 : (FieldType.array .int).toString = "[I" := by decide +kernel
    rw [e1]
    exact va_nm_int (hK.2 0 _ rfl).2
  refine va_mna (X := ws) (L := []) (f := fun _ => .inl (xI g, 0, .inl (fun _ => 0))) (cy := xI g) (z := (K', .inl (fun _ => 0))) hexec hb hown hclink hover harr hcy hK (by show va_P _ _ (ws ++ []) H; rw [List.append_nil]; exact hP) (by show va_D _ (ws ++ []); rw [List.append_nil]; exact hD) hS hA hn hk hN hM hb1 hb2 hb3 (by decide) (by decide) hcells hslots (fun c => by rw [vp_cell_i, ← arrV_new]; rfl) hdg (fun q r cA H1 hinj hnl hK1 hP1 hD1 hS1 => ?_)
  obtain rfl := xMEq hK1
  have e2 : va_pl ([] ++ (List.range N').map r) (vr_up (fun _ => (.inl (xI g, 0, .inl (fun _ => 0)) : va_E)) ((List.range N').map r) (.inl (xI g, (K', .inl (fun _ => 0))))) = (List.range N').map (fun i => (r i, (.inl (xI g, K', .inl (fun _ => 0)) : va_E))) := by
    rw [← vr_rows (L := []) (fun a _ h => absurd h List.not_mem_nil), List.map_map]
    rfl
  rw [e2] at hP1 hD1
  exact kk q r H1 hP1 hD1 hS1
end XMN
def x6 (a b c d e f : Nat) : Nat → Nat := fun i => match i with
  | 0 => a
  | 1 => b
  | 2 => c
  | 3 => d
  | 4 => e
  | _ => f
theorem xCellR_congr {cA : ClassId} {n : Nat} {f f1 : Nat → Option Nat} (h : ∀ j, j < n → f j = f1 j) : vp_cell cA (n, .inr (.inr (.inr (.inr f)))) = vp_cell cA (n, .inr (.inr (.inr (.inr f1)))) := by
  show arrV cA n (fun j => va_rf (f j)) = arrV cA n (fun j => va_rf (f1 j))
  have e : (fun j : Fin n => va_rf (f j.val)) = fun j : Fin n => va_rf (f1 j.val) := funext fun j => by rw [h j.val j.isLt]
  simp only [arrV, e]
theorem xPnormR {D : va_G} {cl : List vw_C} {ws : va_W} {H : Heap} {k a n : Nat} {cA : ClassId} {f f1 : Nat → Option Nat} (hP : va_P D cl ws H) (ha : ws[k]? = some (a, .inl (cA, n, .inr (.inr (.inr (.inr f)))))) (h : ∀ j, j < n → f j = f1 j) : va_P D cl (ws.set k (a, .inl (cA, n, .inr (.inr (.inr (.inr f1)))))) H := by
  intro j q hj
  rw [List.getElem?_set] at hj
  by_cases hkj : k = j
  · rw [if_pos hkj] at hj
    split at hj
    · cases hj
      have h1 := hP k _ ha
      have h2 : H[a]? = some (vp_cell cA (n, .inr (.inr (.inr (.inr f))))) := h1
      show H[a]? = some (vp_cell cA (n, .inr (.inr (.inr (.inr f1)))))
      rw [h2, xCellR_congr h]
    · cases hj
  · rw [if_neg hkj] at hj; exact hP j q hj
