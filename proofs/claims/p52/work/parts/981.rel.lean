/-! What adding a vessel, adding a container change of the vessels. -/
def vAdd (aV : xV_) (k : Nat) (a : Int) (nb : Nat) (rk : Int) (wn : Nat) (aV2 : xV_) : Prop :=
  ∃ (R2 : Nat) (gl2 hd2 wt2 : Int) (frh2 : Nat → Nat) (bgz2 : Nat → Int), aV2 = (zU (o_Var aV) k a, nV (o_Vba aV) k nb, zU (o_Vrk aV) k rk, nV (o_Vwa aV) k wn, nV (o_Vrc aV) k R2, zU (o_Vgl aV) k gl2, zU (o_Vhd aV) k hd2, zU (o_Vwt aV) k wt2, o_wbz aV, rU (o_frh aV) k frh2, rU (o_bgz aV) k bgz2) ∧ vSt frh2 nb R2 hd2 wt2
def vCon (aV : xV_) (v b : Nat) (aV2 : xV_) : Prop :=
  ∃ (R2 : Nat) (gl2 hd2 wt2 : Int) (frh2 : Nat → Nat) (bgz2 : Nat → Int), aV2 = (o_Var aV, o_Vba aV, o_Vrk aV, o_Vwa aV, nV (o_Vrc aV) v R2, zU (o_Vgl aV) v gl2, zU (o_Vhd aV) v hd2, zU (o_Vwt aV) v wt2, zU2 (o_wbz aV) v b (o_wbz aV v b + 2), rU (o_frh aV) v frh2, rU (o_bgz aV) v bgz2) ∧ vSt frh2 (o_Vba aV v) R2 hd2 wt2
