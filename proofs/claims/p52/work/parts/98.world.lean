abbrev xQ_ : Type := (Nat) × (Nat) × (Nat)
abbrev o_qy (x : xQ_) : Nat := x.1
abbrev o_crq (x : xQ_) : Nat := x.2.1
abbrev o_vc (x : xQ_) : Nat := x.2.2
abbrev xV_ : Type := (Nat → Int) × (Nat → Nat) × (Nat → Int) × (Nat → Nat) × (Nat → Nat) × (Nat → Int) × (Nat → Int) × (Nat → Int) × (Nat → Nat → Int) × (Nat → Nat → Nat) × (Nat → Nat → Int)
abbrev o_Var (x : xV_) : Nat → Int := x.1
abbrev o_Vba (x : xV_) : Nat → Nat := x.2.1
abbrev o_Vrk (x : xV_) : Nat → Int := x.2.2.1
abbrev o_Vwa (x : xV_) : Nat → Nat := x.2.2.2.1
abbrev o_Vrc (x : xV_) : Nat → Nat := x.2.2.2.2.1
abbrev o_Vgl (x : xV_) : Nat → Int := x.2.2.2.2.2.1
abbrev o_Vhd (x : xV_) : Nat → Int := x.2.2.2.2.2.2.1
abbrev o_Vwt (x : xV_) : Nat → Int := x.2.2.2.2.2.2.2.1
abbrev o_wbz (x : xV_) : Nat → Nat → Int := x.2.2.2.2.2.2.2.2.1
abbrev o_frh (x : xV_) : Nat → Nat → Nat := x.2.2.2.2.2.2.2.2.2.1
abbrev o_bgz (x : xV_) : Nat → Nat → Int := x.2.2.2.2.2.2.2.2.2.2
abbrev xC_ : Type := (Nat) × (Nat → Nat) × (Nat → Nat) × (Nat → Int) × (Nat → Int) × (Nat → Int) × (Nat → Int)
abbrev o_n (x : xC_) : Nat := x.1
abbrev o_cve (x : xC_) : Nat → Nat := x.2.1
abbrev o_cba (x : xC_) : Nat → Nat := x.2.2.1
abbrev o_cex (x : xC_) : Nat → Int := x.2.2.2.1
abbrev o_cwt (x : xC_) : Nat → Int := x.2.2.2.2.1
abbrev o_cwi (x : xC_) : Nat → Int := x.2.2.2.2.2.1
abbrev o_rmz (x : xC_) : Nat → Int := x.2.2.2.2.2.2
abbrev xP_ : Type := (Nat → Nat) × (Nat → Int) × (Nat → Int)
abbrev o_qrd (x : xP_) : Nat → Nat := x.1
abbrev o_qta (x : xP_) : Nat → Int := x.2.1
abbrev o_qla (x : xP_) : Nat → Int := x.2.2
abbrev xG_ : Type := (Nat → Nat) × (Nat) × (Nat → Nat)
abbrev o_gsv (x : xG_) : Nat → Nat := x.1
abbrev o_cnt (x : xG_) : Nat := x.2.1
abbrev o_kf (x : xG_) : Nat → Nat := x.2.2
abbrev xY_ : Type := (Nat) × (Nat) × (Nat) × (Nat → Nat) × (Nat → Nat) × (Nat → Nat → Nat) × (Nat → Int) × (Nat → Int) × (Nat → Int) × (Nat → Int)
abbrev o_sc (x : xY_) : Nat := x.1
abbrev o_rs (x : xY_) : Nat := x.2.1
abbrev o_wo (x : xY_) : Nat := x.2.2.1
abbrev o_lim (x : xY_) : Nat → Nat := x.2.2.2.1
abbrev o_hgt (x : xY_) : Nat → Nat := x.2.2.2.2.1
abbrev o_sd (x : xY_) : Nat → Nat → Nat := x.2.2.2.2.2.1
abbrev o_wt (x : xY_) : Nat → Int := x.2.2.2.2.2.2.1
abbrev o_lv (x : xY_) : Nat → Int := x.2.2.2.2.2.2.2.1
abbrev o_stt (x : xY_) : Nat → Int := x.2.2.2.2.2.2.2.2.1
abbrev o_oo (x : xY_) : Nat → Int := x.2.2.2.2.2.2.2.2.2
abbrev xW_ : Type := (Nat → Nat → Int) × (Nat → Nat) × (Nat → Int) × (Nat → Int)
abbrev o_lz (x : xW_) : Nat → Nat → Int := x.1
abbrev o_bch (x : xW_) : Nat → Nat := x.2.1
abbrev o_iz (x : xW_) : Nat → Int := x.2.2.1
abbrev o_wlz (x : xW_) : Nat → Int := x.2.2.2
abbrev xK_ : Type := (Value) × (Value) × (Value) × (Int) × (Int) × (Value) × (Value) × (Nat → Int) × (Nat → Int) × (Nat → Int) × (Nat → Int) × (Nat → Int) × (Nat → Nat) × (Nat → Int) × (Nat → Int) × (Nat → Int) × (Nat → Int) × (Nat → Nat) × (Nat → Int) × (Nat → Int)
abbrev o_p0 (x : xK_) : Value := x.1
abbrev o_p1 (x : xK_) : Value := x.2.1
abbrev o_p2 (x : xK_) : Value := x.2.2.1
abbrev o_bd (x : xK_) : Int := x.2.2.2.1
abbrev o_bl (x : xK_) : Int := x.2.2.2.2.1
abbrev o_t0 (x : xK_) : Value := x.2.2.2.2.2.1
abbrev o_u0 (x : xK_) : Value := x.2.2.2.2.2.2.1
abbrev o_arv (x : xK_) : Nat → Int := x.2.2.2.2.2.2.2.1
abbrev o_han (x : xK_) : Nat → Int := x.2.2.2.2.2.2.2.2.1
abbrev o_bay (x : xK_) : Nat → Int := x.2.2.2.2.2.2.2.2.2.1
abbrev o_rank (x : xK_) : Nat → Int := x.2.2.2.2.2.2.2.2.2.2.1
abbrev o_want (x : xK_) : Nat → Int := x.2.2.2.2.2.2.2.2.2.2.2.1
abbrev o_ord (x : xK_) : Nat → Nat := x.2.2.2.2.2.2.2.2.2.2.2.2.1
abbrev o_sta (x : xK_) : Nat → Int := x.2.2.2.2.2.2.2.2.2.2.2.2.2.1
abbrev o_pla (x : xK_) : Nat → Int := x.2.2.2.2.2.2.2.2.2.2.2.2.2.2.1
abbrev o_unt (x : xK_) : Nat → Int := x.2.2.2.2.2.2.2.2.2.2.2.2.2.2.2.1
abbrev o_ipt (x : xK_) : Nat → Int := x.2.2.2.2.2.2.2.2.2.2.2.2.2.2.2.2.1
abbrev o_brd (x : xK_) : Nat → Nat := x.2.2.2.2.2.2.2.2.2.2.2.2.2.2.2.2.2.1
abbrev o_bta (x : xK_) : Nat → Int := x.2.2.2.2.2.2.2.2.2.2.2.2.2.2.2.2.2.2.1
abbrev o_bla (x : xK_) : Nat → Int := x.2.2.2.2.2.2.2.2.2.2.2.2.2.2.2.2.2.2.2
abbrev xS_ : Type := (Value) × (Nat → Nat → Int) × (Nat → Int) × (Nat → Int) × (Nat → Nat) × (Nat → Int) × (Nat → Nat) × (Nat → Int)
abbrev o_g0 (x : xS_) : Value := x.1
abbrev o_cost (x : xS_) : Nat → Nat → Int := x.2.1
abbrev o_room (x : xS_) : Nat → Int := x.2.2.1
abbrev o_used (x : xS_) : Nat → Int := x.2.2.2.1
abbrev o_slot (x : xS_) : Nat → Nat := x.2.2.2.2.1
abbrev o_dd (x : xS_) : Nat → Int := x.2.2.2.2.2.1
abbrev o_nxt (x : xS_) : Nat → Nat := x.2.2.2.2.2.2.1
abbrev o_psh (x : xS_) : Nat → Int := x.2.2.2.2.2.2.2
abbrev xT_ : Type := (Value) × (Value) × (Value) × (Nat → Nat) × (Nat → Nat) × (Nat → Nat → Nat) × (Nat → Int) × (Nat → Int) × (Nat → Int) × (Nat → Int) × (Nat → Nat)
abbrev o_z0 (x : xT_) : Value := x.1
abbrev o_z1 (x : xT_) : Value := x.2.1
abbrev o_z2 (x : xT_) : Value := x.2.2.1
abbrev o_tlim (x : xT_) : Nat → Nat := x.2.2.2.1
abbrev o_thgt (x : xT_) : Nat → Nat := x.2.2.2.2.1
abbrev o_td (x : xT_) : Nat → Nat → Nat := x.2.2.2.2.2.1
abbrev o_twt (x : xT_) : Nat → Int := x.2.2.2.2.2.2.1
abbrev o_tlv (x : xT_) : Nat → Int := x.2.2.2.2.2.2.2.1
abbrev o_tst (x : xT_) : Nat → Int := x.2.2.2.2.2.2.2.2.1
abbrev o_too (x : xT_) : Nat → Int := x.2.2.2.2.2.2.2.2.2.1
abbrev o_tnt (x : xT_) : Nat → Nat := x.2.2.2.2.2.2.2.2.2.2
def kIV (aV : xV_) : Prop := (∀ j, (0 ≤ (o_Var aV) j ∧ (o_Var aV) j ≤ 400) ∧ (o_Vba aV) j ≤ 10 ∧ (0 ≤ (o_Vrk aV) j ∧ (o_Vrk aV) j ≤ 9) ∧ (o_Vwa aV) j ≤ 4 ∧ (o_Vrc aV) j ≤ 4 ∧ (0 ≤ (o_Vhd aV) j ∧ (o_Vhd aV) j ≤ 10100) ∧ (0 ≤ (o_Vwt aV) j ∧ (o_Vwt aV) j ≤ 40000)) ∧ (∀ i j, 0 ≤ (o_wbz aV) i j ∧ (o_wbz aV) i j ≤ 100) ∧ (∀ i j, (o_frh aV) i j ≤ 10) ∧ (∀ i j, 0 ≤ (o_bgz aV) i j ∧ (o_bgz aV) i j ≤ 10000)
def kIC (aC : xC_) : Prop := (∀ j, (o_cve aC) j ≤ 5) ∧ (∀ j, (o_cba aC) j ≤ 9) ∧ (∀ j, 0 ≤ (o_cex aC) j ∧ (o_cex aC) j ≤ 1) ∧ (∀ j, 0 ≤ (o_cwt aC) j ∧ (o_cwt aC) j ≤ 1000) ∧ (∀ j, 0 ≤ (o_cwi aC) j ∧ (o_cwi aC) j ≤ 15) ∧ (∀ j, 0 ≤ (o_rmz aC) j ∧ (o_rmz aC) j ≤ 6)
def kIP (aP : xP_) : Prop := (∀ j, (o_qrd aP) j ≤ 5) ∧ (∀ j, 0 ≤ (o_qta aP) j ∧ (o_qta aP) j ≤ 1000000) ∧ (∀ j, (-1) ≤ (o_qla aP) j ∧ (o_qla aP) j ≤ 60)
def kIG (aG : xG_) : Prop := (∀ j, (o_gsv aG) j ≤ 16) ∧ (∀ j, (o_kf aG) j ≤ 100000000)
def kIY (aY : xY_) : Prop := (∀ j, (o_lim aY) j ≤ 5) ∧ (∀ j, (o_hgt aY) j ≤ 5) ∧ (∀ i j, (o_sd aY) i j ≤ 23) ∧ (∀ j, 0 ≤ (o_wt aY) j ∧ (o_wt aY) j ≤ 1000) ∧ (∀ j, 0 ≤ (o_lv aY) j ∧ (o_lv aY) j ≤ 1000000) ∧ (∀ j, 0 ≤ (o_stt aY) j ∧ (o_stt aY) j ≤ 4) ∧ (∀ j, (-1) ≤ (o_oo aY) j ∧ (o_oo aY) j ≤ 11) ∧ (∀ x, (o_sc aY) ≤ x → ∀ j, (o_sd aY) x j = 0)
def kIN (aN : (Nat → Nat)) : Prop := (∀ j, aN j ≤ 11)
def kIW (aW : xW_) : Prop := (∀ i j, 0 ≤ (o_lz aW) i j ∧ (o_lz aW) i j ≤ 1000000) ∧ (∀ j, (o_bch aW) j ≤ 10) ∧ (∀ j, 0 ≤ (o_iz aW) j ∧ (o_iz aW) j ≤ 1) ∧ (∀ j, 0 ≤ (o_wlz aW) j ∧ (o_wlz aW) j ≤ 100)
def kIK (aK : xK_) : Prop := (∀ j, 0 ≤ (o_arv aK) j ∧ (o_arv aK) j ≤ 400) ∧ (∀ j, 0 ≤ (o_han aK) j ∧ (o_han aK) j ≤ 10100) ∧ (∀ j, 0 ≤ (o_bay aK) j ∧ (o_bay aK) j ≤ 10) ∧ (∀ j, 0 ≤ (o_rank aK) j ∧ (o_rank aK) j ≤ 9) ∧ (∀ j, 0 ≤ (o_want aK) j ∧ (o_want aK) j ≤ 4) ∧ (∀ j, (o_ord aK) j ≤ 5) ∧ (∀ j, 0 ≤ (o_sta aK) j ∧ (o_sta aK) j ≤ 1000000) ∧ (∀ j, (-1) ≤ (o_pla aK) j ∧ (o_pla aK) j ≤ 60) ∧ (∀ j, 0 ≤ (o_unt aK) j ∧ (o_unt aK) j ≤ 2000000) ∧ (∀ j, 0 ≤ (o_ipt aK) j ∧ (o_ipt aK) j ≤ 1) ∧ (∀ j, (o_brd aK) j ≤ 5) ∧ (∀ j, 0 ≤ (o_bta aK) j ∧ (o_bta aK) j ≤ 1000000) ∧ (∀ j, (-1) ≤ (o_bla aK) j ∧ (o_bla aK) j ≤ 60)
def kIS (aS : xS_) : Prop := (∀ i j, 0 ≤ (o_cost aS) i j ∧ (o_cost aS) i j ≤ 1000000) ∧ (∀ j, 0 ≤ (o_room aS) j ∧ (o_room aS) j ≤ 24) ∧ (∀ j, 0 ≤ (o_used aS) j ∧ (o_used aS) j ≤ 30) ∧ (∀ j, (o_slot aS) j ≤ 16) ∧ (∀ j, (-3000000) ≤ (o_dd aS) j ∧ (o_dd aS) j ≤ 1000000) ∧ (∀ j, (o_nxt aS) j ≤ 17) ∧ (∀ j, (-1) ≤ (o_psh aS) j ∧ (o_psh aS) j ≤ 23) ∧ ((o_room aS) 16 = 24)
def kIT (aT : xT_) : Prop := (∀ j, (o_tlim aT) j ≤ 5) ∧ (∀ j, (o_thgt aT) j ≤ 5) ∧ (∀ i j, (o_td aT) i j ≤ 23) ∧ (∀ j, 0 ≤ (o_twt aT) j ∧ (o_twt aT) j ≤ 1000) ∧ (∀ j, 0 ≤ (o_tlv aT) j ∧ (o_tlv aT) j ≤ 1000000) ∧ (∀ j, 0 ≤ (o_tst aT) j ∧ (o_tst aT) j ≤ 4) ∧ (∀ j, (-1) ≤ (o_too aT) j ∧ (o_too aT) j ≤ 11) ∧ (∀ j, (o_tnt aT) j ≤ 11)
/-- what always holds of a terminal -/
def xInv (aV : xV_) (aC : xC_) (aP : xP_) (aG : xG_) (aY : xY_) (aN : (Nat → Nat)) (aW : xW_) (aK : xK_) (aS : xS_) (aT : xT_) : Prop := kIV aV ∧ kIC aC ∧ kIP aP ∧ kIG aG ∧ kIY aY ∧ kIN aN ∧ kIW aW ∧ kIK aK ∧ kIS aS ∧ kIT aT ∧ ∀ x, (o_sc aY) ≤ x → ∀ j, (o_td aT) x j = 0
/-- the terminal's cells -/
def SW (g : xG) (ad : Nat → Nat) (ga : Nat → Nat → Nat) (mk : Value) (hs : Value) (aQ : xQ_) (aV : xV_) (aC : xC_) (aP : xP_) (aG : xG_) (aY : xY_) (aN : (Nat → Nat)) (aW : xW_) (aK : xK_) (aS : xS_) (aT : xT_) : va_W := ([((ad 0), .inr (8, [.int (nI (o_qy aQ)), .int (nI (o_crq aQ)), .int (nI (o_vc aQ)), .ref (ad 1), .ref (ad 2), .ref (ad 8), .ref (ad 9), .ref (ad 14), .ref (ad 30), .ref (ad 34), hs, .ref (ad 42), .ref (ad 43), .ref (ad 45), .ref (ad 54)])), ((ad 1), .inl (xV g, 6, .inr (.inr (.inr (.inr (fun i => if i < 6 then some ((ga 0) i) else none))))))] ++ (xR 6 (fun i => ((ga 0) i, .inr (6, [.int (iI ((o_Var aV) i)), .int (nI ((o_Vba aV) i)), .int (iI ((o_Vrk aV) i)), .int (nI ((o_Vwa aV) i)), .int (nI ((o_Vrc aV) i)), .int (iI ((o_Vgl aV) i)), .int (iI ((o_Vhd aV) i)), .int (iI ((o_Vwt aV) i)), .ref ((ga 1) i), .ref ((ga 2) i), .ref ((ga 3) i)]))) ++ (xRI (xI g) 6 10 (ga 1) (o_wbz aV) ++ (xRN (xI g) 6 4 (ga 2) (o_frh aV) ++ (xRI (xI g) 6 10 (ga 3) (o_bgz aV) ++ ([((ad 2), .inr (2, [.int (nI (o_n aC)), .ref (ad 3), .ref (ad 4), .ref (ad 5), .ref (ad 6), .ref (ad 7)])), ((ad 3), .inl (xI g, 24, .inl (fun j => nI ((o_cve aC) j)))), ((ad 4), .inl (xI g, 24, .inl (fun j => nI ((o_cba aC) j)))), ((ad 5), .inl (xZ g, 24, .inl (fun j => iI ((o_cex aC) j)))), ((ad 6), .inl (xI g, 24, .inl (fun j => iI ((o_cwt aC) j)))), ((ad 7), .inl (xI g, 24, .inl (fun j => iI ((o_cwi aC) j)))), ((ad 8), .inl (xI g, 16, .inl (fun j => iI ((o_rmz aC) j)))), ((ad 9), .inr (3, [.ref (ad 10), .ref (ad 11), .ref (ad 12), .ref (ad 13)])), ((ad 10), .inl (xM g, 5, .inr (.inr (.inr (.inr (fun i => if i < 5 then some ((ga 4) i) else none))))))] ++ (xRI (xI g) 5 11 (ga 4) (o_lz aW) ++ ([((ad 11), .inl (xI g, 4, .inl (fun j => nI ((o_bch aW) j)))), ((ad 12), .inl (xZ g, 4, .inl (fun j => iI ((o_iz aW) j)))), ((ad 13), .inl (xI g, 4, .inl (fun j => iI ((o_wlz aW) j)))), ((ad 14), .inr (1, [(o_p0 aK), (o_p1 aK), (o_p2 aK), .ref (ad 15), .ref (ad 16), .ref (ad 17), .ref (ad 18), .ref (ad 19), .ref (ad 20), .ref (ad 24), .ref (ad 25), .ref (ad 26), .int (iI (o_bd aK)), .int (iI (o_bl aK))])), ((ad 15), .inl (xI g, 6, .inl (fun j => iI ((o_arv aK) j)))), ((ad 16), .inl (xI g, 6, .inl (fun j => iI ((o_han aK) j)))), ((ad 17), .inl (xI g, 6, .inl (fun j => iI ((o_bay aK) j)))), ((ad 18), .inl (xI g, 6, .inl (fun j => iI ((o_rank aK) j)))), ((ad 19), .inl (xI g, 6, .inl (fun j => iI ((o_want aK) j)))), ((ad 20), .inr (4, [(o_t0 aK), .ref (ad 21), .ref (ad 22), .ref (ad 23)])), ((ad 21), .inl (xI g, 6, .inl (fun j => nI ((o_ord aK) j)))), ((ad 22), .inl (xI g, 6, .inl (fun j => iI ((o_sta aK) j)))), ((ad 23), .inl (xI g, 6, .inl (fun j => iI ((o_pla aK) j)))), ((ad 24), .inl (xI g, 6, .inl (fun j => iI ((o_unt aK) j)))), ((ad 25), .inl (xZ g, 6, .inl (fun j => iI ((o_ipt aK) j)))), ((ad 26), .inr (4, [(o_u0 aK), .ref (ad 27), .ref (ad 28), .ref (ad 29)])), ((ad 27), .inl (xI g, 6, .inl (fun j => nI ((o_brd aK) j)))), ((ad 28), .inl (xI g, 6, .inl (fun j => iI ((o_bta aK) j)))), ((ad 29), .inl (xI g, 6, .inl (fun j => iI ((o_bla aK) j)))), ((ad 30), .inr (4, [mk, .ref (ad 31), .ref (ad 32), .ref (ad 33)])), ((ad 31), .inl (xI g, 6, .inl (fun j => nI ((o_qrd aP) j)))), ((ad 32), .inl (xI g, 6, .inl (fun j => iI ((o_qta aP) j)))), ((ad 33), .inl (xI g, 6, .inl (fun j => iI ((o_qla aP) j)))), ((ad 34), .inr (5, [(o_g0 aS), .ref (ad 35), .ref (ad 36), .ref (ad 37), .ref (ad 38), .ref (ad 39), .ref (ad 40), .ref (ad 41)])), ((ad 35), .inl (xM g, 24, .inr (.inr (.inr (.inr (fun i => if i < 24 then some ((ga 5) i) else none))))))] ++ (xRI (xI g) 24 17 (ga 5) (o_cost aS) ++ ([((ad 36), .inl (xI g, 17, .inl (fun j => iI ((o_room aS) j)))), ((ad 37), .inl (xI g, 17, .inl (fun j => iI ((o_used aS) j)))), ((ad 38), .inl (xI g, 24, .inl (fun j => nI ((o_slot aS) j)))), ((ad 39), .inl (xI g, 18, .inl (fun j => iI ((o_dd aS) j)))), ((ad 40), .inl (xI g, 18, .inl (fun j => nI ((o_nxt aS) j)))), ((ad 41), .inl (xI g, 18, .inl (fun j => iI ((o_psh aS) j)))), ((ad 42), .inl (xI g, 24, .inl (fun j => nI ((o_gsv aG) j)))), ((ad 43), .inr (0, [.int (nI (o_cnt aG)), .ref (ad 44)])), ((ad 44), .inl (xI g, 48, .inl (fun j => nI ((o_kf aG) j)))), ((ad 45), .inr (7, [.int (nI (o_sc aY)), .int (nI (o_rs aY)), .int (nI (o_wo aY)), .ref (ad 46), .ref (ad 47), .ref (ad 48), .ref (ad 49), .ref (ad 50), .ref (ad 51), .ref (ad 52), .ref (ad 53)])), ((ad 46), .inl (xI g, 12, .inl (fun j => nI ((o_lim aY) j)))), ((ad 47), .inl (xI g, 12, .inl (fun j => nI ((o_hgt aY) j)))), ((ad 48), .inl (xM g, 12, .inr (.inr (.inr (.inr (fun i => if i < 12 then some ((ga 6) i) else none))))))] ++ (xRN (xI g) 12 5 (ga 6) (o_sd aY) ++ ([((ad 49), .inl (xI g, 24, .inl (fun j => iI ((o_wt aY) j)))), ((ad 50), .inl (xI g, 24, .inl (fun j => iI ((o_lv aY) j)))), ((ad 51), .inl (xI g, 24, .inl (fun j => iI ((o_stt aY) j)))), ((ad 52), .inl (xI g, 24, .inl (fun j => iI ((o_oo aY) j)))), ((ad 53), .inl (xI g, 5, .inl (fun j => nI (aN j)))), ((ad 54), .inr (7, [(o_z0 aT), (o_z1 aT), (o_z2 aT), .ref (ad 55), .ref (ad 56), .ref (ad 57), .ref (ad 58), .ref (ad 59), .ref (ad 60), .ref (ad 61), .ref (ad 62)])), ((ad 55), .inl (xI g, 12, .inl (fun j => nI ((o_tlim aT) j)))), ((ad 56), .inl (xI g, 12, .inl (fun j => nI ((o_thgt aT) j)))), ((ad 57), .inl (xM g, 12, .inr (.inr (.inr (.inr (fun i => if i < 12 then some ((ga 7) i) else none))))))] ++ (xRN (xI g) 12 5 (ga 7) (o_td aT) ++ [((ad 58), .inl (xI g, 24, .inl (fun j => iI ((o_twt aT) j)))), ((ad 59), .inl (xI g, 24, .inl (fun j => iI ((o_tlv aT) j)))), ((ad 60), .inl (xI g, 24, .inl (fun j => iI ((o_tst aT) j)))), ((ad 61), .inl (xI g, 24, .inl (fun j => iI ((o_too aT) j)))), ((ad 62), .inl (xI g, 5, .inl (fun j => nI ((o_tnt aT) j))))])))))))))))))
abbrev yWof (aY : xY_) : yW := (((o_hgt aY, o_sd aY, o_oo aY), o_stt aY), o_rs aY)
/-- a world's part -/
theorem xMap {ws ws' : va_W} {is : List Nat} (hs : is.map (fun i => ws[i]?) = ws'.map some) (k : Nat) (q : Nat × va_E) (hk : ws'[k]? = some q) : ∃ i, is[k]? = some i ∧ ws[i]? = some q := by
  have h1 : (is.map (fun i => ws[i]?))[k]? = some (some q) := by rw [hs, List.getElem?_map, hk]; rfl
  rw [List.getElem?_map] at h1
  cases hi : is[k]? with
  | none => rw [hi] at h1; cases h1
  | some i => rw [hi] at h1; exact ⟨i, rfl, Option.some.inj h1⟩
theorem xPs {D : va_G} {cl : List vw_C} {ws ws' : va_W} {H : Heap} (hP : va_P D cl ws H) (is : List Nat) (hs : is.map (fun i => ws[i]?) = ws'.map some) : va_P D cl ws' H := fun k q hk => by
  obtain ⟨i, -, h⟩ := xMap hs k q hk
  exact hP i q h
theorem xEsub {g : xG} {ws ws' : va_W} {A : Nat → Prop} {t : State} (h : xE g ws A t) (is : List Nat) (hn : va_nd is = true) (hs : is.map (fun i => ws[i]?) = ws'.map some) : xE g ws' A t := ⟨xPs h.1 is hs, h.2.1, h.2.2.sub is hn hs⟩
theorem xBsub {g : xG} {ws ws' : va_W} {sz : Nat} {U : State} (h : xB g ws sz U) (is : List Nat) (hn : va_nd is = true) (hs : is.map (fun i => ws[i]?) = ws'.map some) : xB g ws' sz U := ⟨h.1, xPs h.2.1 is hs, h.2.2.1, h.2.2.2.sub is hn hs⟩
theorem xLiftR {l : Launch} {y : MethodName} {wds : List Cond} {rm : Room} {av : List Value} {F F' : State → Prop} {Qc : Array Value → State → Outcome → State → Prop} {mc ms : Nat} {free : Addr → Prop} (h : Met l y wds rm (va_Pc av F) Qc mc ms free) (hF : ∀ U, F' U → F U) : Met l y wds rm (va_Pc av F') Qc mc ms free :=
  MetFree.mono h (fun a s hp => ⟨hp.1, hF s hp.2⟩) (fun _ _ _ _ _ h => h) (fun _ _ _ _ _ h => h)
theorem xFrame {g : xG} {big small wr w1 : va_W} {sz : Nat} {st t : State} {isC isR : List Nat} (hU : xB g big sz st) (hC : isC.map (fun i => big[i]?) = small.map some) (hR : isR.map (fun i => big[i]?) = wr.map some) (hn : va_nd isR = true) (hdis : ∀ i ∈ isR, i ∉ isC) (hF : va_F (va_A small sz) st t) (hE : xE g w1 (va_A small sz) t) : xE g (wr ++ w1) (va_A big sz) t := by
  obtain ⟨rfl, hP, -, hD⟩ := hU
  obtain ⟨hP1, hK1, hD1⟩ := hE
  have hA : ∀ q, va_A small st.heap.size q → va_A big st.heap.size q := fun q h => h.elim (fun ⟨k, e, hk⟩ => by
    obtain ⟨i, -, hi⟩ := xMap hC k (q, e) hk
    exact Or.inl ⟨i, e, hi⟩) Or.inr
  have h := va_join (H := st.heap) (H1 := t.heap) (A0 := va_A big st.heap.size) hP hD.self isC isR hC hR hn hdis hF.2 hA hP1 hD1
  exact ⟨h.1, hK1, h.2⟩
theorem xWide {big small : va_W} {sz : Nat} {isC : List Nat} (hC : isC.map (fun i => big[i]?) = small.map some) (q : Nat) (h : va_A small sz q) : va_A big sz q := h.elim (fun ⟨k, e, hk⟩ => by
    obtain ⟨i, -, hi⟩ := xMap hC k (q, e) hk
    exact Or.inl ⟨i, e, hi⟩) Or.inr
theorem xFw {A B : Nat → Prop} {s t : State} (h : va_F A s t) (hA : ∀ q, A q → B q) : va_F B s t := ⟨h.1, fun q h1 h2 => h.2 q h1 (fun z => h2 (hA q z))⟩
section LIFT
variable {l : Launch} {y : MethodName} {wds : List Cond} {rm : Room} {av : List Value} {g : xG} {big small wr : va_W} {sz : Nat} {mc ms : Nat} {isC isR : List Nat} {S : Type}
theorem xLiftV {post : S → Prop} {B B' : S → State → Prop} (h : Met l y wds rm (va_Pc av (fun U => xB g small sz U)) (va_Qv post B (va_A small sz)) mc ms (va_A small sz)) (hC : isC.map (fun i => big[i]?) = small.map some) (hnC : va_nd isC = true) (hR : isR.map (fun i => big[i]?) = wr.map some) (hn : va_nd isR = true) (hdis : ∀ i ∈ isR, i ∉ isC)
    (hB : ∀ u t, B u t → (∀ w1, xE g w1 (va_A small sz) t → xE g (wr ++ w1) (va_A big sz) t) → B' u t) : Met l y wds rm (va_Pc av (fun U => xB g big sz U)) (va_Qv post B' (va_A big sz)) mc ms (va_A big sz) := by
  refine MetFree.mono h (fun a s hp => ⟨hp.1, xBsub hp.2 isC hnC hC⟩) (fun _ _ _ _ _ h => h) (fun a st o t hp hq => ?_)
  obtain ⟨⟨⟨u, ho, hpost, hb⟩, hF⟩, L, hfe, hL⟩ := hq
  exact ⟨⟨⟨u, ho, hpost, hB u t hb (fun w1 hE => xFrame hp.2 hC hR hn hdis hF hE)⟩, xFw hF (xWide hC)⟩, L, hfe, fun q hq => xWide hC _ (hL q hq)⟩
theorem xLiftI {post : Int32 → S → Prop} {B B' : S → State → Prop} (h : Met l y wds rm (va_Pc av (fun U => xB g small sz U)) (va_Qi post B (va_A small sz)) mc ms (va_A small sz)) (hC : isC.map (fun i => big[i]?) = small.map some) (hnC : va_nd isC = true) (hR : isR.map (fun i => big[i]?) = wr.map some) (hn : va_nd isR = true) (hdis : ∀ i ∈ isR, i ∉ isC)
    (hB : ∀ u t, B u t → (∀ w1, xE g w1 (va_A small sz) t → xE g (wr ++ w1) (va_A big sz) t) → B' u t) : Met l y wds rm (va_Pc av (fun U => xB g big sz U)) (va_Qi post B' (va_A big sz)) mc ms (va_A big sz) := by
  refine MetFree.mono h (fun a s hp => ⟨hp.1, xBsub hp.2 isC hnC hC⟩) (fun _ _ _ _ _ h => h) (fun a st o t hp hq => ?_)
  obtain ⟨⟨⟨r, u, ho, hpost, hb⟩, hF⟩, L, hfe, hL⟩ := hq
  exact ⟨⟨⟨r, u, ho, hpost, hB u t hb (fun w1 hE => xFrame hp.2 hC hR hn hdis hF hE)⟩, xFw hF (xWide hC)⟩, L, hfe, fun q hq => xWide hC _ (hL q hq)⟩
end LIFT
