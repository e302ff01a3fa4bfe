set_option maxHeartbeats 4000000 in
set_option maxRecDepth 100000 in
theorem c_X5_isJoined (l : Launch) (G : GT) (μ : Mem) (p : Nat) (hp : p < 4) (hR : rng μ) : MI l yX5_isJoined cX5_isJoined 1 .boolean ({ frames := 0, cells := 0, slots := 0, locals := 0 } : Room) G [.inr (ad G (10 + p))] μ (rdc μ (¬ μ (10 + p) 5 = -6)) := by
  refine MI.of (by decide +kernel) (Nat.le_of_ble_eq_true rfl) ?_
  intro F C Yy
  show jX F G 1 0 0 (jE F G (jQi G (rdc μ (¬ μ (10 + p) 5 = -6)))) 0 [some (.inr (ad G (10 + p)))] [] μ
  refine jx_aload_n C dX5_isJoined_0 rfl ?_
  refine jx_get (v := .inl (μ (10 + p) 5)) C 5 ft_X5 (jcl_PI G hp _) rfl (by decide) (by omega) wf_X5_25 dX5_isJoined_1 ?_
  have r_1 := rg_PI_5 hR (p := p) hp
  refine jx_bipush C dX5_isJoined_4 (by decide +kernel) ?_
  refine jx_icmp_eq C dX5_isJoined_6 (by omega) (by decide) (fun c_6 => ?_) (fun c_6 => ?_)
  · refine jx_iconst C dX5_isJoined_13 ?_
    exact jx_zret C dX5_isJoined_14 (Or.inl rfl) ⟨rfl, Or.inr ⟨rfl, by omega⟩⟩
  · refine jx_iconst C dX5_isJoined_9 ?_
    refine jx_goto C dX5_isJoined_10 ?_
    exact jx_zret C dX5_isJoined_14 (Or.inr rfl) ⟨rfl, Or.inl ⟨rfl, by omega⟩⟩
set_option maxHeartbeats 4000000 in
set_option maxRecDepth 100000 in
theorem c_X5_dotAt (l : Launch) (G : GT) (μ : Mem) (p : Nat) (hp : p < 4) (x y : Int) (hx : InR x) (hy : InR y) (hR : rng μ) : MI l yX5_dotAt cX5_dotAt 3 .int ({ frames := 2, cells := 0, slots := 0, locals := 44 } : Room) G [.inr (ad G (10 + p)), .inl x, .inl y] μ (rdq μ (dgt (μ (14 + p) 2) (μ (14 + p) 3) (μ (18 + p)) (x - μ (10 + p) 2) (y - μ (10 + p) 3))) := by
  refine MI.of (by decide +kernel) (Nat.le_of_ble_eq_true rfl) ?_
  intro F C Yy
  show jX F G 3 0 0 (jE F G (jQi G (rdq μ (dgt (μ (14 + p) 2) (μ (14 + p) 3) (μ (18 + p)) (x - μ (10 + p) 2) (y - μ (10 + p) 3))))) 0 [some (.inr (ad G (10 + p))), some (.inl x), some (.inl y)] [] μ
  have r_a := rg_DO_2 hR hp
  have r_b := rg_DO_3 hR hp
  refine jx_aload_n C dX5_dotAt_0 rfl ?_
  refine jx_get (v := .inr (ad G (14 + p))) C 0 ft_X5 (jcl_PI G hp _) rfl (by decide) (by omega) wf_X5_12 dX5_dotAt_1 ?_
  refine jx_iload_n C dX5_dotAt_4 rfl ?_
  refine jx_aload_n C dX5_dotAt_5 rfl ?_
  refine jx_get (v := .inl (μ (10 + p) 2)) C 2 ft_X5 (jcl_PI G hp _) rfl (by decide) (by omega) wf_X5_29 dX5_dotAt_6 ?_
  have r_6 := rg_PI_2 hR (p := p) hp
  refine jx_isub C dX5_dotAt_9 ?_
  refine jx_w (b := wrp (x - (μ (10 + p) 2))) (wrp_eq _) ?_
  have w_10 := wrp_in (x - (μ (10 + p) 2))
  refine jx_iload_n C dX5_dotAt_10 rfl ?_
  refine jx_aload_n C dX5_dotAt_11 rfl ?_
  refine jx_get (v := .inl (μ (10 + p) 3)) C 3 ft_X5 (jcl_PI G hp _) rfl (by decide) (by omega) wf_X5_32 dX5_dotAt_12 ?_
  have r_12 := rg_PI_3 hR (p := p) hp
  refine jx_isub C dX5_dotAt_15 ?_
  refine jx_w (b := wrp (y - (μ (10 + p) 3))) (wrp_eq _) ?_
  have w_16 := wrp_in (y - (μ (10 + p) 3))
  refine jx_cVi (as := [.inl (wrp (x - (μ (10 + p) 2))), .inl (wrp (y - (μ (10 + p) 3)))]) (st := []) C Yy (c_X1_get l G μ p (by omega) (wrp (x - (μ (10 + p) 2))) (wrp (y - (μ (10 + p) 3))) (by omega) (by omega) hR) yb_X1_get yv_X1_get wm_X5_35 (jcl_DO G hp _) rfl (by omega) rfl rfl (Nat.le_of_ble_eq_true rfl) ⟨⟨rfl, rfl, Nat.le_of_ble_eq_true rfl, Nat.le_of_ble_eq_true rfl⟩, Nat.zero_le _, Nat.zero_le _⟩ dX5_dotAt_16 ?_
  rintro _ _ ⟨rfl, rfl⟩
  have r_16 := dgt_rng (W := μ (14 + p) 2) (H := μ (14 + p) 3) (v := μ (18 + p)) (fun t => rg_va hR (p := p) (by omega) t) (wrp (x - (μ (10 + p) 2))) (wrp (y - (μ (10 + p) 3)))
  exact jx_iret C dX5_dotAt_19 ⟨(dgt_wrp (by omega) (by omega) hx hy r_6 r_12).symm, rfl⟩
set_option maxHeartbeats 4000000 in
set_option maxRecDepth 100000 in
theorem c_X5_edge (l : Launch) (G : GT) (μ : Mem) (p : Nat) (hp : p < 4) (what : Int) (hw : 0 ≤ what ∧ what ≤ 3) (hR : rng μ) : MI l yX5_edge cX5_edge 2 .int ({ frames := 0, cells := 0, slots := 0, locals := 0 } : Room) G [.inr (ad G (10 + p)), .inl what] μ (rdq μ (edg (μ (10 + p) 2) (μ (10 + p) 3) (μ (14 + p) 2) (μ (14 + p) 3) what)) := by
  refine MI.of (by decide +kernel) (Nat.le_of_ble_eq_true rfl) ?_
  intro F C Yy
  show jX F G 2 0 0 (jE F G (jQi G (rdq μ (edg (μ (10 + p) 2) (μ (10 + p) 3) (μ (14 + p) 2) (μ (14 + p) 3) what)))) 0 [some (.inr (ad G (10 + p))), some (.inl what)] [] μ
  refine jx_iload_n C dX5_edge_0 rfl ?_
  rcases (show what = 0 ∨ what = 1 ∨ what = 2 ∨ (what < 0 ∨ 2 < what) by omega) with rfl | rfl | rfl | hsw
  · refine jx_tableIn (tgt := 28) C dX5_edge_1 (by decide) (by decide) (by decide) rfl (by decide) ?_
    refine jx_aload_n C dX5_edge_28 rfl ?_
    refine jx_get (v := .inl (μ (10 + p) 2)) C 2 ft_X5 (jcl_PI G hp _) rfl (by decide) (by omega) wf_X5_29 dX5_edge_29 ?_
    have r_29 := rg_PI_2 hR (p := p) hp
    exact jx_iret C dX5_edge_32 ⟨rfl, rfl⟩
  · refine jx_tableIn (tgt := 33) C dX5_edge_1 (by decide) (by decide) (by decide) rfl (by decide) ?_
    refine jx_aload_n C dX5_edge_33 rfl ?_
    refine jx_get (v := .inl (μ (10 + p) 3)) C 3 ft_X5 (jcl_PI G hp _) rfl (by decide) (by omega) wf_X5_32 dX5_edge_34 ?_
    have r_34 := rg_PI_3 hR (p := p) hp
    exact jx_iret C dX5_edge_37 ⟨rfl, rfl⟩
  · refine jx_tableIn (tgt := 38) C dX5_edge_1 (by decide) (by decide) (by decide) rfl (by decide) ?_
    refine jx_aload_n C dX5_edge_38 rfl ?_
    refine jx_get (v := .inl (μ (10 + p) 2)) C 2 ft_X5 (jcl_PI G hp _) rfl (by decide) (by omega) wf_X5_29 dX5_edge_39 ?_
    have r_39 := rg_PI_2 hR (p := p) hp
    refine jx_aload_n C dX5_edge_42 rfl ?_
    refine jx_get (v := .inr (ad G (14 + p))) C 0 ft_X5 (jcl_PI G hp _) rfl (by decide) (by omega) wf_X5_12 dX5_edge_43 ?_
    refine jx_get (v := .inl (μ (14 + p) 2)) C 2 ft_X1 (jcl_DO G hp _) rfl (by decide) (by omega) wf_X5_39 dX5_edge_46 ?_
    have r_46 := rg_DO_2 hR (p := p) hp
    refine jx_iadd C dX5_edge_49 ?_
    refine jx_iconst C dX5_edge_50 ?_
    refine jx_isub C dX5_edge_51 ?_
    exact jx_iret C dX5_edge_52 ⟨rfl, rfl⟩
  · refine jx_tableOut (tgt := 53) C dX5_edge_1 (by omega) hsw (by decide) ?_
    refine jx_aload_n C dX5_edge_53 rfl ?_
    refine jx_get (v := .inl (μ (10 + p) 3)) C 3 ft_X5 (jcl_PI G hp _) rfl (by decide) (by omega) wf_X5_32 dX5_edge_54 ?_
    have r_54 := rg_PI_3 hR (p := p) hp
    refine jx_aload_n C dX5_edge_57 rfl ?_
    refine jx_get (v := .inr (ad G (14 + p))) C 0 ft_X5 (jcl_PI G hp _) rfl (by decide) (by omega) wf_X5_12 dX5_edge_58 ?_
    refine jx_get (v := .inl (μ (14 + p) 3)) C 3 ft_X1 (jcl_DO G hp _) rfl (by decide) (by omega) wf_X5_42 dX5_edge_61 ?_
    have r_61 := rg_DO_3 hR (p := p) hp
    refine jx_iadd C dX5_edge_64 ?_
    refine jx_iconst C dX5_edge_65 ?_
    refine jx_isub C dX5_edge_66 ?_
    exact jx_iret C dX5_edge_67 ⟨by rw [edg, if_neg (by omega), if_neg (by omega), if_neg (by omega)], rfl⟩
set_option maxHeartbeats 4000000 in
set_option maxRecDepth 100000 in
theorem c_X0_pairingOf (l : Launch) (G : GT) (μ : Mem) (a b : Nat) (ha : a < 4) (hb : b < 4) (ai bi : Int) (hai : ai = (a : Int)) (hbi : bi = (b : Int)) : MR l yX0_pairingOf cX0_pairingOf 3 (.object "PictureJoin$Pairing") ({ frames := 0, cells := 0, slots := 0, locals := 0 } : Room) G [.inr (ad G 2), .inl ai, .inl bi] μ (fun r μ' => r = ad G (46 + (4 * a + b)) ∧ μ = μ') := by
  refine MR.of (by decide +kernel) (Nat.le_of_ble_eq_true rfl) ?_
  intro F C Yy
  show jX F G 3 0 0 (jE F G (jQr G (fun r μ' => r = ad G (46 + (4 * a + b)) ∧ μ = μ'))) 0 [some (.inr (ad G 2)), some (.inl ai), some (.inl bi)] [] μ
  refine jx_aload_n C dX0_pairingOf_0 rfl ?_
  refine jx_get (v := .inr (ad G 6)) C 1 ft_X0 (jcl_AL G _) rfl (by decide) (by decide) wf_X0_19 dX0_pairingOf_1 ?_
  refine jx_iload_n C dX0_pairingOf_4 rfl ?_
  refine jx_iconst C dX0_pairingOf_5 ?_
  refine jx_imul C dX0_pairingOf_6 ?_
  refine jx_iload_n C dX0_pairingOf_7 rfl ?_
  refine jx_iadd C dX0_pairingOf_8 ?_
  refine jx_aald (p' := (4 * a + b)) (t0 := 2) C (jcl_6 G _) rfl (by decide) (by omega) (by omega) (by decide) dX0_pairingOf_9 ?_
  exact jx_aret C dX0_pairingOf_10 ⟨rfl, rfl⟩
set_option maxHeartbeats 4000000 in
set_option maxRecDepth 100000 in
theorem c_X0_put (l : Launch) (G : GT) (μ : Mem) (b : Nat) (hb : b < 4) (bi x y a : Int) (hbi : bi = (b : Int)) (hx : -1000 ≤ x ∧ x ≤ 1000) (hy : -1000 ≤ y ∧ y ≤ 1000) (ha : -6 ≤ a ∧ a ≤ 3) (hn : μ 2 4 ≤ 3) (hR : rng μ) : MV l yX0_put cX0_put 6 ({ frames := 0, cells := 0, slots := 0, locals := 0 } : Room) G [.inr (ad G 2), .inl bi, .inl x, .inl y, .inl a] μ (fun μ' => rng μ' ∧ μ' = jms (jms (jms (jms (jms (jms μ (10 + b) 2 x) (10 + b) 3 y) (10 + b) 4 a) (10 + b) 5 (μ 2 4)) 7 (μ 2 4).toNat (b : Int)) 2 4 (μ 2 4 + 1)) := by
  refine MV.of (by decide +kernel) (Nat.le_of_ble_eq_true rfl) ?_
  intro F C Yy
  show jX F G 6 0 0 (jE F G (jQv G (fun μ' => rng μ' ∧ μ' = jms (jms (jms (jms (jms (jms μ (10 + b) 2 x) (10 + b) 3 y) (10 + b) 4 a) (10 + b) 5 (μ 2 4)) 7 (μ 2 4).toNat (b : Int)) 2 4 (μ 2 4 + 1)))) 0 [some (.inr (ad G 2)), some (.inl bi), some (.inl x), some (.inl y), some (.inl a), none] [] μ
  have r_n := rg_AL_4 hR
  subst hbi
  refine jx_aload_n C dX0_put_0 rfl ?_
  refine jx_get (v := .inr (ad G 5)) C 0 ft_X0 (jcl_AL G _) rfl (by decide) (by decide) wf_X0_11 dX0_put_1 ?_
  refine jx_iload_n C dX0_put_4 rfl ?_
  refine jx_aald (p' := b) (t0 := 1) C (jcl_5 G _) rfl (by decide) rfl (by omega) (by decide) dX0_put_5 ?_
  refine jx_astore (L' := [some (.inr (ad G 2)), some (.inl (b : Int)), some (.inl x), some (.inl y), some (.inl a), some (.inr (ad G (10 + b)))]) C dX0_put_6 (by decide) rfl ?_
  refine jx_aload C dX0_put_8 rfl ?_
  refine jx_iload_n C dX0_put_10 rfl ?_
  refine jx_put C 2 ft_X5 (jcl_PI G hb _) ((jcl_PI G hb _).trans rfl) (by decide) (by omega) rfl (Or.inl rfl) (by simp) wf_X0_80 dX0_put_11 ?_
  obtain ⟨μ1, eμ1⟩ : ∃ y_ : Mem, y_ = jms μ (10 + b) 2 x := ⟨_, rfl⟩
  rw [← eμ1]
  have hR1 : rng μ1 := by rw [eμ1]; exact rs_PI_2 hR hb (by omega) (by omega)
  refine jx_aload C dX0_put_14 rfl ?_
  refine jx_iload_n C dX0_put_16 rfl ?_
  refine jx_put C 3 ft_X5 (jcl_PI G hb _) ((jcl_PI G hb _).trans rfl) (by decide) (by omega) rfl (Or.inl rfl) (by simp) wf_X0_84 dX0_put_17 ?_
  obtain ⟨μ2, eμ2⟩ : ∃ y_ : Mem, y_ = jms μ1 (10 + b) 3 y := ⟨_, rfl⟩
  rw [← eμ2]
  have hR2 : rng μ2 := by rw [eμ2]; exact rs_PI_3 hR1 hb (by omega) (by omega)
  refine jx_aload C dX0_put_20 rfl ?_
  refine jx_iload C dX0_put_22 rfl ?_
  refine jx_put C 4 ft_X5 (jcl_PI G hb _) ((jcl_PI G hb _).trans rfl) (by decide) (by omega) rfl (Or.inl rfl) (by simp) wf_X0_88 dX0_put_24 ?_
  obtain ⟨μ3, eμ3⟩ : ∃ y_ : Mem, y_ = jms μ2 (10 + b) 4 a := ⟨_, rfl⟩
  rw [← eμ3]
  have hR3 : rng μ3 := by rw [eμ3]; exact rs_PI_4 hR2 hb (by omega) (by omega)
  refine jx_aload C dX0_put_27 rfl ?_
  refine jx_aload_n C dX0_put_29 rfl ?_
  refine jx_get (v := .inl (μ3 2 4)) C 4 ft_X0 (jcl_AL G _) rfl (by decide) (by decide) wf_X0_66 dX0_put_30 ?_
  have r_30 := rg_AL_4 hR3
  try rw [eμ3, jms_cell _ _ _ _ (by omega), eμ2, jms_cell _ _ _ _ (by omega), eμ1, jms_cell _ _ _ _ (by omega)] at r_30
  refine jx_top (b := μ 2 4) (by rw [eμ3, jms_cell _ _ _ _ (by omega), eμ2, jms_cell _ _ _ _ (by omega), eμ1, jms_cell _ _ _ _ (by omega)]) ?_
  refine jx_put C 5 ft_X5 (jcl_PI G hb _) ((jcl_PI G hb _).trans rfl) (by decide) (by omega) rfl (Or.inl rfl) (by simp) wf_X0_69 dX0_put_33 ?_
  obtain ⟨μ4, eμ4⟩ : ∃ y_ : Mem, y_ = jms μ3 (10 + b) 5 (μ 2 4) := ⟨_, rfl⟩
  rw [← eμ4]
  have hR4 : rng μ4 := by rw [eμ4]; exact rs_PI_5 hR3 hb (by omega) (by omega)
  refine jx_aload_n C dX0_put_36 rfl ?_
  refine jx_get (v := .inr (ad G 7)) C 2 ft_X0 (jcl_AL G _) rfl (by decide) (by decide) wf_X0_23 dX0_put_37 ?_
  refine jx_aload_n C dX0_put_40 rfl ?_
  refine jx_get (v := .inl (μ4 2 4)) C 4 ft_X0 (jcl_AL G _) rfl (by decide) (by decide) wf_X0_66 dX0_put_41 ?_
  have r_41 := rg_AL_4 hR4
  try rw [eμ4, jms_cell _ _ _ _ (by omega), eμ3, jms_cell _ _ _ _ (by omega), eμ2, jms_cell _ _ _ _ (by omega), eμ1, jms_cell _ _ _ _ (by omega)] at r_41
  refine jx_top (b := μ 2 4) (by rw [eμ4, jms_cell _ _ _ _ (by omega), eμ3, jms_cell _ _ _ _ (by omega), eμ2, jms_cell _ _ _ _ (by omega), eμ1, jms_cell _ _ _ _ (by omega)]) ?_
  refine jx_iload_n C dX0_put_44 rfl ?_
  refine jx_iast C (jcl_7 G _) (jcl_7 G _) (by decide) (by omega) (by omega) (by decide) dX0_put_45 ?_
  obtain ⟨μ5, eμ5⟩ : ∃ y_ : Mem, y_ = jms μ4 7 ((μ 2 4).toNat) (b : Int) := ⟨_, rfl⟩
  rw [← eμ5]
  have hR5 : rng μ5 := by rw [eμ5]; exact rs_7 hR4 ((μ 2 4).toNat) (by omega) (by omega)
  refine jx_aload_n C dX0_put_46 rfl ?_
  refine jx_dup C dX0_put_47 ?_
  refine jx_get (v := .inl (μ5 2 4)) C 4 ft_X0 (jcl_AL G _) rfl (by decide) (by decide) wf_X0_66 dX0_put_48 ?_
  have r_48 := rg_AL_4 hR5
  try rw [eμ5, jms_cell _ _ _ _ (by omega), eμ4, jms_cell _ _ _ _ (by omega), eμ3, jms_cell _ _ _ _ (by omega), eμ2, jms_cell _ _ _ _ (by omega), eμ1, jms_cell _ _ _ _ (by omega)] at r_48
  refine jx_top (b := μ 2 4) (by rw [eμ5, jms_cell _ _ _ _ (by omega), eμ4, jms_cell _ _ _ _ (by omega), eμ3, jms_cell _ _ _ _ (by omega), eμ2, jms_cell _ _ _ _ (by omega), eμ1, jms_cell _ _ _ _ (by omega)]) ?_
  refine jx_iconst C dX0_put_51 ?_
  refine jx_iadd C dX0_put_52 ?_
  refine jx_put C 4 ft_X0 (jcl_AL G _) ((jcl_AL G _).trans rfl) (by decide) (by decide) rfl (Or.inl rfl) (by simp) wf_X0_66 dX0_put_53 ?_
  obtain ⟨μ6, eμ6⟩ : ∃ y_ : Mem, y_ = jms μ5 2 4 (μ 2 4 + 1) := ⟨_, rfl⟩
  rw [← eμ6]
  have hR6 : rng μ6 := by rw [eμ6]; exact rs_AL_4 hR5 (by omega) (by omega)
  exact jx_vret C dX0_put_56 ⟨hR6, by rw [eμ6, eμ5, eμ4, eμ3, eμ2, eμ1]⟩
set_option maxHeartbeats 4000000 in
set_option maxRecDepth 100000 in
theorem c_X0_bestPair (l : Launch) (G : GT) (μ : Mem) (c : Nat) (hc : μ 2 3 = (c : Int)) (rk V : Nat → Int) (hrk : ∀ p, p < c → μ (10 + p) 5 = rk p) (hV : ∀ t, t / 4 < c → t % 4 < c → ¬ t / 4 = t % 4 → μ (46 + t) 2 = V t) (hVr : ∀ t, 0 ≤ V t ∧ V t ≤ 16) (hR : rng μ) : MI l yX0_bestPair cX0_bestPair 6 .int ({ frames := 1, cells := 0, slots := 0, locals := 22 } : Room) G [.inr (ad G 2)] μ (rdq μ (bst c rk V)) := by
  refine MI.of (by decide +kernel) (Nat.le_of_ble_eq_true rfl) ?_
  intro F C Yy
  show jX F G 6 0 0 (jE F G (jQi G (rdq μ (bst c rk V)))) 0 [some (.inr (ad G 2)), none, none, none, none, none] [] μ
  have r_c := rg_AL_3 hR
  refine jx_bipush C dX0_bestPair_0 (by decide +kernel) ?_
  refine jx_istore_n (L' := [some (.inr (ad G 2)), some (.inl (-6)), none, none, none, none]) C dX0_bestPair_2 (by decide) rfl ?_
  refine jx_iconst C dX0_bestPair_3 ?_
  refine jx_istore_n (L' := [some (.inr (ad G 2)), some (.inl (-6)), some (.inl 0), none, none, none]) C dX0_bestPair_4 (by decide) rfl ?_
  refine jx_iconst C dX0_bestPair_5 ?_
  refine jx_istore_n (L' := [some (.inr (ad G 2)), some (.inl (-6)), some (.inl 0), some (.inl 0), none, none]) C dX0_bestPair_6 (by decide) rfl ?_
  have LP_7 : ∀ (n : Nat) (a : Nat) (ai : Int) (best : Int) (most : Int), (ai = (a : Int)) → (a ≤ c) → (best = (bsf c rk V (4 * a)).1) → (most = (bsf c rk V (4 * a)).2) → 5 - a < n → jX F G 6 0 0 (jE F G (jQi G (rdq μ (bst c rk V)))) 7 [some (.inr (ad G 2)), some (.inl best), some (.inl most), some (.inl ai), none, none] [] μ := by
    intro n
    induction n with
    | zero =>
      intro a ai best most hai hac hb1 hm1 hms
      exact absurd hms (Nat.not_lt_zero _)
    | succ n ih =>
      intro a ai best most hai hac hb1 hm1 hms
      have ih_7 := ih
      clear ih
      refine jx_iload_n C dX0_bestPair_7 rfl ?_
      refine jx_aload_n C dX0_bestPair_8 rfl ?_
      refine jx_get (v := .inl (μ 2 3)) C 3 ft_X0 (jcl_AL G _) rfl (by decide) (by decide) wf_X0_33 dX0_bestPair_9 ?_
      have r_9 := rg_AL_3 hR
      refine jx_icmp_ge C dX0_bestPair_12 (by omega) (by omega) (fun c_12 => ?_) (fun c_12 => ?_)
      · refine jx_iload_n C dX0_bestPair_108 rfl ?_
        exact jx_iret C dX0_bestPair_109 ⟨by rw [bsf_end (a := a) (by omega) (by omega)]; exact hb1.symm, rfl⟩
      · refine jx_iconst C dX0_bestPair_15 ?_
        refine jx_istore (L' := [some (.inr (ad G 2)), some (.inl best), some (.inl most), some (.inl ai), some (.inl 0), none]) C dX0_bestPair_16 (by decide) rfl ?_
        have LP_18 : ∀ (n : Nat) (b : Nat) (bi : Int) (bes2 : Int) (mos2 : Int), (bi = (b : Int)) → (b ≤ c) → (bes2 = (bsf c rk V (4 * a + b)).1) → (mos2 = (bsf c rk V (4 * a + b)).2) → 5 - b < n → jX F G 6 0 0 (jE F G (jQi G (rdq μ (bst c rk V)))) 18 [some (.inr (ad G 2)), some (.inl bes2), some (.inl mos2), some (.inl ai), some (.inl bi), none] [] μ := by
          intro n
          induction n with
          | zero =>
            intro b bi bes2 mos2 hbi hbc hb2 hm2 hms
            exact absurd hms (Nat.not_lt_zero _)
          | succ n ih =>
            intro b bi bes2 mos2 hbi hbc hb2 hm2 hms
            have ih_18 := ih
            clear ih
            have hok := bsf_ok (c := c) (rk := rk) (V := V) (4 * a + b)
            have hvr := hVr (bsf c rk V (4 * a + b)).1.toNat
            have hvr2 := hVr (4 * a + b)
            refine jx_iload C dX0_bestPair_18 rfl ?_
            refine jx_aload_n C dX0_bestPair_20 rfl ?_
            refine jx_get (v := .inl (μ 2 3)) C 3 ft_X0 (jcl_AL G _) rfl (by decide) (by decide) wf_X0_33 dX0_bestPair_21 ?_
            have r_21 := rg_AL_3 hR
            refine jx_icmp_ge C dX0_bestPair_24 (by omega) (by omega) (fun c_24 => ?_) (fun c_24 => ?_)
            · refine jx_iinc (L' := [some (.inr (ad G 2)), some (.inl bes2), some (.inl mos2), some (.inl (ai + 1)), some (.inl bi), none]) C dX0_bestPair_102 rfl (by decide) rfl ?_
              refine jx_goto C dX0_bestPair_105 ?_
              refine jx_fewer (L' := [some (.inr (ad G 2)), some (.inl bes2), some (.inl mos2), some (.inl (ai + 1)), none, none]) (fun i v h => ?_) ?_
              · exact jfew_ok (by simp [jfew]) h
              exact ih_7 (a + 1) (ai + 1) bes2 mos2 (by omega) (by omega) (by rw [bsf_row (b := b) (by omega) (by omega)]; exact hb2) (by rw [bsf_row (b := b) (by omega) (by omega)]; exact hm2) (by omega)
            · have hra := hrk a (by omega)
              have hrb := hrk b (by omega)
              refine jx_aload_n C dX0_bestPair_27 rfl ?_
              refine jx_get (v := .inr (ad G 5)) C 0 ft_X0 (jcl_AL G _) rfl (by decide) (by decide) wf_X0_11 dX0_bestPair_28 ?_
              refine jx_iload_n C dX0_bestPair_31 rfl ?_
              refine jx_aald (p' := a) (t0 := 1) C (jcl_5 G _) rfl (by decide) (by omega) (by omega) (by decide) dX0_bestPair_32 ?_
              refine jx_cVi (as := []) (st := []) C Yy (c_X5_isJoined l G μ a (by omega) hR) yb_X5_isJoined yv_X5_isJoined wm_X0_91 (jcl_PI G (by omega) _) rfl (by omega) rfl rfl (Nat.le_of_ble_eq_true rfl) ⟨⟨rfl, rfl, Nat.le_of_ble_eq_true rfl, Nat.le_of_ble_eq_true rfl⟩, Nat.zero_le _, Nat.zero_le _⟩ dX0_bestPair_33 ?_
              rintro _ _ ⟨rfl, ⟨rfl, c_33⟩ | ⟨rfl, c_33⟩⟩
              · refine jx_if_eq C dX0_bestPair_36 (by decide) (fun q => absurd q (by decide)) (fun _ => ?_)
                refine jx_aload_n C dX0_bestPair_39 rfl ?_
                refine jx_get (v := .inr (ad G 5)) C 0 ft_X0 (jcl_AL G _) rfl (by decide) (by decide) wf_X0_11 dX0_bestPair_40 ?_
                refine jx_iload C dX0_bestPair_43 rfl ?_
                refine jx_aald (p' := b) (t0 := 1) C (jcl_5 G _) rfl (by decide) (by omega) (by omega) (by decide) dX0_bestPair_45 ?_
                refine jx_cVi (as := []) (st := []) C Yy (c_X5_isJoined l G μ b (by omega) hR) yb_X5_isJoined yv_X5_isJoined wm_X0_91 (jcl_PI G (by omega) _) rfl (by omega) rfl rfl (Nat.le_of_ble_eq_true rfl) ⟨⟨rfl, rfl, Nat.le_of_ble_eq_true rfl, Nat.le_of_ble_eq_true rfl⟩, Nat.zero_le _, Nat.zero_le _⟩ dX0_bestPair_46 ?_
                rintro _ _ ⟨rfl, ⟨rfl, c_46⟩ | ⟨rfl, c_46⟩⟩
                · refine jx_if_ne C dX0_bestPair_49 (by decide) (fun _ => ?_) (fun q => absurd q (by decide))
                  refine jx_iconst C dX0_bestPair_56 ?_
                  refine jx_istore (L' := [some (.inr (ad G 2)), some (.inl bes2), some (.inl mos2), some (.inl ai), some (.inl bi), some (.inl 0)]) C dX0_bestPair_57 (by decide) rfl ?_
                  refine jx_iload C dX0_bestPair_59 rfl ?_
                  refine jx_if_eq C dX0_bestPair_61 (by decide) (fun _ => ?_) (fun q => absurd q (by decide))
                  refine jx_iinc (L' := [some (.inr (ad G 2)), some (.inl bes2), some (.inl mos2), some (.inl ai), some (.inl (bi + 1)), some (.inl 0)]) C dX0_bestPair_96 rfl (by decide) rfl ?_
                  refine jx_goto C dX0_bestPair_99 ?_
                  refine jx_fewer (L' := [some (.inr (ad G 2)), some (.inl bes2), some (.inl mos2), some (.inl ai), some (.inl (bi + 1)), none]) (fun i v h => ?_) ?_
                  · exact jfew_ok (by simp [jfew]) h
                  exact ih_18 (b + 1) (bi + 1) bes2 mos2 (by omega) (by omega) (by rw [bsf_no (by omega) (fun g => by omega)]; exact hb2) (by rw [bsf_no (by omega) (fun g => by omega)]; exact hm2) (by omega)
                · refine jx_if_ne C dX0_bestPair_49 (by decide) (fun q => absurd q (by decide)) (fun _ => ?_)
                  refine jx_iconst C dX0_bestPair_52 ?_
                  refine jx_goto C dX0_bestPair_53 ?_
                  refine jx_istore (L' := [some (.inr (ad G 2)), some (.inl bes2), some (.inl mos2), some (.inl ai), some (.inl bi), some (.inl 1)]) C dX0_bestPair_57 (by decide) rfl ?_
                  refine jx_iload C dX0_bestPair_59 rfl ?_
                  refine jx_if_eq C dX0_bestPair_61 (by decide) (fun q => absurd q (by decide)) (fun _ => ?_)
                  have hne : ¬ a = b := by intro e; rw [e] at c_33; omega
                  have hVab := hV (4 * a + b) (by omega) (by omega) (by omega)
                  refine jx_aload_n C dX0_bestPair_64 rfl ?_
                  refine jx_iload_n C dX0_bestPair_65 rfl ?_
                  refine jx_iload C dX0_bestPair_66 rfl ?_
                  refine jx_cVr (as := [.inl ai, .inl bi]) (st := []) C Yy (c_X0_pairingOf l G μ a b (by omega) (by omega) ai bi (by omega) (by omega)) yb_X0_pairingOf yv_X0_pairingOf wm_X0_56 (jcl_AL G _) rfl (by decide) rfl rfl (Nat.le_of_ble_eq_true rfl) ⟨⟨rfl, rfl, Nat.le_of_ble_eq_true rfl, Nat.le_of_ble_eq_true rfl⟩, Nat.zero_le _, Nat.zero_le _⟩ dX0_bestPair_68 ?_
                  rintro _ _ ⟨rfl, rfl⟩
                  refine jx_get (v := .inl (μ (46 + (4 * a + b)) 2)) C 2 ft_X4 (jcl_PA G (by omega) _) rfl (by decide) (by omega) wf_X0_95 dX0_bestPair_71 ?_
                  have r_71 := rg_PA_2 hR (p := 4 * a + b) (by omega)
                  refine jx_iload_n C dX0_bestPair_74 rfl ?_
                  refine jx_icmp_le C dX0_bestPair_75 (by omega) (by omega) (fun c_75 => ?_) (fun c_75 => ?_)
                  · refine jx_iinc (L' := [some (.inr (ad G 2)), some (.inl bes2), some (.inl mos2), some (.inl ai), some (.inl (bi + 1)), some (.inl 1)]) C dX0_bestPair_96 rfl (by decide) rfl ?_
                    refine jx_goto C dX0_bestPair_99 ?_
                    refine jx_fewer (L' := [some (.inr (ad G 2)), some (.inl bes2), some (.inl mos2), some (.inl ai), some (.inl (bi + 1)), none]) (fun i v h => ?_) ?_
                    · exact jfew_ok (by simp [jfew]) h
                    exact ih_18 (b + 1) (bi + 1) bes2 mos2 (by omega) (by omega) (by rw [bsf_no (by omega) (fun g => by omega)]; exact hb2) (by rw [bsf_no (by omega) (fun g => by omega)]; exact hm2) (by omega)
                  · refine jx_aload_n C dX0_bestPair_78 rfl ?_
                    refine jx_iload_n C dX0_bestPair_79 rfl ?_
                    refine jx_iload C dX0_bestPair_80 rfl ?_
                    refine jx_cVr (as := [.inl ai, .inl bi]) (st := []) C Yy (c_X0_pairingOf l G μ a b (by omega) (by omega) ai bi (by omega) (by omega)) yb_X0_pairingOf yv_X0_pairingOf wm_X0_56 (jcl_AL G _) rfl (by decide) rfl rfl (Nat.le_of_ble_eq_true rfl) ⟨⟨rfl, rfl, Nat.le_of_ble_eq_true rfl, Nat.le_of_ble_eq_true rfl⟩, Nat.zero_le _, Nat.zero_le _⟩ dX0_bestPair_82 ?_
                    rintro _ _ ⟨rfl, rfl⟩
                    refine jx_get (v := .inl (μ (46 + (4 * a + b)) 2)) C 2 ft_X4 (jcl_PA G (by omega) _) rfl (by decide) (by omega) wf_X0_95 dX0_bestPair_85 ?_
                    have r_85 := rg_PA_2 hR (p := 4 * a + b) (by omega)
                    refine jx_istore_n (L' := [some (.inr (ad G 2)), some (.inl bes2), some (.inl (μ (46 + (4 * a + b)) 2)), some (.inl ai), some (.inl bi), some (.inl 1)]) C dX0_bestPair_88 (by decide) rfl ?_
                    refine jx_iload_n C dX0_bestPair_89 rfl ?_
                    refine jx_iconst C dX0_bestPair_90 ?_
                    refine jx_imul C dX0_bestPair_91 ?_
                    refine jx_iload C dX0_bestPair_92 rfl ?_
                    refine jx_iadd C dX0_bestPair_94 ?_
                    refine jx_istore_n (L' := [some (.inr (ad G 2)), some (.inl (ai * 4 + bi)), some (.inl (μ (46 + (4 * a + b)) 2)), some (.inl ai), some (.inl bi), some (.inl 1)]) C dX0_bestPair_95 (by decide) rfl ?_
                    refine jx_iinc (L' := [some (.inr (ad G 2)), some (.inl (ai * 4 + bi)), some (.inl (μ (46 + (4 * a + b)) 2)), some (.inl ai), some (.inl (bi + 1)), some (.inl 1)]) C dX0_bestPair_96 rfl (by decide) rfl ?_
                    refine jx_goto C dX0_bestPair_99 ?_
                    refine jx_fewer (L' := [some (.inr (ad G 2)), some (.inl (ai * 4 + bi)), some (.inl (μ (46 + (4 * a + b)) 2)), some (.inl ai), some (.inl (bi + 1)), none]) (fun i v h => ?_) ?_
                    · exact jfew_ok (by simp [jfew]) h
                    exact ih_18 (b + 1) (bi + 1) (ai * 4 + bi) (μ (46 + (4 * a + b)) 2) (by omega) (by omega) (by rw [bsf_yes (by omega) (by omega) (by omega) (by omega) (by omega) (by omega)]; dsimp only; omega) (by rw [bsf_yes (by omega) (by omega) (by omega) (by omega) (by omega) (by omega)]; dsimp only; omega) (by omega)
              · refine jx_if_eq C dX0_bestPair_36 (by decide) (fun _ => ?_) (fun q => absurd q (by decide))
                refine jx_iconst C dX0_bestPair_56 ?_
                refine jx_istore (L' := [some (.inr (ad G 2)), some (.inl bes2), some (.inl mos2), some (.inl ai), some (.inl bi), some (.inl 0)]) C dX0_bestPair_57 (by decide) rfl ?_
                refine jx_iload C dX0_bestPair_59 rfl ?_
                refine jx_if_eq C dX0_bestPair_61 (by decide) (fun _ => ?_) (fun q => absurd q (by decide))
                refine jx_iinc (L' := [some (.inr (ad G 2)), some (.inl bes2), some (.inl mos2), some (.inl ai), some (.inl (bi + 1)), some (.inl 0)]) C dX0_bestPair_96 rfl (by decide) rfl ?_
                refine jx_goto C dX0_bestPair_99 ?_
                refine jx_fewer (L' := [some (.inr (ad G 2)), some (.inl bes2), some (.inl mos2), some (.inl ai), some (.inl (bi + 1)), none]) (fun i v h => ?_) ?_
                · exact jfew_ok (by simp [jfew]) h
                exact ih_18 (b + 1) (bi + 1) bes2 mos2 (by omega) (by omega) (by rw [bsf_no (by omega) (fun g => by omega)]; exact hb2) (by rw [bsf_no (by omega) (fun g => by omega)]; exact hm2) (by omega)
        exact LP_18 _ 0 0 best most rfl (Nat.zero_le _) hb1 hm1 (Nat.lt_succ_self _)
  exact LP_7 _ 0 0 (-6) 0 rfl (Nat.zero_le _) rfl rfl (Nat.lt_succ_self _)
