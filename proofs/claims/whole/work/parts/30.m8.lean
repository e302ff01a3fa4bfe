set_option maxHeartbeats 4000000 in
set_option maxRecDepth 100000 in
theorem c_X3_isThere (l : Launch) (G : GT) (μ : Mem) (hR : rng μ) : MI l yX3_isThere cX3_isThere 1 .boolean ({ frames := 0, cells := 0, slots := 0, locals := 0 } : Room) G [.inr (ad G 3)] μ (rdc μ (0 < μ 3 2 ∧ 0 < μ 3 3)) := by
  refine MI.of (by decide +kernel) (Nat.le_of_ble_eq_true rfl) ?_
  intro F C Yy
  show jX F G 1 0 0 (jE F G (jQi G (rdc μ (0 < μ 3 2 ∧ 0 < μ 3 3)))) 0 [some (.inr (ad G 3))] [] μ
  refine jx_aload_n C dX3_isThere_0 rfl ?_
  refine jx_get (v := .inl (μ 3 2)) C 2 ft_X3 (jcl_OV G _) rfl (by decide) (by decide) wf_X3_33 dX3_isThere_1 ?_
  have r_1 := rg_OV_2 hR
  refine jx_if_le C dX3_isThere_4 (by omega) (fun c_4 => ?_) (fun c_4 => ?_)
  · refine jx_iconst C dX3_isThere_18 ?_
    exact jx_zret C dX3_isThere_19 (Or.inl rfl) ⟨rfl, Or.inr ⟨rfl, by omega⟩⟩
  · refine jx_aload_n C dX3_isThere_7 rfl ?_
    refine jx_get (v := .inl (μ 3 3)) C 3 ft_X3 (jcl_OV G _) rfl (by decide) (by decide) wf_X3_36 dX3_isThere_8 ?_
    have r_8 := rg_OV_3 hR
    refine jx_if_le C dX3_isThere_11 (by omega) (fun c_11 => ?_) (fun c_11 => ?_)
    · refine jx_iconst C dX3_isThere_18 ?_
      exact jx_zret C dX3_isThere_19 (Or.inl rfl) ⟨rfl, Or.inr ⟨rfl, by omega⟩⟩
    · refine jx_iconst C dX3_isThere_14 ?_
      refine jx_goto C dX3_isThere_15 ?_
      exact jx_zret C dX3_isThere_19 (Or.inr rfl) ⟨rfl, Or.inl ⟨rfl, by omega⟩⟩
set_option maxHeartbeats 4000000 in
set_option maxRecDepth 100000 in
theorem c_X3_find (l : Launch) (G : GT) (μ : Mem) (a b : Nat) (ha : a < 4) (hb : b < 4) (hR : rng μ) : MV l yX3_find cX3_find 3 ({ frames := 1, cells := 0, slots := 0, locals := 21 } : Room) G [.inr (ad G 3), .inr (ad G (10 + a)), .inr (ad G (10 + b))] μ (fun μ' => rng μ' ∧ (μ' 3 0, μ' 3 1, μ' 3 2, μ' 3 3) = ovr (μ (10 + a) 2) (μ (10 + a) 3) (μ (14 + a) 2) (μ (14 + a) 3) (μ (10 + b) 2) (μ (10 + b) 3) (μ (14 + b) 2) (μ (14 + b) 3) ∧ ∀ k, k ≠ 3 → μ' k = μ k) := by
  refine MV.of (by decide +kernel) (Nat.le_of_ble_eq_true rfl) ?_
  intro F C Yy
  show jX F G 3 0 0 (jE F G (jQv G (fun μ' => rng μ' ∧ (μ' 3 0, μ' 3 1, μ' 3 2, μ' 3 3) = ovr (μ (10 + a) 2) (μ (10 + a) 3) (μ (14 + a) 2) (μ (14 + a) 3) (μ (10 + b) 2) (μ (10 + b) 3) (μ (14 + b) 2) (μ (14 + b) 3) ∧ ∀ k, k ≠ 3 → μ' k = μ k))) 0 [some (.inr (ad G 3)), some (.inr (ad G (10 + a))), some (.inr (ad G (10 + b)))] [] μ
  have r_a0 := rg_PI_2 hR (p := a) ha
  have r_a1 := rg_PI_3 hR (p := a) ha
  have r_a2 := rg_DO_2 hR (p := a) ha
  have r_a3 := rg_DO_3 hR (p := a) ha
  have r_b0 := rg_PI_2 hR (p := b) hb
  have r_b1 := rg_PI_3 hR (p := b) hb
  have r_b2 := rg_DO_2 hR (p := b) hb
  have r_b3 := rg_DO_3 hR (p := b) hb
  refine jx_aload_n C dX3_find_0 rfl ?_
  refine jx_aload_n C dX3_find_1 rfl ?_
  refine jx_iconst C dX3_find_2 ?_
  refine jx_cVi (as := [.inl 0]) (st := [.inr (ad G 3)]) C Yy (c_X5_edge l G μ a (by omega) 0 (by omega) hR) yb_X5_edge yv_X5_edge wm_X3_9 (jcl_PI G ha _) rfl (by omega) rfl rfl (Nat.le_of_ble_eq_true rfl) ⟨⟨rfl, rfl, Nat.le_of_ble_eq_true rfl, Nat.le_of_ble_eq_true rfl⟩, Nat.zero_le _, Nat.zero_le _⟩ dX3_find_3 ?_
  rintro _ _ ⟨rfl, rfl⟩
  have r_3 := edg_rng (x := μ (10 + a) 2) (y := μ (10 + a) 3) (w := μ (14 + a) 2) (h := μ (14 + a) 3) (what := 0) (rg_PI_2 hR (by omega)) (rg_PI_3 hR (by omega)) (rg_DO_2 hR (by omega)) (rg_DO_3 hR (by omega))
  refine jx_top (b := μ (10 + a) 2) (by simp [edg]) ?_
  refine jx_aload_n C dX3_find_6 rfl ?_
  refine jx_iconst C dX3_find_7 ?_
  refine jx_cVi (as := [.inl 0]) (st := [.inl (μ (10 + a) 2), .inr (ad G 3)]) C Yy (c_X5_edge l G μ b (by omega) 0 (by omega) hR) yb_X5_edge yv_X5_edge wm_X3_9 (jcl_PI G hb _) rfl (by omega) rfl rfl (Nat.le_of_ble_eq_true rfl) ⟨⟨rfl, rfl, Nat.le_of_ble_eq_true rfl, Nat.le_of_ble_eq_true rfl⟩, Nat.zero_le _, Nat.zero_le _⟩ dX3_find_8 ?_
  rintro _ _ ⟨rfl, rfl⟩
  have r_8 := edg_rng (x := μ (10 + b) 2) (y := μ (10 + b) 3) (w := μ (14 + b) 2) (h := μ (14 + b) 3) (what := 0) (rg_PI_2 hR (by omega)) (rg_PI_3 hR (by omega)) (rg_DO_2 hR (by omega)) (rg_DO_3 hR (by omega))
  refine jx_top (b := μ (10 + b) 2) (by simp [edg]) ?_
  refine jx_max C Yy (by omega) (by omega) wm_X3_15 ws_J9_max_7cf53 wi_Math wc_J9_max_7cf53 (Nat.le_of_ble_eq_true rfl) ⟨by decide, by decide, by decide, by decide⟩ dX3_find_11 ?_
  refine jx_put C 0 ft_X3 (jcl_OV G _) ((jcl_OV G _).trans rfl) (by decide) (by decide) rfl (Or.inl rfl) (by simp) wf_X3_21 dX3_find_14 ?_
  obtain ⟨μ1, eμ1⟩ : ∃ y_ : Mem, y_ = jms μ 3 0 (max (μ (10 + a) 2) (μ (10 + b) 2)) := ⟨_, rfl⟩
  rw [← eμ1]
  have hR1 : rng μ1 := by rw [eμ1]; exact rs_OV_0 hR (by omega) (by omega)
  have fr_14 : ∀ k, k ≠ 3 → μ1 k = μ k := fun k hk => by rw [eμ1, jms_cell _ _ _ _ hk]
  refine jx_aload_n C dX3_find_17 rfl ?_
  refine jx_aload_n C dX3_find_18 rfl ?_
  refine jx_iconst C dX3_find_19 ?_
  refine jx_cVi (as := [.inl 1]) (st := [.inr (ad G 3)]) C Yy (c_X5_edge l G μ1 a (by omega) 1 (by omega) hR1) yb_X5_edge yv_X5_edge wm_X3_9 (jcl_PI G ha _) rfl (by omega) rfl rfl (Nat.le_of_ble_eq_true rfl) ⟨⟨rfl, rfl, Nat.le_of_ble_eq_true rfl, Nat.le_of_ble_eq_true rfl⟩, Nat.zero_le _, Nat.zero_le _⟩ dX3_find_20 ?_
  rintro _ _ ⟨rfl, rfl⟩
  have r_20 := edg_rng (x := μ1 (10 + a) 2) (y := μ1 (10 + a) 3) (w := μ1 (14 + a) 2) (h := μ1 (14 + a) 3) (what := 1) (rg_PI_2 hR1 (by omega)) (rg_PI_3 hR1 (by omega)) (rg_DO_2 hR1 (by omega)) (rg_DO_3 hR1 (by omega))
  refine jx_top (b := μ (10 + a) 3) (by rw [fr_14 (10 + a) (by omega), fr_14 (14 + a) (by omega)]; simp [edg]) ?_
  refine jx_aload_n C dX3_find_23 rfl ?_
  refine jx_iconst C dX3_find_24 ?_
  refine jx_cVi (as := [.inl 1]) (st := [.inl (μ (10 + a) 3), .inr (ad G 3)]) C Yy (c_X5_edge l G μ1 b (by omega) 1 (by omega) hR1) yb_X5_edge yv_X5_edge wm_X3_9 (jcl_PI G hb _) rfl (by omega) rfl rfl (Nat.le_of_ble_eq_true rfl) ⟨⟨rfl, rfl, Nat.le_of_ble_eq_true rfl, Nat.le_of_ble_eq_true rfl⟩, Nat.zero_le _, Nat.zero_le _⟩ dX3_find_25 ?_
  rintro _ _ ⟨rfl, rfl⟩
  have r_25 := edg_rng (x := μ1 (10 + b) 2) (y := μ1 (10 + b) 3) (w := μ1 (14 + b) 2) (h := μ1 (14 + b) 3) (what := 1) (rg_PI_2 hR1 (by omega)) (rg_PI_3 hR1 (by omega)) (rg_DO_2 hR1 (by omega)) (rg_DO_3 hR1 (by omega))
  refine jx_top (b := μ (10 + b) 3) (by rw [fr_14 (10 + b) (by omega), fr_14 (14 + b) (by omega)]; simp [edg]) ?_
  refine jx_max C Yy (by omega) (by omega) wm_X3_15 ws_J9_max_7cf53 wi_Math wc_J9_max_7cf53 (Nat.le_of_ble_eq_true rfl) ⟨by decide, by decide, by decide, by decide⟩ dX3_find_28 ?_
  refine jx_put C 1 ft_X3 (jcl_OV G _) ((jcl_OV G _).trans rfl) (by decide) (by decide) rfl (Or.inl rfl) (by simp) wf_X3_27 dX3_find_31 ?_
  obtain ⟨μ2, eμ2⟩ : ∃ y_ : Mem, y_ = jms μ1 3 1 (max (μ (10 + a) 3) (μ (10 + b) 3)) := ⟨_, rfl⟩
  rw [← eμ2]
  have hR2 : rng μ2 := by rw [eμ2]; exact rs_OV_1 hR1 (by omega) (by omega)
  have fr_31 : ∀ k, k ≠ 3 → μ2 k = μ k := fun k hk => by rw [eμ2, jms_cell _ _ _ _ hk]; exact fr_14 k hk
  refine jx_aload_n C dX3_find_34 rfl ?_
  refine jx_aload_n C dX3_find_35 rfl ?_
  refine jx_iconst C dX3_find_36 ?_
  refine jx_cVi (as := [.inl 2]) (st := [.inr (ad G 3)]) C Yy (c_X5_edge l G μ2 a (by omega) 2 (by omega) hR2) yb_X5_edge yv_X5_edge wm_X3_9 (jcl_PI G ha _) rfl (by omega) rfl rfl (Nat.le_of_ble_eq_true rfl) ⟨⟨rfl, rfl, Nat.le_of_ble_eq_true rfl, Nat.le_of_ble_eq_true rfl⟩, Nat.zero_le _, Nat.zero_le _⟩ dX3_find_37 ?_
  rintro _ _ ⟨rfl, rfl⟩
  have r_37 := edg_rng (x := μ2 (10 + a) 2) (y := μ2 (10 + a) 3) (w := μ2 (14 + a) 2) (h := μ2 (14 + a) 3) (what := 2) (rg_PI_2 hR2 (by omega)) (rg_PI_3 hR2 (by omega)) (rg_DO_2 hR2 (by omega)) (rg_DO_3 hR2 (by omega))
  refine jx_top (b := μ (10 + a) 2 + μ (14 + a) 2 - 1) (by rw [fr_31 (10 + a) (by omega), fr_31 (14 + a) (by omega)]; simp [edg]) ?_
  refine jx_aload_n C dX3_find_40 rfl ?_
  refine jx_iconst C dX3_find_41 ?_
  refine jx_cVi (as := [.inl 2]) (st := [.inl (μ (10 + a) 2 + μ (14 + a) 2 - 1), .inr (ad G 3)]) C Yy (c_X5_edge l G μ2 b (by omega) 2 (by omega) hR2) yb_X5_edge yv_X5_edge wm_X3_9 (jcl_PI G hb _) rfl (by omega) rfl rfl (Nat.le_of_ble_eq_true rfl) ⟨⟨rfl, rfl, Nat.le_of_ble_eq_true rfl, Nat.le_of_ble_eq_true rfl⟩, Nat.zero_le _, Nat.zero_le _⟩ dX3_find_42 ?_
  rintro _ _ ⟨rfl, rfl⟩
  have r_42 := edg_rng (x := μ2 (10 + b) 2) (y := μ2 (10 + b) 3) (w := μ2 (14 + b) 2) (h := μ2 (14 + b) 3) (what := 2) (rg_PI_2 hR2 (by omega)) (rg_PI_3 hR2 (by omega)) (rg_DO_2 hR2 (by omega)) (rg_DO_3 hR2 (by omega))
  refine jx_top (b := μ (10 + b) 2 + μ (14 + b) 2 - 1) (by rw [fr_31 (10 + b) (by omega), fr_31 (14 + b) (by omega)]; simp [edg]) ?_
  refine jx_min C Yy (by omega) (by omega) wm_X3_30 ws_J9_min_7cf53 wi_Math wc_J9_min_7cf53 (Nat.le_of_ble_eq_true rfl) ⟨by decide, by decide, by decide, by decide⟩ dX3_find_45 ?_
  refine jx_aload_n C dX3_find_48 rfl ?_
  refine jx_get (v := .inl (μ2 3 0)) C 0 ft_X3 (jcl_OV G _) rfl (by decide) (by decide) wf_X3_21 dX3_find_49 ?_
  have r_49 := rg_OV_0 hR2
  refine jx_top (b := max (μ (10 + a) 2) (μ (10 + b) 2)) (by rw [eμ2, jms_slot _ _ _ _ (by decide), eμ1, jms_same]) ?_
  refine jx_isub C dX3_find_52 ?_
  refine jx_iconst C dX3_find_53 ?_
  refine jx_iadd C dX3_find_54 ?_
  refine jx_put C 2 ft_X3 (jcl_OV G _) ((jcl_OV G _).trans rfl) (by decide) (by decide) rfl (Or.inl rfl) (by simp) wf_X3_33 dX3_find_55 ?_
  obtain ⟨μ3, eμ3⟩ : ∃ y_ : Mem, y_ = jms μ2 3 2 (min (μ (10 + a) 2 + μ (14 + a) 2 - 1) (μ (10 + b) 2 + μ (14 + b) 2 - 1) - (max (μ (10 + a) 2) (μ (10 + b) 2)) + 1) := ⟨_, rfl⟩
  rw [← eμ3]
  have hR3 : rng μ3 := by rw [eμ3]; exact rs_OV_2 hR2 (by omega) (by omega)
  have fr_55 : ∀ k, k ≠ 3 → μ3 k = μ k := fun k hk => by rw [eμ3, jms_cell _ _ _ _ hk]; exact fr_31 k hk
  refine jx_aload_n C dX3_find_58 rfl ?_
  refine jx_aload_n C dX3_find_59 rfl ?_
  refine jx_iconst C dX3_find_60 ?_
  refine jx_cVi (as := [.inl 3]) (st := [.inr (ad G 3)]) C Yy (c_X5_edge l G μ3 a (by omega) 3 (by omega) hR3) yb_X5_edge yv_X5_edge wm_X3_9 (jcl_PI G ha _) rfl (by omega) rfl rfl (Nat.le_of_ble_eq_true rfl) ⟨⟨rfl, rfl, Nat.le_of_ble_eq_true rfl, Nat.le_of_ble_eq_true rfl⟩, Nat.zero_le _, Nat.zero_le _⟩ dX3_find_61 ?_
  rintro _ _ ⟨rfl, rfl⟩
  have r_61 := edg_rng (x := μ3 (10 + a) 2) (y := μ3 (10 + a) 3) (w := μ3 (14 + a) 2) (h := μ3 (14 + a) 3) (what := 3) (rg_PI_2 hR3 (by omega)) (rg_PI_3 hR3 (by omega)) (rg_DO_2 hR3 (by omega)) (rg_DO_3 hR3 (by omega))
  refine jx_top (b := μ (10 + a) 3 + μ (14 + a) 3 - 1) (by rw [fr_55 (10 + a) (by omega), fr_55 (14 + a) (by omega)]; simp [edg]) ?_
  refine jx_aload_n C dX3_find_64 rfl ?_
  refine jx_iconst C dX3_find_65 ?_
  refine jx_cVi (as := [.inl 3]) (st := [.inl (μ (10 + a) 3 + μ (14 + a) 3 - 1), .inr (ad G 3)]) C Yy (c_X5_edge l G μ3 b (by omega) 3 (by omega) hR3) yb_X5_edge yv_X5_edge wm_X3_9 (jcl_PI G hb _) rfl (by omega) rfl rfl (Nat.le_of_ble_eq_true rfl) ⟨⟨rfl, rfl, Nat.le_of_ble_eq_true rfl, Nat.le_of_ble_eq_true rfl⟩, Nat.zero_le _, Nat.zero_le _⟩ dX3_find_66 ?_
  rintro _ _ ⟨rfl, rfl⟩
  have r_66 := edg_rng (x := μ3 (10 + b) 2) (y := μ3 (10 + b) 3) (w := μ3 (14 + b) 2) (h := μ3 (14 + b) 3) (what := 3) (rg_PI_2 hR3 (by omega)) (rg_PI_3 hR3 (by omega)) (rg_DO_2 hR3 (by omega)) (rg_DO_3 hR3 (by omega))
  refine jx_top (b := μ (10 + b) 3 + μ (14 + b) 3 - 1) (by rw [fr_55 (10 + b) (by omega), fr_55 (14 + b) (by omega)]; simp [edg]) ?_
  refine jx_min C Yy (by omega) (by omega) wm_X3_30 ws_J9_min_7cf53 wi_Math wc_J9_min_7cf53 (Nat.le_of_ble_eq_true rfl) ⟨by decide, by decide, by decide, by decide⟩ dX3_find_69 ?_
  refine jx_aload_n C dX3_find_72 rfl ?_
  refine jx_get (v := .inl (μ3 3 1)) C 1 ft_X3 (jcl_OV G _) rfl (by decide) (by decide) wf_X3_27 dX3_find_73 ?_
  have r_73 := rg_OV_1 hR3
  refine jx_top (b := max (μ (10 + a) 3) (μ (10 + b) 3)) (by rw [eμ3, jms_slot _ _ _ _ (by decide), eμ2, jms_same]) ?_
  refine jx_isub C dX3_find_76 ?_
  refine jx_iconst C dX3_find_77 ?_
  refine jx_iadd C dX3_find_78 ?_
  refine jx_put C 3 ft_X3 (jcl_OV G _) ((jcl_OV G _).trans rfl) (by decide) (by decide) rfl (Or.inl rfl) (by simp) wf_X3_36 dX3_find_79 ?_
  obtain ⟨μ4, eμ4⟩ : ∃ y_ : Mem, y_ = jms μ3 3 3 (min (μ (10 + a) 3 + μ (14 + a) 3 - 1) (μ (10 + b) 3 + μ (14 + b) 3 - 1) - (max (μ (10 + a) 3) (μ (10 + b) 3)) + 1) := ⟨_, rfl⟩
  rw [← eμ4]
  have hR4 : rng μ4 := by rw [eμ4]; exact rs_OV_3 hR3 (by omega) (by omega)
  have fr_79 : ∀ k, k ≠ 3 → μ4 k = μ k := fun k hk => by rw [eμ4, jms_cell _ _ _ _ hk]; exact fr_55 k hk
  have v0 : μ4 3 0 = max (μ (10 + a) 2) (μ (10 + b) 2) := by rw [eμ4, jms_slot _ _ _ _ (by decide), eμ3, jms_slot _ _ _ _ (by decide), eμ2, jms_slot _ _ _ _ (by decide), eμ1, jms_same]
  have v1 : μ4 3 1 = max (μ (10 + a) 3) (μ (10 + b) 3) := by rw [eμ4, jms_slot _ _ _ _ (by decide), eμ3, jms_slot _ _ _ _ (by decide), eμ2, jms_same]
  have v2 : μ4 3 2 = min (μ (10 + a) 2 + μ (14 + a) 2 - 1) (μ (10 + b) 2 + μ (14 + b) 2 - 1) - max (μ (10 + a) 2) (μ (10 + b) 2) + 1 := by rw [eμ4, jms_slot _ _ _ _ (by decide), eμ3, jms_same]
  have v3 : μ4 3 3 = min (μ (10 + a) 3 + μ (14 + a) 3 - 1) (μ (10 + b) 3 + μ (14 + b) 3 - 1) - max (μ (10 + a) 3) (μ (10 + b) 3) + 1 := by rw [eμ4, jms_same]
  refine jx_aload_n C dX3_find_82 rfl ?_
  refine jx_cVi (as := []) (st := []) C Yy (c_X3_isThere l G μ4 hR4) yb_X3_isThere yv_X3_isThere wm_X3_39 (jcl_OV G _) rfl (by decide) rfl rfl (Nat.le_of_ble_eq_true rfl) ⟨⟨rfl, rfl, Nat.le_of_ble_eq_true rfl, Nat.le_of_ble_eq_true rfl⟩, Nat.zero_le _, Nat.zero_le _⟩ dX3_find_83 ?_
  rintro _ _ ⟨rfl, ⟨rfl, c_83⟩ | ⟨rfl, c_83⟩⟩
  · refine jx_if_ne C dX3_find_86 (by decide) (fun _ => ?_) (fun q => absurd q (by decide))
    exact jx_vret C dX3_find_109 ⟨hR4, by rw [v0, v1, v2, v3, ovr, if_pos (by omega)], fr_79⟩
  · refine jx_if_ne C dX3_find_86 (by decide) (fun q => absurd q (by decide)) (fun _ => ?_)
    refine jx_aload_n C dX3_find_89 rfl ?_
    refine jx_iconst C dX3_find_90 ?_
    refine jx_put C 0 ft_X3 (jcl_OV G _) ((jcl_OV G _).trans rfl) (by decide) (by decide) rfl (Or.inl rfl) (by simp) wf_X3_21 dX3_find_91 ?_
    obtain ⟨μ5, eμ5⟩ : ∃ y_ : Mem, y_ = jms μ4 3 0 0 := ⟨_, rfl⟩
    rw [← eμ5]
    have hR5 : rng μ5 := by rw [eμ5]; exact rs_OV_0 hR4 (by omega) (by omega)
    have fr_91 : ∀ k, k ≠ 3 → μ5 k = μ k := fun k hk => by rw [eμ5, jms_cell _ _ _ _ hk]; exact fr_79 k hk
    refine jx_aload_n C dX3_find_94 rfl ?_
    refine jx_iconst C dX3_find_95 ?_
    refine jx_put C 1 ft_X3 (jcl_OV G _) ((jcl_OV G _).trans rfl) (by decide) (by decide) rfl (Or.inl rfl) (by simp) wf_X3_27 dX3_find_96 ?_
    obtain ⟨μ6, eμ6⟩ : ∃ y_ : Mem, y_ = jms μ5 3 1 0 := ⟨_, rfl⟩
    rw [← eμ6]
    have hR6 : rng μ6 := by rw [eμ6]; exact rs_OV_1 hR5 (by omega) (by omega)
    have fr_96 : ∀ k, k ≠ 3 → μ6 k = μ k := fun k hk => by rw [eμ6, jms_cell _ _ _ _ hk]; exact fr_91 k hk
    refine jx_aload_n C dX3_find_99 rfl ?_
    refine jx_iconst C dX3_find_100 ?_
    refine jx_put C 2 ft_X3 (jcl_OV G _) ((jcl_OV G _).trans rfl) (by decide) (by decide) rfl (Or.inl rfl) (by simp) wf_X3_33 dX3_find_101 ?_
    obtain ⟨μ7, eμ7⟩ : ∃ y_ : Mem, y_ = jms μ6 3 2 0 := ⟨_, rfl⟩
    rw [← eμ7]
    have hR7 : rng μ7 := by rw [eμ7]; exact rs_OV_2 hR6 (by omega) (by omega)
    have fr_101 : ∀ k, k ≠ 3 → μ7 k = μ k := fun k hk => by rw [eμ7, jms_cell _ _ _ _ hk]; exact fr_96 k hk
    refine jx_aload_n C dX3_find_104 rfl ?_
    refine jx_iconst C dX3_find_105 ?_
    refine jx_put C 3 ft_X3 (jcl_OV G _) ((jcl_OV G _).trans rfl) (by decide) (by decide) rfl (Or.inl rfl) (by simp) wf_X3_36 dX3_find_106 ?_
    obtain ⟨μ8, eμ8⟩ : ∃ y_ : Mem, y_ = jms μ7 3 3 0 := ⟨_, rfl⟩
    rw [← eμ8]
    have hR8 : rng μ8 := by rw [eμ8]; exact rs_OV_3 hR7 (by omega) (by omega)
    have fr_106 : ∀ k, k ≠ 3 → μ8 k = μ k := fun k hk => by rw [eμ8, jms_cell _ _ _ _ hk]; exact fr_101 k hk
    exact jx_vret C dX3_find_109 ⟨hR8, by rw [show μ8 3 0 = 0 by rw [eμ8, jms_slot _ _ _ _ (by decide), eμ7, jms_slot _ _ _ _ (by decide), eμ6, jms_slot _ _ _ _ (by decide), eμ5, jms_same], show μ8 3 1 = 0 by rw [eμ8, jms_slot _ _ _ _ (by decide), eμ7, jms_slot _ _ _ _ (by decide), eμ6, jms_same], show μ8 3 2 = 0 by rw [eμ8, jms_slot _ _ _ _ (by decide), eμ7, jms_same], show μ8 3 3 = 0 by rw [eμ8, jms_same], ovr, if_neg (by omega)], fr_106⟩
set_option maxHeartbeats 4000000 in
set_option maxRecDepth 100000 in
theorem c_X3_compare (l : Launch) (G : GT) (μ : Mem) (a b : Nat) (ha : a < 4) (hb : b < 4) (dA dB : Int → Int → Int) (hdA : ∀ x y, dgt (μ (14 + a) 2) (μ (14 + a) 3) (μ (18 + a)) (x - μ (10 + a) 2) (y - μ (10 + a) 3) = dA x y) (hdB : ∀ x y, dgt (μ (14 + b) 2) (μ (14 + b) 3) (μ (18 + b)) (x - μ (10 + b) 2) (y - μ (10 + b) 3) = dB x y) (hrA : ∀ x y, -1 ≤ dA x y ∧ dA x y ≤ 255) (hrB : ∀ x y, -1 ≤ dB x y ∧ dB x y ≤ 255) (hw : 0 ≤ μ 3 2 ∧ μ 3 2 ≤ 20) (hh : 0 ≤ μ 3 3 ∧ μ 3 3 ≤ 20) (hR : rng μ) : MV l yX3_compare cX3_compare 7 ({ frames := 3, cells := 0, slots := 0, locals := 66 } : Room) G [.inr (ad G 3), .inr (ad G (10 + a)), .inr (ad G (10 + b))] μ (fun μ' => rng μ' ∧ μ' 3 4 = lsm (lta dA dB (μ 3 0) (μ 3 1)) (μ 3 2).toNat ((μ 3 2).toNat * (μ 3 3).toNat) ∧ μ' 3 5 = lsm (ltb dA dB (μ 3 0) (μ 3 1)) (μ 3 2).toNat ((μ 3 2).toNat * (μ 3 3).toNat) ∧ μ' 3 6 = lsm (ltc dA dB (μ 3 0) (μ 3 1)) (μ 3 2).toNat ((μ 3 2).toNat * (μ 3 3).toNat) ∧ (∀ k, k ≠ 3 → μ' k = μ k) ∧ ∀ j, j < 4 → μ' 3 j = μ 3 j) := by
  refine MV.of (by decide +kernel) (Nat.le_of_ble_eq_true rfl) ?_
  intro F C Yy
  show jX F G 7 0 0 (jE F G (jQv G (fun μ' => rng μ' ∧ μ' 3 4 = lsm (lta dA dB (μ 3 0) (μ 3 1)) (μ 3 2).toNat ((μ 3 2).toNat * (μ 3 3).toNat) ∧ μ' 3 5 = lsm (ltb dA dB (μ 3 0) (μ 3 1)) (μ 3 2).toNat ((μ 3 2).toNat * (μ 3 3).toNat) ∧ μ' 3 6 = lsm (ltc dA dB (μ 3 0) (μ 3 1)) (μ 3 2).toNat ((μ 3 2).toNat * (μ 3 3).toNat) ∧ (∀ k, k ≠ 3 → μ' k = μ k) ∧ ∀ j, j < 4 → μ' 3 j = μ 3 j))) 0 [some (.inr (ad G 3)), some (.inr (ad G (10 + a))), some (.inr (ad G (10 + b))), none, none, none, none] [] μ
  have r_x := rg_OV_0 hR
  have r_y := rg_OV_1 hR
  refine jx_aload_n C dX3_compare_0 rfl ?_
  refine jx_iconst C dX3_compare_1 ?_
  refine jx_put C 4 ft_X3 (jcl_OV G _) ((jcl_OV G _).trans rfl) (by decide) (by decide) rfl (Or.inl rfl) (by simp) wf_X3_43 dX3_compare_2 ?_
  obtain ⟨μ1, eμ1⟩ : ∃ y_ : Mem, y_ = jms μ 3 4 0 := ⟨_, rfl⟩
  rw [← eμ1]
  have hR1 : rng μ1 := by rw [eμ1]; exact rs_OV_4 hR (by omega) (by omega)
  refine jx_aload_n C dX3_compare_5 rfl ?_
  refine jx_iconst C dX3_compare_6 ?_
  refine jx_put C 5 ft_X3 (jcl_OV G _) ((jcl_OV G _).trans rfl) (by decide) (by decide) rfl (Or.inl rfl) (by simp) wf_X3_46 dX3_compare_7 ?_
  obtain ⟨μ2, eμ2⟩ : ∃ y_ : Mem, y_ = jms μ1 3 5 0 := ⟨_, rfl⟩
  rw [← eμ2]
  have hR2 : rng μ2 := by rw [eμ2]; exact rs_OV_5 hR1 (by omega) (by omega)
  refine jx_aload_n C dX3_compare_10 rfl ?_
  refine jx_iconst C dX3_compare_11 ?_
  refine jx_put C 6 ft_X3 (jcl_OV G _) ((jcl_OV G _).trans rfl) (by decide) (by decide) rfl (Or.inl rfl) (by simp) wf_X3_49 dX3_compare_12 ?_
  obtain ⟨μ3, eμ3⟩ : ∃ y_ : Mem, y_ = jms μ2 3 6 0 := ⟨_, rfl⟩
  rw [← eμ3]
  have hR3 : rng μ3 := by rw [eμ3]; exact rs_OV_6 hR2 (by omega) (by omega)
  refine jx_aload_n C dX3_compare_15 rfl ?_
  refine jx_get (v := .inl (μ3 3 1)) C 1 ft_X3 (jcl_OV G _) rfl (by decide) (by decide) wf_X3_27 dX3_compare_16 ?_
  have r_16 := rg_OV_1 hR3
  refine jx_top (b := μ 3 1) (by rw [eμ3, jms_slot _ _ _ _ (by decide), eμ2, jms_slot _ _ _ _ (by decide), eμ1, jms_slot _ _ _ _ (by decide)]) ?_
  refine jx_istore_n (L' := [some (.inr (ad G 3)), some (.inr (ad G (10 + a))), some (.inr (ad G (10 + b))), some (.inl (μ 3 1)), none, none, none]) C dX3_compare_19 (by decide) rfl ?_
  have LP_20 : ∀ (n : Nat) (r : Nat) (py : Int) (μa : Mem), (rng μa) → (py = μ 3 1 + (r : Int)) → ((r : Int) ≤ μ 3 3) → (μa 3 4 = lsm (lta dA dB (μ 3 0) (μ 3 1)) (μ 3 2).toNat ((μ 3 2).toNat * r)) → (μa 3 5 = lsm (ltb dA dB (μ 3 0) (μ 3 1)) (μ 3 2).toNat ((μ 3 2).toNat * r)) → (μa 3 6 = lsm (ltc dA dB (μ 3 0) (μ 3 1)) (μ 3 2).toNat ((μ 3 2).toNat * r)) → (∀ k, k ≠ 3 → μa k = μ k) → (∀ j, j < 4 → μa 3 j = μ 3 j) → 21 - r < n → jX F G 7 0 0 (jE F G (jQv G (fun μ' => rng μ' ∧ μ' 3 4 = lsm (lta dA dB (μ 3 0) (μ 3 1)) (μ 3 2).toNat ((μ 3 2).toNat * (μ 3 3).toNat) ∧ μ' 3 5 = lsm (ltb dA dB (μ 3 0) (μ 3 1)) (μ 3 2).toNat ((μ 3 2).toNat * (μ 3 3).toNat) ∧ μ' 3 6 = lsm (ltc dA dB (μ 3 0) (μ 3 1)) (μ 3 2).toNat ((μ 3 2).toNat * (μ 3 3).toNat) ∧ (∀ k, k ≠ 3 → μ' k = μ k) ∧ ∀ j, j < 4 → μ' 3 j = μ 3 j))) 20 [some (.inr (ad G 3)), some (.inr (ad G (10 + a))), some (.inr (ad G (10 + b))), some (.inl py), none, none, none] [] μa := by
    intro n
    induction n with
    | zero =>
      intro r py μa hRa hpy hr ha4 ha5 ha6 hfa hga hms
      exact absurd hms (Nat.not_lt_zero _)
    | succ n ih =>
      intro r py μa hRa hpy hr ha4 ha5 ha6 hfa hga hms
      have ih_20 := ih
      clear ih
      have q_0 := hga 0 (by decide)
      have q_1 := hga 1 (by decide)
      have q_2 := hga 2 (by decide)
      have q_3 := hga 3 (by decide)
      refine jx_iload_n C dX3_compare_20 rfl ?_
      refine jx_aload_n C dX3_compare_21 rfl ?_
      refine jx_get (v := .inl (μa 3 1)) C 1 ft_X3 (jcl_OV G _) rfl (by decide) (by decide) wf_X3_27 dX3_compare_22 ?_
      have r_22 := rg_OV_1 hRa
      refine jx_aload_n C dX3_compare_25 rfl ?_
      refine jx_get (v := .inl (μa 3 3)) C 3 ft_X3 (jcl_OV G _) rfl (by decide) (by decide) wf_X3_36 dX3_compare_26 ?_
      have r_26 := rg_OV_3 hRa
      refine jx_iadd C dX3_compare_29 ?_
      refine jx_icmp_ge C dX3_compare_30 (by omega) (by omega) (fun c_30 => ?_) (fun c_30 => ?_)
      · exact jx_vret C dX3_compare_127 ⟨hRa, by rw [ha4, show r = (μ 3 3).toNat by omega], by rw [ha5, show r = (μ 3 3).toNat by omega], by rw [ha6, show r = (μ 3 3).toNat by omega], hfa, hga⟩
      · refine jx_aload_n C dX3_compare_33 rfl ?_
        refine jx_get (v := .inl (μa 3 0)) C 0 ft_X3 (jcl_OV G _) rfl (by decide) (by decide) wf_X3_21 dX3_compare_34 ?_
        have r_34 := rg_OV_0 hRa
        refine jx_istore (L' := [some (.inr (ad G 3)), some (.inr (ad G (10 + a))), some (.inr (ad G (10 + b))), some (.inl py), some (.inl (μa 3 0)), none, none]) C dX3_compare_37 (by decide) rfl ?_
        have LP_39 : ∀ (n : Nat) (c : Nat) (px : Int) (μb : Mem), (rng μb) → (px = μ 3 0 + (c : Int)) → ((c : Int) ≤ μ 3 2) → (μb 3 4 = lsm (lta dA dB (μ 3 0) (μ 3 1)) (μ 3 2).toNat ((μ 3 2).toNat * r + c)) → (μb 3 5 = lsm (ltb dA dB (μ 3 0) (μ 3 1)) (μ 3 2).toNat ((μ 3 2).toNat * r + c)) → (μb 3 6 = lsm (ltc dA dB (μ 3 0) (μ 3 1)) (μ 3 2).toNat ((μ 3 2).toNat * r + c)) → (∀ k, k ≠ 3 → μb k = μ k) → (∀ j, j < 4 → μb 3 j = μ 3 j) → 21 - c < n → jX F G 7 0 0 (jE F G (jQv G (fun μ' => rng μ' ∧ μ' 3 4 = lsm (lta dA dB (μ 3 0) (μ 3 1)) (μ 3 2).toNat ((μ 3 2).toNat * (μ 3 3).toNat) ∧ μ' 3 5 = lsm (ltb dA dB (μ 3 0) (μ 3 1)) (μ 3 2).toNat ((μ 3 2).toNat * (μ 3 3).toNat) ∧ μ' 3 6 = lsm (ltc dA dB (μ 3 0) (μ 3 1)) (μ 3 2).toNat ((μ 3 2).toNat * (μ 3 3).toNat) ∧ (∀ k, k ≠ 3 → μ' k = μ k) ∧ ∀ j, j < 4 → μ' 3 j = μ 3 j))) 39 [some (.inr (ad G 3)), some (.inr (ad G (10 + a))), some (.inr (ad G (10 + b))), some (.inl py), some (.inl px), none, none] [] μb := by
          intro n
          induction n with
          | zero =>
            intro c px μb hRb hpx hc hb4 hb5 hb6 hfb hgb hms
            exact absurd hms (Nat.not_lt_zero _)
          | succ n ih =>
            intro c px μb hRb hpx hc hb4 hb5 hb6 hfb hgb hms
            have ih_39 := ih
            clear ih
            have q_4 := hgb 0 (by decide)
            have q_5 := hgb 2 (by decide)
            refine jx_iload C dX3_compare_39 rfl ?_
            refine jx_aload_n C dX3_compare_41 rfl ?_
            refine jx_get (v := .inl (μb 3 0)) C 0 ft_X3 (jcl_OV G _) rfl (by decide) (by decide) wf_X3_21 dX3_compare_42 ?_
            have r_42 := rg_OV_0 hRb
            refine jx_aload_n C dX3_compare_45 rfl ?_
            refine jx_get (v := .inl (μb 3 2)) C 2 ft_X3 (jcl_OV G _) rfl (by decide) (by decide) wf_X3_33 dX3_compare_46 ?_
            have r_46 := rg_OV_2 hRb
            refine jx_iadd C dX3_compare_49 ?_
            refine jx_icmp_ge C dX3_compare_50 (by omega) (by omega) (fun c_50 => ?_) (fun c_50 => ?_)
            · refine jx_iinc (L' := [some (.inr (ad G 3)), some (.inr (ad G (10 + a))), some (.inr (ad G (10 + b))), some (.inl (py + 1)), some (.inl px), none, none]) C dX3_compare_121 rfl (by decide) rfl ?_
              refine jx_goto C dX3_compare_124 ?_
              refine jx_fewer (L' := [some (.inr (ad G 3)), some (.inr (ad G (10 + a))), some (.inr (ad G (10 + b))), some (.inl (py + 1)), none, none, none]) (fun i v h => ?_) ?_
              · exact jfew_ok (by simp [jfew]) h
              exact ih_20 (r + 1) (py + 1) μb hRb (by omega) (by omega) (by rw [Nat.mul_succ, hb4, show c = (μ 3 2).toNat by omega]) (by rw [Nat.mul_succ, hb5, show c = (μ 3 2).toNat by omega]) (by rw [Nat.mul_succ, hb6, show c = (μ 3 2).toNat by omega]) hfb hgb (by omega)
            · have hk4 : (μ 3 2).toNat * r + c < 400 := by have := Nat.mul_le_mul (show (μ 3 2).toNat ≤ 20 by omega) (show r ≤ 19 by omega); omega
              have la := lsm_rng (t := lta dA dB (μ 3 0) (μ 3 1)) (w := (μ 3 2).toNat) (b := 255) (by decide) (fun x y => lta_rng hrA _ _ x y) ((μ 3 2).toNat * r + c)
              have lb := lsm_rng (t := ltb dA dB (μ 3 0) (μ 3 1)) (w := (μ 3 2).toNat) (b := 255) (by decide) (fun x y => ltb_rng hrB _ _ x y) ((μ 3 2).toNat * r + c)
              have lc := lsm_rng (t := ltc dA dB (μ 3 0) (μ 3 1)) (w := (μ 3 2).toNat) (b := 1) (by decide) (fun x y => ltc_rng _ _ x y) ((μ 3 2).toNat * r + c)
              refine jx_aload_n C dX3_compare_53 rfl ?_
              refine jx_iload C dX3_compare_54 rfl ?_
              refine jx_iload_n C dX3_compare_56 rfl ?_
              refine jx_cVi (as := [.inl px, .inl py]) (st := []) C Yy (c_X5_dotAt l G μb a (by omega) px py (by omega) (by omega) hRb) yb_X5_dotAt yv_X5_dotAt wm_X3_52 (jcl_PI G ha _) rfl (by omega) rfl rfl (Nat.le_of_ble_eq_true rfl) ⟨⟨rfl, rfl, Nat.le_of_ble_eq_true rfl, Nat.le_of_ble_eq_true rfl⟩, Nat.zero_le _, Nat.zero_le _⟩ dX3_compare_57 ?_
              rintro _ _ ⟨rfl, rfl⟩
              have r_57 := dgt_rng (W := μb (14 + a) 2) (H := μb (14 + a) 3) (v := μb (18 + a)) (fun t => rg_va hRb (p := a) (by omega) t) (px - μb (10 + a) 2) (py - μb (10 + a) 3)
              have g_a := hrA px py
              refine jx_top (b := dA px py) (by rw [hfb (14 + a) (by omega), hfb (18 + a) (by omega), hfb (10 + a) (by omega)]; exact hdA _ _) ?_
              refine jx_istore (L' := [some (.inr (ad G 3)), some (.inr (ad G (10 + a))), some (.inr (ad G (10 + b))), some (.inl py), some (.inl px), some (.inl (dA px py)), none]) C dX3_compare_60 (by decide) rfl ?_
              refine jx_aload_n C dX3_compare_62 rfl ?_
              refine jx_iload C dX3_compare_63 rfl ?_
              refine jx_iload_n C dX3_compare_65 rfl ?_
              refine jx_cVi (as := [.inl px, .inl py]) (st := []) C Yy (c_X5_dotAt l G μb b (by omega) px py (by omega) (by omega) hRb) yb_X5_dotAt yv_X5_dotAt wm_X3_52 (jcl_PI G hb _) rfl (by omega) rfl rfl (Nat.le_of_ble_eq_true rfl) ⟨⟨rfl, rfl, Nat.le_of_ble_eq_true rfl, Nat.le_of_ble_eq_true rfl⟩, Nat.zero_le _, Nat.zero_le _⟩ dX3_compare_66 ?_
              rintro _ _ ⟨rfl, rfl⟩
              have r_66 := dgt_rng (W := μb (14 + b) 2) (H := μb (14 + b) 3) (v := μb (18 + b)) (fun t => rg_va hRb (p := b) (by omega) t) (px - μb (10 + b) 2) (py - μb (10 + b) 3)
              have g_b := hrB px py
              refine jx_top (b := dB px py) (by rw [hfb (14 + b) (by omega), hfb (18 + b) (by omega), hfb (10 + b) (by omega)]; exact hdB _ _) ?_
              refine jx_istore (L' := [some (.inr (ad G 3)), some (.inr (ad G (10 + a))), some (.inr (ad G (10 + b))), some (.inl py), some (.inl px), some (.inl (dA px py)), some (.inl (dB px py))]) C dX3_compare_69 (by decide) rfl ?_
              refine jx_iload C dX3_compare_71 rfl ?_
              refine jx_iconst C dX3_compare_73 ?_
              refine jx_icmp_eq C dX3_compare_74 (by omega) (by decide) (fun c_74 => ?_) (fun c_74 => ?_)
              · refine jx_iinc (L' := [some (.inr (ad G 3)), some (.inr (ad G (10 + a))), some (.inr (ad G (10 + b))), some (.inl py), some (.inl (px + 1)), some (.inl (dA px py)), some (.inl (dB px py))]) C dX3_compare_115 rfl (by decide) rfl ?_
                refine jx_goto C dX3_compare_118 ?_
                refine jx_fewer (L' := [some (.inr (ad G 3)), some (.inr (ad G (10 + a))), some (.inr (ad G (10 + b))), some (.inl py), some (.inl (px + 1)), none, none]) (fun i v h => ?_) ?_
                · exact jfew_ok (by simp [jfew]) h
                exact ih_39 (c + 1) (px + 1) μb hRb (by omega) (by omega) (by rw [lsm_at _ (by omega), hb4, show lta dA dB (μ 3 0) (μ 3 1) (c : Int) (r : Int) = 0 by unfold lta; rw [← hpx, ← hpy]; exact if_pos (by omega), Int.add_zero]) (by rw [lsm_at _ (by omega), hb5, show ltb dA dB (μ 3 0) (μ 3 1) (c : Int) (r : Int) = 0 by unfold ltb; rw [← hpx, ← hpy]; exact if_pos (by omega), Int.add_zero]) (by rw [lsm_at _ (by omega), hb6, show ltc dA dB (μ 3 0) (μ 3 1) (c : Int) (r : Int) = 0 by unfold ltc; rw [← hpx, ← hpy]; exact if_pos (by omega), Int.add_zero]) hfb hgb (by omega)
              · refine jx_iload C dX3_compare_77 rfl ?_
                refine jx_iconst C dX3_compare_79 ?_
                refine jx_icmp_eq C dX3_compare_80 (by omega) (by decide) (fun c_80 => ?_) (fun c_80 => ?_)
                · refine jx_iinc (L' := [some (.inr (ad G 3)), some (.inr (ad G (10 + a))), some (.inr (ad G (10 + b))), some (.inl py), some (.inl (px + 1)), some (.inl (dA px py)), some (.inl (dB px py))]) C dX3_compare_115 rfl (by decide) rfl ?_
                  refine jx_goto C dX3_compare_118 ?_
                  refine jx_fewer (L' := [some (.inr (ad G 3)), some (.inr (ad G (10 + a))), some (.inr (ad G (10 + b))), some (.inl py), some (.inl (px + 1)), none, none]) (fun i v h => ?_) ?_
                  · exact jfew_ok (by simp [jfew]) h
                  exact ih_39 (c + 1) (px + 1) μb hRb (by omega) (by omega) (by rw [lsm_at _ (by omega), hb4, show lta dA dB (μ 3 0) (μ 3 1) (c : Int) (r : Int) = 0 by unfold lta; rw [← hpx, ← hpy]; exact if_pos (by omega), Int.add_zero]) (by rw [lsm_at _ (by omega), hb5, show ltb dA dB (μ 3 0) (μ 3 1) (c : Int) (r : Int) = 0 by unfold ltb; rw [← hpx, ← hpy]; exact if_pos (by omega), Int.add_zero]) (by rw [lsm_at _ (by omega), hb6, show ltc dA dB (μ 3 0) (μ 3 1) (c : Int) (r : Int) = 0 by unfold ltc; rw [← hpx, ← hpy]; exact if_pos (by omega), Int.add_zero]) hfb hgb (by omega)
                · refine jx_aload_n C dX3_compare_83 rfl ?_
                  refine jx_dup C dX3_compare_84 ?_
                  refine jx_get (v := .inl (μb 3 4)) C 4 ft_X3 (jcl_OV G _) rfl (by decide) (by decide) wf_X3_43 dX3_compare_85 ?_
                  have r_85 := rg_OV_4 hRb
                  refine jx_top (b := lsm (lta dA dB (μ 3 0) (μ 3 1)) (μ 3 2).toNat ((μ 3 2).toNat * r + c)) hb4 ?_
                  refine jx_iload C dX3_compare_88 rfl ?_
                  refine jx_iadd C dX3_compare_90 ?_
                  refine jx_put C 4 ft_X3 (jcl_OV G _) ((jcl_OV G _).trans rfl) (by decide) (by decide) rfl (Or.inl rfl) (by simp) wf_X3_43 dX3_compare_91 ?_
                  obtain ⟨μ4, eμ4⟩ : ∃ y_ : Mem, y_ = jms μb 3 4 (lsm (lta dA dB (μ 3 0) (μ 3 1)) (μ 3 2).toNat ((μ 3 2).toNat * r + c) + dA px py) := ⟨_, rfl⟩
                  rw [← eμ4]
                  have hR4 : rng μ4 := by rw [eμ4]; exact rs_OV_4 hRb (by omega) (by omega)
                  refine jx_aload_n C dX3_compare_94 rfl ?_
                  refine jx_dup C dX3_compare_95 ?_
                  refine jx_get (v := .inl (μ4 3 5)) C 5 ft_X3 (jcl_OV G _) rfl (by decide) (by decide) wf_X3_46 dX3_compare_96 ?_
                  have r_96 := rg_OV_5 hR4
                  refine jx_top (b := lsm (ltb dA dB (μ 3 0) (μ 3 1)) (μ 3 2).toNat ((μ 3 2).toNat * r + c)) (by rw [eμ4, jms_slot _ _ _ _ (by decide)]; exact hb5) ?_
                  refine jx_iload C dX3_compare_99 rfl ?_
                  refine jx_iadd C dX3_compare_101 ?_
                  refine jx_put C 5 ft_X3 (jcl_OV G _) ((jcl_OV G _).trans rfl) (by decide) (by decide) rfl (Or.inl rfl) (by simp) wf_X3_46 dX3_compare_102 ?_
                  obtain ⟨μ5, eμ5⟩ : ∃ y_ : Mem, y_ = jms μ4 3 5 (lsm (ltb dA dB (μ 3 0) (μ 3 1)) (μ 3 2).toNat ((μ 3 2).toNat * r + c) + dB px py) := ⟨_, rfl⟩
                  rw [← eμ5]
                  have hR5 : rng μ5 := by rw [eμ5]; exact rs_OV_5 hR4 (by omega) (by omega)
                  refine jx_aload_n C dX3_compare_105 rfl ?_
                  refine jx_dup C dX3_compare_106 ?_
                  refine jx_get (v := .inl (μ5 3 6)) C 6 ft_X3 (jcl_OV G _) rfl (by decide) (by decide) wf_X3_49 dX3_compare_107 ?_
                  have r_107 := rg_OV_6 hR5
                  refine jx_top (b := lsm (ltc dA dB (μ 3 0) (μ 3 1)) (μ 3 2).toNat ((μ 3 2).toNat * r + c)) (by rw [eμ5, jms_slot _ _ _ _ (by decide), eμ4, jms_slot _ _ _ _ (by decide)]; exact hb6) ?_
                  refine jx_iconst C dX3_compare_110 ?_
                  refine jx_iadd C dX3_compare_111 ?_
                  refine jx_put C 6 ft_X3 (jcl_OV G _) ((jcl_OV G _).trans rfl) (by decide) (by decide) rfl (Or.inl rfl) (by simp) wf_X3_49 dX3_compare_112 ?_
                  obtain ⟨μ6, eμ6⟩ : ∃ y_ : Mem, y_ = jms μ5 3 6 (lsm (ltc dA dB (μ 3 0) (μ 3 1)) (μ 3 2).toNat ((μ 3 2).toNat * r + c) + 1) := ⟨_, rfl⟩
                  rw [← eμ6]
                  have hR6 : rng μ6 := by rw [eμ6]; exact rs_OV_6 hR5 (by omega) (by omega)
                  refine jx_iinc (L' := [some (.inr (ad G 3)), some (.inr (ad G (10 + a))), some (.inr (ad G (10 + b))), some (.inl py), some (.inl (px + 1)), some (.inl (dA px py)), some (.inl (dB px py))]) C dX3_compare_115 rfl (by decide) rfl ?_
                  refine jx_goto C dX3_compare_118 ?_
                  refine jx_fewer (L' := [some (.inr (ad G 3)), some (.inr (ad G (10 + a))), some (.inr (ad G (10 + b))), some (.inl py), some (.inl (px + 1)), none, none]) (fun i v h => ?_) ?_
                  · exact jfew_ok (by simp [jfew]) h
                  exact ih_39 (c + 1) (px + 1) μ6 hR6 (by omega) (by omega) (by rw [eμ6, jms_slot _ _ _ _ (by decide), eμ5, jms_slot _ _ _ _ (by decide), eμ4, jms_same, lsm_at _ (by omega), show lta dA dB (μ 3 0) (μ 3 1) (c : Int) (r : Int) = dA px py by unfold lta; rw [← hpx, ← hpy]; exact if_neg (by omega)]) (by rw [eμ6, jms_slot _ _ _ _ (by decide), eμ5, jms_same, lsm_at _ (by omega), show ltb dA dB (μ 3 0) (μ 3 1) (c : Int) (r : Int) = dB px py by unfold ltb; rw [← hpx, ← hpy]; exact if_neg (by omega)]) (by rw [eμ6, jms_same, lsm_at _ (by omega), show ltc dA dB (μ 3 0) (μ 3 1) (c : Int) (r : Int) = 1 by unfold ltc; rw [← hpx, ← hpy]; exact if_neg (by omega)]) (fun k hk => by rw [eμ6, jms_cell _ _ _ _ hk, eμ5, jms_cell _ _ _ _ hk, eμ4, jms_cell _ _ _ _ hk]; exact hfb k hk) (fun j hj => by rw [eμ6, jms_slot _ _ _ _ (by omega), eμ5, jms_slot _ _ _ _ (by omega), eμ4, jms_slot _ _ _ _ (by omega)]; exact hgb j hj) (by omega)
        exact LP_39 _ 0 (μa 3 0) μa hRa (by omega) (by omega) ha4 ha5 ha6 hfa hga (Nat.lt_succ_self _)
  exact LP_20 _ 0 (μ 3 1) μ3 hR3 (by omega) (by omega) (by rw [eμ3, jms_slot _ _ _ _ (by decide), eμ2, jms_slot _ _ _ _ (by decide), eμ1, jms_same]; rfl) (by rw [eμ3, jms_slot _ _ _ _ (by decide), eμ2, jms_same]; rfl) (by rw [eμ3, jms_same]; rfl) (fun k hk => by rw [eμ3, jms_cell _ _ _ _ hk, eμ2, jms_cell _ _ _ _ hk, eμ1, jms_cell _ _ _ _ hk]) (fun j hj => by rw [eμ3, jms_slot _ _ _ _ (by omega), eμ2, jms_slot _ _ _ _ (by omega), eμ1, jms_slot _ _ _ _ (by omega)]) (Nat.lt_succ_self _)
set_option maxHeartbeats 4000000 in
set_option maxRecDepth 100000 in
theorem c_X6_unlikeness (l : Launch) (G : GT) (μ : Mem) (a b : Nat) (ha : a < 4) (hb : b < 4) (dA dB : Int → Int → Int) (hdA : ∀ x y, dgt (μ (14 + a) 2) (μ (14 + a) 3) (μ (18 + a)) (x - μ (10 + a) 2) (y - μ (10 + a) 3) = dA x y) (hdB : ∀ x y, dgt (μ (14 + b) 2) (μ (14 + b) 3) (μ (18 + b)) (x - μ (10 + b) 2) (y - μ (10 + b) 3) = dB x y) (hrA : ∀ x y, -1 ≤ dA x y ∧ dA x y ≤ 255) (hrB : ∀ x y, -1 ≤ dB x y ∧ dB x y ≤ 255) (x y : Int) (hx : InR x) (hy : InR y) (hR : rng μ) : MI l yX6_unlikeness cX6_unlikeness 6 .int ({ frames := 3, cells := 0, slots := 0, locals := 66 } : Room) G [.inr (ad G (10 + a)), .inr (ad G (10 + b)), .inl x, .inl y] μ (rdq μ (unl (dA x y) (dB x y))) := by
  refine MI.of (by decide +kernel) (Nat.le_of_ble_eq_true rfl) ?_
  intro F C Yy
  show jX F G 6 0 0 (jE F G (jQi G (rdq μ (unl (dA x y) (dB x y))))) 0 [some (.inr (ad G (10 + a))), some (.inr (ad G (10 + b))), some (.inl x), some (.inl y), none, none] [] μ
  refine jx_aload_n C dX6_unlikeness_0 rfl ?_
  refine jx_iload_n C dX6_unlikeness_1 rfl ?_
  refine jx_iload_n C dX6_unlikeness_2 rfl ?_
  refine jx_cVi (as := [.inl x, .inl y]) (st := []) C Yy (c_X5_dotAt l G μ a (by omega) x y (by omega) (by omega) hR) yb_X5_dotAt yv_X5_dotAt wm_X6_48 (jcl_PI G ha _) rfl (by omega) rfl rfl (Nat.le_of_ble_eq_true rfl) ⟨⟨rfl, rfl, Nat.le_of_ble_eq_true rfl, Nat.le_of_ble_eq_true rfl⟩, Nat.zero_le _, Nat.zero_le _⟩ dX6_unlikeness_3 ?_
  rintro _ _ ⟨rfl, rfl⟩
  have r_3 := dgt_rng (W := μ (14 + a) 2) (H := μ (14 + a) 3) (v := μ (18 + a)) (fun t => rg_va hR (p := a) (by omega) t) (x - μ (10 + a) 2) (y - μ (10 + a) 3)
  have g_a := hrA x y
  refine jx_top (b := dA x y) (hdA x y) ?_
  refine jx_istore (L' := [some (.inr (ad G (10 + a))), some (.inr (ad G (10 + b))), some (.inl x), some (.inl y), some (.inl (dA x y)), none]) C dX6_unlikeness_6 (by decide) rfl ?_
  refine jx_aload_n C dX6_unlikeness_8 rfl ?_
  refine jx_iload_n C dX6_unlikeness_9 rfl ?_
  refine jx_iload_n C dX6_unlikeness_10 rfl ?_
  refine jx_cVi (as := [.inl x, .inl y]) (st := []) C Yy (c_X5_dotAt l G μ b (by omega) x y (by omega) (by omega) hR) yb_X5_dotAt yv_X5_dotAt wm_X6_48 (jcl_PI G hb _) rfl (by omega) rfl rfl (Nat.le_of_ble_eq_true rfl) ⟨⟨rfl, rfl, Nat.le_of_ble_eq_true rfl, Nat.le_of_ble_eq_true rfl⟩, Nat.zero_le _, Nat.zero_le _⟩ dX6_unlikeness_11 ?_
  rintro _ _ ⟨rfl, rfl⟩
  have r_11 := dgt_rng (W := μ (14 + b) 2) (H := μ (14 + b) 3) (v := μ (18 + b)) (fun t => rg_va hR (p := b) (by omega) t) (x - μ (10 + b) 2) (y - μ (10 + b) 3)
  have g_b := hrB x y
  refine jx_top (b := dB x y) (hdB x y) ?_
  refine jx_istore (L' := [some (.inr (ad G (10 + a))), some (.inr (ad G (10 + b))), some (.inl x), some (.inl y), some (.inl (dA x y)), some (.inl (dB x y))]) C dX6_unlikeness_14 (by decide) rfl ?_
  refine jx_iload C dX6_unlikeness_16 rfl ?_
  refine jx_iconst C dX6_unlikeness_18 ?_
  refine jx_icmp_eq C dX6_unlikeness_19 (by omega) (by decide) (fun c_19 => ?_) (fun c_19 => ?_)
  · refine jx_sipush C dX6_unlikeness_28 (by decide +kernel) ?_
    refine jx_goto C dX6_unlikeness_31 ?_
    exact jx_iret C dX6_unlikeness_42 ⟨by (unfold unl; first | rw [if_pos (by omega)] | rw [if_neg (by omega)]), rfl⟩
  · refine jx_iload C dX6_unlikeness_22 rfl ?_
    refine jx_iconst C dX6_unlikeness_24 ?_
    refine jx_icmp_ne C dX6_unlikeness_25 (by omega) (by decide) (fun c_25 => ?_) (fun c_25 => ?_)
    · refine jx_iload C dX6_unlikeness_34 rfl ?_
      refine jx_iload C dX6_unlikeness_36 rfl ?_
      refine jx_isub C dX6_unlikeness_38 ?_
      refine jx_abs C Yy (by omega) wm_X6_53 ws_J9_abs_0f7a4 wi_Math wc_J9_abs_0f7a4 (Nat.le_of_ble_eq_true rfl) ⟨by decide, by decide, by decide, by decide⟩ dX6_unlikeness_39 ?_
      exact jx_iret C dX6_unlikeness_42 ⟨by (unfold unl; first | rw [if_pos (by omega)] | rw [if_neg (by omega)]), rfl⟩
    · refine jx_sipush C dX6_unlikeness_28 (by decide +kernel) ?_
      refine jx_goto C dX6_unlikeness_31 ?_
      exact jx_iret C dX6_unlikeness_42 ⟨by (unfold unl; first | rw [if_pos (by omega)] | rw [if_neg (by omega)]), rfl⟩
set_option maxHeartbeats 4000000 in
set_option maxRecDepth 100000 in
theorem c_X6_costAt (l : Launch) (G : GT) (μ : Mem) (r c : Int) (hr : 0 ≤ r ∧ r ≤ 19) (hc : 0 ≤ c ∧ c ≤ 19) (hR : rng μ) : MI l yX6_costAt cX6_costAt 3 .int ({ frames := 0, cells := 0, slots := 0, locals := 0 } : Room) G [.inr (ad G 4), .inl r, .inl c] μ (rdq μ (μ 8 (r * 20 + c).toNat)) := by
  refine MI.of (by decide +kernel) (Nat.le_of_ble_eq_true rfl) ?_
  intro F C Yy
  show jX F G 3 0 0 (jE F G (jQi G (rdq μ (μ 8 (r * 20 + c).toNat)))) 0 [some (.inr (ad G 4)), some (.inl r), some (.inl c)] [] μ
  refine jx_aload_n C dX6_costAt_0 rfl ?_
  refine jx_get (v := .inr (ad G 8)) C 0 ft_X6 (jcl_SE G _) rfl (by decide) (by decide) wf_X6_9 dX6_costAt_1 ?_
  refine jx_iload_n C dX6_costAt_4 rfl ?_
  refine jx_bipush C dX6_costAt_5 (by decide +kernel) ?_
  refine jx_imul C dX6_costAt_7 ?_
  refine jx_iload_n C dX6_costAt_8 rfl ?_
  refine jx_iadd C dX6_costAt_9 ?_
  refine jx_iald C (jcl_8 G _) (by decide) (by omega) (by omega) (by decide) dX6_costAt_10 ?_
  have r_10 := rg_8 hR ((r * 20 + c).toNat)
  exact jx_iret C dX6_costAt_11 ⟨by rfl, rfl⟩
set_option maxHeartbeats 4000000 in
set_option maxRecDepth 100000 in
theorem c_X6_cheapest (l : Launch) (G : GT) (μ : Mem) (w : Nat) (f : Nat → Int) (r lo hi wi : Int) (hwi : wi = (w : Int)) (hw : w ≤ 20) (hr : 0 ≤ r ∧ r ≤ 19) (hlo : -100 ≤ lo ∧ max lo 0 < w) (hhi : -100 ≤ hi ∧ hi ≤ 100) (hf : ∀ c : Nat, c < w → μ 8 (r * 20 + (c : Int)).toNat = f c) (hR : rng μ) : MI l yX6_cheapest cX6_cheapest 7 .int ({ frames := 1, cells := 0, slots := 0, locals := 22 } : Room) G [.inr (ad G 4), .inl r, .inl lo, .inl hi, .inl wi] μ (rdq μ (((chp f lo hi w : Nat) : Int))) := by
  refine MI.of (by decide +kernel) (Nat.le_of_ble_eq_true rfl) ?_
  intro F C Yy
  show jX F G 7 0 0 (jE F G (jQi G (rdq μ (((chp f lo hi w : Nat) : Int))))) 0 [some (.inr (ad G 4)), some (.inl r), some (.inl lo), some (.inl hi), some (.inl wi), none, none] [] μ
  refine jx_iload_n C dX6_cheapest_0 rfl ?_
  refine jx_iconst C dX6_cheapest_1 ?_
  refine jx_max C Yy (by omega) (by decide) wm_X6_59 ws_J9_max_7cf53 wi_Math wc_J9_max_7cf53 (Nat.le_of_ble_eq_true rfl) ⟨by decide, by decide, by decide, by decide⟩ dX6_cheapest_2 ?_
  refine jx_istore (L' := [some (.inr (ad G 4)), some (.inl r), some (.inl lo), some (.inl hi), some (.inl wi), some (.inl (max lo 0)), none]) C dX6_cheapest_5 (by decide) rfl ?_
  refine jx_iload C dX6_cheapest_7 rfl ?_
  refine jx_iconst C dX6_cheapest_9 ?_
  refine jx_iadd C dX6_cheapest_10 ?_
  refine jx_istore (L' := [some (.inr (ad G 4)), some (.inl r), some (.inl lo), some (.inl hi), some (.inl wi), some (.inl (max lo 0)), some (.inl (max lo 0 + 1))]) C dX6_cheapest_11 (by decide) rfl ?_
  have LP_13 : ∀ (n : Nat) (m : Nat) (col : Int) (be : Int), ((m : Int) ≤ max (min hi ((w : Int) - 1) - max lo 0) 0) → (col = max lo 0 + (m : Int) + 1) → (be = ((chg f (max lo 0).toNat m : Nat) : Int)) → 22 - m < n → jX F G 7 0 0 (jE F G (jQi G (rdq μ (((chp f lo hi w : Nat) : Int))))) 13 [some (.inr (ad G 4)), some (.inl r), some (.inl lo), some (.inl hi), some (.inl wi), some (.inl be), some (.inl col)] [] μ := by
    intro n
    induction n with
    | zero =>
      intro m col be hm hcol hbe hms
      exact absurd hms (Nat.not_lt_zero _)
    | succ n ih =>
      intro m col be hm hcol hbe hms
      have ih_13 := ih
      clear ih
      have hcg := chg_rng f (max lo 0).toNat m
      refine jx_iload C dX6_cheapest_13 rfl ?_
      refine jx_iload_n C dX6_cheapest_15 rfl ?_
      refine jx_icmp_gt C dX6_cheapest_16 (by omega) (by omega) (fun c_16 => ?_) (fun c_16 => ?_)
      · refine jx_iload C dX6_cheapest_53 rfl ?_
        exact jx_iret C dX6_cheapest_55 ⟨by rw [hbe, chp, show (min hi ((w : Int) - 1) - max lo 0).toNat = m by omega], rfl⟩
      · refine jx_iload C dX6_cheapest_19 rfl ?_
        refine jx_iload C dX6_cheapest_21 rfl ?_
        refine jx_icmp_ge C dX6_cheapest_23 (by omega) (by omega) (fun c_23 => ?_) (fun c_23 => ?_)
        · refine jx_iload C dX6_cheapest_53 rfl ?_
          exact jx_iret C dX6_cheapest_55 ⟨by rw [hbe, chp, show (min hi ((w : Int) - 1) - max lo 0).toNat = m by omega], rfl⟩
        · have hf1 := hf col.toNat (by omega)
          have hf2 := hf (chg f (max lo 0).toNat m) (by omega)
          rw [show ((col.toNat : Nat) : Int) = col by omega] at hf1
          rw [← hbe] at hf2
          refine jx_aload_n C dX6_cheapest_26 rfl ?_
          refine jx_iload_n C dX6_cheapest_27 rfl ?_
          refine jx_iload C dX6_cheapest_28 rfl ?_
          refine jx_cVi (as := [.inl r, .inl col]) (st := []) C Yy (c_X6_costAt l G μ r col (by omega) (by omega) hR) yb_X6_costAt yv_X6_costAt wm_X6_41 (jcl_SE G _) rfl (by decide) rfl rfl (Nat.le_of_ble_eq_true rfl) ⟨⟨rfl, rfl, Nat.le_of_ble_eq_true rfl, Nat.le_of_ble_eq_true rfl⟩, Nat.zero_le _, Nat.zero_le _⟩ dX6_cheapest_30 ?_
          rintro _ _ ⟨rfl, rfl⟩
          have r_30 := rg_8 hR (r * 20 + col).toNat
          refine jx_aload_n C dX6_cheapest_33 rfl ?_
          refine jx_iload_n C dX6_cheapest_34 rfl ?_
          refine jx_iload C dX6_cheapest_35 rfl ?_
          refine jx_cVi (as := [.inl r, .inl be]) (st := [.inl (μ 8 (r * 20 + col).toNat)]) C Yy (c_X6_costAt l G μ r be (by omega) (by omega) hR) yb_X6_costAt yv_X6_costAt wm_X6_41 (jcl_SE G _) rfl (by decide) rfl rfl (Nat.le_of_ble_eq_true rfl) ⟨⟨rfl, rfl, Nat.le_of_ble_eq_true rfl, Nat.le_of_ble_eq_true rfl⟩, Nat.zero_le _, Nat.zero_le _⟩ dX6_cheapest_37 ?_
          rintro _ _ ⟨rfl, rfl⟩
          have r_37 := rg_8 hR (r * 20 + be).toNat
          refine jx_icmp_ge C dX6_cheapest_40 (by omega) (by omega) (fun c_40 => ?_) (fun c_40 => ?_)
          · refine jx_iinc (L' := [some (.inr (ad G 4)), some (.inl r), some (.inl lo), some (.inl hi), some (.inl wi), some (.inl be), some (.inl (col + 1))]) C dX6_cheapest_47 rfl (by decide) rfl ?_
            refine jx_goto C dX6_cheapest_50 ?_
            exact ih_13 (m + 1) (col + 1) be (by omega) (by omega) (by rw [chg, if_neg (by rw [show (max lo 0).toNat + m + 1 = col.toNat by omega, ← hf1, ← hf2]; omega)]; exact hbe) (by omega)
          · refine jx_iload C dX6_cheapest_43 rfl ?_
            refine jx_istore (L' := [some (.inr (ad G 4)), some (.inl r), some (.inl lo), some (.inl hi), some (.inl wi), some (.inl col), some (.inl col)]) C dX6_cheapest_45 (by decide) rfl ?_
            refine jx_iinc (L' := [some (.inr (ad G 4)), some (.inl r), some (.inl lo), some (.inl hi), some (.inl wi), some (.inl col), some (.inl (col + 1))]) C dX6_cheapest_47 rfl (by decide) rfl ?_
            refine jx_goto C dX6_cheapest_50 ?_
            exact ih_13 (m + 1) (col + 1) col (by omega) (by omega) (by rw [chg, if_pos (by rw [show (max lo 0).toNat + m + 1 = col.toNat by omega, ← hf1, ← hf2]; omega)]; omega) (by omega)
  exact LP_13 _ 0 (max lo 0 + 1) (max lo 0) (by omega) (by omega) (by show max lo 0 = (((max lo 0).toNat : Nat) : Int); omega) (Nat.lt_succ_self _)
