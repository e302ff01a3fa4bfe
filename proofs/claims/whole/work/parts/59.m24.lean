theorem isp_iff {μ : Mem} (hR : rng μ) {u : Int} : (0 ≤ u ∧ u < μ 78 1) ↔ isp (mB μ) u := by
  obtain ⟨hN, hN4⟩ := mB_N hR
  exact ⟨fun h => ⟨h.1, by omega⟩, fun h => ⟨h.1, by have := h.2; omega⟩⟩
theorem isd_iff {μ : Mem} (hR : rng μ) {u i j : Int} : ((0 ≤ u ∧ u < μ 78 1) ∧ (0 ≤ i ∧ i < μ 79 u.toNat) ∧ 0 ≤ j ∧ j < μ 80 u.toNat) ↔ isd (mB μ) u i j := by
  obtain ⟨hN, hN4⟩ := mB_N hR
  constructor
  · intro h
    have hp : u.toNat < bN (mB μ) := by omega
    refine ⟨(isp_iff hR).mp h.1, h.2.1.1, ?_, h.2.2.1, ?_⟩
    · rw [mB_W hp]; exact h.2.1.2
    · rw [mB_H hp]; exact h.2.2.2
  · intro h
    have h1 := (isp_iff hR).mpr h.1
    have hp : u.toNat < bN (mB μ) := by omega
    have h2 := h.2
    rw [mB_W hp, mB_H hp] at h2
    exact ⟨h1, ⟨h2.1, h2.2.1⟩, h2.2.2⟩
set_option maxHeartbeats 4000000 in
set_option maxRecDepth 100000 in
theorem c_X9_seed (l : Launch) (G : GT) (μ : Mem) (u : Int) (hu : InR u) (hMI : MIv μ) (hR : rng μ) : MI l yX9_seed cX9_seed 3 .int ({ frames := 0, cells := 0, slots := 0, locals := 0 } : Room) G [.inr (ad G 78), .inl u] μ (MP μ (μ 78 0) (mB μ) u) := by
  refine MI.of (by decide +kernel) (Nat.le_of_ble_eq_true rfl) ?_
  intro F C Yy
  show jX F G 3 0 0 (jE F G (jQi G (MP μ (μ 78 0) (mB μ) u))) 0 [some (.inr (ad G 78)), some (.inl u), none] [] μ
  obtain ⟨hN, hN4⟩ := mB_N hR
  refine jx_aload_n C dX9_seed_0 rfl ?_
  refine jx_get (v := .inl (μ 78 0)) C 0 ft_X9 (jcl_MO G _) rfl (by decide) (by decide) wf_X9_75 dX9_seed_1 ?_
  have r_1 := rg_MO_0 hR
  refine jx_istore_n (L' := [some (.inr (ad G 78)), some (.inl u), some (.inl (μ 78 0))]) C dX9_seed_4 (by decide) rfl ?_
  refine jx_aload_n C dX9_seed_5 rfl ?_
  refine jx_iload_n C dX9_seed_6 rfl ?_
  refine jx_put C 0 ft_X9 (jcl_MO G _) ((jcl_MO G _).trans rfl) (by decide) (by decide) rfl (Or.inl rfl) (by simp) wf_X9_75 dX9_seed_7 ?_
  obtain ⟨μ1, eμ1⟩ : ∃ y_ : Mem, y_ = jms μ 78 0 u := ⟨_, rfl⟩
  rw [← eμ1]
  have hR1 : rng μ1 := by rw [eμ1]; exact rs_MO_0 hR (by omega) (by omega)
  refine jx_iload_n C dX9_seed_10 rfl ?_
  exact jx_iret C dX9_seed_11 ⟨rfl, hR1, (seed_mend eμ1 hMI).2.1, (seed_mend eμ1 hMI).1, (seed_mend eμ1 hMI).2.2.1, (seed_mend eμ1 hMI).2.2.2⟩
set_option maxHeartbeats 4000000 in
set_option maxRecDepth 100000 in
theorem c_X9_light (l : Launch) (G : GT) (μ : Mem) (u w : Int) (hu : InR u) (hw : InR w) (hMI : MIv μ) (hR : rng μ) : MI l yX9_light cX9_light 3 .int ({ frames := 1, cells := 0, slots := 0, locals := 23 } : Room) G [.inr (ad G 78), .inl u, .inl w] μ (MP μ (a_light (μ 78 0) u w) (mB μ) (μ 78 0)) := by
  refine MI.of (by decide +kernel) (Nat.le_of_ble_eq_true rfl) ?_
  intro F C Yy
  show jX F G 3 0 0 (jE F G (jQi G (MP μ (a_light (μ 78 0) u w) (mB μ) (μ 78 0)))) 0 [some (.inr (ad G 78)), some (.inl u), some (.inl w)] [] μ
  obtain ⟨hN, hN4⟩ := mB_N hR
  refine jx_iload_n C dX9_light_0 rfl ?_
  refine jx_iconst C dX9_light_1 ?_
  refine jx_sipush C dX9_light_2 (by decide +kernel) ?_
  refine jx_cSi (as := [.inl u, .inl 0, .inl 2000]) (st := []) C Yy (c_X9_in l G μ u 0 2000 (by omega) (by omega) (by omega)) yb_X9_in ws_X9_in wm_X9_71 rfl rfl (Nat.le_of_ble_eq_true rfl) ⟨⟨rfl, rfl, Nat.le_of_ble_eq_true rfl, Nat.le_of_ble_eq_true rfl⟩, Nat.zero_le _, Nat.zero_le _⟩ dX9_light_5 ?_
  rintro _ _ ⟨rfl, ⟨rfl, c_5⟩ | ⟨rfl, c_5⟩⟩
  · refine jx_if_eq C dX9_light_8 (by decide) (fun q => absurd q (by decide)) (fun _ => ?_)
    refine jx_iload_n C dX9_light_11 rfl ?_
    refine jx_iconst C dX9_light_12 ?_
    refine jx_sipush C dX9_light_13 (by decide +kernel) ?_
    refine jx_cSi (as := [.inl w, .inl 0, .inl 2000]) (st := []) C Yy (c_X9_in l G μ w 0 2000 (by omega) (by omega) (by omega)) yb_X9_in ws_X9_in wm_X9_71 rfl rfl (Nat.le_of_ble_eq_true rfl) ⟨⟨rfl, rfl, Nat.le_of_ble_eq_true rfl, Nat.le_of_ble_eq_true rfl⟩, Nat.zero_le _, Nat.zero_le _⟩ dX9_light_16 ?_
    rintro _ _ ⟨rfl, ⟨rfl, c_16⟩ | ⟨rfl, c_16⟩⟩
    · refine jx_if_eq C dX9_light_19 (by decide) (fun q => absurd q (by decide)) (fun _ => ?_)
      refine jx_aload_n C dX9_light_22 rfl ?_
      refine jx_iload_n C dX9_light_23 rfl ?_
      refine jx_iload_n C dX9_light_24 rfl ?_
      refine jx_cVi (as := [.inl u, .inl w]) (st := []) C Yy (c_X9_lightAt l G μ u w (by omega) (by omega) hR) yb_X9_lightAt yv_X9_lightAt wm_X9_82 (jcl_MO G _) rfl (by decide) rfl rfl (Nat.le_of_ble_eq_true rfl) ⟨⟨rfl, rfl, Nat.le_of_ble_eq_true rfl, Nat.le_of_ble_eq_true rfl⟩, Nat.zero_le _, Nat.zero_le _⟩ dX9_light_25 ?_
      rintro _ _ ⟨rfl, rfl⟩
      have r_25 := lgt_rng (μ 78 0) u w
      refine jx_goto C dX9_light_28 ?_
      exact jx_iret C dX9_light_33 (MP_rd hR hMI (if_pos (by omega)))
    · refine jx_if_eq C dX9_light_19 (by decide) (fun _ => ?_) (fun q => absurd q (by decide))
      refine jx_bipush C dX9_light_31 (by decide +kernel) ?_
      exact jx_iret C dX9_light_33 (MP_rd hR hMI (if_neg (by omega)))
  · refine jx_if_eq C dX9_light_8 (by decide) (fun _ => ?_) (fun q => absurd q (by decide))
    refine jx_bipush C dX9_light_31 (by decide +kernel) ?_
    exact jx_iret C dX9_light_33 (MP_rd hR hMI (if_neg (by omega)))
set_option maxHeartbeats 4000000 in
set_option maxRecDepth 100000 in
theorem c_X9_clear (l : Launch) (G : GT) (μ : Mem)  (hMI : MIv μ) (hR : rng μ) : MI l yX9_clear cX9_clear 2 .int ({ frames := 0, cells := 0, slots := 0, locals := 0 } : Room) G [.inr (ad G 78)] μ (MP μ ((bN (mB μ) : Int)) (b_clear (mB μ)) (μ 78 0)) := by
  refine MI.of (by decide +kernel) (Nat.le_of_ble_eq_true rfl) ?_
  intro F C Yy
  show jX F G 2 0 0 (jE F G (jQi G (MP μ ((bN (mB μ) : Int)) (b_clear (mB μ)) (μ 78 0)))) 0 [some (.inr (ad G 78)), none] [] μ
  obtain ⟨hN, hN4⟩ := mB_N hR
  refine jx_aload_n C dX9_clear_0 rfl ?_
  refine jx_get (v := .inl (μ 78 1)) C 1 ft_X9 (jcl_MO G _) rfl (by decide) (by decide) wf_X9_68 dX9_clear_1 ?_
  have r_1 := rg_MO_1 hR
  refine jx_istore_n (L' := [some (.inr (ad G 78)), some (.inl (μ 78 1))]) C dX9_clear_4 (by decide) rfl ?_
  refine jx_aload_n C dX9_clear_5 rfl ?_
  refine jx_iconst C dX9_clear_6 ?_
  refine jx_put C 1 ft_X9 (jcl_MO G _) ((jcl_MO G _).trans rfl) (by decide) (by decide) rfl (Or.inl rfl) (by simp) wf_X9_68 dX9_clear_7 ?_
  obtain ⟨μ1, eμ1⟩ : ∃ y_ : Mem, y_ = jms μ 78 1 0 := ⟨_, rfl⟩
  rw [← eμ1]
  have hR1 : rng μ1 := by rw [eμ1]; exact rs_MO_1 hR (by omega) (by omega)
  refine jx_aload_n C dX9_clear_10 rfl ?_
  refine jx_iconst C dX9_clear_11 ?_
  refine jx_put C 7 ft_X9 (jcl_MO G _) ((jcl_MO G _).trans rfl) (by decide) (by decide) rfl (Or.inr ⟨rfl, Or.inl rfl⟩) (by simp) wf_X9_86 dX9_clear_12 ?_
  obtain ⟨μ2, eμ2⟩ : ∃ y_ : Mem, y_ = jms μ1 78 7 0 := ⟨_, rfl⟩
  rw [← eμ2]
  have hR2 : rng μ2 := by rw [eμ2]; exact rs_MO_7 hR1 (by omega) (by omega)
  refine jx_iload_n C dX9_clear_15 rfl ?_
  exact jx_iret C dX9_clear_16 ⟨by omega, hR2, (clear_mend (by rw [eμ2, eμ1])).2.1, (clear_mend (by rw [eμ2, eμ1])).1, (clear_mend (by rw [eμ2, eμ1])).2.2.1, (clear_mend (by rw [eμ2, eμ1])).2.2.2⟩
set_option maxHeartbeats 4000000 in
set_option maxRecDepth 100000 in
theorem c_X9_rules (l : Launch) (G : GT) (μ : Mem) (u w : Int) (hu : InR u) (hw : InR w) (hMI : MIv μ) (hR : rng μ) : MI l yX9_rules cX9_rules 3 .int ({ frames := 1, cells := 0, slots := 0, locals := 22 } : Room) G [.inr (ad G 78), .inl u, .inl w] μ (MP μ (a_rules u w) (b_rules (mB μ) u w) (μ 78 0)) := by
  refine MI.of (by decide +kernel) (Nat.le_of_ble_eq_true rfl) ?_
  intro F C Yy
  show jX F G 3 0 0 (jE F G (jQi G (MP μ (a_rules u w) (b_rules (mB μ) u w) (μ 78 0)))) 0 [some (.inr (ad G 78)), some (.inl u), some (.inl w)] [] μ
  obtain ⟨hN, hN4⟩ := mB_N hR
  refine jx_iload_n C dX9_rules_0 rfl ?_
  refine jx_iconst C dX9_rules_1 ?_
  refine jx_ldc C dX9_rules_2 wk_X9_103 (z := 1000000) (by decide +kernel) ?_
  refine jx_cSi (as := [.inl u, .inl 1, .inl 1000000]) (st := []) C Yy (c_X9_in l G μ u 1 1000000 (by omega) (by omega) (by omega)) yb_X9_in ws_X9_in wm_X9_71 rfl rfl (Nat.le_of_ble_eq_true rfl) ⟨⟨rfl, rfl, Nat.le_of_ble_eq_true rfl, Nat.le_of_ble_eq_true rfl⟩, Nat.zero_le _, Nat.zero_le _⟩ dX9_rules_4 ?_
  rintro _ _ ⟨rfl, ⟨rfl, c_4⟩ | ⟨rfl, c_4⟩⟩
  · refine jx_if_eq C dX9_rules_7 (by decide) (fun q => absurd q (by decide)) (fun _ => ?_)
    refine jx_iload_n C dX9_rules_10 rfl ?_
    refine jx_iconst C dX9_rules_11 ?_
    refine jx_bipush C dX9_rules_12 (by decide +kernel) ?_
    refine jx_cSi (as := [.inl w, .inl 0, .inl 12]) (st := []) C Yy (c_X9_in l G μ w 0 12 (by omega) (by omega) (by omega)) yb_X9_in ws_X9_in wm_X9_71 rfl rfl (Nat.le_of_ble_eq_true rfl) ⟨⟨rfl, rfl, Nat.le_of_ble_eq_true rfl, Nat.le_of_ble_eq_true rfl⟩, Nat.zero_le _, Nat.zero_le _⟩ dX9_rules_14 ?_
    rintro _ _ ⟨rfl, ⟨rfl, c_14⟩ | ⟨rfl, c_14⟩⟩
    · refine jx_if_ne C dX9_rules_17 (by decide) (fun _ => ?_) (fun q => absurd q (by decide))
      refine jx_aload_n C dX9_rules_23 rfl ?_
      refine jx_iload_n C dX9_rules_24 rfl ?_
      refine jx_put C 5 ft_X9 (jcl_MO G _) ((jcl_MO G _).trans rfl) (by decide) (by decide) rfl (Or.inl rfl) (by simp) wf_X9_19 dX9_rules_25 ?_
      obtain ⟨μ1, eμ1⟩ : ∃ y_ : Mem, y_ = jms μ 78 5 u := ⟨_, rfl⟩
      rw [← eμ1]
      have hR1 : rng μ1 := by rw [eμ1]; exact rs_MO_5 hR (by omega) (by omega)
      refine jx_aload_n C dX9_rules_28 rfl ?_
      refine jx_iload_n C dX9_rules_29 rfl ?_
      refine jx_put C 6 ft_X9 (jcl_MO G _) ((jcl_MO G _).trans rfl) (by decide) (by decide) rfl (Or.inl rfl) (by simp) wf_X9_23 dX9_rules_30 ?_
      obtain ⟨μ2, eμ2⟩ : ∃ y_ : Mem, y_ = jms μ1 78 6 w := ⟨_, rfl⟩
      rw [← eμ2]
      have hR2 : rng μ2 := by rw [eμ2]; exact rs_MO_6 hR1 (by omega) (by omega)
      refine jx_aload_n C dX9_rules_33 rfl ?_
      refine jx_iconst C dX9_rules_34 ?_
      refine jx_put C 7 ft_X9 (jcl_MO G _) ((jcl_MO G _).trans rfl) (by decide) (by decide) rfl (Or.inr ⟨rfl, Or.inl rfl⟩) (by simp) wf_X9_86 dX9_rules_35 ?_
      obtain ⟨μ3, eμ3⟩ : ∃ y_ : Mem, y_ = jms μ2 78 7 0 := ⟨_, rfl⟩
      rw [← eμ3]
      have hR3 : rng μ3 := by rw [eμ3]; exact rs_MO_7 hR2 (by omega) (by omega)
      refine jx_iconst C dX9_rules_38 ?_
      exact jx_iret C dX9_rules_39 ⟨by rw [a_rules, if_pos (by omega)], hR3, (rules_mend (μf := μ3) (b := u) (n := w) (by rw [eμ3, eμ2, eμ1])).2.1, by rw [b_rules, if_pos (by omega)]; exact (rules_mend (μf := μ3) (b := u) (n := w) (by rw [eμ3, eμ2, eμ1])).1, (rules_mend (μf := μ3) (b := u) (n := w) (by rw [eμ3, eμ2, eμ1])).2.2.1, (rules_mend (μf := μ3) (b := u) (n := w) (by rw [eμ3, eμ2, eμ1])).2.2.2⟩
    · refine jx_if_ne C dX9_rules_17 (by decide) (fun q => absurd q (by decide)) (fun _ => ?_)
      refine jx_bipush C dX9_rules_20 (by decide +kernel) ?_
      exact jx_iret C dX9_rules_22 ⟨by rw [a_rules, if_neg (by omega)], hR, hMI, by rw [b_rules, if_neg (by omega)], rfl, fun _ _ => rfl⟩
  · refine jx_if_eq C dX9_rules_7 (by decide) (fun _ => ?_) (fun q => absurd q (by decide))
    refine jx_bipush C dX9_rules_20 (by decide +kernel) ?_
    exact jx_iret C dX9_rules_22 ⟨by rw [a_rules, if_neg (by omega)], hR, hMI, by rw [b_rules, if_neg (by omega)], rfl, fun _ _ => rfl⟩
set_option maxHeartbeats 4000000 in
set_option maxRecDepth 100000 in
theorem c_X9_at (l : Launch) (G : GT) (μ : Mem) (u i j : Int) (hu : InR u) (hi : InR i) (hj : InR j) (hMI : MIv μ) (hR : rng μ) : MI l yX9_at cX9_at 4 .int ({ frames := 3, cells := 0, slots := 0, locals := 66 } : Room) G [.inr (ad G 78), .inl u, .inl i, .inl j] μ (MP μ (a_at (mB μ) u i j) (mB μ) (μ 78 0)) := by
  refine MI.of (by decide +kernel) (Nat.le_of_ble_eq_true rfl) ?_
  intro F C Yy
  show jX F G 4 0 0 (jE F G (jQi G (MP μ (a_at (mB μ) u i j) (mB μ) (μ 78 0)))) 0 [some (.inr (ad G 78)), some (.inl u), some (.inl i), some (.inl j)] [] μ
  obtain ⟨hN, hN4⟩ := mB_N hR
  refine jx_aload_n C dX9_at_0 rfl ?_
  refine jx_iload_n C dX9_at_1 rfl ?_
  refine jx_iload_n C dX9_at_2 rfl ?_
  refine jx_iload_n C dX9_at_3 rfl ?_
  refine jx_cVi (as := [.inl u, .inl i, .inl j]) (st := []) C Yy (c_X9_isDot l G μ u i j (by omega) (by omega) (by omega) hR) yb_X9_isDot yv_X9_isDot wm_X9_94 (jcl_MO G _) rfl (by decide) rfl rfl (Nat.le_of_ble_eq_true rfl) ⟨⟨rfl, rfl, Nat.le_of_ble_eq_true rfl, Nat.le_of_ble_eq_true rfl⟩, Nat.zero_le _, Nat.zero_le _⟩ dX9_at_4 ?_
  rintro _ _ ⟨rfl, ⟨rfl, c_4⟩ | ⟨rfl, c_4⟩⟩
  · have c4 := (isd_iff hR).mp c_4
    obtain ⟨p, rfl⟩ := Int.eq_ofNat_of_zero_le c_4.1.1
    simp only [Int.toNat_natCast] at c_4
    have hp : p < bN (mB μ) := by omega
    have r_w := rg_79 hR p
    have r_h := rg_80 hR p
    refine jx_if_eq C dX9_at_7 (by decide) (fun q => absurd q (by decide)) (fun _ => ?_)
    refine jx_aload_n C dX9_at_10 rfl ?_
    refine jx_iload_n C dX9_at_11 rfl ?_
    refine jx_iload_n C dX9_at_12 rfl ?_
    refine jx_iload_n C dX9_at_13 rfl ?_
    refine jx_cVi (as := [.inl (p : Int), .inl i, .inl j]) (st := []) C Yy (c_X9_dotAt l G μ (p : Int) i j (by omega) hR) yb_X9_dotAt yv_X9_dotAt wm_X9_99 (jcl_MO G _) rfl (by decide) rfl rfl (Nat.le_of_ble_eq_true rfl) ⟨⟨rfl, rfl, Nat.le_of_ble_eq_true rfl, Nat.le_of_ble_eq_true rfl⟩, Nat.zero_le _, Nat.zero_le _⟩ dX9_at_14 ?_
    rintro _ _ ⟨rfl, rfl⟩
    have r_14 := rg_81 hR (400 * (p : Int) + 20 * j + i).toNat
    refine jx_goto C dX9_at_17 ?_
    exact jx_iret C dX9_at_22 (MP_rd hR hMI (by rw [a_at, if_pos c4, Int.toNat_natCast, mB_D hp]; exact (md_in hR rfl (by omega)).symm))
  · have c4 := fun g => c_4 ((isd_iff hR).mpr g)
    refine jx_if_eq C dX9_at_7 (by decide) (fun _ => ?_) (fun q => absurd q (by decide))
    refine jx_ldc C dX9_at_20 wk_X9_97 (z := (-1000001)) (by decide +kernel) ?_
    exact jx_iret C dX9_at_22 (MP_rd hR hMI (if_neg c4))
set_option maxHeartbeats 4000000 in
set_option maxRecDepth 100000 in
theorem c_X9_score (l : Launch) (G : GT) (μ : Mem) (u i j : Int) (hu : InR u) (hi : InR i) (hj : InR j) (hMI : MIv μ) (hR : rng μ) : MI l yX9_score cX9_score 4 .int ({ frames := 3, cells := 0, slots := 0, locals := 66 } : Room) G [.inr (ad G 78), .inl u, .inl i, .inl j] μ (MP μ (a_score (mB μ) u i j) (mB μ) (μ 78 0)) := by
  refine MI.of (by decide +kernel) (Nat.le_of_ble_eq_true rfl) ?_
  intro F C Yy
  show jX F G 4 0 0 (jE F G (jQi G (MP μ (a_score (mB μ) u i j) (mB μ) (μ 78 0)))) 0 [some (.inr (ad G 78)), some (.inl u), some (.inl i), some (.inl j)] [] μ
  obtain ⟨hN, hN4⟩ := mB_N hR
  refine jx_aload_n C dX9_score_0 rfl ?_
  refine jx_iload_n C dX9_score_1 rfl ?_
  refine jx_iload_n C dX9_score_2 rfl ?_
  refine jx_iload_n C dX9_score_3 rfl ?_
  refine jx_cVi (as := [.inl u, .inl i, .inl j]) (st := []) C Yy (c_X9_isDot l G μ u i j (by omega) (by omega) (by omega) hR) yb_X9_isDot yv_X9_isDot wm_X9_94 (jcl_MO G _) rfl (by decide) rfl rfl (Nat.le_of_ble_eq_true rfl) ⟨⟨rfl, rfl, Nat.le_of_ble_eq_true rfl, Nat.le_of_ble_eq_true rfl⟩, Nat.zero_le _, Nat.zero_le _⟩ dX9_score_4 ?_
  rintro _ _ ⟨rfl, ⟨rfl, c_4⟩ | ⟨rfl, c_4⟩⟩
  · have c4 := (isd_iff hR).mp c_4
    obtain ⟨p, rfl⟩ := Int.eq_ofNat_of_zero_le c_4.1.1
    simp only [Int.toNat_natCast] at c_4
    have hp : p < bN (mB μ) := by omega
    have r_w := rg_79 hR p
    have r_h := rg_80 hR p
    refine jx_if_eq C dX9_score_7 (by decide) (fun q => absurd q (by decide)) (fun _ => ?_)
    refine jx_aload_n C dX9_score_10 rfl ?_
    refine jx_iload_n C dX9_score_11 rfl ?_
    refine jx_iload_n C dX9_score_12 rfl ?_
    refine jx_iload_n C dX9_score_13 rfl ?_
    refine jx_cVi (as := [.inl (p : Int), .inl i, .inl j]) (st := []) C Yy (c_X9_scoreOf l G μ p (by omega) (p : Int) (by omega) (bD (mB μ) p) (mB_D hp) i j (by omega) (by omega) hR) yb_X9_scoreOf yv_X9_scoreOf wm_X9_104 (jcl_MO G _) rfl (by decide) rfl rfl (Nat.le_of_ble_eq_true rfl) ⟨⟨rfl, rfl, Nat.le_of_ble_eq_true rfl, Nat.le_of_ble_eq_true rfl⟩, Nat.zero_le _, Nat.zero_le _⟩ dX9_score_14 ?_
    rintro _ _ ⟨rfl, rfl⟩
    have r_14 := sco_rng (W := μ 79 p) (H := μ 80 p) (d := (bD (mB μ) p)) (fun x y => by rw [(mB_D hp)]; exact md_rng hR p x y) i j
    refine jx_goto C dX9_score_17 ?_
    exact jx_iret C dX9_score_21 (MP_rd hR hMI (by rw [a_score, if_pos c4, Int.toNat_natCast, mB_W hp, mB_H hp]))
  · have c4 := fun g => c_4 ((isd_iff hR).mpr g)
    refine jx_if_eq C dX9_score_7 (by decide) (fun _ => ?_) (fun q => absurd q (by decide))
    refine jx_iconst C dX9_score_20 ?_
    exact jx_iret C dX9_score_21 (MP_rd hR hMI (if_neg c4))
set_option maxHeartbeats 4000000 in
set_option maxRecDepth 100000 in
theorem c_X9_dot (l : Launch) (G : GT) (μ : Mem) (u i j v : Int) (hu : InR u) (hi : InR i) (hj : InR j) (hv : InR v) (hMI : MIv μ) (hR : rng μ) : MI l yX9_dot cX9_dot 6 .int ({ frames := 3, cells := 0, slots := 0, locals := 66 } : Room) G [.inr (ad G 78), .inl u, .inl i, .inl j, .inl v] μ (MP μ (a_dot (mB μ) u i j v) (b_dot (mB μ) u i j v) (μ 78 0)) := by
  refine MI.of (by decide +kernel) (Nat.le_of_ble_eq_true rfl) ?_
  intro F C Yy
  show jX F G 6 0 0 (jE F G (jQi G (MP μ (a_dot (mB μ) u i j v) (b_dot (mB μ) u i j v) (μ 78 0)))) 0 [some (.inr (ad G 78)), some (.inl u), some (.inl i), some (.inl j), some (.inl v), none] [] μ
  obtain ⟨hN, hN4⟩ := mB_N hR
  refine jx_aload_n C dX9_dot_0 rfl ?_
  refine jx_iload_n C dX9_dot_1 rfl ?_
  refine jx_iload_n C dX9_dot_2 rfl ?_
  refine jx_iload_n C dX9_dot_3 rfl ?_
  refine jx_cVi (as := [.inl u, .inl i, .inl j]) (st := []) C Yy (c_X9_isDot l G μ u i j (by omega) (by omega) (by omega) hR) yb_X9_isDot yv_X9_isDot wm_X9_94 (jcl_MO G _) rfl (by decide) rfl rfl (Nat.le_of_ble_eq_true rfl) ⟨⟨rfl, rfl, Nat.le_of_ble_eq_true rfl, Nat.le_of_ble_eq_true rfl⟩, Nat.zero_le _, Nat.zero_le _⟩ dX9_dot_4 ?_
  rintro _ _ ⟨rfl, ⟨rfl, c_4⟩ | ⟨rfl, c_4⟩⟩
  · have c4 := (isd_iff hR).mp c_4
    obtain ⟨p, rfl⟩ := Int.eq_ofNat_of_zero_le c_4.1.1
    simp only [Int.toNat_natCast] at c_4
    have hp : p < bN (mB μ) := by omega
    have r_w := rg_79 hR p
    have r_h := rg_80 hR p
    refine jx_if_ne C dX9_dot_7 (by decide) (fun _ => ?_) (fun q => absurd q (by decide))
    refine jx_iload C dX9_dot_13 rfl ?_
    refine jx_iconst C dX9_dot_15 ?_
    refine jx_sipush C dX9_dot_16 (by decide +kernel) ?_
    refine jx_cSi (as := [.inl v, .inl (-1), .inl 255]) (st := []) C Yy (c_X9_in l G μ v (-1) 255 (by omega) (by omega) (by omega)) yb_X9_in ws_X9_in wm_X9_71 rfl rfl (Nat.le_of_ble_eq_true rfl) ⟨⟨rfl, rfl, Nat.le_of_ble_eq_true rfl, Nat.le_of_ble_eq_true rfl⟩, Nat.zero_le _, Nat.zero_le _⟩ dX9_dot_19 ?_
    rintro _ _ ⟨rfl, ⟨rfl, c_19⟩ | ⟨rfl, c_19⟩⟩
    · refine jx_if_ne C dX9_dot_22 (by decide) (fun _ => ?_) (fun q => absurd q (by decide))
      refine jx_aload_n C dX9_dot_28 rfl ?_
      refine jx_iload_n C dX9_dot_29 rfl ?_
      refine jx_iload_n C dX9_dot_30 rfl ?_
      refine jx_iload_n C dX9_dot_31 rfl ?_
      refine jx_cVi (as := [.inl (p : Int), .inl i, .inl j]) (st := []) C Yy (c_X9_dotAt l G μ (p : Int) i j (by omega) hR) yb_X9_dotAt yv_X9_dotAt wm_X9_99 (jcl_MO G _) rfl (by decide) rfl rfl (Nat.le_of_ble_eq_true rfl) ⟨⟨rfl, rfl, Nat.le_of_ble_eq_true rfl, Nat.le_of_ble_eq_true rfl⟩, Nat.zero_le _, Nat.zero_le _⟩ dX9_dot_32 ?_
      rintro _ _ ⟨rfl, rfl⟩
      have r_32 := rg_81 hR (400 * (p : Int) + 20 * j + i).toNat
      refine jx_istore (L' := [some (.inr (ad G 78)), some (.inl (p : Int)), some (.inl i), some (.inl j), some (.inl v), some (.inl (μ 81 (400 * (p : Int) + 20 * j + i).toNat))]) C dX9_dot_35 (by decide) rfl ?_
      refine jx_aload_n C dX9_dot_37 rfl ?_
      refine jx_get (v := .inr (ad G 81)) C 4 ft_X9 (jcl_MO G _) rfl (by decide) (by decide) wf_X9_16 dX9_dot_38 ?_
      refine jx_sipush C dX9_dot_41 (by decide +kernel) ?_
      refine jx_iload_n C dX9_dot_44 rfl ?_
      refine jx_imul C dX9_dot_45 ?_
      refine jx_bipush C dX9_dot_46 (by decide +kernel) ?_
      refine jx_iload_n C dX9_dot_48 rfl ?_
      refine jx_imul C dX9_dot_49 ?_
      refine jx_iadd C dX9_dot_50 ?_
      refine jx_iload_n C dX9_dot_51 rfl ?_
      refine jx_iadd C dX9_dot_52 ?_
      refine jx_iload C dX9_dot_53 rfl ?_
      refine jx_iast C (jcl_81 G _) (jcl_81 G _) (by decide) (by omega) (by omega) (by decide) dX9_dot_55 ?_
      obtain ⟨μ1, eμ1⟩ : ∃ y_ : Mem, y_ = jms μ 81 ((400 * (p : Int) + 20 * j + i).toNat) v := ⟨_, rfl⟩
      rw [← eμ1]
      have hR1 : rng μ1 := by rw [eμ1]; exact rs_81 hR ((400 * (p : Int) + 20 * j + i).toNat) (by omega) (by omega)
      refine jx_aload_n C dX9_dot_56 rfl ?_
      refine jx_iconst C dX9_dot_57 ?_
      refine jx_put C 7 ft_X9 (jcl_MO G _) ((jcl_MO G _).trans rfl) (by decide) (by decide) rfl (Or.inr ⟨rfl, Or.inl rfl⟩) (by simp) wf_X9_86 dX9_dot_58 ?_
      obtain ⟨μ2, eμ2⟩ : ∃ y_ : Mem, y_ = jms μ1 78 7 0 := ⟨_, rfl⟩
      rw [← eμ2]
      have hR2 : rng μ2 := by rw [eμ2]; exact rs_MO_7 hR1 (by omega) (by omega)
      have hde := dot_mend (μf := μ2) (p := p) (pi := (p : Int)) (i := i) (j := j) (v := v) hR rfl hp (by omega) (by rw [eμ2, eμ1])
      refine jx_iload C dX9_dot_61 rfl ?_
      exact jx_iret C dX9_dot_63 ⟨by rw [a_dot, if_neg (fun q => q c4), if_neg (fun q => q c_19), Int.toNat_natCast, mB_D hp]; exact (md_in hR rfl (by omega)).symm, hR2, hde.2.1, by rw [b_dot, if_pos ⟨c4, c_19⟩, Int.toNat_natCast]; exact hde.1, hde.2.2.1, hde.2.2.2⟩
    · refine jx_if_ne C dX9_dot_22 (by decide) (fun q => absurd q (by decide)) (fun _ => ?_)
      refine jx_ldc C dX9_dot_25 wk_X9_98 (z := (-1000002)) (by decide +kernel) ?_
      exact jx_iret C dX9_dot_27 ⟨by rw [a_dot, if_neg (fun q => q c4), if_pos c_19], hR, hMI, by rw [b_dot, if_neg (fun q => c_19 q.2)], rfl, fun _ _ => rfl⟩
  · have c4 := fun g => c_4 ((isd_iff hR).mpr g)
    refine jx_if_ne C dX9_dot_7 (by decide) (fun q => absurd q (by decide)) (fun _ => ?_)
    refine jx_ldc C dX9_dot_10 wk_X9_97 (z := (-1000001)) (by decide +kernel) ?_
    exact jx_iret C dX9_dot_12 ⟨by rw [a_dot, if_pos c4], hR, hMI, by rw [b_dot, if_neg (fun q => c4 q.1)], rfl, fun _ _ => rfl⟩
set_option maxHeartbeats 4000000 in
set_option maxRecDepth 100000 in
theorem c_X9_shoot (l : Launch) (G : GT) (μ : Mem) (w h x y g : Int) (hw : InR w) (hh : InR h) (hx : InR x) (hy : InR y) (hg : InR g) (hMI : MIv μ) (hR : rng μ) : MI l yX9_shoot cX9_shoot 9 .int ({ frames := 1, cells := 0, slots := 0, locals := 23 } : Room) G [.inr (ad G 78), .inl w, .inl h, .inl x, .inl y, .inl g] μ (MP μ (a_shoot (mB μ) w h x y g) (b_shoot (mB μ) (μ 78 0) w h x y g) (μ 78 0)) := by
  refine MI.of (by decide +kernel) (Nat.le_of_ble_eq_true rfl) ?_
  intro F C Yy
  show jX F G 9 0 0 (jE F G (jQi G (MP μ (a_shoot (mB μ) w h x y g) (b_shoot (mB μ) (μ 78 0) w h x y g) (μ 78 0)))) 0 [some (.inr (ad G 78)), some (.inl w), some (.inl h), some (.inl x), some (.inl y), some (.inl g), none, none, none] [] μ
  obtain ⟨hN, hN4⟩ := mB_N hR
  refine jx_iload_n C dX9_shoot_0 rfl ?_
  refine jx_bipush C dX9_shoot_1 (by decide +kernel) ?_
  refine jx_bipush C dX9_shoot_3 (by decide +kernel) ?_
  refine jx_cSi (as := [.inl w, .inl 8, .inl 20]) (st := []) C Yy (c_X9_in l G μ w 8 20 (by omega) (by omega) (by omega)) yb_X9_in ws_X9_in wm_X9_71 rfl rfl (Nat.le_of_ble_eq_true rfl) ⟨⟨rfl, rfl, Nat.le_of_ble_eq_true rfl, Nat.le_of_ble_eq_true rfl⟩, Nat.zero_le _, Nat.zero_le _⟩ dX9_shoot_5 ?_
  rintro _ _ ⟨rfl, ⟨rfl, c_5⟩ | ⟨rfl, c_5⟩⟩
  · refine jx_if_eq C dX9_shoot_8 (by decide) (fun q => absurd q (by decide)) (fun _ => ?_)
    refine jx_iload_n C dX9_shoot_11 rfl ?_
    refine jx_bipush C dX9_shoot_12 (by decide +kernel) ?_
    refine jx_bipush C dX9_shoot_14 (by decide +kernel) ?_
    refine jx_cSi (as := [.inl h, .inl 8, .inl 20]) (st := []) C Yy (c_X9_in l G μ h 8 20 (by omega) (by omega) (by omega)) yb_X9_in ws_X9_in wm_X9_71 rfl rfl (Nat.le_of_ble_eq_true rfl) ⟨⟨rfl, rfl, Nat.le_of_ble_eq_true rfl, Nat.le_of_ble_eq_true rfl⟩, Nat.zero_le _, Nat.zero_le _⟩ dX9_shoot_16 ?_
    rintro _ _ ⟨rfl, ⟨rfl, c_16⟩ | ⟨rfl, c_16⟩⟩
    · refine jx_if_eq C dX9_shoot_19 (by decide) (fun q => absurd q (by decide)) (fun _ => ?_)
      refine jx_iload_n C dX9_shoot_22 rfl ?_
      refine jx_iconst C dX9_shoot_23 ?_
      refine jx_sipush C dX9_shoot_24 (by decide +kernel) ?_
      refine jx_cSi (as := [.inl x, .inl 0, .inl 1900]) (st := []) C Yy (c_X9_in l G μ x 0 1900 (by omega) (by omega) (by omega)) yb_X9_in ws_X9_in wm_X9_71 rfl rfl (Nat.le_of_ble_eq_true rfl) ⟨⟨rfl, rfl, Nat.le_of_ble_eq_true rfl, Nat.le_of_ble_eq_true rfl⟩, Nat.zero_le _, Nat.zero_le _⟩ dX9_shoot_27 ?_
      rintro _ _ ⟨rfl, ⟨rfl, c_27⟩ | ⟨rfl, c_27⟩⟩
      · refine jx_if_eq C dX9_shoot_30 (by decide) (fun q => absurd q (by decide)) (fun _ => ?_)
        refine jx_iload C dX9_shoot_33 rfl ?_
        refine jx_iconst C dX9_shoot_35 ?_
        refine jx_sipush C dX9_shoot_36 (by decide +kernel) ?_
        refine jx_cSi (as := [.inl y, .inl 0, .inl 1900]) (st := []) C Yy (c_X9_in l G μ y 0 1900 (by omega) (by omega) (by omega)) yb_X9_in ws_X9_in wm_X9_71 rfl rfl (Nat.le_of_ble_eq_true rfl) ⟨⟨rfl, rfl, Nat.le_of_ble_eq_true rfl, Nat.le_of_ble_eq_true rfl⟩, Nat.zero_le _, Nat.zero_le _⟩ dX9_shoot_39 ?_
        rintro _ _ ⟨rfl, ⟨rfl, c_39⟩ | ⟨rfl, c_39⟩⟩
        · refine jx_if_eq C dX9_shoot_42 (by decide) (fun q => absurd q (by decide)) (fun _ => ?_)
          refine jx_iload C dX9_shoot_45 rfl ?_
          refine jx_iconst C dX9_shoot_47 ?_
          refine jx_bipush C dX9_shoot_48 (by decide +kernel) ?_
          refine jx_cSi (as := [.inl g, .inl 1, .inl 64]) (st := []) C Yy (c_X9_in l G μ g 1 64 (by omega) (by omega) (by omega)) yb_X9_in ws_X9_in wm_X9_71 rfl rfl (Nat.le_of_ble_eq_true rfl) ⟨⟨rfl, rfl, Nat.le_of_ble_eq_true rfl, Nat.le_of_ble_eq_true rfl⟩, Nat.zero_le _, Nat.zero_le _⟩ dX9_shoot_50 ?_
          rintro _ _ ⟨rfl, ⟨rfl, c_50⟩ | ⟨rfl, c_50⟩⟩
          · refine jx_if_ne C dX9_shoot_53 (by decide) (fun _ => ?_) (fun q => absurd q (by decide))
            refine jx_aload_n C dX9_shoot_59 rfl ?_
            refine jx_get (v := .inl (μ 78 1)) C 1 ft_X9 (jcl_MO G _) rfl (by decide) (by decide) wf_X9_68 dX9_shoot_60 ?_
            have r_60 := rg_MO_1 hR
            have e_60 : μ 78 1 = (bN (mB μ) : Int) := hN
            rw [e_60] at r_60
            refine jx_top (b := (bN (mB μ) : Int)) e_60 ?_
            refine jx_iconst C dX9_shoot_63 ?_
            refine jx_icmp_ne C dX9_shoot_64 (by omega) (by decide) (fun c_64 => ?_) (fun c_64 => ?_)
            · refine jx_aload_n C dX9_shoot_70 rfl ?_
              refine jx_get (v := .inr (ad G 79)) C 2 ft_X9 (jcl_MO G _) rfl (by decide) (by decide) wf_X9_7 dX9_shoot_71 ?_
              refine jx_aload_n C dX9_shoot_74 rfl ?_
              refine jx_get (v := .inl (μ 78 1)) C 1 ft_X9 (jcl_MO G _) rfl (by decide) (by decide) wf_X9_68 dX9_shoot_75 ?_
              have r_75 := rg_MO_1 hR
              have e_75 : μ 78 1 = (bN (mB μ) : Int) := hN
              rw [e_75] at r_75
              refine jx_top (b := (bN (mB μ) : Int)) e_75 ?_
              refine jx_iload_n C dX9_shoot_78 rfl ?_
              refine jx_iast C (jcl_79 G _) (jcl_79 G _) (by decide) (by omega) (by omega) (by decide) dX9_shoot_79 ?_
              obtain ⟨μ1, eμ1⟩ : ∃ y_ : Mem, y_ = jms μ 79 ((bN (mB μ) : Int).toNat) w := ⟨_, rfl⟩
              rw [← eμ1]
              have hR1 : rng μ1 := by rw [eμ1]; exact rs_79 hR ((bN (mB μ) : Int).toNat) (by omega) (by omega)
              refine jx_aload_n C dX9_shoot_80 rfl ?_
              refine jx_get (v := .inr (ad G 80)) C 3 ft_X9 (jcl_MO G _) rfl (by decide) (by decide) wf_X9_13 dX9_shoot_81 ?_
              refine jx_aload_n C dX9_shoot_84 rfl ?_
              refine jx_get (v := .inl (μ1 78 1)) C 1 ft_X9 (jcl_MO G _) rfl (by decide) (by decide) wf_X9_68 dX9_shoot_85 ?_
              have r_85 := rg_MO_1 hR1
              have e_85 : μ1 78 1 = (bN (mB μ) : Int) := (by rw [eμ1, jms_cell _ _ _ _ (by decide)]; exact hN)
              rw [e_85] at r_85
              refine jx_top (b := (bN (mB μ) : Int)) e_85 ?_
              refine jx_iload_n C dX9_shoot_88 rfl ?_
              refine jx_iast C (jcl_80 G _) (jcl_80 G _) (by decide) (by omega) (by omega) (by decide) dX9_shoot_89 ?_
              obtain ⟨μ2, eμ2⟩ : ∃ y_ : Mem, y_ = jms μ1 80 ((bN (mB μ) : Int).toNat) h := ⟨_, rfl⟩
              rw [← eμ2]
              have hR2 : rng μ2 := by rw [eμ2]; exact rs_80 hR1 ((bN (mB μ) : Int).toNat) (by omega) (by omega)
              have h2f : ∀ k, k ≠ 79 → k ≠ 80 → μ2 k = μ k := fun k h1 h2 => by rw [eμ2, jms_cell _ _ _ _ h2, eμ1, jms_cell _ _ _ _ h1]
              have h2w : ∀ q, μ2 79 q = if q = bN (mB μ) then w else μ 79 q := fun q => by rw [eμ2, jms_cell _ _ _ _ (by decide), eμ1, jms_arr, Int.toNat_natCast]
              have h2h : ∀ q, μ2 80 q = if q = bN (mB μ) then h else μ 80 q := fun q => by rw [eμ2, jms_arr, Int.toNat_natCast, eμ1, jms_cell _ _ _ _ (by decide)]
              refine jx_iconst C dX9_shoot_90 ?_
              refine jx_istore (L' := [some (.inr (ad G 78)), some (.inl w), some (.inl h), some (.inl x), some (.inl y), some (.inl g), some (.inl 0), none, none]) C dX9_shoot_91 (by decide) rfl ?_
              have LP_93 : ∀ (n : Nat) (j : Int) (μa : Mem), (rng μa) → (0 ≤ j ∧ j ≤ h) → (∀ k, k ≠ 81 → μa k = μ2 k) → (∀ t, ¬ t / 400 = bN (mB μ) → μa 81 t = μ 81 t) → (∀ a b : Int, 0 ≤ a → a < w → 0 ≤ b → b < h → b * 20 + a < j * 20 → μa 81 (400 * (bN (mB μ) : Int) + 20 * b + a).toNat = shv (μ 78 0) x y g a b) → 21 - j.toNat < n → jX F G 9 0 0 (jE F G (jQi G (MP μ (a_shoot (mB μ) w h x y g) (b_shoot (mB μ) (μ 78 0) w h x y g) (μ 78 0)))) 93 [some (.inr (ad G 78)), some (.inl w), some (.inl h), some (.inl x), some (.inl y), some (.inl g), some (.inl j), none, none] [] μa := by
                intro n
                induction n with
                | zero =>
                  intro j μa hRa hj hfa hga hsa hms
                  exact absurd hms (Nat.not_lt_zero _)
                | succ n ih =>
                  intro j μa hRa hj hfa hga hsa hms
                  have ih_93 := ih
                  clear ih
                  refine jx_iload C dX9_shoot_93 rfl ?_
                  refine jx_iload_n C dX9_shoot_95 rfl ?_
                  refine jx_icmp_ge C dX9_shoot_96 (by omega) (by omega) (fun c_96 => ?_) (fun c_96 => ?_)
                  · refine jx_aload_n C dX9_shoot_179 rfl ?_
                    refine jx_dup C dX9_shoot_180 ?_
                    refine jx_get (v := .inl (μa 78 1)) C 1 ft_X9 (jcl_MO G _) rfl (by decide) (by decide) wf_X9_68 dX9_shoot_181 ?_
                    have r_181 := rg_MO_1 hRa
                    have e_181 : μa 78 1 = (bN (mB μ) : Int) := (by rw [hfa 78 (by decide), h2f 78 (by decide) (by decide)]; exact hN)
                    rw [e_181] at r_181
                    refine jx_top (b := (bN (mB μ) : Int)) e_181 ?_
                    refine jx_iconst C dX9_shoot_184 ?_
                    refine jx_iadd C dX9_shoot_185 ?_
                    refine jx_put C 1 ft_X9 (jcl_MO G _) ((jcl_MO G _).trans rfl) (by decide) (by decide) rfl (Or.inl rfl) (by simp) wf_X9_68 dX9_shoot_186 ?_
                    obtain ⟨μ3, eμ3⟩ : ∃ y_ : Mem, y_ = jms μa 78 1 ((bN (mB μ) : Int) + 1) := ⟨_, rfl⟩
                    rw [← eμ3]
                    have hR3 : rng μ3 := by rw [eμ3]; exact rs_MO_1 hRa (by omega) (by omega)
                    refine jx_aload_n C dX9_shoot_189 rfl ?_
                    refine jx_iconst C dX9_shoot_190 ?_
                    refine jx_put C 7 ft_X9 (jcl_MO G _) ((jcl_MO G _).trans rfl) (by decide) (by decide) rfl (Or.inr ⟨rfl, Or.inl rfl⟩) (by simp) wf_X9_86 dX9_shoot_191 ?_
                    obtain ⟨μ4, eμ4⟩ : ∃ y_ : Mem, y_ = jms μ3 78 7 0 := ⟨_, rfl⟩
                    rw [← eμ4]
                    have hR4 : rng μ4 := by rw [eμ4]; exact rs_MO_7 hR3 (by omega) (by omega)
                    refine jx_aload_n C dX9_shoot_194 rfl ?_
                    refine jx_get (v := .inl (μ4 78 1)) C 1 ft_X9 (jcl_MO G _) rfl (by decide) (by decide) wf_X9_68 dX9_shoot_195 ?_
                    have r_195 := rg_MO_1 hR4
                    have e_195 : μ4 78 1 = (bN (mB μ) : Int) + 1 := (by rw [eμ4, jms_slot _ _ _ _ (by decide), eμ3, jms_same])
                    rw [e_195] at r_195
                    refine jx_top (b := (bN (mB μ) : Int) + 1) e_195 ?_
                    refine jx_iconst C dX9_shoot_198 ?_
                    refine jx_isub C dX9_shoot_199 ?_
                    have hse := shoot_mend (μ2 := μa) (μf := μ4) (s := μ 78 0) (x := x) (y := y) (g := g) (w := w) (h := h) hR (by omega) (by omega) (fun k h1 h2 h3 => by rw [hfa k h3, h2f k h1 h2]) (fun q => by rw [hfa 79 (by decide)]; exact h2w q) (fun q => by rw [hfa 80 (by decide)]; exact h2h q) hga (fun i j h1 h2 h3 h4 => hsa i j h1 h2 h3 h4 (by omega)) (by rw [eμ4, eμ3])
                    exact jx_iret C dX9_shoot_200 ⟨by rw [a_shoot, if_pos (by omega), if_pos (by omega)]; omega, hR4, hse.2.1, by rw [b_shoot, if_pos ⟨by omega, by omega⟩]; exact hse.1, hse.2.2.1, hse.2.2.2⟩
                  · refine jx_iconst C dX9_shoot_99 ?_
                    refine jx_istore (L' := [some (.inr (ad G 78)), some (.inl w), some (.inl h), some (.inl x), some (.inl y), some (.inl g), some (.inl j), some (.inl 0), none]) C dX9_shoot_100 (by decide) rfl ?_
                    have LP_102 : ∀ (n : Nat) (i : Int) (μb : Mem), (rng μb) → (0 ≤ i ∧ i ≤ w) → (∀ k, k ≠ 81 → μb k = μ2 k) → (∀ t, ¬ t / 400 = bN (mB μ) → μb 81 t = μ 81 t) → (∀ a b : Int, 0 ≤ a → a < w → 0 ≤ b → b < h → b * 20 + a < j * 20 + i → μb 81 (400 * (bN (mB μ) : Int) + 20 * b + a).toNat = shv (μ 78 0) x y g a b) → 21 - i.toNat < n → jX F G 9 0 0 (jE F G (jQi G (MP μ (a_shoot (mB μ) w h x y g) (b_shoot (mB μ) (μ 78 0) w h x y g) (μ 78 0)))) 102 [some (.inr (ad G 78)), some (.inl w), some (.inl h), some (.inl x), some (.inl y), some (.inl g), some (.inl j), some (.inl i), none] [] μb := by
                      intro n
                      induction n with
                      | zero =>
                        intro i μb hRb hi hfb hgb hsb hms
                        exact absurd hms (Nat.not_lt_zero _)
                      | succ n ih =>
                        intro i μb hRb hi hfb hgb hsb hms
                        have ih_102 := ih
                        clear ih
                        have q_s : μb 78 0 = μ 78 0 := by rw [hfb 78 (by decide), h2f 78 (by decide) (by decide)]
                        have q_N : μb 78 1 = (bN (mB μ) : Int) := by rw [hfb 78 (by decide), h2f 78 (by decide) (by decide)]; exact hN
                        have r_l := lgt_rng (μ 78 0) (x + i) (y + j)
                        have r_g := gl_rng (show 1 ≤ g ∧ g ≤ 64 by omega) r_l
                        refine jx_iload C dX9_shoot_102 rfl ?_
                        refine jx_iload_n C dX9_shoot_104 rfl ?_
                        refine jx_icmp_ge C dX9_shoot_105 (by omega) (by omega) (fun c_105 => ?_) (fun c_105 => ?_)
                        · refine jx_iinc (L' := [some (.inr (ad G 78)), some (.inl w), some (.inl h), some (.inl x), some (.inl y), some (.inl g), some (.inl (j + 1)), some (.inl i), none]) C dX9_shoot_173 rfl (by decide) rfl ?_
                          refine jx_goto C dX9_shoot_176 ?_
                          refine jx_fewer (L' := [some (.inr (ad G 78)), some (.inl w), some (.inl h), some (.inl x), some (.inl y), some (.inl g), some (.inl (j + 1)), none, none]) (fun i v h => ?_) ?_
                          · exact jfew_ok (by simp [jfew]) h
                          exact ih_93 (j + 1) μb hRb (by omega) hfb hgb (fun a b h1 h2 h3 h4 h5 => hsb a b h1 h2 h3 h4 (by omega)) (by omega)
                        · refine jx_iload C dX9_shoot_108 rfl ?_
                          refine jx_aload_n C dX9_shoot_110 rfl ?_
                          refine jx_iload_n C dX9_shoot_111 rfl ?_
                          refine jx_iload C dX9_shoot_112 rfl ?_
                          refine jx_iadd C dX9_shoot_114 ?_
                          refine jx_iload C dX9_shoot_115 rfl ?_
                          refine jx_iload C dX9_shoot_117 rfl ?_
                          refine jx_iadd C dX9_shoot_119 ?_
                          refine jx_cVi (as := [.inl (x + i), .inl (y + j)]) (st := [.inl g]) C Yy (c_X9_lightAt l G μb (x + i) (y + j) (by omega) (by omega) hRb) yb_X9_lightAt yv_X9_lightAt wm_X9_82 (jcl_MO G _) rfl (by decide) rfl rfl (Nat.le_of_ble_eq_true rfl) ⟨⟨rfl, rfl, Nat.le_of_ble_eq_true rfl, Nat.le_of_ble_eq_true rfl⟩, Nat.zero_le _, Nat.zero_le _⟩ dX9_shoot_120 ?_
                          rintro _ _ ⟨rfl, rfl⟩
                          have r_120 := lgt_rng (μb 78 0) (x + i) (y + j)
                          refine jx_top (b := lgt (μ 78 0) (x + i) (y + j)) (by rw [q_s]) ?_
                          refine jx_imul C dX9_shoot_123 ?_
                          refine jx_bipush C dX9_shoot_124 (by decide +kernel) ?_
                          refine jx_idiv (z := (g * (lgt (μ 78 0) (x + i) (y + j))) / 16) C dX9_shoot_126 (by omega) (by decide) (by decide) (jtd (by omega)) ?_
                          refine jx_istore (L' := [some (.inr (ad G 78)), some (.inl w), some (.inl h), some (.inl x), some (.inl y), some (.inl g), some (.inl j), some (.inl i), some (.inl ((g * (lgt (μ 78 0) (x + i) (y + j))) / 16))]) C dX9_shoot_127 (by decide) rfl ?_
                          refine jx_aload_n C dX9_shoot_129 rfl ?_
                          refine jx_get (v := .inr (ad G 81)) C 4 ft_X9 (jcl_MO G _) rfl (by decide) (by decide) wf_X9_16 dX9_shoot_130 ?_
                          refine jx_sipush C dX9_shoot_133 (by decide +kernel) ?_
                          refine jx_aload_n C dX9_shoot_136 rfl ?_
                          refine jx_get (v := .inl (μb 78 1)) C 1 ft_X9 (jcl_MO G _) rfl (by decide) (by decide) wf_X9_68 dX9_shoot_137 ?_
                          have r_137 := rg_MO_1 hRb
                          have e_137 : μb 78 1 = (bN (mB μ) : Int) := q_N
                          rw [e_137] at r_137
                          refine jx_top (b := (bN (mB μ) : Int)) e_137 ?_
                          refine jx_imul C dX9_shoot_140 ?_
                          refine jx_bipush C dX9_shoot_141 (by decide +kernel) ?_
                          refine jx_iload C dX9_shoot_143 rfl ?_
                          refine jx_imul C dX9_shoot_145 ?_
                          refine jx_iadd C dX9_shoot_146 ?_
                          refine jx_iload C dX9_shoot_147 rfl ?_
                          refine jx_iadd C dX9_shoot_149 ?_
                          have J_166 : ∀ z : Int, z = shv (μ 78 0) x y g i j → jX F G 9 0 0 (jE F G (jQi G (MP μ (a_shoot (mB μ) w h x y g) (b_shoot (mB μ) (μ 78 0) w h x y g) (μ 78 0)))) 166 [some (.inr (ad G 78)), some (.inl w), some (.inl h), some (.inl x), some (.inl y), some (.inl g), some (.inl j), some (.inl i), some (.inl ((g * (lgt (μ 78 0) (x + i) (y + j))) / 16))] [.inl z, .inl (400 * (bN (mB μ) : Int) + 20 * j + i), .inr (ad G 81)] μb := by
                            rintro _ rfl
                            have r_v := shv_rng (s := μ 78 0) (x := x) (y := y) (i := i) (j := j) (show 1 ≤ g ∧ g ≤ 64 by omega)
                            refine jx_iast C (jcl_81 G _) (jcl_81 G _) (by decide) (by omega) (by omega) (by decide) dX9_shoot_166 ?_
                            obtain ⟨μ5, eμ5⟩ : ∃ y_ : Mem, y_ = jms μb 81 ((400 * (bN (mB μ) : Int) + 20 * j + i).toNat) (shv (μ 78 0) x y g i j) := ⟨_, rfl⟩
                            rw [← eμ5]
                            have hR5 : rng μ5 := by rw [eμ5]; exact rs_81 hRb ((400 * (bN (mB μ) : Int) + 20 * j + i).toNat) (by omega) (by omega)
                            refine jx_iinc (L' := [some (.inr (ad G 78)), some (.inl w), some (.inl h), some (.inl x), some (.inl y), some (.inl g), some (.inl j), some (.inl (i + 1)), some (.inl ((g * (lgt (μ 78 0) (x + i) (y + j))) / 16))]) C dX9_shoot_167 rfl (by decide) rfl ?_
                            refine jx_goto C dX9_shoot_170 ?_
                            refine jx_fewer (L' := [some (.inr (ad G 78)), some (.inl w), some (.inl h), some (.inl x), some (.inl y), some (.inl g), some (.inl j), some (.inl (i + 1)), none]) (fun i v h => ?_) ?_
                            · exact jfew_ok (by simp [jfew]) h
                            exact ih_102 (i + 1) μ5 hR5 (by omega) (fun k hk => by rw [eμ5, jms_cell _ _ _ _ hk]; exact hfb k hk) (fun t ht => by rw [eμ5, jms_arr, if_neg (by omega)]; exact hgb t ht) (fun a b h1 h2 h3 h4 h5 => by
          rw [eμ5, jms_arr]
          by_cases hx0 : a = i ∧ b = j
          · rw [if_pos (by omega), hx0.1, hx0.2]
          · rw [if_neg (by omega)]; exact hsb a b h1 h2 h3 h4 (by omega)) (by omega)
                          refine jx_iload C dX9_shoot_150 rfl ?_
                          refine jx_sipush C dX9_shoot_152 (by decide +kernel) ?_
                          refine jx_icmp_le C dX9_shoot_155 (by omega) (by decide) (fun c_155 => ?_) (fun c_155 => ?_)
                          · refine jx_iload C dX9_shoot_164 rfl ?_
                            exact J_166 _ (by unfold shv; omega)
                          · refine jx_sipush C dX9_shoot_158 (by decide +kernel) ?_
                            refine jx_goto C dX9_shoot_161 ?_
                            exact J_166 _ (by unfold shv; omega)
                    exact LP_102 _ 0 μa hRa (by omega) hfa hga (fun a b h1 h2 h3 h4 h5 => hsa a b h1 h2 h3 h4 (by omega)) (Nat.lt_succ_self _)
              exact LP_93 _ 0 μ2 hR2 (by omega) (fun k _ => rfl) (fun t _ => by rw [h2f 81 (by decide) (by decide)]) (fun a b h1 h2 h3 h4 h5 => by omega) (Nat.lt_succ_self _)
            · refine jx_bipush C dX9_shoot_67 (by decide +kernel) ?_
              exact jx_iret C dX9_shoot_69 ⟨by rw [a_shoot, if_pos (by omega), if_neg (by omega)], hR, hMI, by rw [b_shoot, if_neg (fun q => by have := q.2; omega)], rfl, fun _ _ => rfl⟩
          · refine jx_if_ne C dX9_shoot_53 (by decide) (fun q => absurd q (by decide)) (fun _ => ?_)
            refine jx_bipush C dX9_shoot_56 (by decide +kernel) ?_
            exact jx_iret C dX9_shoot_58 ⟨by rw [a_shoot, if_neg (by omega)], hR, hMI, by rw [b_shoot, if_neg (fun q => by have := q.1; omega)], rfl, fun _ _ => rfl⟩
        · refine jx_if_eq C dX9_shoot_42 (by decide) (fun _ => ?_) (fun q => absurd q (by decide))
          refine jx_bipush C dX9_shoot_56 (by decide +kernel) ?_
          exact jx_iret C dX9_shoot_58 ⟨by rw [a_shoot, if_neg (by omega)], hR, hMI, by rw [b_shoot, if_neg (fun q => by have := q.1; omega)], rfl, fun _ _ => rfl⟩
      · refine jx_if_eq C dX9_shoot_30 (by decide) (fun _ => ?_) (fun q => absurd q (by decide))
        refine jx_bipush C dX9_shoot_56 (by decide +kernel) ?_
        exact jx_iret C dX9_shoot_58 ⟨by rw [a_shoot, if_neg (by omega)], hR, hMI, by rw [b_shoot, if_neg (fun q => by have := q.1; omega)], rfl, fun _ _ => rfl⟩
    · refine jx_if_eq C dX9_shoot_19 (by decide) (fun _ => ?_) (fun q => absurd q (by decide))
      refine jx_bipush C dX9_shoot_56 (by decide +kernel) ?_
      exact jx_iret C dX9_shoot_58 ⟨by rw [a_shoot, if_neg (by omega)], hR, hMI, by rw [b_shoot, if_neg (fun q => by have := q.1; omega)], rfl, fun _ _ => rfl⟩
  · refine jx_if_eq C dX9_shoot_8 (by decide) (fun _ => ?_) (fun q => absurd q (by decide))
    refine jx_bipush C dX9_shoot_56 (by decide +kernel) ?_
    exact jx_iret C dX9_shoot_58 ⟨by rw [a_shoot, if_neg (by omega)], hR, hMI, by rw [b_shoot, if_neg (fun q => by have := q.1; omega)], rfl, fun _ _ => rfl⟩
set_option maxHeartbeats 4000000 in
set_option maxRecDepth 100000 in
theorem c_X9_told (l : Launch) (G : GT) (μ : Mem) (u : Int) (hu : InR u) (hMI : MIv μ) (hR : rng μ) : MI l yX9_told cX9_told 2 .int ({ frames := 0, cells := 0, slots := 0, locals := 0 } : Room) G [.inr (ad G 78), .inl u] μ (MP μ (a_told (mB μ) (μ 78 0) u) (mB μ) (μ 78 0)) := by
  refine MI.of (by decide +kernel) (Nat.le_of_ble_eq_true rfl) ?_
  intro F C Yy
  show jX F G 2 0 0 (jE F G (jQi G (MP μ (a_told (mB μ) (μ 78 0) u) (mB μ) (μ 78 0)))) 0 [some (.inr (ad G 78)), some (.inl u)] [] μ
  obtain ⟨hN, hN4⟩ := mB_N hR
  refine jx_iload_n C dX9_told_0 rfl ?_
  refine jx_if_ne C dX9_told_1 (by omega) (fun c_1 => ?_) (fun c_1 => ?_)
  · refine jx_iload_n C dX9_told_11 rfl ?_
    refine jx_iconst C dX9_told_12 ?_
    refine jx_icmp_ne C dX9_told_13 (by omega) (by decide) (fun c_13 => ?_) (fun c_13 => ?_)
    · refine jx_iload_n C dX9_told_23 rfl ?_
      refine jx_iconst C dX9_told_24 ?_
      refine jx_icmp_ne C dX9_told_25 (by omega) (by decide) (fun c_25 => ?_) (fun c_25 => ?_)
      · refine jx_iload_n C dX9_told_35 rfl ?_
        refine jx_iconst C dX9_told_36 ?_
        refine jx_icmp_ne C dX9_told_37 (by omega) (by decide) (fun c_37 => ?_) (fun c_37 => ?_)
        · refine jx_ldc C dX9_told_47 wk_X9_98 (z := (-1000002)) (by decide +kernel) ?_
          exact jx_iret C dX9_told_49 (MP_rd hR hMI (by rw [a_told, if_neg (by omega), if_neg (by omega), if_neg (by omega), if_neg (by omega)]))
        · refine jx_aload_n C dX9_told_40 rfl ?_
          refine jx_get (v := .inl (μ 78 0)) C 0 ft_X9 (jcl_MO G _) rfl (by decide) (by decide) wf_X9_75 dX9_told_41 ?_
          have r_41 := rg_MO_0 hR
          refine jx_goto C dX9_told_44 ?_
          exact jx_iret C dX9_told_49 (MP_rd hR hMI (by rw [a_told, if_neg (by omega), if_neg (by omega), if_neg (by omega), if_pos (by omega)]; first | done | rfl))
      · refine jx_aload_n C dX9_told_28 rfl ?_
        refine jx_get (v := .inl (μ 78 6)) C 6 ft_X9 (jcl_MO G _) rfl (by decide) (by decide) wf_X9_23 dX9_told_29 ?_
        have r_29 := rg_MO_6 hR
        refine jx_goto C dX9_told_32 ?_
        exact jx_iret C dX9_told_49 (MP_rd hR hMI (by rw [a_told, if_neg (by omega), if_neg (by omega), if_pos (by omega)]; first | done | rfl))
    · refine jx_aload_n C dX9_told_16 rfl ?_
      refine jx_get (v := .inl (μ 78 5)) C 5 ft_X9 (jcl_MO G _) rfl (by decide) (by decide) wf_X9_19 dX9_told_17 ?_
      have r_17 := rg_MO_5 hR
      refine jx_goto C dX9_told_20 ?_
      exact jx_iret C dX9_told_49 (MP_rd hR hMI (by rw [a_told, if_neg (by omega), if_pos (by omega)]; first | done | rfl))
  · refine jx_aload_n C dX9_told_4 rfl ?_
    refine jx_get (v := .inl (μ 78 1)) C 1 ft_X9 (jcl_MO G _) rfl (by decide) (by decide) wf_X9_68 dX9_told_5 ?_
    have r_5 := rg_MO_1 hR
    refine jx_goto C dX9_told_8 ?_
    exact jx_iret C dX9_told_49 (MP_rd hR hMI (by rw [a_told, if_pos (by omega)]; omega))
set_option maxHeartbeats 4000000 in
set_option maxRecDepth 100000 in
theorem c_X9_marks (l : Launch) (G : GT) (μ : Mem) (u : Int) (hu : InR u) (hMI : MIv μ) (hR : rng μ) : MI l yX9_marks cX9_marks 2 .int ({ frames := 5, cells := 0, slots := 0, locals := 120 } : Room) G [.inr (ad G 78), .inl u] μ (MP μ (a_marks (mB μ) u) (mB μ) (μ 78 0)) := by
  refine MI.of (by decide +kernel) (Nat.le_of_ble_eq_true rfl) ?_
  intro F C Yy
  show jX F G 2 0 0 (jE F G (jQi G (MP μ (a_marks (mB μ) u) (mB μ) (μ 78 0)))) 0 [some (.inr (ad G 78)), some (.inl u)] [] μ
  obtain ⟨hN, hN4⟩ := mB_N hR
  refine jx_aload_n C dX9_marks_0 rfl ?_
  refine jx_iload_n C dX9_marks_1 rfl ?_
  refine jx_cVi (as := [.inl u]) (st := []) C Yy (c_X9_isPicture l G μ u (by omega) hR) yb_X9_isPicture yv_X9_isPicture wm_X9_90 (jcl_MO G _) rfl (by decide) rfl rfl (Nat.le_of_ble_eq_true rfl) ⟨⟨rfl, rfl, Nat.le_of_ble_eq_true rfl, Nat.le_of_ble_eq_true rfl⟩, Nat.zero_le _, Nat.zero_le _⟩ dX9_marks_2 ?_
  rintro _ _ ⟨rfl, ⟨rfl, c_2⟩ | ⟨rfl, c_2⟩⟩
  · have c2 := (isp_iff hR).mp c_2
    obtain ⟨p, rfl⟩ := Int.eq_ofNat_of_zero_le c_2.1
    have hp : p < bN (mB μ) := by omega
    refine jx_if_ne C dX9_marks_5 (by decide) (fun _ => ?_) (fun q => absurd q (by decide))
    refine jx_aload_n C dX9_marks_10 rfl ?_
    refine jx_cVv (as := []) (st := []) C Yy (c_X9_lay l G μ hMI hR) yb_X9_lay yv_X9_lay wm_X9_150 (jcl_MO G _) rfl (by decide) rfl rfl (Nat.le_of_ble_eq_true rfl) ⟨⟨rfl, rfl, Nat.le_of_ble_eq_true rfl, Nat.le_of_ble_eq_true rfl⟩, Nat.zero_le _, Nat.zero_le _⟩ dX9_marks_11 ?_
    intro μ1 hμ1
    have hR1 := hμ1.1
    have hMD1 := hμ1.2.2.1
    have hB1 : mB μ1 = mB μ := hμ1.2.2.2.1
    have q_n1 : μ1 78 1 = (bN (mB μ) : Int) := by rw [hμ1.2.2.2.2.2 1 (by decide) (by decide)]; exact hN
    have hM := hMD1.1 p (by rw [hB1]; exact hp)
    rw [hB1] at hM
    refine jx_aload_n C dX9_marks_14 rfl ?_
    refine jx_get (v := .inr (ad G 83)) C 9 ft_X9 (jcl_MO G _) rfl (by decide) (by decide) wf_X9_29 dX9_marks_15 ?_
    refine jx_iload_n C dX9_marks_18 rfl ?_
    refine jx_iald C (jcl_83 G _) (by decide) (by omega) (by omega) (by decide) dX9_marks_19 ?_
    have r_19 := rg_83 hR1 ((p : Int).toNat)
    have e_19 : μ1 83 (p : Int).toNat = ((bmk (mB μ) p).1 : Int) := (by rw [Int.toNat_natCast]; exact hM.1.2.1)
    rw [e_19] at r_19
    refine jx_top (b := ((bmk (mB μ) p).1 : Int)) e_19 ?_
    exact jx_iret C dX9_marks_20 (MP_lt hμ1 (by rw [a_marks, if_pos c2, Int.toNat_natCast]; first | done | rfl))
  · have c2 := fun g => c_2 ((isp_iff hR).mpr g)
    refine jx_if_ne C dX9_marks_5 (by decide) (fun q => absurd q (by decide)) (fun _ => ?_)
    refine jx_iconst C dX9_marks_8 ?_
    exact jx_iret C dX9_marks_9 (MP_rd hR hMI (if_neg c2))
set_option maxHeartbeats 4000000 in
set_option maxRecDepth 100000 in
theorem c_X9_hasMark (l : Launch) (G : GT) (μ : Mem) (u m : Int) (hu : InR u) (hm : InR m) (hMI : MIv μ) (hR : rng μ) : MI l yX9_hasMark cX9_hasMark 3 .boolean ({ frames := 5, cells := 0, slots := 0, locals := 120 } : Room) G [.inr (ad G 78), .inl u, .inl m] μ (fun z μ' => rng μ' ∧ ((z = 1 ∧ ism (mB μ) u m) ∨ (z = 0 ∧ ¬ ism (mB μ) u m)) ∧ LTp μ μ') := by
  refine MI.of (by decide +kernel) (Nat.le_of_ble_eq_true rfl) ?_
  intro F C Yy
  show jX F G 3 0 0 (jE F G (jQi G (fun z μ' => rng μ' ∧ ((z = 1 ∧ ism (mB μ) u m) ∨ (z = 0 ∧ ¬ ism (mB μ) u m)) ∧ LTp μ μ'))) 0 [some (.inr (ad G 78)), some (.inl u), some (.inl m)] [] μ
  obtain ⟨hN, hN4⟩ := mB_N hR
  refine jx_aload_n C dX9_hasMark_0 rfl ?_
  refine jx_cVv (as := []) (st := []) C Yy (c_X9_lay l G μ hMI hR) yb_X9_lay yv_X9_lay wm_X9_150 (jcl_MO G _) rfl (by decide) rfl rfl (Nat.le_of_ble_eq_true rfl) ⟨⟨rfl, rfl, Nat.le_of_ble_eq_true rfl, Nat.le_of_ble_eq_true rfl⟩, Nat.zero_le _, Nat.zero_le _⟩ dX9_hasMark_1 ?_
  intro μ1 hμ1
  have hR1 := hμ1.1
  have hMD1 := hμ1.2.2.1
  have hB1 : mB μ1 = mB μ := hμ1.2.2.2.1
  have q_n1 : μ1 78 1 = (bN (mB μ) : Int) := by rw [hμ1.2.2.2.2.2 1 (by decide) (by decide)]; exact hN
  refine jx_aload_n C dX9_hasMark_4 rfl ?_
  refine jx_iload_n C dX9_hasMark_5 rfl ?_
  refine jx_cVi (as := [.inl u]) (st := []) C Yy (c_X9_isPicture l G μ1 u (by omega) hR1) yb_X9_isPicture yv_X9_isPicture wm_X9_90 (jcl_MO G _) rfl (by decide) rfl rfl (Nat.le_of_ble_eq_true rfl) ⟨⟨rfl, rfl, Nat.le_of_ble_eq_true rfl, Nat.le_of_ble_eq_true rfl⟩, Nat.zero_le _, Nat.zero_le _⟩ dX9_hasMark_6 ?_
  rintro _ _ ⟨rfl, ⟨rfl, c_6⟩ | ⟨rfl, c_6⟩⟩
  · obtain ⟨p, rfl⟩ := Int.eq_ofNat_of_zero_le c_6.1
    have hp : p < bN (mB μ) := by omega
    have hM := hMD1.1 p (by rw [hB1]; exact hp)
    rw [hB1] at hM
    have h16 := hM.1.1
    refine jx_if_eq C dX9_hasMark_9 (by decide) (fun q => absurd q (by decide)) (fun _ => ?_)
    refine jx_iload_n C dX9_hasMark_12 rfl ?_
    refine jx_iconst C dX9_hasMark_13 ?_
    refine jx_aload_n C dX9_hasMark_14 rfl ?_
    refine jx_get (v := .inr (ad G 83)) C 9 ft_X9 (jcl_MO G _) rfl (by decide) (by decide) wf_X9_29 dX9_hasMark_15 ?_
    refine jx_iload_n C dX9_hasMark_18 rfl ?_
    refine jx_iald C (jcl_83 G _) (by decide) (by omega) (by omega) (by decide) dX9_hasMark_19 ?_
    have r_19 := rg_83 hR1 ((p : Int).toNat)
    have e_19 : μ1 83 (p : Int).toNat = ((bmk (mB μ) p).1 : Int) := (by rw [Int.toNat_natCast]; exact hM.1.2.1)
    rw [e_19] at r_19
    refine jx_top (b := ((bmk (mB μ) p).1 : Int)) e_19 ?_
    refine jx_iconst C dX9_hasMark_20 ?_
    refine jx_isub C dX9_hasMark_21 ?_
    refine jx_cSi (as := [.inl m, .inl 0, .inl (((bmk (mB μ) p).1 : Int) - 1)]) (st := []) C Yy (c_X9_in l G μ1 m 0 (((bmk (mB μ) p).1 : Int) - 1) (by omega) (by omega) (by omega)) yb_X9_in ws_X9_in wm_X9_71 rfl rfl (Nat.le_of_ble_eq_true rfl) ⟨⟨rfl, rfl, Nat.le_of_ble_eq_true rfl, Nat.le_of_ble_eq_true rfl⟩, Nat.zero_le _, Nat.zero_le _⟩ dX9_hasMark_22 ?_
    rintro _ _ ⟨rfl, ⟨rfl, c_22⟩ | ⟨rfl, c_22⟩⟩
    · refine jx_if_eq C dX9_hasMark_25 (by decide) (fun q => absurd q (by decide)) (fun _ => ?_)
      refine jx_iconst C dX9_hasMark_28 ?_
      refine jx_goto C dX9_hasMark_29 ?_
      exact jx_zret C dX9_hasMark_33 (Or.inr rfl) ⟨hR1, Or.inl ⟨rfl, by simp only [ism, isp, Int.toNat_natCast]; omega⟩, hμ1⟩
    · refine jx_if_eq C dX9_hasMark_25 (by decide) (fun _ => ?_) (fun q => absurd q (by decide))
      refine jx_iconst C dX9_hasMark_32 ?_
      exact jx_zret C dX9_hasMark_33 (Or.inl rfl) ⟨hR1, Or.inr ⟨rfl, by first | (simp only [ism, isp, Int.toNat_natCast]; omega) | (intro g; exact c_6 ⟨g.1.1, by have := g.1.2; omega⟩)⟩, hμ1⟩
  · refine jx_if_eq C dX9_hasMark_9 (by decide) (fun _ => ?_) (fun q => absurd q (by decide))
    refine jx_iconst C dX9_hasMark_32 ?_
    exact jx_zret C dX9_hasMark_33 (Or.inl rfl) ⟨hR1, Or.inr ⟨rfl, by first | (simp only [ism, isp, Int.toNat_natCast]; omega) | (intro g; exact c_6 ⟨g.1.1, by have := g.1.2; omega⟩)⟩, hμ1⟩
set_option maxHeartbeats 4000000 in
set_option maxRecDepth 100000 in
theorem c_X9_mark (l : Launch) (G : GT) (μ : Mem) (u m t : Int) (hu : InR u) (hm0 : InR m) (ht : InR t) (hMI : MIv μ) (hR : rng μ) : MI l yX9_mark cX9_mark 4 .int ({ frames := 6, cells := 0, slots := 0, locals := 142 } : Room) G [.inr (ad G 78), .inl u, .inl m, .inl t] μ (MP μ (a_mark (mB μ) u m t) (mB μ) (μ 78 0)) := by
  refine MI.of (by decide +kernel) (Nat.le_of_ble_eq_true rfl) ?_
  intro F C Yy
  show jX F G 4 0 0 (jE F G (jQi G (MP μ (a_mark (mB μ) u m t) (mB μ) (μ 78 0)))) 0 [some (.inr (ad G 78)), some (.inl u), some (.inl m), some (.inl t)] [] μ
  obtain ⟨hN, hN4⟩ := mB_N hR
  refine jx_aload_n C dX9_mark_0 rfl ?_
  refine jx_iload_n C dX9_mark_1 rfl ?_
  refine jx_iload_n C dX9_mark_2 rfl ?_
  refine jx_cVi (as := [.inl u, .inl m]) (st := []) C Yy (c_X9_hasMark l G μ u m (by omega) (by omega) hMI hR) yb_X9_hasMark yv_X9_hasMark wm_X9_153 (jcl_MO G _) rfl (by decide) rfl rfl (Nat.le_of_ble_eq_true rfl) ⟨⟨rfl, rfl, Nat.le_of_ble_eq_true rfl, Nat.le_of_ble_eq_true rfl⟩, Nat.zero_le _, Nat.zero_le _⟩ dX9_mark_3 ?_
  intro z_3 μ1 hμ1
  have hR1 := hμ1.1
  have hz := hμ1.2.1
  have hzz : z_3 = 0 ∨ z_3 = 1 := hz.elim (fun g => Or.inr g.1) (fun g => Or.inl g.1)
  have hLT := hμ1.2.2
  have hMD1 := hLT.2.2.1
  have hB1 : mB μ1 = mB μ := hLT.2.2.2.1
  have q_n1 : μ1 78 1 = (bN (mB μ) : Int) := by rw [hLT.2.2.2.2.2 1 (by decide) (by decide)]; exact hN
  refine jx_if_ne C dX9_mark_6 (by omega) (fun c_6 => ?_) (fun c_6 => ?_)
  · have c3 : ism (mB μ) u m := hz.elim (fun g => g.2) (fun g => by omega)
    obtain ⟨p, rfl⟩ := Int.eq_ofNat_of_zero_le c3.1.1
    obtain ⟨q, rfl⟩ := Int.eq_ofNat_of_zero_le c3.2.1
    have hp : p < bN (mB μ) := by have := c3.1.2; omega
    have hq : q < (bmk (mB μ) p).1 := by have h9 := c3.2.2; rw [Int.toNat_natCast] at h9; omega
    have hM := hMD1.1 p (by rw [hB1]; exact hp)
    rw [hB1] at hM
    have h16 := hM.1.1
    have hm1 := hM.1.2.2 q hq
    have hm2 := mcx_of hM.1 hq
    have hm3 := hM.2 q hq
    refine jx_iload_n C dX9_mark_11 rfl ?_
    refine jx_if_ne C dX9_mark_12 (by omega) (fun c_12 => ?_) (fun c_12 => ?_)
    · refine jx_iload_n C dX9_mark_24 rfl ?_
      refine jx_iconst C dX9_mark_25 ?_
      refine jx_icmp_ne C dX9_mark_26 (by omega) (by decide) (fun c_26 => ?_) (fun c_26 => ?_)
      · refine jx_iload_n C dX9_mark_38 rfl ?_
        refine jx_iconst C dX9_mark_39 ?_
        refine jx_icmp_ne C dX9_mark_40 (by omega) (by decide) (fun c_40 => ?_) (fun c_40 => ?_)
        · refine jx_iload_n C dX9_mark_62 rfl ?_
          refine jx_iconst C dX9_mark_63 ?_
          refine jx_icmp_ne C dX9_mark_64 (by omega) (by decide) (fun c_64 => ?_) (fun c_64 => ?_)
          · refine jx_bipush C dX9_mark_81 (by decide +kernel) ?_
            exact jx_iret C dX9_mark_83 (MP_lt hLT (by rw [a_mark, if_neg (fun g => g c3), if_neg (by omega), if_neg (by omega), if_neg (by omega), if_neg (by omega)]; first | done | rfl))
          · refine jx_aload_n C dX9_mark_67 rfl ?_
            refine jx_get (v := .inr (ad G 85)) C 11 ft_X9 (jcl_MO G _) rfl (by decide) (by decide) wf_X9_35 dX9_mark_68 ?_
            refine jx_bipush C dX9_mark_71 (by decide +kernel) ?_
            refine jx_iload_n C dX9_mark_73 rfl ?_
            refine jx_imul C dX9_mark_74 ?_
            refine jx_iload_n C dX9_mark_75 rfl ?_
            refine jx_iadd C dX9_mark_76 ?_
            refine jx_iald C (jcl_85 G _) (by decide) (by omega) (by omega) (by decide) dX9_mark_77 ?_
            have r_77 := rg_85 hR1 ((16 * (p : Int) + (q : Int)).toNat)
            have e_77 : μ1 85 (16 * (p : Int) + (q : Int)).toNat = bsg (mB μ) p q := (by rw [show (16 * (p : Int) + (q : Int)).toNat = 16 * p + q by omega]; exact hm3)
            rw [e_77] at r_77
            refine jx_top (b := bsg (mB μ) p q) e_77 ?_
            refine jx_goto C dX9_mark_78 ?_
            exact jx_iret C dX9_mark_83 (MP_lt hLT (by rw [a_mark, if_neg (fun g => g c3), if_neg (by omega), if_neg (by omega), if_neg (by omega), if_pos (by omega)]; first | done | rfl))
        · refine jx_aload_n C dX9_mark_43 rfl ?_
          refine jx_get (v := .inr (ad G 82)) C 8 ft_X9 (jcl_MO G _) rfl (by decide) (by decide) wf_X9_26 dX9_mark_44 ?_
          refine jx_aload_n C dX9_mark_47 rfl ?_
          refine jx_get (v := .inr (ad G 84)) C 10 ft_X9 (jcl_MO G _) rfl (by decide) (by decide) wf_X9_32 dX9_mark_48 ?_
          refine jx_bipush C dX9_mark_51 (by decide +kernel) ?_
          refine jx_iload_n C dX9_mark_53 rfl ?_
          refine jx_imul C dX9_mark_54 ?_
          refine jx_iload_n C dX9_mark_55 rfl ?_
          refine jx_iadd C dX9_mark_56 ?_
          refine jx_iald C (jcl_84 G _) (by decide) (by omega) (by omega) (by decide) dX9_mark_57 ?_
          have r_57 := rg_84 hR1 ((16 * (p : Int) + (q : Int)).toNat)
          have e_57 : μ1 84 (16 * (p : Int) + (q : Int)).toNat = ((400 * p + (bmk (mB μ) p).2 q : Nat) : Int) := (by rw [show (16 * (p : Int) + (q : Int)).toNat = 16 * p + q by omega]; exact hm1.1)
          rw [e_57] at r_57
          refine jx_top (b := ((400 * p + (bmk (mB μ) p).2 q : Nat) : Int)) e_57 ?_
          refine jx_iald C (jcl_82 G _) (by decide) (by omega) (by omega) (by decide) dX9_mark_58 ?_
          have r_58 := rg_82 hR1 (((400 * p + (bmk (mB μ) p).2 q : Nat) : Int).toNat)
          have e_58 : μ1 82 ((400 * p + (bmk (mB μ) p).2 q : Nat) : Int).toNat = fS (bfn (mB μ) p) ((bmk (mB μ) p).2 q) := (by rw [Int.toNat_natCast]; exact hm1.2.2)
          rw [e_58] at r_58
          refine jx_top (b := fS (bfn (mB μ) p) ((bmk (mB μ) p).2 q)) e_58 ?_
          refine jx_goto C dX9_mark_59 ?_
          exact jx_iret C dX9_mark_83 (MP_lt hLT (by rw [a_mark, if_neg (fun g => g c3), if_neg (by omega), if_neg (by omega), if_pos (by omega)]; first | done | rfl))
      · refine jx_aload_n C dX9_mark_29 rfl ?_
        refine jx_iload_n C dX9_mark_30 rfl ?_
        refine jx_iload_n C dX9_mark_31 rfl ?_
        refine jx_cVi (as := [.inl (p : Int), .inl (q : Int)]) (st := []) C Yy (c_X9_markY l G μ1 p (by omega) (p : Int) (by omega) (q : Int) (by omega) hR1) yb_X9_markY yv_X9_markY wm_X9_131 (jcl_MO G _) rfl (by decide) rfl rfl (Nat.le_of_ble_eq_true rfl) ⟨⟨rfl, rfl, Nat.le_of_ble_eq_true rfl, Nat.le_of_ble_eq_true rfl⟩, Nat.zero_le _, Nat.zero_le _⟩ dX9_mark_32 ?_
        rintro _ _ ⟨rfl, rfl⟩
        have r_32 := mcy_rng μ1 p (q : Int).toNat
        refine jx_top (b := bcy (mB μ) p q) (by rw [Int.toNat_natCast]; exact hm2.2) ?_
        refine jx_goto C dX9_mark_35 ?_
        exact jx_iret C dX9_mark_83 (MP_lt hLT (by rw [a_mark, if_neg (fun g => g c3), if_neg (by omega), if_pos (by omega)]; first | done | rfl))
    · refine jx_aload_n C dX9_mark_15 rfl ?_
      refine jx_iload_n C dX9_mark_16 rfl ?_
      refine jx_iload_n C dX9_mark_17 rfl ?_
      refine jx_cVi (as := [.inl (p : Int), .inl (q : Int)]) (st := []) C Yy (c_X9_markX l G μ1 p (by omega) (p : Int) (by omega) (q : Int) (by omega) hR1) yb_X9_markX yv_X9_markX wm_X9_128 (jcl_MO G _) rfl (by decide) rfl rfl (Nat.le_of_ble_eq_true rfl) ⟨⟨rfl, rfl, Nat.le_of_ble_eq_true rfl, Nat.le_of_ble_eq_true rfl⟩, Nat.zero_le _, Nat.zero_le _⟩ dX9_mark_18 ?_
      rintro _ _ ⟨rfl, rfl⟩
      have r_18 := mcx_rng μ1 p (q : Int).toNat
      refine jx_top (b := bcx (mB μ) p q) (by rw [Int.toNat_natCast]; exact hm2.1) ?_
      refine jx_goto C dX9_mark_21 ?_
      exact jx_iret C dX9_mark_83 (MP_lt hLT (by rw [a_mark, if_neg (fun g => g c3), if_pos (by omega)]; first | done | rfl))
  · refine jx_iconst C dX9_mark_9 ?_
    exact jx_iret C dX9_mark_10 (MP_lt hLT (by rw [a_mark, if_pos (hz.elim (fun g => by omega) (fun g => g.2))]))
set_option maxHeartbeats 4000000 in
set_option maxRecDepth 100000 in
theorem c_X9_match (l : Launch) (G : GT) (μ : Mem) (u m w : Int) (hu : InR u) (hm0 : InR m) (hw : InR w) (hMI : MIv μ) (hR : rng μ) : MI l yX9_match cX9_match 4 .int ({ frames := 6, cells := 0, slots := 0, locals := 142 } : Room) G [.inr (ad G 78), .inl u, .inl m, .inl w] μ (MP μ (a_match (mB μ) u m w) (mB μ) (μ 78 0)) := by
  refine MI.of (by decide +kernel) (Nat.le_of_ble_eq_true rfl) ?_
  intro F C Yy
  show jX F G 4 0 0 (jE F G (jQi G (MP μ (a_match (mB μ) u m w) (mB μ) (μ 78 0)))) 0 [some (.inr (ad G 78)), some (.inl u), some (.inl m), some (.inl w)] [] μ
  obtain ⟨hN, hN4⟩ := mB_N hR
  refine jx_aload_n C dX9_match_0 rfl ?_
  refine jx_iload_n C dX9_match_1 rfl ?_
  refine jx_iload_n C dX9_match_2 rfl ?_
  refine jx_cVi (as := [.inl u, .inl m]) (st := []) C Yy (c_X9_hasMark l G μ u m (by omega) (by omega) hMI hR) yb_X9_hasMark yv_X9_hasMark wm_X9_153 (jcl_MO G _) rfl (by decide) rfl rfl (Nat.le_of_ble_eq_true rfl) ⟨⟨rfl, rfl, Nat.le_of_ble_eq_true rfl, Nat.le_of_ble_eq_true rfl⟩, Nat.zero_le _, Nat.zero_le _⟩ dX9_match_3 ?_
  intro z_3 μ1 hμ1
  have hR1 := hμ1.1
  have hz := hμ1.2.1
  have hzz : z_3 = 0 ∨ z_3 = 1 := hz.elim (fun g => Or.inr g.1) (fun g => Or.inl g.1)
  have hLT := hμ1.2.2
  have hMD1 := hLT.2.2.1
  have hB1 : mB μ1 = mB μ := hLT.2.2.2.1
  have q_n1 : μ1 78 1 = (bN (mB μ) : Int) := by rw [hLT.2.2.2.2.2 1 (by decide) (by decide)]; exact hN
  refine jx_if_eq C dX9_match_6 (by omega) (fun c_6 => ?_) (fun c_6 => ?_)
  · refine jx_iconst C dX9_match_22 ?_
    refine jx_goto C dX9_match_23 ?_
    exact jx_iret C dX9_match_41 (MP_lt hLT (by rw [a_match, if_pos (Or.inl (hz.elim (fun g => by omega) (fun g => g.2)))]))
  · have c3 : ism (mB μ) u m := hz.elim (fun g => g.2) (fun g => by omega)
    obtain ⟨p, rfl⟩ := Int.eq_ofNat_of_zero_le c3.1.1
    obtain ⟨q, rfl⟩ := Int.eq_ofNat_of_zero_le c3.2.1
    have hp : p < bN (mB μ) := by have := c3.1.2; omega
    have hq : q < (bmk (mB μ) p).1 := by have h9 := c3.2.2; rw [Int.toNat_natCast] at h9; omega
    have hM := hMD1.1 p (by rw [hB1]; exact hp)
    rw [hB1] at hM
    have h16 := hM.1.1
    have hm1 := hM.1.2.2 q hq
    have hm2 := mcx_of hM.1 hq
    have hm3 := hM.2 q hq
    refine jx_aload_n C dX9_match_9 rfl ?_
    refine jx_iload_n C dX9_match_10 rfl ?_
    refine jx_cVi (as := [.inl w]) (st := []) C Yy (c_X9_isPicture l G μ1 w (by omega) hR1) yb_X9_isPicture yv_X9_isPicture wm_X9_90 (jcl_MO G _) rfl (by decide) rfl rfl (Nat.le_of_ble_eq_true rfl) ⟨⟨rfl, rfl, Nat.le_of_ble_eq_true rfl, Nat.le_of_ble_eq_true rfl⟩, Nat.zero_le _, Nat.zero_le _⟩ dX9_match_11 ?_
    rintro _ _ ⟨rfl, ⟨rfl, c_11⟩ | ⟨rfl, c_11⟩⟩
    · refine jx_if_eq C dX9_match_14 (by decide) (fun q => absurd q (by decide)) (fun _ => ?_)
      refine jx_iload_n C dX9_match_17 rfl ?_
      refine jx_iload_n C dX9_match_18 rfl ?_
      refine jx_icmp_ne C dX9_match_19 (by omega) (by omega) (fun c_19 => ?_) (fun c_19 => ?_)
      · have c2 : two (mB μ) (p : Int) w := ⟨c3.1, ⟨c_11.1, by have := c_11.2; omega⟩, by omega⟩
        obtain ⟨b, rfl⟩ := Int.eq_ofNat_of_zero_le c_11.1
        have hP := (hMD1.2.1 p b (by rw [hB1]; exact hp) (by rw [hB1]; omega) (by omega)).1
        rw [hB1] at hP
        have hP1 : mpt μ1 p b q = bpt (mB μ) p b q := hP q hq
        have hb4 : b < 4 := by omega
        refine jx_aload_n C dX9_match_26 rfl ?_
        refine jx_get (v := .inr (ad G 86)) C 12 ft_X9 (jcl_MO G _) rfl (by decide) (by decide) wf_X9_38 dX9_match_27 ?_
        refine jx_bipush C dX9_match_30 (by decide +kernel) ?_
        refine jx_iconst C dX9_match_32 ?_
        refine jx_iload_n C dX9_match_33 rfl ?_
        refine jx_imul C dX9_match_34 ?_
        refine jx_iload_n C dX9_match_35 rfl ?_
        refine jx_iadd C dX9_match_36 ?_
        refine jx_imul C dX9_match_37 ?_
        refine jx_iload_n C dX9_match_38 rfl ?_
        refine jx_iadd C dX9_match_39 ?_
        refine jx_iald C (jcl_86 G _) (by decide) (by omega) (by omega) (by decide) dX9_match_40 ?_
        have r_40 := rg_86 hR1 ((16 * (4 * (p : Int) + (b : Int)) + (q : Int)).toNat)
        have e_40 : μ1 86 (16 * (4 * (p : Int) + (b : Int)) + (q : Int)).toNat = bpt (mB μ) p b q := (by rw [show (16 * (4 * (p : Int) + (b : Int)) + (q : Int)).toNat = 16 * (4 * p + b) + q by omega]; exact hP1)
        rw [e_40] at r_40
        refine jx_top (b := bpt (mB μ) p b q) e_40 ?_
        exact jx_iret C dX9_match_41 (MP_lt hLT (by rw [a_match, if_neg (fun g => g.elim (fun h => h c3) (fun h => h c2))]; first | done | rfl))
      · refine jx_iconst C dX9_match_22 ?_
        refine jx_goto C dX9_match_23 ?_
        exact jx_iret C dX9_match_41 (MP_lt hLT (by rw [a_match, if_pos (Or.inr (fun g => by have := g.2.1; have := g.2.2; omega))]))
    · refine jx_if_eq C dX9_match_14 (by decide) (fun _ => ?_) (fun q => absurd q (by decide))
      refine jx_iconst C dX9_match_22 ?_
      refine jx_goto C dX9_match_23 ?_
      exact jx_iret C dX9_match_41 (MP_lt hLT (by rw [a_match, if_pos (Or.inr (fun g => by have := g.2.1; have := g.2.2; omega))]))
set_option maxHeartbeats 4000000 in
set_option maxRecDepth 100000 in
theorem c_X9_arePair (l : Launch) (G : GT) (μ : Mem) (u w : Int) (hu : InR u) (hw : InR w) (hR : rng μ) : MI l yX9_arePair cX9_arePair 3 .boolean ({ frames := 2, cells := 0, slots := 0, locals := 43 } : Room) G [.inr (ad G 78), .inl u, .inl w] μ (rdc μ (two (mB μ) u w)) := by
  refine MI.of (by decide +kernel) (Nat.le_of_ble_eq_true rfl) ?_
  intro F C Yy
  show jX F G 3 0 0 (jE F G (jQi G (rdc μ (two (mB μ) u w)))) 0 [some (.inr (ad G 78)), some (.inl u), some (.inl w)] [] μ
  obtain ⟨hN, hN4⟩ := mB_N hR
  refine jx_aload_n C dX9_arePair_0 rfl ?_
  refine jx_iload_n C dX9_arePair_1 rfl ?_
  refine jx_cVi (as := [.inl u]) (st := []) C Yy (c_X9_isPicture l G μ u (by omega) hR) yb_X9_isPicture yv_X9_isPicture wm_X9_90 (jcl_MO G _) rfl (by decide) rfl rfl (Nat.le_of_ble_eq_true rfl) ⟨⟨rfl, rfl, Nat.le_of_ble_eq_true rfl, Nat.le_of_ble_eq_true rfl⟩, Nat.zero_le _, Nat.zero_le _⟩ dX9_arePair_2 ?_
  rintro _ _ ⟨rfl, ⟨rfl, c_2⟩ | ⟨rfl, c_2⟩⟩
  · refine jx_if_eq C dX9_arePair_5 (by decide) (fun q => absurd q (by decide)) (fun _ => ?_)
    refine jx_aload_n C dX9_arePair_8 rfl ?_
    refine jx_iload_n C dX9_arePair_9 rfl ?_
    refine jx_cVi (as := [.inl w]) (st := []) C Yy (c_X9_isPicture l G μ w (by omega) hR) yb_X9_isPicture yv_X9_isPicture wm_X9_90 (jcl_MO G _) rfl (by decide) rfl rfl (Nat.le_of_ble_eq_true rfl) ⟨⟨rfl, rfl, Nat.le_of_ble_eq_true rfl, Nat.le_of_ble_eq_true rfl⟩, Nat.zero_le _, Nat.zero_le _⟩ dX9_arePair_10 ?_
    rintro _ _ ⟨rfl, ⟨rfl, c_10⟩ | ⟨rfl, c_10⟩⟩
    · refine jx_if_eq C dX9_arePair_13 (by decide) (fun q => absurd q (by decide)) (fun _ => ?_)
      refine jx_iload_n C dX9_arePair_16 rfl ?_
      refine jx_iload_n C dX9_arePair_17 rfl ?_
      refine jx_icmp_eq C dX9_arePair_18 (by omega) (by omega) (fun c_18 => ?_) (fun c_18 => ?_)
      · refine jx_iconst C dX9_arePair_25 ?_
        exact jx_zret C dX9_arePair_26 (Or.inl rfl) ⟨rfl, Or.inr ⟨rfl, by omega⟩⟩
      · refine jx_iconst C dX9_arePair_21 ?_
        refine jx_goto C dX9_arePair_22 ?_
        exact jx_zret C dX9_arePair_26 (Or.inr rfl) ⟨rfl, Or.inl ⟨rfl, by omega⟩⟩
    · refine jx_if_eq C dX9_arePair_13 (by decide) (fun _ => ?_) (fun q => absurd q (by decide))
      refine jx_iconst C dX9_arePair_25 ?_
      exact jx_zret C dX9_arePair_26 (Or.inl rfl) ⟨rfl, Or.inr ⟨rfl, by omega⟩⟩
  · refine jx_if_eq C dX9_arePair_5 (by decide) (fun _ => ?_) (fun q => absurd q (by decide))
    refine jx_iconst C dX9_arePair_25 ?_
    exact jx_zret C dX9_arePair_26 (Or.inl rfl) ⟨rfl, Or.inr ⟨rfl, by omega⟩⟩
