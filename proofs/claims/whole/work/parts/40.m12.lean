set_option maxHeartbeats 4000000 in
set_option maxRecDepth 100000 in
theorem c_X8_marks (l : Launch) (G : GT) (μ : Mem) (u : Int) (hu : InR u) (hCI : CI μ) (hR : rng μ) : MI l yX8_marks cX8_marks 2 .int ({ frames := 6, cells := 0, slots := 0, locals := 144 } : Room) G [.inr (ad G 0), .inl u] μ (AP μ (a_marks (cB μ) u) (cB μ) (μ 1 0)) := by
  refine MI.of (by decide +kernel) (Nat.le_of_ble_eq_true rfl) ?_
  intro F C Yy
  show jX F G 2 0 0 (jE F G (jQi G (AP μ (a_marks (cB μ) u) (cB μ) (μ 1 0)))) 0 [some (.inr (ad G 0)), some (.inl u)] [] μ
  obtain ⟨hN, hN4⟩ := cB_N hR
  refine jx_aload_n C dX8_marks_0 rfl ?_
  refine jx_iload_n C dX8_marks_1 rfl ?_
  refine jx_cVi (as := [.inl u]) (st := []) C Yy (c_X8_isPicture l G μ u (by omega) hR) yb_X8_isPicture yv_X8_isPicture wm_X8_98 (jcl_PJ G _) rfl (by decide) rfl rfl (Nat.le_of_ble_eq_true rfl) ⟨⟨rfl, rfl, Nat.le_of_ble_eq_true rfl, Nat.le_of_ble_eq_true rfl⟩, Nat.zero_le _, Nat.zero_le _⟩ dX8_marks_2 ?_
  rintro _ _ ⟨rfl, ⟨rfl, c_2⟩ | ⟨rfl, c_2⟩⟩
  · obtain ⟨p, rfl⟩ := Int.eq_ofNat_of_zero_le c_2.1
    refine jx_if_ne C dX8_marks_5 (by decide) (fun _ => ?_) (fun q => absurd q (by decide))
    refine jx_aload_n C dX8_marks_10 rfl ?_
    refine jx_get (v := .inr (ad G 2)) C 1 ft_X8 (jcl_PJ G _) rfl (by decide) (by decide) wf_X8_19 dX8_marks_11 ?_
    refine jx_aload_n C dX8_marks_14 rfl ?_
    refine jx_get (v := .inl (μ 0 4)) C 4 ft_X8 (jcl_PJ G _) rfl (by decide) (by decide) wf_X8_37 dX8_marks_15 ?_
    have r_15 := rg_PJ_4 hR
    refine jx_aload_n C dX8_marks_18 rfl ?_
    refine jx_get (v := .inl (μ 0 5)) C 5 ft_X8 (jcl_PJ G _) rfl (by decide) (by decide) wf_X8_41 dX8_marks_19 ?_
    have r_19 := rg_PJ_5 hR
    refine jx_cVv (as := [.inl (μ 0 4), .inl (μ 0 5)]) (st := []) C Yy (c_X0_settle l G μ (μ 0 4) (μ 0 5) (by omega) (by omega) hCI hR) yb_X0_settle yv_X0_settle wm_X8_102 (jcl_AL G _) rfl (by decide) rfl rfl (Nat.le_of_ble_eq_true rfl) ⟨⟨rfl, rfl, Nat.le_of_ble_eq_true rfl, Nat.le_of_ble_eq_true rfl⟩, Nat.zero_le _, Nat.zero_le _⟩ dX8_marks_22 ?_
    intro μ1 hμ1
    have hR1 := hμ1.1
    have hCD1 := hμ1.2.2.2.1
    have hB1 : cB μ1 = cB μ := hμ1.2.2.2.2.1
    have hM := hCD1.1 p (by rw [hB1]; omega)
    rw [hB1] at hM
    refine jx_aload_n C dX8_marks_25 rfl ?_
    refine jx_get (v := .inr (ad G 2)) C 1 ft_X8 (jcl_PJ G _) rfl (by decide) (by decide) wf_X8_19 dX8_marks_26 ?_
    refine jx_get (v := .inr (ad G 5)) C 0 ft_X0 (jcl_AL G _) rfl (by decide) (by decide) wf_X8_58 dX8_marks_29 ?_
    refine jx_iload_n C dX8_marks_32 rfl ?_
    refine jx_aald (p' := p) (t0 := 1) C (jcl_5 G _) rfl (by decide) rfl (by omega) (by decide) dX8_marks_33 ?_
    refine jx_get (v := .inr (ad G (26 + p))) C 1 ft_X5 (jcl_PI G (by omega) _) rfl (by decide) (by omega) wf_X8_105 dX8_marks_34 ?_
    refine jx_get (v := .inl (μ1 (26 + p) 4)) C 4 ft_X2 (jcl_MA G (by omega) _) rfl (by decide) (by omega) wf_X8_109 dX8_marks_37 ?_
    have r_37 := rg_MA_4 hR1 (p := p) (by omega)
    refine jx_top (b := ((bmk (cB μ) p).1 : Int)) hM.1.2.1 ?_
    exact jx_iret C dX8_marks_40 (AP_st hμ1 (by rw [a_marks, if_pos c_2]; first | done | rfl))
  · refine jx_if_ne C dX8_marks_5 (by decide) (fun q => absurd q (by decide)) (fun _ => ?_)
    refine jx_iconst C dX8_marks_8 ?_
    exact jx_iret C dX8_marks_9 (AP_rd hR hCI (if_neg c_2))
set_option maxHeartbeats 4000000 in
set_option maxRecDepth 100000 in
theorem c_X8_mark (l : Launch) (G : GT) (μ : Mem) (u m t : Int) (hu : InR u) (hm0 : InR m) (ht : InR t) (hCI : CI μ) (hR : rng μ) : MI l yX8_mark cX8_mark 5 .int ({ frames := 6, cells := 0, slots := 0, locals := 144 } : Room) G [.inr (ad G 0), .inl u, .inl m, .inl t] μ (AP μ (a_mark (cB μ) u m t) (cB μ) (μ 1 0)) := by
  refine MI.of (by decide +kernel) (Nat.le_of_ble_eq_true rfl) ?_
  intro F C Yy
  show jX F G 5 0 0 (jE F G (jQi G (AP μ (a_mark (cB μ) u m t) (cB μ) (μ 1 0)))) 0 [some (.inr (ad G 0)), some (.inl u), some (.inl m), some (.inl t), none] [] μ
  obtain ⟨hN, hN4⟩ := cB_N hR
  refine jx_aload_n C dX8_mark_0 rfl ?_
  refine jx_get (v := .inr (ad G 2)) C 1 ft_X8 (jcl_PJ G _) rfl (by decide) (by decide) wf_X8_19 dX8_mark_1 ?_
  refine jx_aload_n C dX8_mark_4 rfl ?_
  refine jx_get (v := .inl (μ 0 4)) C 4 ft_X8 (jcl_PJ G _) rfl (by decide) (by decide) wf_X8_37 dX8_mark_5 ?_
  have r_5 := rg_PJ_4 hR
  refine jx_aload_n C dX8_mark_8 rfl ?_
  refine jx_get (v := .inl (μ 0 5)) C 5 ft_X8 (jcl_PJ G _) rfl (by decide) (by decide) wf_X8_41 dX8_mark_9 ?_
  have r_9 := rg_PJ_5 hR
  refine jx_cVv (as := [.inl (μ 0 4), .inl (μ 0 5)]) (st := []) C Yy (c_X0_settle l G μ (μ 0 4) (μ 0 5) (by omega) (by omega) hCI hR) yb_X0_settle yv_X0_settle wm_X8_102 (jcl_AL G _) rfl (by decide) rfl rfl (Nat.le_of_ble_eq_true rfl) ⟨⟨rfl, rfl, Nat.le_of_ble_eq_true rfl, Nat.le_of_ble_eq_true rfl⟩, Nat.zero_le _, Nat.zero_le _⟩ dX8_mark_12 ?_
  intro μ1 hμ1
  have hR1 := hμ1.1
  have hCD1 := hμ1.2.2.2.1
  have hB1 : cB μ1 = cB μ := hμ1.2.2.2.2.1
  refine jx_aload_n C dX8_mark_15 rfl ?_
  refine jx_iload_n C dX8_mark_16 rfl ?_
  refine jx_iload_n C dX8_mark_17 rfl ?_
  refine jx_cVi (as := [.inl u, .inl m]) (st := []) C Yy (c_X8_isMark l G μ1 u m (by omega) (by omega) hCD1 hR1) yb_X8_isMark yv_X8_isMark wm_X8_112 (jcl_PJ G _) rfl (by decide) rfl rfl (Nat.le_of_ble_eq_true rfl) ⟨⟨rfl, rfl, Nat.le_of_ble_eq_true rfl, Nat.le_of_ble_eq_true rfl⟩, Nat.zero_le _, Nat.zero_le _⟩ dX8_mark_18 ?_
  rintro _ _ ⟨rfl, ⟨rfl, c_18⟩ | ⟨rfl, c_18⟩⟩
  · rw [hB1] at c_18
    obtain ⟨p, rfl⟩ := Int.eq_ofNat_of_zero_le c_18.1.1
    obtain ⟨q, rfl⟩ := Int.eq_ofNat_of_zero_le c_18.2.1
    have hq : q < (bmk (cB μ) p).1 := by have h9 := c_18.2.2; rw [Int.toNat_natCast] at h9; omega
    have h16 := bmk_le (cB μ) p
    have hM := hCD1.1 p (by rw [hB1]; omega)
    rw [hB1] at hM
    have hm := hM.1.2.2 q hq
    have hm3 := hM.2 q hq
    refine jx_if_ne C dX8_mark_21 (by decide) (fun _ => ?_) (fun q => absurd q (by decide))
    refine jx_aload_n C dX8_mark_26 rfl ?_
    refine jx_get (v := .inr (ad G 2)) C 1 ft_X8 (jcl_PJ G _) rfl (by decide) (by decide) wf_X8_19 dX8_mark_27 ?_
    refine jx_get (v := .inr (ad G 5)) C 0 ft_X0 (jcl_AL G _) rfl (by decide) (by decide) wf_X8_58 dX8_mark_30 ?_
    refine jx_iload_n C dX8_mark_33 rfl ?_
    refine jx_aald (p' := p) (t0 := 1) C (jcl_5 G _) rfl (by decide) rfl (by omega) (by decide) dX8_mark_34 ?_
    refine jx_get (v := .inr (ad G (26 + p))) C 1 ft_X5 (jcl_PI G (by omega) _) rfl (by decide) (by omega) wf_X8_105 dX8_mark_35 ?_
    refine jx_astore (L' := [some (.inr (ad G 0)), some (.inl (p : Int)), some (.inl (q : Int)), some (.inl t), some (.inr (ad G (26 + p)))]) C dX8_mark_38 (by decide) rfl ?_
    refine jx_iload_n C dX8_mark_40 rfl ?_
    rcases (show t = 0 ∨ t = 1 ∨ t = 2 ∨ t = 3 ∨ (t < 0 ∨ 3 < t) by omega) with rfl | rfl | rfl | rfl | hsw
    · refine jx_tableIn (tgt := 72) C dX8_mark_41 (by decide) (by decide) (by decide) rfl (by decide) ?_
      refine jx_aload C dX8_mark_72 rfl ?_
      refine jx_get (v := .inr (ad G (30 + p))) C 0 ft_X2 (jcl_MA G (by omega) _) rfl (by decide) (by omega) wf_X8_116 dX8_mark_74 ?_
      refine jx_iload_n C dX8_mark_77 rfl ?_
      refine jx_iald C (jcl_co G (by omega) _) (by omega) (by omega) (by omega) (by decide) dX8_mark_78 ?_
      have r_78 := rg_co hR1 (p := p) (by omega) ((q : Int).toNat)
      refine jx_top (b := bcx (cB μ) p q) hm.1 ?_
      exact jx_iret C dX8_mark_79 (AP_st hμ1 (by rw [a_mark, if_neg (fun g => g c_18), if_pos rfl]; first | done | rfl))
    · refine jx_tableIn (tgt := 80) C dX8_mark_41 (by decide) (by decide) (by decide) rfl (by decide) ?_
      refine jx_aload C dX8_mark_80 rfl ?_
      refine jx_get (v := .inr (ad G (34 + p))) C 1 ft_X2 (jcl_MA G (by omega) _) rfl (by decide) (by omega) wf_X8_120 dX8_mark_82 ?_
      refine jx_iload_n C dX8_mark_85 rfl ?_
      refine jx_iald C (jcl_ro G (by omega) _) (by omega) (by omega) (by omega) (by decide) dX8_mark_86 ?_
      have r_86 := rg_ro hR1 (p := p) (by omega) ((q : Int).toNat)
      refine jx_top (b := bcy (cB μ) p q) hm.2.1 ?_
      exact jx_iret C dX8_mark_87 (AP_st hμ1 (by rw [a_mark, if_neg (fun g => g c_18), if_neg (by omega), if_pos rfl]; first | done | rfl))
    · refine jx_tableIn (tgt := 88) C dX8_mark_41 (by decide) (by decide) (by decide) rfl (by decide) ?_
      refine jx_aload C dX8_mark_88 rfl ?_
      refine jx_get (v := .inr (ad G (38 + p))) C 2 ft_X2 (jcl_MA G (by omega) _) rfl (by decide) (by omega) wf_X8_123 dX8_mark_90 ?_
      refine jx_iload_n C dX8_mark_93 rfl ?_
      refine jx_iald C (jcl_he G (by omega) _) (by omega) (by omega) (by omega) (by decide) dX8_mark_94 ?_
      have r_94 := rg_he hR1 (p := p) (by omega) ((q : Int).toNat)
      refine jx_top (b := fS (bfn (cB μ) p) ((bmk (cB μ) p).2 q)) hm.2.2 ?_
      exact jx_iret C dX8_mark_95 (AP_st hμ1 (by rw [a_mark, if_neg (fun g => g c_18), if_neg (by omega), if_neg (by omega), if_pos rfl]; first | done | rfl))
    · refine jx_tableIn (tgt := 96) C dX8_mark_41 (by decide) (by decide) (by decide) rfl (by decide) ?_
      refine jx_aload C dX8_mark_96 rfl ?_
      refine jx_get (v := .inr (ad G (42 + p))) C 3 ft_X2 (jcl_MA G (by omega) _) rfl (by decide) (by omega) wf_X8_126 dX8_mark_98 ?_
      refine jx_iload_n C dX8_mark_101 rfl ?_
      refine jx_iald C (jcl_si G (by omega) _) (by omega) (by omega) (by omega) (by decide) dX8_mark_102 ?_
      have r_102 := rg_si hR1 (p := p) (by omega) ((q : Int).toNat)
      refine jx_top (b := bsg (cB μ) p q) hm3 ?_
      exact jx_iret C dX8_mark_103 (AP_st hμ1 (by rw [a_mark, if_neg (fun g => g c_18), if_neg (by omega), if_neg (by omega), if_neg (by omega), if_pos rfl]; first | done | rfl))
    · refine jx_tableOut (tgt := 104) C dX8_mark_41 (by omega) hsw (by decide) ?_
      refine jx_bipush C dX8_mark_104 (by decide +kernel) ?_
      exact jx_iret C dX8_mark_106 (AP_st hμ1 (by rw [a_mark, if_neg (fun g => g c_18), if_neg (by omega), if_neg (by omega), if_neg (by omega), if_neg (by omega)]; first | done | rfl))
  · rw [hB1] at c_18
    refine jx_if_ne C dX8_mark_21 (by decide) (fun q => absurd q (by decide)) (fun _ => ?_)
    refine jx_iconst C dX8_mark_24 ?_
    exact jx_iret C dX8_mark_25 (AP_st hμ1 (by rw [a_mark, if_pos c_18]))
set_option maxHeartbeats 4000000 in
set_option maxRecDepth 100000 in
theorem c_X8_match (l : Launch) (G : GT) (μ : Mem) (u m w : Int) (hu : InR u) (hm0 : InR m) (hw : InR w) (hCI : CI μ) (hR : rng μ) : MI l yX8_match cX8_match 4 .int ({ frames := 6, cells := 0, slots := 0, locals := 144 } : Room) G [.inr (ad G 0), .inl u, .inl m, .inl w] μ (AP μ (a_match (cB μ) u m w) (cB μ) (μ 1 0)) := by
  refine MI.of (by decide +kernel) (Nat.le_of_ble_eq_true rfl) ?_
  intro F C Yy
  show jX F G 4 0 0 (jE F G (jQi G (AP μ (a_match (cB μ) u m w) (cB μ) (μ 1 0)))) 0 [some (.inr (ad G 0)), some (.inl u), some (.inl m), some (.inl w)] [] μ
  obtain ⟨hN, hN4⟩ := cB_N hR
  refine jx_aload_n C dX8_match_0 rfl ?_
  refine jx_get (v := .inr (ad G 2)) C 1 ft_X8 (jcl_PJ G _) rfl (by decide) (by decide) wf_X8_19 dX8_match_1 ?_
  refine jx_aload_n C dX8_match_4 rfl ?_
  refine jx_get (v := .inl (μ 0 4)) C 4 ft_X8 (jcl_PJ G _) rfl (by decide) (by decide) wf_X8_37 dX8_match_5 ?_
  have r_5 := rg_PJ_4 hR
  refine jx_aload_n C dX8_match_8 rfl ?_
  refine jx_get (v := .inl (μ 0 5)) C 5 ft_X8 (jcl_PJ G _) rfl (by decide) (by decide) wf_X8_41 dX8_match_9 ?_
  have r_9 := rg_PJ_5 hR
  refine jx_cVv (as := [.inl (μ 0 4), .inl (μ 0 5)]) (st := []) C Yy (c_X0_settle l G μ (μ 0 4) (μ 0 5) (by omega) (by omega) hCI hR) yb_X0_settle yv_X0_settle wm_X8_102 (jcl_AL G _) rfl (by decide) rfl rfl (Nat.le_of_ble_eq_true rfl) ⟨⟨rfl, rfl, Nat.le_of_ble_eq_true rfl, Nat.le_of_ble_eq_true rfl⟩, Nat.zero_le _, Nat.zero_le _⟩ dX8_match_12 ?_
  intro μ1 hμ1
  have hR1 := hμ1.1
  have hCD1 := hμ1.2.2.2.1
  have hB1 : cB μ1 = cB μ := hμ1.2.2.2.2.1
  refine jx_aload_n C dX8_match_15 rfl ?_
  refine jx_iload_n C dX8_match_16 rfl ?_
  refine jx_iload_n C dX8_match_17 rfl ?_
  refine jx_cVi (as := [.inl u, .inl m]) (st := []) C Yy (c_X8_isMark l G μ1 u m (by omega) (by omega) hCD1 hR1) yb_X8_isMark yv_X8_isMark wm_X8_112 (jcl_PJ G _) rfl (by decide) rfl rfl (Nat.le_of_ble_eq_true rfl) ⟨⟨rfl, rfl, Nat.le_of_ble_eq_true rfl, Nat.le_of_ble_eq_true rfl⟩, Nat.zero_le _, Nat.zero_le _⟩ dX8_match_18 ?_
  rintro _ _ ⟨rfl, ⟨rfl, c_18⟩ | ⟨rfl, c_18⟩⟩
  · rw [hB1] at c_18
    obtain ⟨p, rfl⟩ := Int.eq_ofNat_of_zero_le c_18.1.1
    obtain ⟨q, rfl⟩ := Int.eq_ofNat_of_zero_le c_18.2.1
    have hq : q < (bmk (cB μ) p).1 := by have h9 := c_18.2.2; rw [Int.toNat_natCast] at h9; omega
    have h16 := bmk_le (cB μ) p
    have hM := hCD1.1 p (by rw [hB1]; omega)
    rw [hB1] at hM
    have hm := hM.1.2.2 q hq
    have hm3 := hM.2 q hq
    refine jx_if_eq C dX8_match_21 (by decide) (fun q => absurd q (by decide)) (fun _ => ?_)
    refine jx_aload_n C dX8_match_24 rfl ?_
    refine jx_iload_n C dX8_match_25 rfl ?_
    refine jx_iload_n C dX8_match_26 rfl ?_
    refine jx_cVi (as := [.inl (p : Int), .inl w]) (st := []) C Yy (c_X8_areTwo l G μ1 (p : Int) w (by omega) (by omega) hR1) yb_X8_areTwo yv_X8_areTwo wm_X8_129 (jcl_PJ G _) rfl (by decide) rfl rfl (Nat.le_of_ble_eq_true rfl) ⟨⟨rfl, rfl, Nat.le_of_ble_eq_true rfl, Nat.le_of_ble_eq_true rfl⟩, Nat.zero_le _, Nat.zero_le _⟩ dX8_match_27 ?_
    rintro _ _ ⟨rfl, ⟨rfl, c_27⟩ | ⟨rfl, c_27⟩⟩
    · rw [hB1] at c_27
      obtain ⟨b, rfl⟩ := Int.eq_ofNat_of_zero_le c_27.2.1.1
      have hP := hCD1.2.1 p b (by rw [hB1]; omega) (by rw [hB1]; omega) (by omega)
      rw [hB1] at hP
      have hP1 := hP.1 q hq
      refine jx_if_ne C dX8_match_30 (by decide) (fun _ => ?_) (fun q => absurd q (by decide))
      refine jx_aload_n C dX8_match_35 rfl ?_
      refine jx_get (v := .inr (ad G 2)) C 1 ft_X8 (jcl_PJ G _) rfl (by decide) (by decide) wf_X8_19 dX8_match_36 ?_
      refine jx_iload_n C dX8_match_39 rfl ?_
      refine jx_iload_n C dX8_match_40 rfl ?_
      refine jx_cVr (as := [.inl (p : Int), .inl (b : Int)]) (st := []) C Yy (c_X0_pairingOf l G μ1 p b (by omega) (by omega) (p : Int) (b : Int) (by omega) (by omega)) yb_X0_pairingOf yv_X0_pairingOf wm_X8_132 (jcl_AL G _) rfl (by decide) rfl rfl (Nat.le_of_ble_eq_true rfl) ⟨⟨rfl, rfl, Nat.le_of_ble_eq_true rfl, Nat.le_of_ble_eq_true rfl⟩, Nat.zero_le _, Nat.zero_le _⟩ dX8_match_41 ?_
      rintro _ _ ⟨rfl, rfl⟩
      refine jx_get (v := .inr (ad G (62 + (4 * p + b)))) C 0 ft_X4 (jcl_PA G (by omega) _) rfl (by decide) (by omega) wf_X8_136 dX8_match_44 ?_
      refine jx_iload_n C dX8_match_47 rfl ?_
      refine jx_iald C (jcl_pa G (by omega) _) (by omega) (by omega) (by omega) (by decide) dX8_match_48 ?_
      have r_48 := rg_pa hR1 (p := 4 * p + b) (by omega) ((q : Int).toNat)
      refine jx_top (b := bpt (cB μ) p b q) hP1 ?_
      exact jx_iret C dX8_match_49 (AP_st hμ1 (by rw [a_match, if_neg (fun g => g.elim (fun h => h c_18) (fun h => h c_27))]; first | done | rfl))
    · rw [hB1] at c_27
      refine jx_if_ne C dX8_match_30 (by decide) (fun q => absurd q (by decide)) (fun _ => ?_)
      refine jx_iconst C dX8_match_33 ?_
      exact jx_iret C dX8_match_34 (AP_st hμ1 (by rw [a_match, if_pos (by first | exact Or.inl c_18 | exact Or.inr c_27)]))
  · rw [hB1] at c_18
    refine jx_if_eq C dX8_match_21 (by decide) (fun _ => ?_) (fun q => absurd q (by decide))
    refine jx_iconst C dX8_match_33 ?_
    exact jx_iret C dX8_match_34 (AP_st hμ1 (by rw [a_match, if_pos (by first | exact Or.inl c_18 | exact Or.inr c_27)]))
set_option maxHeartbeats 4000000 in
set_option maxRecDepth 100000 in
theorem c_X8_shift (l : Launch) (G : GT) (μ : Mem) (u w t : Int) (hu : InR u) (hw : InR w) (ht : InR t) (hCI : CI μ) (hR : rng μ) : MI l yX8_shift cX8_shift 5 .int ({ frames := 6, cells := 0, slots := 0, locals := 144 } : Room) G [.inr (ad G 0), .inl u, .inl w, .inl t] μ (AP μ (a_shift (cB μ) u w t) (cB μ) (μ 1 0)) := by
  refine MI.of (by decide +kernel) (Nat.le_of_ble_eq_true rfl) ?_
  intro F C Yy
  show jX F G 5 0 0 (jE F G (jQi G (AP μ (a_shift (cB μ) u w t) (cB μ) (μ 1 0)))) 0 [some (.inr (ad G 0)), some (.inl u), some (.inl w), some (.inl t), none] [] μ
  obtain ⟨hN, hN4⟩ := cB_N hR
  refine jx_aload_n C dX8_shift_0 rfl ?_
  refine jx_iload_n C dX8_shift_1 rfl ?_
  refine jx_iload_n C dX8_shift_2 rfl ?_
  refine jx_cVi (as := [.inl u, .inl w]) (st := []) C Yy (c_X8_areTwo l G μ u w (by omega) (by omega) hR) yb_X8_areTwo yv_X8_areTwo wm_X8_129 (jcl_PJ G _) rfl (by decide) rfl rfl (Nat.le_of_ble_eq_true rfl) ⟨⟨rfl, rfl, Nat.le_of_ble_eq_true rfl, Nat.le_of_ble_eq_true rfl⟩, Nat.zero_le _, Nat.zero_le _⟩ dX8_shift_3 ?_
  rintro _ _ ⟨rfl, ⟨rfl, c_3⟩ | ⟨rfl, c_3⟩⟩
  · obtain ⟨a, rfl⟩ := Int.eq_ofNat_of_zero_le c_3.1.1
    obtain ⟨b, rfl⟩ := Int.eq_ofNat_of_zero_le c_3.2.1.1
    refine jx_if_ne C dX8_shift_6 (by decide) (fun _ => ?_) (fun q => absurd q (by decide))
    refine jx_iload_n C dX8_shift_12 rfl ?_
    refine jx_iconst C dX8_shift_13 ?_
    refine jx_iconst C dX8_shift_14 ?_
    refine jx_cSi (as := [.inl t, .inl 0, .inl 3]) (st := []) C Yy (c_X8_within l G μ t 0 3 (by omega) (by omega) (by omega)) yb_X8_within ws_X8_within wm_X8_47 rfl rfl (Nat.le_of_ble_eq_true rfl) ⟨⟨rfl, rfl, Nat.le_of_ble_eq_true rfl, Nat.le_of_ble_eq_true rfl⟩, Nat.zero_le _, Nat.zero_le _⟩ dX8_shift_15 ?_
    rintro _ _ ⟨rfl, ⟨rfl, c_15⟩ | ⟨rfl, c_15⟩⟩
    · refine jx_if_ne C dX8_shift_18 (by decide) (fun _ => ?_) (fun q => absurd q (by decide))
      refine jx_aload_n C dX8_shift_24 rfl ?_
      refine jx_get (v := .inr (ad G 2)) C 1 ft_X8 (jcl_PJ G _) rfl (by decide) (by decide) wf_X8_19 dX8_shift_25 ?_
      refine jx_aload_n C dX8_shift_28 rfl ?_
      refine jx_get (v := .inl (μ 0 4)) C 4 ft_X8 (jcl_PJ G _) rfl (by decide) (by decide) wf_X8_37 dX8_shift_29 ?_
      have r_29 := rg_PJ_4 hR
      refine jx_aload_n C dX8_shift_32 rfl ?_
      refine jx_get (v := .inl (μ 0 5)) C 5 ft_X8 (jcl_PJ G _) rfl (by decide) (by decide) wf_X8_41 dX8_shift_33 ?_
      have r_33 := rg_PJ_5 hR
      refine jx_cVv (as := [.inl (μ 0 4), .inl (μ 0 5)]) (st := []) C Yy (c_X0_settle l G μ (μ 0 4) (μ 0 5) (by omega) (by omega) hCI hR) yb_X0_settle yv_X0_settle wm_X8_102 (jcl_AL G _) rfl (by decide) rfl rfl (Nat.le_of_ble_eq_true rfl) ⟨⟨rfl, rfl, Nat.le_of_ble_eq_true rfl, Nat.le_of_ble_eq_true rfl⟩, Nat.zero_le _, Nat.zero_le _⟩ dX8_shift_36 ?_
      intro μ1 hμ1
      have hR1 := hμ1.1
      have hCD1 := hμ1.2.2.2.1
      have hB1 : cB μ1 = cB μ := hμ1.2.2.2.2.1
      refine jx_aload_n C dX8_shift_39 rfl ?_
      refine jx_get (v := .inr (ad G 2)) C 1 ft_X8 (jcl_PJ G _) rfl (by decide) (by decide) wf_X8_19 dX8_shift_40 ?_
      refine jx_iload_n C dX8_shift_43 rfl ?_
      refine jx_iload_n C dX8_shift_44 rfl ?_
      have hP := (hCD1.2.1 a b (by rw [hB1]; omega) (by rw [hB1]; omega) (by omega)).2
      rw [hB1] at hP
      have hVr := bV_rng (cB μ) (4 * a + b)
      refine jx_cVr (as := [.inl (a : Int), .inl (b : Int)]) (st := []) C Yy (c_X0_pairingOf l G μ1 a b (by omega) (by omega) (a : Int) (b : Int) (by omega) (by omega)) yb_X0_pairingOf yv_X0_pairingOf wm_X8_132 (jcl_AL G _) rfl (by decide) rfl rfl (Nat.le_of_ble_eq_true rfl) ⟨⟨rfl, rfl, Nat.le_of_ble_eq_true rfl, Nat.le_of_ble_eq_true rfl⟩, Nat.zero_le _, Nat.zero_le _⟩ dX8_shift_45 ?_
      rintro _ _ ⟨rfl, rfl⟩
      refine jx_astore (L' := [some (.inr (ad G 0)), some (.inl (a : Int)), some (.inl (b : Int)), some (.inl t), some (.inr (ad G (46 + (4 * a + b))))]) C dX8_shift_48 (by decide) rfl ?_
      refine jx_iload_n C dX8_shift_50 rfl ?_
      refine jx_iconst C dX8_shift_51 ?_
      refine jx_icmp_ne C dX8_shift_52 (by omega) (by decide) (fun c_52 => ?_) (fun c_52 => ?_)
      · refine jx_iload_n C dX8_shift_61 rfl ?_
        refine jx_iconst C dX8_shift_62 ?_
        refine jx_icmp_ne C dX8_shift_63 (by omega) (by decide) (fun c_63 => ?_) (fun c_63 => ?_)
        · refine jx_aload C dX8_shift_72 rfl ?_
          refine jx_get (v := .inl (μ1 (46 + (4 * a + b)) 2)) C 2 ft_X4 (jcl_PA G (by omega) _) rfl (by decide) (by omega) wf_X8_144 dX8_shift_74 ?_
          have r_74 := rg_PA_2 hR1 (p := 4 * a + b) (by omega)
          refine jx_top (b := bV (cB μ) (4 * a + b)) hP.2.1 ?_
          refine jx_if_ne C dX8_shift_77 (by omega) (fun c_77 => ?_) (fun c_77 => ?_)
          · refine jx_iload_n C dX8_shift_83 rfl ?_
            refine jx_if_ne C dX8_shift_84 (by omega) (fun c_84 => ?_) (fun c_84 => ?_)
            · refine jx_aload C dX8_shift_95 rfl ?_
              refine jx_get (v := .inl (μ1 (46 + (4 * a + b)) 4)) C 4 ft_X4 (jcl_PA G (by omega) _) rfl (by decide) (by omega) wf_X8_151 dX8_shift_97 ?_
              have r_97 := rg_PA_4 hR1 (p := 4 * a + b) (by omega)
              refine jx_top (b := bY (cB μ) (4 * a + b)) (hP.2.2 (by omega)).2 ?_
              exact jx_iret C dX8_shift_100 (AP_st hμ1 (by have hv0 := c_77; rw [a_shift, Int.toNat_natCast, Int.toNat_natCast, if_neg (fun g => g c_3), if_neg (fun g => g c_15), if_neg (by omega), if_neg (by omega), if_neg hv0, if_neg (by omega)]; first | done | rfl))
            · refine jx_aload C dX8_shift_87 rfl ?_
              refine jx_get (v := .inl (μ1 (46 + (4 * a + b)) 3)) C 3 ft_X4 (jcl_PA G (by omega) _) rfl (by decide) (by omega) wf_X8_148 dX8_shift_89 ?_
              have r_89 := rg_PA_3 hR1 (p := 4 * a + b) (by omega)
              refine jx_top (b := bX (cB μ) (4 * a + b)) (hP.2.2 (by omega)).1 ?_
              refine jx_goto C dX8_shift_92 ?_
              exact jx_iret C dX8_shift_100 (AP_st hμ1 (by have hv0 := c_77; rw [a_shift, Int.toNat_natCast, Int.toNat_natCast, if_neg (fun g => g c_3), if_neg (fun g => g c_15), if_neg (by omega), if_neg (by omega), if_neg hv0, if_pos (by omega)]; first | done | rfl))
          · refine jx_ldc C dX8_shift_80 wk_X8_147 (z := (-1000005)) (by decide +kernel) ?_
            exact jx_iret C dX8_shift_82 (AP_st hμ1 (by have hv0 := c_77; rw [a_shift, Int.toNat_natCast, Int.toNat_natCast, if_neg (fun g => g c_3), if_neg (fun g => g c_15), if_neg (by omega), if_neg (by omega), if_pos hv0]; first | done | rfl))
        · refine jx_aload C dX8_shift_66 rfl ?_
          refine jx_get (v := .inl (μ1 (46 + (4 * a + b)) 2)) C 2 ft_X4 (jcl_PA G (by omega) _) rfl (by decide) (by omega) wf_X8_144 dX8_shift_68 ?_
          have r_68 := rg_PA_2 hR1 (p := 4 * a + b) (by omega)
          refine jx_top (b := bV (cB μ) (4 * a + b)) hP.2.1 ?_
          exact jx_iret C dX8_shift_71 (AP_st hμ1 (by rw [a_shift, Int.toNat_natCast, Int.toNat_natCast, if_neg (fun g => g c_3), if_neg (fun g => g c_15), if_neg (by omega), if_pos (by omega)]; first | done | rfl))
      · refine jx_aload C dX8_shift_55 rfl ?_
        refine jx_get (v := .inl (μ1 (46 + (4 * a + b)) 1)) C 1 ft_X4 (jcl_PA G (by omega) _) rfl (by decide) (by omega) wf_X8_141 dX8_shift_57 ?_
        have r_57 := rg_PA_1 hR1 (p := 4 * a + b) (by omega)
        refine jx_top (b := bmc (cB μ) a b) hP.1 ?_
        exact jx_iret C dX8_shift_60 (AP_st hμ1 (by rw [a_shift, Int.toNat_natCast, Int.toNat_natCast, if_neg (fun g => g c_3), if_neg (fun g => g c_15), if_pos (by omega)]; first | done | rfl))
    · refine jx_if_ne C dX8_shift_18 (by decide) (fun q => absurd q (by decide)) (fun _ => ?_)
      refine jx_ldc C dX8_shift_21 wk_X8_86 (z := (-1000002)) (by decide +kernel) ?_
      exact jx_iret C dX8_shift_23 (AP_rd hR hCI (by rw [a_shift, if_neg (fun g => g c_3), if_pos c_15]))
  · refine jx_if_ne C dX8_shift_6 (by decide) (fun q => absurd q (by decide)) (fun _ => ?_)
    refine jx_ldc C dX8_shift_9 wk_X8_85 (z := (-1000001)) (by decide +kernel) ?_
    exact jx_iret C dX8_shift_11 (AP_rd hR hCI (by rw [a_shift, if_pos c_3]))
set_option maxHeartbeats 4000000 in
set_option maxRecDepth 100000 in
theorem c_X8_place (l : Launch) (G : GT) (μ : Mem) (u t : Int) (hu : InR u) (ht : InR t) (hCI : CI μ) (hR : rng μ) : MI l yX8_place cX8_place 4 .int ({ frames := 6, cells := 0, slots := 0, locals := 144 } : Room) G [.inr (ad G 0), .inl u, .inl t] μ (AP μ (a_place (cB μ) u t) (cB μ) (μ 1 0)) := by
  refine MI.of (by decide +kernel) (Nat.le_of_ble_eq_true rfl) ?_
  intro F C Yy
  show jX F G 4 0 0 (jE F G (jQi G (AP μ (a_place (cB μ) u t) (cB μ) (μ 1 0)))) 0 [some (.inr (ad G 0)), some (.inl u), some (.inl t), none] [] μ
  obtain ⟨hN, hN4⟩ := cB_N hR
  refine jx_aload_n C dX8_place_0 rfl ?_
  refine jx_iload_n C dX8_place_1 rfl ?_
  refine jx_cVi (as := [.inl u]) (st := []) C Yy (c_X8_isPicture l G μ u (by omega) hR) yb_X8_isPicture yv_X8_isPicture wm_X8_98 (jcl_PJ G _) rfl (by decide) rfl rfl (Nat.le_of_ble_eq_true rfl) ⟨⟨rfl, rfl, Nat.le_of_ble_eq_true rfl, Nat.le_of_ble_eq_true rfl⟩, Nat.zero_le _, Nat.zero_le _⟩ dX8_place_2 ?_
  rintro _ _ ⟨rfl, ⟨rfl, c_2⟩ | ⟨rfl, c_2⟩⟩
  · obtain ⟨p, rfl⟩ := Int.eq_ofNat_of_zero_le c_2.1
    refine jx_if_ne C dX8_place_5 (by decide) (fun _ => ?_) (fun q => absurd q (by decide))
    refine jx_iload_n C dX8_place_11 rfl ?_
    refine jx_iconst C dX8_place_12 ?_
    refine jx_iconst C dX8_place_13 ?_
    refine jx_cSi (as := [.inl t, .inl 0, .inl 5]) (st := []) C Yy (c_X8_within l G μ t 0 5 (by omega) (by omega) (by omega)) yb_X8_within ws_X8_within wm_X8_47 rfl rfl (Nat.le_of_ble_eq_true rfl) ⟨⟨rfl, rfl, Nat.le_of_ble_eq_true rfl, Nat.le_of_ble_eq_true rfl⟩, Nat.zero_le _, Nat.zero_le _⟩ dX8_place_14 ?_
    rintro _ _ ⟨rfl, ⟨rfl, c_14⟩ | ⟨rfl, c_14⟩⟩
    · refine jx_if_ne C dX8_place_17 (by decide) (fun _ => ?_) (fun q => absurd q (by decide))
      refine jx_aload_n C dX8_place_23 rfl ?_
      refine jx_get (v := .inr (ad G 2)) C 1 ft_X8 (jcl_PJ G _) rfl (by decide) (by decide) wf_X8_19 dX8_place_24 ?_
      refine jx_aload_n C dX8_place_27 rfl ?_
      refine jx_get (v := .inl (μ 0 4)) C 4 ft_X8 (jcl_PJ G _) rfl (by decide) (by decide) wf_X8_37 dX8_place_28 ?_
      have r_28 := rg_PJ_4 hR
      refine jx_aload_n C dX8_place_31 rfl ?_
      refine jx_get (v := .inl (μ 0 5)) C 5 ft_X8 (jcl_PJ G _) rfl (by decide) (by decide) wf_X8_41 dX8_place_32 ?_
      have r_32 := rg_PJ_5 hR
      refine jx_cVv (as := [.inl (μ 0 4), .inl (μ 0 5)]) (st := []) C Yy (c_X0_settle l G μ (μ 0 4) (μ 0 5) (by omega) (by omega) hCI hR) yb_X0_settle yv_X0_settle wm_X8_102 (jcl_AL G _) rfl (by decide) rfl rfl (Nat.le_of_ble_eq_true rfl) ⟨⟨rfl, rfl, Nat.le_of_ble_eq_true rfl, Nat.le_of_ble_eq_true rfl⟩, Nat.zero_le _, Nat.zero_le _⟩ dX8_place_35 ?_
      intro μ1 hμ1
      have hR1 := hμ1.1
      have hCD1 := hμ1.2.2.2.1
      have hB1 : cB μ1 = cB μ := hμ1.2.2.2.2.1
      have hpc := CD_pic hCD1 (p := p) (by rw [hB1]; omega)
      have eW := cB_W (μ := μ1) (p := p) (by rw [hB1]; omega)
      have eH := cB_H (μ := μ1) (p := p) (by rw [hB1]; omega)
      rw [hB1] at hpc eW eH
      refine jx_aload_n C dX8_place_38 rfl ?_
      refine jx_get (v := .inr (ad G 2)) C 1 ft_X8 (jcl_PJ G _) rfl (by decide) (by decide) wf_X8_19 dX8_place_39 ?_
      refine jx_get (v := .inr (ad G 5)) C 0 ft_X0 (jcl_AL G _) rfl (by decide) (by decide) wf_X8_58 dX8_place_42 ?_
      refine jx_iload_n C dX8_place_45 rfl ?_
      refine jx_aald (p' := p) (t0 := 1) C (jcl_5 G _) rfl (by decide) rfl (by omega) (by decide) dX8_place_46 ?_
      refine jx_astore_n (L' := [some (.inr (ad G 0)), some (.inl (p : Int)), some (.inl t), some (.inr (ad G (10 + p)))]) C dX8_place_47 (by decide) rfl ?_
      refine jx_iload_n C dX8_place_48 rfl ?_
      refine jx_iconst C dX8_place_49 ?_
      refine jx_icmp_ne C dX8_place_50 (by omega) (by decide) (fun c_50 => ?_) (fun c_50 => ?_)
      · refine jx_iload_n C dX8_place_61 rfl ?_
        refine jx_iconst C dX8_place_62 ?_
        refine jx_icmp_ne C dX8_place_63 (by omega) (by decide) (fun c_63 => ?_) (fun c_63 => ?_)
        · refine jx_aload_n C dX8_place_74 rfl ?_
          refine jx_cVi (as := []) (st := []) C Yy (c_X5_isJoined l G μ1 p (by omega) hR1) yb_X5_isJoined yv_X5_isJoined wm_X8_160 (jcl_PI G (by omega) _) rfl (by omega) rfl rfl (Nat.le_of_ble_eq_true rfl) ⟨⟨rfl, rfl, Nat.le_of_ble_eq_true rfl, Nat.le_of_ble_eq_true rfl⟩, Nat.zero_le _, Nat.zero_le _⟩ dX8_place_75 ?_
          rintro _ _ ⟨rfl, ⟨rfl, c_75⟩ | ⟨rfl, c_75⟩⟩
          · refine jx_if_ne C dX8_place_78 (by decide) (fun _ => ?_) (fun q => absurd q (by decide))
            refine jx_iload_n C dX8_place_84 rfl ?_
            rcases (show t = 0 ∨ t = 1 ∨ t = 2 ∨ (t < 0 ∨ 2 < t) by omega) with rfl | rfl | rfl | hsw
            · refine jx_tableIn (tgt := 112) C dX8_place_85 (by decide) (by decide) (by decide) rfl (by decide) ?_
              refine jx_aload_n C dX8_place_112 rfl ?_
              refine jx_get (v := .inl (μ1 (10 + p) 2)) C 2 ft_X5 (jcl_PI G (by omega) _) rfl (by decide) (by omega) wf_X8_164 dX8_place_113 ?_
              have r_113 := rg_PI_2 hR1 (p := p) (by omega)
              refine jx_top (b := jxx (cB μ) p) (hpc.2 (by omega)).1 ?_
              exact jx_iret C dX8_place_116 (AP_st hμ1 (by rw [a_place, if_neg (fun g => g c_2), if_neg (fun g => g c_14), if_neg (by omega), if_neg (by omega), if_neg (by rw [Int.toNat_natCast]; omega), if_pos (by omega)]; first | done | rfl))
            · refine jx_tableIn (tgt := 117) C dX8_place_85 (by decide) (by decide) (by decide) rfl (by decide) ?_
              refine jx_aload_n C dX8_place_117 rfl ?_
              refine jx_get (v := .inl (μ1 (10 + p) 3)) C 3 ft_X5 (jcl_PI G (by omega) _) rfl (by decide) (by omega) wf_X8_165 dX8_place_118 ?_
              have r_118 := rg_PI_3 hR1 (p := p) (by omega)
              refine jx_top (b := jyy (cB μ) p) (hpc.2 (by omega)).2.1 ?_
              exact jx_iret C dX8_place_121 (AP_st hμ1 (by rw [a_place, if_neg (fun g => g c_2), if_neg (fun g => g c_14), if_neg (by omega), if_neg (by omega), if_neg (by rw [Int.toNat_natCast]; omega), if_neg (by omega), if_pos (by omega)]; first | done | rfl))
            · refine jx_tableIn (tgt := 122) C dX8_place_85 (by decide) (by decide) (by decide) rfl (by decide) ?_
              refine jx_aload_n C dX8_place_122 rfl ?_
              refine jx_get (v := .inl (μ1 (10 + p) 4)) C 4 ft_X5 (jcl_PI G (by omega) _) rfl (by decide) (by omega) wf_X8_166 dX8_place_123 ?_
              have r_123 := rg_PI_4 hR1 (p := p) (by omega)
              refine jx_top (b := jbb (cB μ) p) (hpc.2 (by omega)).2.2 ?_
              exact jx_iret C dX8_place_126 (AP_st hμ1 (by rw [a_place, if_neg (fun g => g c_2), if_neg (fun g => g c_14), if_neg (by omega), if_neg (by omega), if_neg (by rw [Int.toNat_natCast]; omega), if_neg (by omega), if_neg (by omega), if_pos (by omega)]; first | done | rfl))
            · refine jx_tableOut (tgt := 127) C dX8_place_85 (by omega) hsw (by decide) ?_
              refine jx_aload_n C dX8_place_127 rfl ?_
              refine jx_get (v := .inl (μ1 (10 + p) 5)) C 5 ft_X5 (jcl_PI G (by omega) _) rfl (by decide) (by omega) wf_X8_169 dX8_place_128 ?_
              have r_128 := rg_PI_5 hR1 (p := p) (by omega)
              refine jx_top (b := jrk (cB μ) p) hpc.1 ?_
              exact jx_iret C dX8_place_131 (AP_st hμ1 (by rw [a_place, if_neg (fun g => g c_2), if_neg (fun g => g c_14), if_neg (by omega), if_neg (by omega), if_neg (by rw [Int.toNat_natCast]; omega), if_neg (by omega), if_neg (by omega), if_neg (by omega)]; first | done | rfl))
          · refine jx_if_ne C dX8_place_78 (by decide) (fun q => absurd q (by decide)) (fun _ => ?_)
            refine jx_ldc C dX8_place_81 wk_X8_147 (z := (-1000005)) (by decide +kernel) ?_
            exact jx_iret C dX8_place_83 (AP_st hμ1 (by rw [a_place, if_neg (fun g => g c_2), if_neg (fun g => g c_14), if_neg (by omega), if_neg (by omega), if_pos (by rw [Int.toNat_natCast]; omega)]; first | done | rfl))
        · refine jx_aload_n C dX8_place_66 rfl ?_
          refine jx_get (v := .inr (ad G (14 + p))) C 0 ft_X5 (jcl_PI G (by omega) _) rfl (by decide) (by omega) wf_X8_62 dX8_place_67 ?_
          refine jx_get (v := .inl (μ1 (14 + p) 3)) C 3 ft_X1 (jcl_DO G (by omega) _) rfl (by decide) (by omega) wf_X8_157 dX8_place_70 ?_
          have r_70 := rg_DO_3 hR1 (p := p) (by omega)
          refine jx_top (b := bH (cB μ) p) eH.symm ?_
          exact jx_iret C dX8_place_73 (AP_st hμ1 (by rw [a_place, if_neg (fun g => g c_2), if_neg (fun g => g c_14), if_neg (by omega), if_pos (by omega)]; first | done | rfl))
      · refine jx_aload_n C dX8_place_53 rfl ?_
        refine jx_get (v := .inr (ad G (14 + p))) C 0 ft_X5 (jcl_PI G (by omega) _) rfl (by decide) (by omega) wf_X8_62 dX8_place_54 ?_
        refine jx_get (v := .inl (μ1 (14 + p) 2)) C 2 ft_X1 (jcl_DO G (by omega) _) rfl (by decide) (by omega) wf_X8_154 dX8_place_57 ?_
        have r_57 := rg_DO_2 hR1 (p := p) (by omega)
        refine jx_top (b := bW (cB μ) p) eW.symm ?_
        exact jx_iret C dX8_place_60 (AP_st hμ1 (by rw [a_place, if_neg (fun g => g c_2), if_neg (fun g => g c_14), if_pos (by omega)]; first | done | rfl))
    · refine jx_if_ne C dX8_place_17 (by decide) (fun q => absurd q (by decide)) (fun _ => ?_)
      refine jx_ldc C dX8_place_20 wk_X8_86 (z := (-1000002)) (by decide +kernel) ?_
      exact jx_iret C dX8_place_22 (AP_rd hR hCI (by rw [a_place, if_neg (fun g => g c_2), if_pos c_14]))
  · refine jx_if_ne C dX8_place_5 (by decide) (fun q => absurd q (by decide)) (fun _ => ?_)
    refine jx_ldc C dX8_place_8 wk_X8_85 (z := (-1000001)) (by decide +kernel) ?_
    exact jx_iret C dX8_place_10 (AP_rd hR hCI (by rw [a_place, if_pos c_2]))
set_option maxHeartbeats 4000000 in
set_option maxRecDepth 100000 in
theorem c_X8_open (l : Launch) (G : GT) (μ : Mem)  (hCI : CI μ) (hR : rng μ) : MI l yX8_open cX8_open 1 .int ({ frames := 6, cells := 0, slots := 0, locals := 144 } : Room) G [.inr (ad G 0)] μ (AP μ (opc (cB μ)) (cB μ) (μ 1 0)) := by
  refine MI.of (by decide +kernel) (Nat.le_of_ble_eq_true rfl) ?_
  intro F C Yy
  show jX F G 1 0 0 (jE F G (jQi G (AP μ (opc (cB μ)) (cB μ) (μ 1 0)))) 0 [some (.inr (ad G 0))] [] μ
  obtain ⟨hN, hN4⟩ := cB_N hR
  refine jx_aload_n C dX8_open_0 rfl ?_
  refine jx_get (v := .inr (ad G 2)) C 1 ft_X8 (jcl_PJ G _) rfl (by decide) (by decide) wf_X8_19 dX8_open_1 ?_
  refine jx_aload_n C dX8_open_4 rfl ?_
  refine jx_get (v := .inl (μ 0 4)) C 4 ft_X8 (jcl_PJ G _) rfl (by decide) (by decide) wf_X8_37 dX8_open_5 ?_
  have r_5 := rg_PJ_4 hR
  refine jx_aload_n C dX8_open_8 rfl ?_
  refine jx_get (v := .inl (μ 0 5)) C 5 ft_X8 (jcl_PJ G _) rfl (by decide) (by decide) wf_X8_41 dX8_open_9 ?_
  have r_9 := rg_PJ_5 hR
  refine jx_cVv (as := [.inl (μ 0 4), .inl (μ 0 5)]) (st := []) C Yy (c_X0_settle l G μ (μ 0 4) (μ 0 5) (by omega) (by omega) hCI hR) yb_X0_settle yv_X0_settle wm_X8_102 (jcl_AL G _) rfl (by decide) rfl rfl (Nat.le_of_ble_eq_true rfl) ⟨⟨rfl, rfl, Nat.le_of_ble_eq_true rfl, Nat.le_of_ble_eq_true rfl⟩, Nat.zero_le _, Nat.zero_le _⟩ dX8_open_12 ?_
  intro μ1 hμ1
  have hR1 := hμ1.1
  have hCD1 := hμ1.2.2.2.1
  have hB1 : cB μ1 = cB μ := hμ1.2.2.2.2.1
  refine jx_aload_n C dX8_open_15 rfl ?_
  refine jx_get (v := .inr (ad G 2)) C 1 ft_X8 (jcl_PJ G _) rfl (by decide) (by decide) wf_X8_19 dX8_open_16 ?_
  refine jx_cVi (as := []) (st := []) C Yy (c_X0_countOpen l G μ1 hCD1 hR1) yb_X0_countOpen yv_X0_countOpen wm_X8_172 (jcl_AL G _) rfl (by decide) rfl rfl (Nat.le_of_ble_eq_true rfl) ⟨⟨rfl, rfl, Nat.le_of_ble_eq_true rfl, Nat.le_of_ble_eq_true rfl⟩, Nat.zero_le _, Nat.zero_le _⟩ dX8_open_19 ?_
  rintro _ _ ⟨rfl, rfl⟩
  exact jx_iret C dX8_open_22 (AP_st hμ1 (by rw [hB1]))
set_option maxHeartbeats 4000000 in
set_option maxRecDepth 100000 in
theorem c_X8_joined (l : Launch) (G : GT) (μ : Mem)  (hCI : CI μ) (hR : rng μ) : MI l yX8_joined cX8_joined 1 .int ({ frames := 6, cells := 0, slots := 0, locals := 144 } : Room) G [.inr (ad G 0)] μ (AP μ (((bJ (cB μ)).1 : Int)) (cB μ) (μ 1 0)) := by
  refine MI.of (by decide +kernel) (Nat.le_of_ble_eq_true rfl) ?_
  intro F C Yy
  show jX F G 1 0 0 (jE F G (jQi G (AP μ (((bJ (cB μ)).1 : Int)) (cB μ) (μ 1 0)))) 0 [some (.inr (ad G 0))] [] μ
  obtain ⟨hN, hN4⟩ := cB_N hR
  refine jx_aload_n C dX8_joined_0 rfl ?_
  refine jx_get (v := .inr (ad G 2)) C 1 ft_X8 (jcl_PJ G _) rfl (by decide) (by decide) wf_X8_19 dX8_joined_1 ?_
  refine jx_aload_n C dX8_joined_4 rfl ?_
  refine jx_get (v := .inl (μ 0 4)) C 4 ft_X8 (jcl_PJ G _) rfl (by decide) (by decide) wf_X8_37 dX8_joined_5 ?_
  have r_5 := rg_PJ_4 hR
  refine jx_aload_n C dX8_joined_8 rfl ?_
  refine jx_get (v := .inl (μ 0 5)) C 5 ft_X8 (jcl_PJ G _) rfl (by decide) (by decide) wf_X8_41 dX8_joined_9 ?_
  have r_9 := rg_PJ_5 hR
  refine jx_cVv (as := [.inl (μ 0 4), .inl (μ 0 5)]) (st := []) C Yy (c_X0_settle l G μ (μ 0 4) (μ 0 5) (by omega) (by omega) hCI hR) yb_X0_settle yv_X0_settle wm_X8_102 (jcl_AL G _) rfl (by decide) rfl rfl (Nat.le_of_ble_eq_true rfl) ⟨⟨rfl, rfl, Nat.le_of_ble_eq_true rfl, Nat.le_of_ble_eq_true rfl⟩, Nat.zero_le _, Nat.zero_le _⟩ dX8_joined_12 ?_
  intro μ1 hμ1
  have hR1 := hμ1.1
  have hCD1 := hμ1.2.2.2.1
  have hB1 : cB μ1 = cB μ := hμ1.2.2.2.2.1
  refine jx_aload_n C dX8_joined_15 rfl ?_
  refine jx_get (v := .inr (ad G 2)) C 1 ft_X8 (jcl_PJ G _) rfl (by decide) (by decide) wf_X8_19 dX8_joined_16 ?_
  refine jx_get (v := .inl (μ1 2 4)) C 4 ft_X0 (jcl_AL G _) rfl (by decide) (by decide) wf_X8_176 dX8_joined_19 ?_
  have r_19 := rg_AL_4 hR1
  exact jx_iret C dX8_joined_22 (AP_st hμ1 (by rw [← hB1]; exact (CD_n hCD1).symm))
set_option maxHeartbeats 4000000 in
set_option maxRecDepth 100000 in
theorem c_X8_overlap (l : Launch) (G : GT) (μ : Mem) (u w t : Int) (hu : InR u) (hw : InR w) (ht : InR t) (hCI : CI μ) (hR : rng μ) : MI l yX8_overlap cX8_overlap 5 .int ({ frames := 6, cells := 0, slots := 0, locals := 144 } : Room) G [.inr (ad G 0), .inl u, .inl w, .inl t] μ (AP μ (a_overlap (cB μ) u w t) (cB μ) (μ 1 0)) := by
  refine MI.of (by decide +kernel) (Nat.le_of_ble_eq_true rfl) ?_
  intro F C Yy
  show jX F G 5 0 0 (jE F G (jQi G (AP μ (a_overlap (cB μ) u w t) (cB μ) (μ 1 0)))) 0 [some (.inr (ad G 0)), some (.inl u), some (.inl w), some (.inl t), none] [] μ
  obtain ⟨hN, hN4⟩ := cB_N hR
  refine jx_aload_n C dX8_overlap_0 rfl ?_
  refine jx_get (v := .inr (ad G 2)) C 1 ft_X8 (jcl_PJ G _) rfl (by decide) (by decide) wf_X8_19 dX8_overlap_1 ?_
  refine jx_aload_n C dX8_overlap_4 rfl ?_
  refine jx_get (v := .inl (μ 0 4)) C 4 ft_X8 (jcl_PJ G _) rfl (by decide) (by decide) wf_X8_37 dX8_overlap_5 ?_
  have r_5 := rg_PJ_4 hR
  refine jx_aload_n C dX8_overlap_8 rfl ?_
  refine jx_get (v := .inl (μ 0 5)) C 5 ft_X8 (jcl_PJ G _) rfl (by decide) (by decide) wf_X8_41 dX8_overlap_9 ?_
  have r_9 := rg_PJ_5 hR
  refine jx_cVv (as := [.inl (μ 0 4), .inl (μ 0 5)]) (st := []) C Yy (c_X0_settle l G μ (μ 0 4) (μ 0 5) (by omega) (by omega) hCI hR) yb_X0_settle yv_X0_settle wm_X8_102 (jcl_AL G _) rfl (by decide) rfl rfl (Nat.le_of_ble_eq_true rfl) ⟨⟨rfl, rfl, Nat.le_of_ble_eq_true rfl, Nat.le_of_ble_eq_true rfl⟩, Nat.zero_le _, Nat.zero_le _⟩ dX8_overlap_12 ?_
  intro μ1 hμ1
  have hR1 := hμ1.1
  have hCD1 := hμ1.2.2.2.1
  have hB1 : cB μ1 = cB μ := hμ1.2.2.2.2.1
  refine jx_aload_n C dX8_overlap_15 rfl ?_
  refine jx_iload_n C dX8_overlap_16 rfl ?_
  refine jx_iload_n C dX8_overlap_17 rfl ?_
  refine jx_iload_n C dX8_overlap_18 rfl ?_
  refine jx_iconst C dX8_overlap_19 ?_
  refine jx_iconst C dX8_overlap_20 ?_
  refine jx_cSi (as := [.inl t, .inl 0, .inl 3]) (st := [.inl w, .inl u, .inr (ad G 0)]) C Yy (c_X8_within l G μ1 t 0 3 (by omega) (by omega) (by omega)) yb_X8_within ws_X8_within wm_X8_47 rfl rfl (Nat.le_of_ble_eq_true rfl) ⟨⟨rfl, rfl, Nat.le_of_ble_eq_true rfl, Nat.le_of_ble_eq_true rfl⟩, Nat.zero_le _, Nat.zero_le _⟩ dX8_overlap_21 ?_
  rintro _ _ ⟨rfl, ⟨rfl, c_21⟩ | ⟨rfl, c_21⟩⟩
  · refine jx_cVi (as := [.inl u, .inl w, .inl 1]) (st := []) C Yy (c_X8_refusalOfTwo l G μ1 u w 1 (by omega) (by omega) (by omega) hCD1 hR1) yb_X8_refusalOfTwo yv_X8_refusalOfTwo wm_X8_179 (jcl_PJ G _) rfl (by decide) rfl rfl (Nat.le_of_ble_eq_true rfl) ⟨⟨rfl, rfl, Nat.le_of_ble_eq_true rfl, Nat.le_of_ble_eq_true rfl⟩, Nat.zero_le _, Nat.zero_le _⟩ dX8_overlap_24 ?_
    rintro _ _ ⟨rfl, rfl⟩
    have r_24 := rof_rng (cB μ1) u w (1 = 1)
    have r_r := rof_rng (cB μ) u w (0 ≤ t ∧ t ≤ 3)
    refine jx_top (b := rof (cB μ) u w (0 ≤ t ∧ t ≤ 3)) (by rw [hB1]; exact rof_cong (by omega)) ?_
    refine jx_istore (L' := [some (.inr (ad G 0)), some (.inl u), some (.inl w), some (.inl t), some (.inl (rof (cB μ) u w (0 ≤ t ∧ t ≤ 3)))]) C dX8_overlap_27 (by decide) rfl ?_
    refine jx_iload C dX8_overlap_29 rfl ?_
    refine jx_if_eq C dX8_overlap_31 (by omega) (fun c_31 => ?_) (fun c_31 => ?_)
    · have h0 := rof_0 c_31
      obtain ⟨a, rfl⟩ := Int.eq_ofNat_of_zero_le h0.1.1.1
      obtain ⟨b, rfl⟩ := Int.eq_ofNat_of_zero_le h0.1.2.1.1
      simp only [Int.toNat_natCast] at h0
      have hja := h0.2.2.1
      have hjb := h0.2.2.2
      have hbr := bov_rng (cB_ok hR) (a := a) (b := b) (by omega)
      have hov0 := CD_ovr hCD1 (a := a) (b := b) (by rw [hB1]; omega) (by rw [hB1]; omega) (by rw [hB1]; exact hja) (by rw [hB1]; exact hjb)
      rw [hB1] at hov0
      refine jx_aload_n C dX8_overlap_40 rfl ?_
      refine jx_get (v := .inr (ad G 3)) C 2 ft_X8 (jcl_PJ G _) rfl (by decide) (by decide) wf_X8_26 dX8_overlap_41 ?_
      refine jx_aload_n C dX8_overlap_44 rfl ?_
      refine jx_get (v := .inr (ad G 2)) C 1 ft_X8 (jcl_PJ G _) rfl (by decide) (by decide) wf_X8_19 dX8_overlap_45 ?_
      refine jx_get (v := .inr (ad G 5)) C 0 ft_X0 (jcl_AL G _) rfl (by decide) (by decide) wf_X8_58 dX8_overlap_48 ?_
      refine jx_iload_n C dX8_overlap_51 rfl ?_
      refine jx_aald (p' := a) (t0 := 1) C (jcl_5 G _) rfl (by decide) rfl (by omega) (by decide) dX8_overlap_52 ?_
      refine jx_aload_n C dX8_overlap_53 rfl ?_
      refine jx_get (v := .inr (ad G 2)) C 1 ft_X8 (jcl_PJ G _) rfl (by decide) (by decide) wf_X8_19 dX8_overlap_54 ?_
      refine jx_get (v := .inr (ad G 5)) C 0 ft_X0 (jcl_AL G _) rfl (by decide) (by decide) wf_X8_58 dX8_overlap_57 ?_
      refine jx_iload_n C dX8_overlap_60 rfl ?_
      refine jx_aald (p' := b) (t0 := 1) C (jcl_5 G _) rfl (by decide) rfl (by omega) (by decide) dX8_overlap_61 ?_
      refine jx_cVv (as := [.inr (ad G (10 + a)), .inr (ad G (10 + b))]) (st := []) C Yy (c_X3_find l G μ1 a b (by omega) (by omega) hR1) yb_X3_find yv_X3_find wm_X8_184 (jcl_OV G _) rfl (by decide) rfl rfl (Nat.le_of_ble_eq_true rfl) ⟨⟨rfl, rfl, Nat.le_of_ble_eq_true rfl, Nat.le_of_ble_eq_true rfl⟩, Nat.zero_le _, Nat.zero_le _⟩ dX8_overlap_62 ?_
      intro μ2 hμ2
      have hR2 := hμ2.1
      have hov : (μ2 3 0, μ2 3 1, μ2 3 2, μ2 3 3) = bov (cB μ) a b := hμ2.2.1.trans hov0
      have ov0 : μ2 3 0 = (bov (cB μ) a b).1 := congrArg (fun z => z.1) hov
      have ov1 : μ2 3 1 = (bov (cB μ) a b).2.1 := congrArg (fun z => z.2.1) hov
      have ov2 : μ2 3 2 = (bov (cB μ) a b).2.2.1 := congrArg (fun z => z.2.2.1) hov
      have ov3 : μ2 3 3 = (bov (cB μ) a b).2.2.2 := congrArg (fun z => z.2.2.2) hov
      have hdA : ∀ x y, dgt (μ2 (14 + a) 2) (μ2 (14 + a) 3) (μ2 (18 + a)) (x - μ2 (10 + a) 2) (y - μ2 (10 + a) 3) = bda (cB μ) a x y := fun x y => by rw [← hB1]; exact CD_bda hCD1 hμ2.2.2 (by rw [hB1]; omega) (by rw [hB1]; exact hja) x y
      have hdB : ∀ x y, dgt (μ2 (14 + b) 2) (μ2 (14 + b) 3) (μ2 (18 + b)) (x - μ2 (10 + b) 2) (y - μ2 (10 + b) 3) = bda (cB μ) b x y := fun x y => by rw [← hB1]; exact CD_bda hCD1 hμ2.2.2 (by rw [hB1]; omega) (by rw [hB1]; exact hjb) x y
      have hrA := fun x y => bda_rng (cB_ok hR) (a := a) (by omega) x y
      have hrB := fun x y => bda_rng (cB_ok hR) (a := b) (by omega) x y
      refine jx_iload_n C dX8_overlap_65 rfl ?_
      rcases (show t = 0 ∨ t = 1 ∨ t = 2 ∨ (t < 0 ∨ 2 < t) by omega) with rfl | rfl | rfl | hsw
      · refine jx_tableIn (tgt := 92) C dX8_overlap_66 (by decide) (by decide) (by decide) rfl (by decide) ?_
        refine jx_aload_n C dX8_overlap_92 rfl ?_
        refine jx_get (v := .inr (ad G 3)) C 2 ft_X8 (jcl_PJ G _) rfl (by decide) (by decide) wf_X8_26 dX8_overlap_93 ?_
        refine jx_get (v := .inl (μ2 3 0)) C 0 ft_X3 (jcl_OV G _) rfl (by decide) (by decide) wf_X8_188 dX8_overlap_96 ?_
        have r_96 := rg_OV_0 hR2
        refine jx_top (b := (bov (cB μ) a b).1) ov0 ?_
        exact jx_iret C dX8_overlap_99 (AP_ov (μ1 := μ1) hμ1 hR2 (fun k h1 h2 h3 h4 => hμ2.2.2 k h1) (by rw [a_overlap, if_neg (fun g => g c_31), if_pos (by omega)]; first | done | rfl))
      · refine jx_tableIn (tgt := 100) C dX8_overlap_66 (by decide) (by decide) (by decide) rfl (by decide) ?_
        refine jx_aload_n C dX8_overlap_100 rfl ?_
        refine jx_get (v := .inr (ad G 3)) C 2 ft_X8 (jcl_PJ G _) rfl (by decide) (by decide) wf_X8_26 dX8_overlap_101 ?_
        refine jx_get (v := .inl (μ2 3 1)) C 1 ft_X3 (jcl_OV G _) rfl (by decide) (by decide) wf_X8_189 dX8_overlap_104 ?_
        have r_104 := rg_OV_1 hR2
        refine jx_top (b := (bov (cB μ) a b).2.1) ov1 ?_
        exact jx_iret C dX8_overlap_107 (AP_ov (μ1 := μ1) hμ1 hR2 (fun k h1 h2 h3 h4 => hμ2.2.2 k h1) (by rw [a_overlap, if_neg (fun g => g c_31), if_neg (by omega), if_pos (by omega)]; first | done | rfl))
      · refine jx_tableIn (tgt := 108) C dX8_overlap_66 (by decide) (by decide) (by decide) rfl (by decide) ?_
        refine jx_aload_n C dX8_overlap_108 rfl ?_
        refine jx_get (v := .inr (ad G 3)) C 2 ft_X8 (jcl_PJ G _) rfl (by decide) (by decide) wf_X8_26 dX8_overlap_109 ?_
        refine jx_get (v := .inl (μ2 3 2)) C 2 ft_X3 (jcl_OV G _) rfl (by decide) (by decide) wf_X8_190 dX8_overlap_112 ?_
        have r_112 := rg_OV_2 hR2
        refine jx_top (b := (bov (cB μ) a b).2.2.1) ov2 ?_
        exact jx_iret C dX8_overlap_115 (AP_ov (μ1 := μ1) hμ1 hR2 (fun k h1 h2 h3 h4 => hμ2.2.2 k h1) (by rw [a_overlap, if_neg (fun g => g c_31), if_neg (by omega), if_neg (by omega), if_pos (by omega)]; first | done | rfl))
      · refine jx_tableOut (tgt := 116) C dX8_overlap_66 (by omega) hsw (by decide) ?_
        refine jx_aload_n C dX8_overlap_116 rfl ?_
        refine jx_get (v := .inr (ad G 3)) C 2 ft_X8 (jcl_PJ G _) rfl (by decide) (by decide) wf_X8_26 dX8_overlap_117 ?_
        refine jx_get (v := .inl (μ2 3 3)) C 3 ft_X3 (jcl_OV G _) rfl (by decide) (by decide) wf_X8_191 dX8_overlap_120 ?_
        have r_120 := rg_OV_3 hR2
        refine jx_top (b := (bov (cB μ) a b).2.2.2) ov3 ?_
        exact jx_iret C dX8_overlap_123 (AP_ov (μ1 := μ1) hμ1 hR2 (fun k h1 h2 h3 h4 => hμ2.2.2 k h1) (by rw [a_overlap, if_neg (fun g => g c_31), if_neg (by omega), if_neg (by omega), if_neg (by omega)]; first | done | rfl))
    · refine jx_ldc C dX8_overlap_34 wk_X8_183 (z := (-1000000)) (by decide +kernel) ?_
      refine jx_iload C dX8_overlap_36 rfl ?_
      refine jx_iadd C dX8_overlap_38 ?_
      exact jx_iret C dX8_overlap_39 (AP_st hμ1 (by rw [a_overlap, if_pos c_31]))
  · refine jx_cVi (as := [.inl u, .inl w, .inl 0]) (st := []) C Yy (c_X8_refusalOfTwo l G μ1 u w 0 (by omega) (by omega) (by omega) hCD1 hR1) yb_X8_refusalOfTwo yv_X8_refusalOfTwo wm_X8_179 (jcl_PJ G _) rfl (by decide) rfl rfl (Nat.le_of_ble_eq_true rfl) ⟨⟨rfl, rfl, Nat.le_of_ble_eq_true rfl, Nat.le_of_ble_eq_true rfl⟩, Nat.zero_le _, Nat.zero_le _⟩ dX8_overlap_24 ?_
    rintro _ _ ⟨rfl, rfl⟩
    have r_24 := rof_rng (cB μ1) u w (0 = 1)
    have r_r := rof_rng (cB μ) u w (0 ≤ t ∧ t ≤ 3)
    refine jx_top (b := rof (cB μ) u w (0 ≤ t ∧ t ≤ 3)) (by rw [hB1]; exact rof_cong (by omega)) ?_
    refine jx_istore (L' := [some (.inr (ad G 0)), some (.inl u), some (.inl w), some (.inl t), some (.inl (rof (cB μ) u w (0 ≤ t ∧ t ≤ 3)))]) C dX8_overlap_27 (by decide) rfl ?_
    refine jx_iload C dX8_overlap_29 rfl ?_
    refine jx_if_eq C dX8_overlap_31 (by omega) (fun c_31 => absurd c_31 (by intro h; exact c_21 (rof_0 h).2.1)) (fun c_31 => ?_)
    refine jx_ldc C dX8_overlap_34 wk_X8_183 (z := (-1000000)) (by decide +kernel) ?_
    refine jx_iload C dX8_overlap_36 rfl ?_
    refine jx_iadd C dX8_overlap_38 ?_
    exact jx_iret C dX8_overlap_39 (AP_st hμ1 (by rw [a_overlap, if_pos c_31]))
set_option maxHeartbeats 4000000 in
set_option maxRecDepth 100000 in
theorem c_X8_lights (l : Launch) (G : GT) (μ : Mem) (u w t : Int) (hu : InR u) (hw : InR w) (ht : InR t) (hCI : CI μ) (hR : rng μ) : MI l yX8_lights cX8_lights 5 .int ({ frames := 6, cells := 0, slots := 0, locals := 144 } : Room) G [.inr (ad G 0), .inl u, .inl w, .inl t] μ (AP μ (a_lights (cB μ) u w t) (cB μ) (μ 1 0)) := by
  refine MI.of (by decide +kernel) (Nat.le_of_ble_eq_true rfl) ?_
  intro F C Yy
  show jX F G 5 0 0 (jE F G (jQi G (AP μ (a_lights (cB μ) u w t) (cB μ) (μ 1 0)))) 0 [some (.inr (ad G 0)), some (.inl u), some (.inl w), some (.inl t), none] [] μ
  obtain ⟨hN, hN4⟩ := cB_N hR
  refine jx_aload_n C dX8_lights_0 rfl ?_
  refine jx_get (v := .inr (ad G 2)) C 1 ft_X8 (jcl_PJ G _) rfl (by decide) (by decide) wf_X8_19 dX8_lights_1 ?_
  refine jx_aload_n C dX8_lights_4 rfl ?_
  refine jx_get (v := .inl (μ 0 4)) C 4 ft_X8 (jcl_PJ G _) rfl (by decide) (by decide) wf_X8_37 dX8_lights_5 ?_
  have r_5 := rg_PJ_4 hR
  refine jx_aload_n C dX8_lights_8 rfl ?_
  refine jx_get (v := .inl (μ 0 5)) C 5 ft_X8 (jcl_PJ G _) rfl (by decide) (by decide) wf_X8_41 dX8_lights_9 ?_
  have r_9 := rg_PJ_5 hR
  refine jx_cVv (as := [.inl (μ 0 4), .inl (μ 0 5)]) (st := []) C Yy (c_X0_settle l G μ (μ 0 4) (μ 0 5) (by omega) (by omega) hCI hR) yb_X0_settle yv_X0_settle wm_X8_102 (jcl_AL G _) rfl (by decide) rfl rfl (Nat.le_of_ble_eq_true rfl) ⟨⟨rfl, rfl, Nat.le_of_ble_eq_true rfl, Nat.le_of_ble_eq_true rfl⟩, Nat.zero_le _, Nat.zero_le _⟩ dX8_lights_12 ?_
  intro μ1 hμ1
  have hR1 := hμ1.1
  have hCD1 := hμ1.2.2.2.1
  have hB1 : cB μ1 = cB μ := hμ1.2.2.2.2.1
  refine jx_aload_n C dX8_lights_15 rfl ?_
  refine jx_iload_n C dX8_lights_16 rfl ?_
  refine jx_iload_n C dX8_lights_17 rfl ?_
  refine jx_iload_n C dX8_lights_18 rfl ?_
  refine jx_iconst C dX8_lights_19 ?_
  refine jx_iconst C dX8_lights_20 ?_
  refine jx_cSi (as := [.inl t, .inl 0, .inl 2]) (st := [.inl w, .inl u, .inr (ad G 0)]) C Yy (c_X8_within l G μ1 t 0 2 (by omega) (by omega) (by omega)) yb_X8_within ws_X8_within wm_X8_47 rfl rfl (Nat.le_of_ble_eq_true rfl) ⟨⟨rfl, rfl, Nat.le_of_ble_eq_true rfl, Nat.le_of_ble_eq_true rfl⟩, Nat.zero_le _, Nat.zero_le _⟩ dX8_lights_21 ?_
  rintro _ _ ⟨rfl, ⟨rfl, c_21⟩ | ⟨rfl, c_21⟩⟩
  · refine jx_cVi (as := [.inl u, .inl w, .inl 1]) (st := []) C Yy (c_X8_refusalOfTwo l G μ1 u w 1 (by omega) (by omega) (by omega) hCD1 hR1) yb_X8_refusalOfTwo yv_X8_refusalOfTwo wm_X8_179 (jcl_PJ G _) rfl (by decide) rfl rfl (Nat.le_of_ble_eq_true rfl) ⟨⟨rfl, rfl, Nat.le_of_ble_eq_true rfl, Nat.le_of_ble_eq_true rfl⟩, Nat.zero_le _, Nat.zero_le _⟩ dX8_lights_24 ?_
    rintro _ _ ⟨rfl, rfl⟩
    have r_24 := rof_rng (cB μ1) u w (1 = 1)
    have r_r := rof_rng (cB μ) u w (0 ≤ t ∧ t ≤ 2)
    refine jx_top (b := rof (cB μ) u w (0 ≤ t ∧ t ≤ 2)) (by rw [hB1]; exact rof_cong (by omega)) ?_
    refine jx_istore (L' := [some (.inr (ad G 0)), some (.inl u), some (.inl w), some (.inl t), some (.inl (rof (cB μ) u w (0 ≤ t ∧ t ≤ 2)))]) C dX8_lights_27 (by decide) rfl ?_
    refine jx_iload C dX8_lights_29 rfl ?_
    refine jx_if_eq C dX8_lights_31 (by omega) (fun c_31 => ?_) (fun c_31 => ?_)
    · have h0 := rof_0 c_31
      obtain ⟨a, rfl⟩ := Int.eq_ofNat_of_zero_le h0.1.1.1
      obtain ⟨b, rfl⟩ := Int.eq_ofNat_of_zero_le h0.1.2.1.1
      simp only [Int.toNat_natCast] at h0
      have hja := h0.2.2.1
      have hjb := h0.2.2.2
      have hbr := bov_rng (cB_ok hR) (a := a) (b := b) (by omega)
      have hov0 := CD_ovr hCD1 (a := a) (b := b) (by rw [hB1]; omega) (by rw [hB1]; omega) (by rw [hB1]; exact hja) (by rw [hB1]; exact hjb)
      rw [hB1] at hov0
      refine jx_aload_n C dX8_lights_40 rfl ?_
      refine jx_get (v := .inr (ad G 3)) C 2 ft_X8 (jcl_PJ G _) rfl (by decide) (by decide) wf_X8_26 dX8_lights_41 ?_
      refine jx_aload_n C dX8_lights_44 rfl ?_
      refine jx_get (v := .inr (ad G 2)) C 1 ft_X8 (jcl_PJ G _) rfl (by decide) (by decide) wf_X8_19 dX8_lights_45 ?_
      refine jx_get (v := .inr (ad G 5)) C 0 ft_X0 (jcl_AL G _) rfl (by decide) (by decide) wf_X8_58 dX8_lights_48 ?_
      refine jx_iload_n C dX8_lights_51 rfl ?_
      refine jx_aald (p' := a) (t0 := 1) C (jcl_5 G _) rfl (by decide) rfl (by omega) (by decide) dX8_lights_52 ?_
      refine jx_aload_n C dX8_lights_53 rfl ?_
      refine jx_get (v := .inr (ad G 2)) C 1 ft_X8 (jcl_PJ G _) rfl (by decide) (by decide) wf_X8_19 dX8_lights_54 ?_
      refine jx_get (v := .inr (ad G 5)) C 0 ft_X0 (jcl_AL G _) rfl (by decide) (by decide) wf_X8_58 dX8_lights_57 ?_
      refine jx_iload_n C dX8_lights_60 rfl ?_
      refine jx_aald (p' := b) (t0 := 1) C (jcl_5 G _) rfl (by decide) rfl (by omega) (by decide) dX8_lights_61 ?_
      refine jx_cVv (as := [.inr (ad G (10 + a)), .inr (ad G (10 + b))]) (st := []) C Yy (c_X3_find l G μ1 a b (by omega) (by omega) hR1) yb_X3_find yv_X3_find wm_X8_184 (jcl_OV G _) rfl (by decide) rfl rfl (Nat.le_of_ble_eq_true rfl) ⟨⟨rfl, rfl, Nat.le_of_ble_eq_true rfl, Nat.le_of_ble_eq_true rfl⟩, Nat.zero_le _, Nat.zero_le _⟩ dX8_lights_62 ?_
      intro μ2 hμ2
      have hR2 := hμ2.1
      have hov : (μ2 3 0, μ2 3 1, μ2 3 2, μ2 3 3) = bov (cB μ) a b := hμ2.2.1.trans hov0
      have ov0 : μ2 3 0 = (bov (cB μ) a b).1 := congrArg (fun z => z.1) hov
      have ov1 : μ2 3 1 = (bov (cB μ) a b).2.1 := congrArg (fun z => z.2.1) hov
      have ov2 : μ2 3 2 = (bov (cB μ) a b).2.2.1 := congrArg (fun z => z.2.2.1) hov
      have ov3 : μ2 3 3 = (bov (cB μ) a b).2.2.2 := congrArg (fun z => z.2.2.2) hov
      have hdA : ∀ x y, dgt (μ2 (14 + a) 2) (μ2 (14 + a) 3) (μ2 (18 + a)) (x - μ2 (10 + a) 2) (y - μ2 (10 + a) 3) = bda (cB μ) a x y := fun x y => by rw [← hB1]; exact CD_bda hCD1 hμ2.2.2 (by rw [hB1]; omega) (by rw [hB1]; exact hja) x y
      have hdB : ∀ x y, dgt (μ2 (14 + b) 2) (μ2 (14 + b) 3) (μ2 (18 + b)) (x - μ2 (10 + b) 2) (y - μ2 (10 + b) 3) = bda (cB μ) b x y := fun x y => by rw [← hB1]; exact CD_bda hCD1 hμ2.2.2 (by rw [hB1]; omega) (by rw [hB1]; exact hjb) x y
      have hrA := fun x y => bda_rng (cB_ok hR) (a := a) (by omega) x y
      have hrB := fun x y => bda_rng (cB_ok hR) (a := b) (by omega) x y
      refine jx_aload_n C dX8_lights_65 rfl ?_
      refine jx_get (v := .inr (ad G 3)) C 2 ft_X8 (jcl_PJ G _) rfl (by decide) (by decide) wf_X8_26 dX8_lights_66 ?_
      refine jx_aload_n C dX8_lights_69 rfl ?_
      refine jx_get (v := .inr (ad G 2)) C 1 ft_X8 (jcl_PJ G _) rfl (by decide) (by decide) wf_X8_19 dX8_lights_70 ?_
      refine jx_get (v := .inr (ad G 5)) C 0 ft_X0 (jcl_AL G _) rfl (by decide) (by decide) wf_X8_58 dX8_lights_73 ?_
      refine jx_iload_n C dX8_lights_76 rfl ?_
      refine jx_aald (p' := a) (t0 := 1) C (jcl_5 G _) rfl (by decide) rfl (by omega) (by decide) dX8_lights_77 ?_
      refine jx_aload_n C dX8_lights_78 rfl ?_
      refine jx_get (v := .inr (ad G 2)) C 1 ft_X8 (jcl_PJ G _) rfl (by decide) (by decide) wf_X8_19 dX8_lights_79 ?_
      refine jx_get (v := .inr (ad G 5)) C 0 ft_X0 (jcl_AL G _) rfl (by decide) (by decide) wf_X8_58 dX8_lights_82 ?_
      refine jx_iload_n C dX8_lights_85 rfl ?_
      refine jx_aald (p' := b) (t0 := 1) C (jcl_5 G _) rfl (by decide) rfl (by omega) (by decide) dX8_lights_86 ?_
      refine jx_cVv (as := [.inr (ad G (10 + a)), .inr (ad G (10 + b))]) (st := []) C Yy (c_X3_compare l G μ2 a b (by omega) (by omega) (bda (cB μ) a) (bda (cB μ) b) hdA hdB hrA hrB (by omega) (by omega) hR2) yb_X3_compare yv_X3_compare wm_X8_192 (jcl_OV G _) rfl (by decide) rfl rfl (Nat.le_of_ble_eq_true rfl) ⟨⟨rfl, rfl, Nat.le_of_ble_eq_true rfl, Nat.le_of_ble_eq_true rfl⟩, Nat.zero_le _, Nat.zero_le _⟩ dX8_lights_87 ?_
      intro μ3 hμ3
      have hR3 := hμ3.1
      have hl0 := hμ3.2.1
      have hl1 := hμ3.2.2.1
      have hl2 := hμ3.2.2.2.1
      rw [ov0, ov1, ov2, ov3] at hl0 hl1 hl2
      refine jx_iload_n C dX8_lights_90 rfl ?_
      rcases (show t = 0 ∨ t = 1 ∨ t = 2 by omega) with rfl | rfl | rfl
      · refine jx_lookup (off := 25) (tgt := 116) C dX8_lights_91 (by decide) (by decide) rfl (by decide) ?_
        refine jx_aload_n C dX8_lights_116 rfl ?_
        refine jx_get (v := .inr (ad G 3)) C 2 ft_X8 (jcl_PJ G _) rfl (by decide) (by decide) wf_X8_26 dX8_lights_117 ?_
        refine jx_get (v := .inl (μ3 3 4)) C 4 ft_X3 (jcl_OV G _) rfl (by decide) (by decide) wf_X8_195 dX8_lights_120 ?_
        have r_120 := rg_OV_4 hR3
        refine jx_top (b := bls (cB μ) lta a b) hl0 ?_
        exact jx_iret C dX8_lights_123 (AP_ov (μ1 := μ1) hμ1 hR3 (fun k h1 h2 h3 h4 => by rw [hμ3.2.2.2.2.1 k h1]; exact hμ2.2.2 k h1) (by rw [a_lights, if_neg (fun g => g c_31), if_pos (by omega)]; first | done | rfl))
      · refine jx_lookup (off := 33) (tgt := 124) C dX8_lights_91 (by decide) (by decide) rfl (by decide) ?_
        refine jx_aload_n C dX8_lights_124 rfl ?_
        refine jx_get (v := .inr (ad G 3)) C 2 ft_X8 (jcl_PJ G _) rfl (by decide) (by decide) wf_X8_26 dX8_lights_125 ?_
        refine jx_get (v := .inl (μ3 3 5)) C 5 ft_X3 (jcl_OV G _) rfl (by decide) (by decide) wf_X8_198 dX8_lights_128 ?_
        have r_128 := rg_OV_5 hR3
        refine jx_top (b := bls (cB μ) ltb a b) hl1 ?_
        exact jx_iret C dX8_lights_131 (AP_ov (μ1 := μ1) hμ1 hR3 (fun k h1 h2 h3 h4 => by rw [hμ3.2.2.2.2.1 k h1]; exact hμ2.2.2 k h1) (by rw [a_lights, if_neg (fun g => g c_31), if_neg (by omega), if_pos (by omega)]; first | done | rfl))
      · refine jx_lookup (off := 41) (tgt := 132) C dX8_lights_91 (by decide) (by decide) rfl (by decide) ?_
        refine jx_aload_n C dX8_lights_132 rfl ?_
        refine jx_get (v := .inr (ad G 3)) C 2 ft_X8 (jcl_PJ G _) rfl (by decide) (by decide) wf_X8_26 dX8_lights_133 ?_
        refine jx_get (v := .inl (μ3 3 6)) C 6 ft_X3 (jcl_OV G _) rfl (by decide) (by decide) wf_X8_201 dX8_lights_136 ?_
        have r_136 := rg_OV_6 hR3
        refine jx_top (b := bls (cB μ) ltc a b) hl2 ?_
        exact jx_iret C dX8_lights_139 (AP_ov (μ1 := μ1) hμ1 hR3 (fun k h1 h2 h3 h4 => by rw [hμ3.2.2.2.2.1 k h1]; exact hμ2.2.2 k h1) (by rw [a_lights, if_neg (fun g => g c_31), if_neg (by omega), if_neg (by omega)]; first | done | rfl))
    · refine jx_ldc C dX8_lights_34 wk_X8_183 (z := (-1000000)) (by decide +kernel) ?_
      refine jx_iload C dX8_lights_36 rfl ?_
      refine jx_iadd C dX8_lights_38 ?_
      exact jx_iret C dX8_lights_39 (AP_st hμ1 (by rw [a_lights, if_pos c_31]))
  · refine jx_cVi (as := [.inl u, .inl w, .inl 0]) (st := []) C Yy (c_X8_refusalOfTwo l G μ1 u w 0 (by omega) (by omega) (by omega) hCD1 hR1) yb_X8_refusalOfTwo yv_X8_refusalOfTwo wm_X8_179 (jcl_PJ G _) rfl (by decide) rfl rfl (Nat.le_of_ble_eq_true rfl) ⟨⟨rfl, rfl, Nat.le_of_ble_eq_true rfl, Nat.le_of_ble_eq_true rfl⟩, Nat.zero_le _, Nat.zero_le _⟩ dX8_lights_24 ?_
    rintro _ _ ⟨rfl, rfl⟩
    have r_24 := rof_rng (cB μ1) u w (0 = 1)
    have r_r := rof_rng (cB μ) u w (0 ≤ t ∧ t ≤ 2)
    refine jx_top (b := rof (cB μ) u w (0 ≤ t ∧ t ≤ 2)) (by rw [hB1]; exact rof_cong (by omega)) ?_
    refine jx_istore (L' := [some (.inr (ad G 0)), some (.inl u), some (.inl w), some (.inl t), some (.inl (rof (cB μ) u w (0 ≤ t ∧ t ≤ 2)))]) C dX8_lights_27 (by decide) rfl ?_
    refine jx_iload C dX8_lights_29 rfl ?_
    refine jx_if_eq C dX8_lights_31 (by omega) (fun c_31 => absurd c_31 (by intro h; exact c_21 (rof_0 h).2.1)) (fun c_31 => ?_)
    refine jx_ldc C dX8_lights_34 wk_X8_183 (z := (-1000000)) (by decide +kernel) ?_
    refine jx_iload C dX8_lights_36 rfl ?_
    refine jx_iadd C dX8_lights_38 ?_
    exact jx_iret C dX8_lights_39 (AP_st hμ1 (by rw [a_lights, if_pos c_31]))
set_option maxHeartbeats 4000000 in
set_option maxRecDepth 100000 in
theorem c_X8_seam (l : Launch) (G : GT) (μ : Mem) (u w t : Int) (hu : InR u) (hw : InR w) (ht : InR t) (hCI : CI μ) (hR : rng μ) : MI l yX8_seam cX8_seam 5 .int ({ frames := 6, cells := 0, slots := 0, locals := 144 } : Room) G [.inr (ad G 0), .inl u, .inl w, .inl t] μ (AP μ (a_seam (cB μ) u w t) (cB μ) (μ 1 0)) := by
  refine MI.of (by decide +kernel) (Nat.le_of_ble_eq_true rfl) ?_
  intro F C Yy
  show jX F G 5 0 0 (jE F G (jQi G (AP μ (a_seam (cB μ) u w t) (cB μ) (μ 1 0)))) 0 [some (.inr (ad G 0)), some (.inl u), some (.inl w), some (.inl t), none] [] μ
  obtain ⟨hN, hN4⟩ := cB_N hR
  refine jx_aload_n C dX8_seam_0 rfl ?_
  refine jx_get (v := .inr (ad G 2)) C 1 ft_X8 (jcl_PJ G _) rfl (by decide) (by decide) wf_X8_19 dX8_seam_1 ?_
  refine jx_aload_n C dX8_seam_4 rfl ?_
  refine jx_get (v := .inl (μ 0 4)) C 4 ft_X8 (jcl_PJ G _) rfl (by decide) (by decide) wf_X8_37 dX8_seam_5 ?_
  have r_5 := rg_PJ_4 hR
  refine jx_aload_n C dX8_seam_8 rfl ?_
  refine jx_get (v := .inl (μ 0 5)) C 5 ft_X8 (jcl_PJ G _) rfl (by decide) (by decide) wf_X8_41 dX8_seam_9 ?_
  have r_9 := rg_PJ_5 hR
  refine jx_cVv (as := [.inl (μ 0 4), .inl (μ 0 5)]) (st := []) C Yy (c_X0_settle l G μ (μ 0 4) (μ 0 5) (by omega) (by omega) hCI hR) yb_X0_settle yv_X0_settle wm_X8_102 (jcl_AL G _) rfl (by decide) rfl rfl (Nat.le_of_ble_eq_true rfl) ⟨⟨rfl, rfl, Nat.le_of_ble_eq_true rfl, Nat.le_of_ble_eq_true rfl⟩, Nat.zero_le _, Nat.zero_le _⟩ dX8_seam_12 ?_
  intro μ1 hμ1
  have hR1 := hμ1.1
  have hCD1 := hμ1.2.2.2.1
  have hB1 : cB μ1 = cB μ := hμ1.2.2.2.2.1
  refine jx_aload_n C dX8_seam_15 rfl ?_
  refine jx_iload_n C dX8_seam_16 rfl ?_
  refine jx_iload_n C dX8_seam_17 rfl ?_
  refine jx_iconst C dX8_seam_18 ?_
  refine jx_cVi (as := [.inl u, .inl w, .inl 1]) (st := []) C Yy (c_X8_refusalOfTwo l G μ1 u w 1 (by omega) (by omega) (by omega) hCD1 hR1) yb_X8_refusalOfTwo yv_X8_refusalOfTwo wm_X8_179 (jcl_PJ G _) rfl (by decide) rfl rfl (Nat.le_of_ble_eq_true rfl) ⟨⟨rfl, rfl, Nat.le_of_ble_eq_true rfl, Nat.le_of_ble_eq_true rfl⟩, Nat.zero_le _, Nat.zero_le _⟩ dX8_seam_19 ?_
  rintro _ _ ⟨rfl, rfl⟩
  have r_19 := rof_rng (cB μ1) u w (1 = 1)
  have r_r := rof_rng (cB μ) u w True
  refine jx_top (b := rof (cB μ) u w True) (by rw [hB1]; exact rof_cong (by simp)) ?_
  refine jx_istore (L' := [some (.inr (ad G 0)), some (.inl u), some (.inl w), some (.inl t), some (.inl (rof (cB μ) u w True))]) C dX8_seam_22 (by decide) rfl ?_
  refine jx_iload C dX8_seam_24 rfl ?_
  refine jx_if_eq C dX8_seam_26 (by omega) (fun c_26 => ?_) (fun c_26 => ?_)
  · have h0 := rof_0 c_26
    obtain ⟨a, rfl⟩ := Int.eq_ofNat_of_zero_le h0.1.1.1
    obtain ⟨b, rfl⟩ := Int.eq_ofNat_of_zero_le h0.1.2.1.1
    simp only [Int.toNat_natCast] at h0
    have hja := h0.2.2.1
    have hjb := h0.2.2.2
    have hbr := bov_rng (cB_ok hR) (a := a) (b := b) (by omega)
    have hov0 := CD_ovr hCD1 (a := a) (b := b) (by rw [hB1]; omega) (by rw [hB1]; omega) (by rw [hB1]; exact hja) (by rw [hB1]; exact hjb)
    rw [hB1] at hov0
    refine jx_aload_n C dX8_seam_32 rfl ?_
    refine jx_get (v := .inr (ad G 3)) C 2 ft_X8 (jcl_PJ G _) rfl (by decide) (by decide) wf_X8_26 dX8_seam_33 ?_
    refine jx_aload_n C dX8_seam_36 rfl ?_
    refine jx_get (v := .inr (ad G 2)) C 1 ft_X8 (jcl_PJ G _) rfl (by decide) (by decide) wf_X8_19 dX8_seam_37 ?_
    refine jx_get (v := .inr (ad G 5)) C 0 ft_X0 (jcl_AL G _) rfl (by decide) (by decide) wf_X8_58 dX8_seam_40 ?_
    refine jx_iload_n C dX8_seam_43 rfl ?_
    refine jx_aald (p' := a) (t0 := 1) C (jcl_5 G _) rfl (by decide) rfl (by omega) (by decide) dX8_seam_44 ?_
    refine jx_aload_n C dX8_seam_45 rfl ?_
    refine jx_get (v := .inr (ad G 2)) C 1 ft_X8 (jcl_PJ G _) rfl (by decide) (by decide) wf_X8_19 dX8_seam_46 ?_
    refine jx_get (v := .inr (ad G 5)) C 0 ft_X0 (jcl_AL G _) rfl (by decide) (by decide) wf_X8_58 dX8_seam_49 ?_
    refine jx_iload_n C dX8_seam_52 rfl ?_
    refine jx_aald (p' := b) (t0 := 1) C (jcl_5 G _) rfl (by decide) rfl (by omega) (by decide) dX8_seam_53 ?_
    refine jx_cVv (as := [.inr (ad G (10 + a)), .inr (ad G (10 + b))]) (st := []) C Yy (c_X3_find l G μ1 a b (by omega) (by omega) hR1) yb_X3_find yv_X3_find wm_X8_184 (jcl_OV G _) rfl (by decide) rfl rfl (Nat.le_of_ble_eq_true rfl) ⟨⟨rfl, rfl, Nat.le_of_ble_eq_true rfl, Nat.le_of_ble_eq_true rfl⟩, Nat.zero_le _, Nat.zero_le _⟩ dX8_seam_54 ?_
    intro μ2 hμ2
    have hR2 := hμ2.1
    have hov : (μ2 3 0, μ2 3 1, μ2 3 2, μ2 3 3) = bov (cB μ) a b := hμ2.2.1.trans hov0
    have ov0 : μ2 3 0 = (bov (cB μ) a b).1 := congrArg (fun z => z.1) hov
    have ov1 : μ2 3 1 = (bov (cB μ) a b).2.1 := congrArg (fun z => z.2.1) hov
    have ov2 : μ2 3 2 = (bov (cB μ) a b).2.2.1 := congrArg (fun z => z.2.2.1) hov
    have ov3 : μ2 3 3 = (bov (cB μ) a b).2.2.2 := congrArg (fun z => z.2.2.2) hov
    have hdA : ∀ x y, dgt (μ2 (14 + a) 2) (μ2 (14 + a) 3) (μ2 (18 + a)) (x - μ2 (10 + a) 2) (y - μ2 (10 + a) 3) = bda (cB μ) a x y := fun x y => by rw [← hB1]; exact CD_bda hCD1 hμ2.2.2 (by rw [hB1]; omega) (by rw [hB1]; exact hja) x y
    have hdB : ∀ x y, dgt (μ2 (14 + b) 2) (μ2 (14 + b) 3) (μ2 (18 + b)) (x - μ2 (10 + b) 2) (y - μ2 (10 + b) 3) = bda (cB μ) b x y := fun x y => by rw [← hB1]; exact CD_bda hCD1 hμ2.2.2 (by rw [hB1]; omega) (by rw [hB1]; exact hjb) x y
    have hrA := fun x y => bda_rng (cB_ok hR) (a := a) (by omega) x y
    have hrB := fun x y => bda_rng (cB_ok hR) (a := b) (by omega) x y
    refine jx_aload_n C dX8_seam_57 rfl ?_
    refine jx_get (v := .inr (ad G 3)) C 2 ft_X8 (jcl_PJ G _) rfl (by decide) (by decide) wf_X8_26 dX8_seam_58 ?_
    refine jx_cVi (as := []) (st := []) C Yy (c_X3_isThere l G μ2 hR2) yb_X3_isThere yv_X3_isThere wm_X8_204 (jcl_OV G _) rfl (by decide) rfl rfl (Nat.le_of_ble_eq_true rfl) ⟨⟨rfl, rfl, Nat.le_of_ble_eq_true rfl, Nat.le_of_ble_eq_true rfl⟩, Nat.zero_le _, Nat.zero_le _⟩ dX8_seam_61 ?_
    rintro _ _ ⟨rfl, ⟨rfl, c_61⟩ | ⟨rfl, c_61⟩⟩
    · refine jx_if_eq C dX8_seam_64 (by decide) (fun q => absurd q (by decide)) (fun _ => ?_)
      refine jx_iload_n C dX8_seam_67 rfl ?_
      refine jx_iconst C dX8_seam_68 ?_
      refine jx_aload_n C dX8_seam_69 rfl ?_
      refine jx_get (v := .inr (ad G 3)) C 2 ft_X8 (jcl_PJ G _) rfl (by decide) (by decide) wf_X8_26 dX8_seam_70 ?_
      refine jx_get (v := .inl (μ2 3 3)) C 3 ft_X3 (jcl_OV G _) rfl (by decide) (by decide) wf_X8_191 dX8_seam_73 ?_
      have r_73 := rg_OV_3 hR2
      refine jx_iconst C dX8_seam_76 ?_
      refine jx_isub C dX8_seam_77 ?_
      refine jx_cSi (as := [.inl t, .inl (-1), .inl (μ2 3 3 - 1)]) (st := []) C Yy (c_X8_within l G μ2 t (-1) (μ2 3 3 - 1) (by omega) (by omega) (by omega)) yb_X8_within ws_X8_within wm_X8_47 rfl rfl (Nat.le_of_ble_eq_true rfl) ⟨⟨rfl, rfl, Nat.le_of_ble_eq_true rfl, Nat.le_of_ble_eq_true rfl⟩, Nat.zero_le _, Nat.zero_le _⟩ dX8_seam_78 ?_
      rintro _ _ ⟨rfl, ⟨rfl, c_78⟩ | ⟨rfl, c_78⟩⟩
      · refine jx_if_ne C dX8_seam_81 (by decide) (fun _ => ?_) (fun q => absurd q (by decide))
        refine jx_aload_n C dX8_seam_87 rfl ?_
        refine jx_get (v := .inr (ad G 4)) C 3 ft_X8 (jcl_PJ G _) rfl (by decide) (by decide) wf_X8_33 dX8_seam_88 ?_
        refine jx_aload_n C dX8_seam_91 rfl ?_
        refine jx_get (v := .inr (ad G 3)) C 2 ft_X8 (jcl_PJ G _) rfl (by decide) (by decide) wf_X8_26 dX8_seam_92 ?_
        refine jx_aload_n C dX8_seam_95 rfl ?_
        refine jx_get (v := .inr (ad G 2)) C 1 ft_X8 (jcl_PJ G _) rfl (by decide) (by decide) wf_X8_19 dX8_seam_96 ?_
        refine jx_get (v := .inr (ad G 5)) C 0 ft_X0 (jcl_AL G _) rfl (by decide) (by decide) wf_X8_58 dX8_seam_99 ?_
        refine jx_iload_n C dX8_seam_102 rfl ?_
        refine jx_aald (p' := a) (t0 := 1) C (jcl_5 G _) rfl (by decide) rfl (by omega) (by decide) dX8_seam_103 ?_
        refine jx_aload_n C dX8_seam_104 rfl ?_
        refine jx_get (v := .inr (ad G 2)) C 1 ft_X8 (jcl_PJ G _) rfl (by decide) (by decide) wf_X8_19 dX8_seam_105 ?_
        refine jx_get (v := .inr (ad G 5)) C 0 ft_X0 (jcl_AL G _) rfl (by decide) (by decide) wf_X8_58 dX8_seam_108 ?_
        refine jx_iload_n C dX8_seam_111 rfl ?_
        refine jx_aald (p' := b) (t0 := 1) C (jcl_5 G _) rfl (by decide) rfl (by omega) (by decide) dX8_seam_112 ?_
        refine jx_cVv (as := [.inr (ad G 3), .inr (ad G (10 + a)), .inr (ad G (10 + b))]) (st := []) C Yy (c_X6_find l G μ2 a b (by omega) (by omega) (bda (cB μ) a) (bda (cB μ) b) hdA hdB hrA hrB (by omega) (by omega) hR2) yb_X6_find yv_X6_find wm_X8_207 (jcl_SE G _) rfl (by decide) rfl rfl (Nat.le_of_ble_eq_true rfl) ⟨⟨rfl, rfl, Nat.le_of_ble_eq_true rfl, Nat.le_of_ble_eq_true rfl⟩, Nat.zero_le _, Nat.zero_le _⟩ dX8_seam_113 ?_
        intro μ3 hμ3
        have hR3 := hμ3.1
        have hs0 := hμ3.2.1
        have hs1 := hμ3.2.2.1
        rw [ov0, ov1, ov2, ov3] at hs0 hs1
        refine jx_iload_n C dX8_seam_116 rfl ?_
        refine jx_iconst C dX8_seam_117 ?_
        refine jx_icmp_ne C dX8_seam_118 (by omega) (by decide) (fun c_118 => ?_) (fun c_118 => ?_)
        · refine jx_aload_n C dX8_seam_131 rfl ?_
          refine jx_get (v := .inr (ad G 4)) C 3 ft_X8 (jcl_PJ G _) rfl (by decide) (by decide) wf_X8_33 dX8_seam_132 ?_
          refine jx_get (v := .inr (ad G 9)) C 1 ft_X6 (jcl_SE G _) rfl (by decide) (by decide) wf_X8_213 dX8_seam_135 ?_
          refine jx_iload_n C dX8_seam_138 rfl ?_
          refine jx_iald C (jcl_9 G _) (by decide) (by omega) (by omega) (by decide) dX8_seam_139 ?_
          have r_139 := rg_9 hR3 t.toNat
          refine jx_top (b := ((scl (bou (cB μ) a b) (bov (cB μ) a b).2.2.1.toNat (bov (cB μ) a b).2.2.2.toNat t.toNat : Nat) : Int)) (hs1 t.toNat (by omega)) ?_
          exact jx_iret C dX8_seam_140 (AP_ov (μ1 := μ1) hμ1 hR3 (fun k h1 h2 h3 h4 => by rw [hμ3.2.2.2 k h2 h3 h4]; exact hμ2.2.2 k h1) (by rw [a_seam, if_neg (fun g => g c_26), if_neg (by simp only [Int.toNat_natCast]; omega), if_neg (by omega)]; first | done | rfl))
        · refine jx_aload_n C dX8_seam_121 rfl ?_
          refine jx_get (v := .inr (ad G 4)) C 3 ft_X8 (jcl_PJ G _) rfl (by decide) (by decide) wf_X8_33 dX8_seam_122 ?_
          refine jx_get (v := .inl (μ3 4 2)) C 2 ft_X6 (jcl_SE G _) rfl (by decide) (by decide) wf_X8_210 dX8_seam_125 ?_
          have r_125 := rg_SE_2 hR3
          refine jx_top (b := cso (bou (cB μ) a b) (bov (cB μ) a b).2.2.1.toNat (bov (cB μ) a b).2.2.2.toNat ((bov (cB μ) a b).2.2.2.toNat - 1) (scl (bou (cB μ) a b) (bov (cB μ) a b).2.2.1.toNat (bov (cB μ) a b).2.2.2.toNat 0)) hs0 ?_
          refine jx_goto C dX8_seam_128 ?_
          exact jx_iret C dX8_seam_140 (AP_ov (μ1 := μ1) hμ1 hR3 (fun k h1 h2 h3 h4 => by rw [hμ3.2.2.2 k h2 h3 h4]; exact hμ2.2.2 k h1) (by rw [a_seam, if_neg (fun g => g c_26), if_neg (by simp only [Int.toNat_natCast]; omega), if_pos (by omega)]; first | done | rfl))
      · refine jx_if_ne C dX8_seam_81 (by decide) (fun q => absurd q (by decide)) (fun _ => ?_)
        refine jx_bipush C dX8_seam_84 (by decide +kernel) ?_
        exact jx_iret C dX8_seam_86 (AP_ov (μ1 := μ1) hμ1 hR2 (fun k h1 h2 h3 h4 => hμ2.2.2 k h1) (by rw [a_seam, if_neg (fun g => g c_26), if_pos (by simp only [Int.toNat_natCast]; omega)]))
    · refine jx_if_eq C dX8_seam_64 (by decide) (fun _ => ?_) (fun q => absurd q (by decide))
      refine jx_bipush C dX8_seam_84 (by decide +kernel) ?_
      exact jx_iret C dX8_seam_86 (AP_ov (μ1 := μ1) hμ1 hR2 (fun k h1 h2 h3 h4 => hμ2.2.2 k h1) (by rw [a_seam, if_neg (fun g => g c_26), if_pos (by simp only [Int.toNat_natCast]; omega)]))
  · refine jx_iload C dX8_seam_29 rfl ?_
    exact jx_iret C dX8_seam_31 (AP_st hμ1 (by rw [a_seam, if_pos c_26]))
set_option maxHeartbeats 4000000 in
set_option maxRecDepth 100000 in
theorem c_X8_whole (l : Launch) (G : GT) (μ : Mem) (x y t : Int) (hx : InR x) (hy : InR y) (ht : InR t) (hCI : CI μ) (hR : rng μ) : MI l yX8_whole cX8_whole 5 .int ({ frames := 6, cells := 0, slots := 0, locals := 144 } : Room) G [.inr (ad G 0), .inl x, .inl y, .inl t] μ (AP μ (a_whole (cB μ) x y t) (cB μ) (μ 1 0)) := by
  refine MI.of (by decide +kernel) (Nat.le_of_ble_eq_true rfl) ?_
  intro F C Yy
  show jX F G 5 0 0 (jE F G (jQi G (AP μ (a_whole (cB μ) x y t) (cB μ) (μ 1 0)))) 0 [some (.inr (ad G 0)), some (.inl x), some (.inl y), some (.inl t), none] [] μ
  obtain ⟨hN, hN4⟩ := cB_N hR
  refine jx_iload_n C dX8_whole_0 rfl ?_
  refine jx_iconst C dX8_whole_1 ?_
  refine jx_iconst C dX8_whole_2 ?_
  refine jx_cSi (as := [.inl t, .inl 0, .inl 1]) (st := []) C Yy (c_X8_within l G μ t 0 1 (by omega) (by omega) (by omega)) yb_X8_within ws_X8_within wm_X8_47 rfl rfl (Nat.le_of_ble_eq_true rfl) ⟨⟨rfl, rfl, Nat.le_of_ble_eq_true rfl, Nat.le_of_ble_eq_true rfl⟩, Nat.zero_le _, Nat.zero_le _⟩ dX8_whole_3 ?_
  rintro _ _ ⟨rfl, ⟨rfl, c_3⟩ | ⟨rfl, c_3⟩⟩
  · refine jx_if_ne C dX8_whole_6 (by decide) (fun _ => ?_) (fun q => absurd q (by decide))
    refine jx_aload_n C dX8_whole_12 rfl ?_
    refine jx_get (v := .inr (ad G 2)) C 1 ft_X8 (jcl_PJ G _) rfl (by decide) (by decide) wf_X8_19 dX8_whole_13 ?_
    refine jx_aload_n C dX8_whole_16 rfl ?_
    refine jx_get (v := .inl (μ 0 4)) C 4 ft_X8 (jcl_PJ G _) rfl (by decide) (by decide) wf_X8_37 dX8_whole_17 ?_
    have r_17 := rg_PJ_4 hR
    refine jx_aload_n C dX8_whole_20 rfl ?_
    refine jx_get (v := .inl (μ 0 5)) C 5 ft_X8 (jcl_PJ G _) rfl (by decide) (by decide) wf_X8_41 dX8_whole_21 ?_
    have r_21 := rg_PJ_5 hR
    refine jx_cVv (as := [.inl (μ 0 4), .inl (μ 0 5)]) (st := []) C Yy (c_X0_settle l G μ (μ 0 4) (μ 0 5) (by omega) (by omega) hCI hR) yb_X0_settle yv_X0_settle wm_X8_102 (jcl_AL G _) rfl (by decide) rfl rfl (Nat.le_of_ble_eq_true rfl) ⟨⟨rfl, rfl, Nat.le_of_ble_eq_true rfl, Nat.le_of_ble_eq_true rfl⟩, Nat.zero_le _, Nat.zero_le _⟩ dX8_whole_24 ?_
    intro μ1 hμ1
    have hR1 := hμ1.1
    have hCD1 := hμ1.2.2.2.1
    have hB1 : cB μ1 = cB μ := hμ1.2.2.2.2.1
    refine jx_aload_n C dX8_whole_27 rfl ?_
    refine jx_get (v := .inr (ad G 2)) C 1 ft_X8 (jcl_PJ G _) rfl (by decide) (by decide) wf_X8_19 dX8_whole_28 ?_
    refine jx_iload_n C dX8_whole_31 rfl ?_
    refine jx_iload_n C dX8_whole_32 rfl ?_
    refine jx_cVi (as := [.inl x, .inl y]) (st := []) C Yy (c_X0_firstAt l G μ1 x y (by omega) (by omega) hCD1 hR1) yb_X0_firstAt yv_X0_firstAt wm_X8_214 (jcl_AL G _) rfl (by decide) rfl rfl (Nat.le_of_ble_eq_true rfl) ⟨⟨rfl, rfl, Nat.le_of_ble_eq_true rfl, Nat.le_of_ble_eq_true rfl⟩, Nat.zero_le _, Nat.zero_le _⟩ dX8_whole_33 ?_
    rintro _ _ ⟨rfl, rfl⟩
    have r_33 := fat_ok (cB μ1) x y
    rw [hB1] at r_33
    refine jx_top (b := fat (cB μ) x y) (by rw [hB1]) ?_
    refine jx_istore (L' := [some (.inr (ad G 0)), some (.inl x), some (.inl y), some (.inl t), some (.inl (fat (cB μ) x y))]) C dX8_whole_36 (by decide) rfl ?_
    refine jx_aload_n C dX8_whole_38 rfl ?_
    refine jx_iload C dX8_whole_39 rfl ?_
    refine jx_cVi (as := [.inl (fat (cB μ) x y)]) (st := []) C Yy (c_X8_isPicture l G μ1 (fat (cB μ) x y) (by omega) hR1) yb_X8_isPicture yv_X8_isPicture wm_X8_98 (jcl_PJ G _) rfl (by decide) rfl rfl (Nat.le_of_ble_eq_true rfl) ⟨⟨rfl, rfl, Nat.le_of_ble_eq_true rfl, Nat.le_of_ble_eq_true rfl⟩, Nat.zero_le _, Nat.zero_le _⟩ dX8_whole_41 ?_
    rintro _ _ ⟨rfl, ⟨rfl, c_41⟩ | ⟨rfl, c_41⟩⟩
    · rw [hB1] at c_41
      obtain ⟨p, hp⟩ := Int.eq_ofNat_of_zero_le c_41.1
      rw [hp] at r_33
      simp only [Int.toNat_natCast] at r_33
      refine jx_if_ne C dX8_whole_44 (by decide) (fun _ => ?_) (fun q => absurd q (by decide))
      refine jx_iload_n C dX8_whole_50 rfl ?_
      refine jx_if_ne C dX8_whole_51 (by omega) (fun c_51 => ?_) (fun c_51 => ?_)
      · refine jx_iload C dX8_whole_72 rfl ?_
        exact jx_iret C dX8_whole_74 (AP_st hμ1 (by rw [a_whole, if_neg (fun g => g c_3), if_neg (by omega), if_neg (by omega)]; first | done | rfl))
      · refine jx_aload_n C dX8_whole_54 rfl ?_
        refine jx_get (v := .inr (ad G 2)) C 1 ft_X8 (jcl_PJ G _) rfl (by decide) (by decide) wf_X8_19 dX8_whole_55 ?_
        refine jx_get (v := .inr (ad G 5)) C 0 ft_X0 (jcl_AL G _) rfl (by decide) (by decide) wf_X8_58 dX8_whole_58 ?_
        refine jx_iload C dX8_whole_61 rfl ?_
        refine jx_aald (p' := p) (t0 := 1) C (jcl_5 G _) rfl (by decide) hp (by omega) (by decide) dX8_whole_63 ?_
        refine jx_iload_n C dX8_whole_64 rfl ?_
        refine jx_iload_n C dX8_whole_65 rfl ?_
        refine jx_cVi (as := [.inl x, .inl y]) (st := []) C Yy (c_X5_dotAt l G μ1 p (by omega) x y (by omega) (by omega) hR1) yb_X5_dotAt yv_X5_dotAt wm_X8_217 (jcl_PI G (by omega) _) rfl (by omega) rfl rfl (Nat.le_of_ble_eq_true rfl) ⟨⟨rfl, rfl, Nat.le_of_ble_eq_true rfl, Nat.le_of_ble_eq_true rfl⟩, Nat.zero_le _, Nat.zero_le _⟩ dX8_whole_66 ?_
        rintro _ _ ⟨rfl, rfl⟩
        have r_66 := dgt_rng (W := μ1 (14 + p) 2) (H := μ1 (14 + p) 3) (v := μ1 (18 + p)) (fun t => rg_va hR1 (p := p) (by omega) t) (x - μ1 (10 + p) 2) (y - μ1 (10 + p) 3)
        refine jx_top (b := bdv (cB μ) x y p) (by rw [← hB1]; exact CD_dot hCD1 (by rw [hB1]; omega) (by rw [hB1]; omega) x y) ?_
        refine jx_goto C dX8_whole_69 ?_
        exact jx_iret C dX8_whole_74 (AP_st hμ1 (by rw [a_whole, if_neg (fun g => g c_3), if_neg (by omega), if_pos (by omega), hp, Int.toNat_natCast]; first | done | rfl))
    · rw [hB1] at c_41
      refine jx_if_ne C dX8_whole_44 (by decide) (fun q => absurd q (by decide)) (fun _ => ?_)
      refine jx_bipush C dX8_whole_47 (by decide +kernel) ?_
      exact jx_iret C dX8_whole_49 (AP_st hμ1 (by rw [a_whole, if_neg (fun g => g c_3), if_pos (by unfold isp at c_41; omega)]))
  · refine jx_if_ne C dX8_whole_6 (by decide) (fun q => absurd q (by decide)) (fun _ => ?_)
    refine jx_bipush C dX8_whole_9 (by decide +kernel) ?_
    exact jx_iret C dX8_whole_11 (AP_rd hR hCI (by rw [a_whole, if_pos c_3]))
set_option maxHeartbeats 4000000 in
set_option maxRecDepth 100000 in
theorem c_X8_extent (l : Launch) (G : GT) (μ : Mem) (t : Int) (ht : InR t) (hCI : CI μ) (hR : rng μ) : MI l yX8_extent cX8_extent 2 .int ({ frames := 6, cells := 0, slots := 0, locals := 144 } : Room) G [.inr (ad G 0), .inl t] μ (AP μ (a_extent (cB μ) t) (cB μ) (μ 1 0)) := by
  refine MI.of (by decide +kernel) (Nat.le_of_ble_eq_true rfl) ?_
  intro F C Yy
  show jX F G 2 0 0 (jE F G (jQi G (AP μ (a_extent (cB μ) t) (cB μ) (μ 1 0)))) 0 [some (.inr (ad G 0)), some (.inl t)] [] μ
  obtain ⟨hN, hN4⟩ := cB_N hR
  refine jx_iload_n C dX8_extent_0 rfl ?_
  refine jx_iconst C dX8_extent_1 ?_
  refine jx_iconst C dX8_extent_2 ?_
  refine jx_cSi (as := [.inl t, .inl 0, .inl 4]) (st := []) C Yy (c_X8_within l G μ t 0 4 (by omega) (by omega) (by omega)) yb_X8_within ws_X8_within wm_X8_47 rfl rfl (Nat.le_of_ble_eq_true rfl) ⟨⟨rfl, rfl, Nat.le_of_ble_eq_true rfl, Nat.le_of_ble_eq_true rfl⟩, Nat.zero_le _, Nat.zero_le _⟩ dX8_extent_3 ?_
  rintro _ _ ⟨rfl, ⟨rfl, c_3⟩ | ⟨rfl, c_3⟩⟩
  · refine jx_if_ne C dX8_extent_6 (by decide) (fun _ => ?_) (fun q => absurd q (by decide))
    refine jx_aload_n C dX8_extent_12 rfl ?_
    refine jx_get (v := .inr (ad G 2)) C 1 ft_X8 (jcl_PJ G _) rfl (by decide) (by decide) wf_X8_19 dX8_extent_13 ?_
    refine jx_get (v := .inl (μ 2 3)) C 3 ft_X0 (jcl_AL G _) rfl (by decide) (by decide) wf_X8_55 dX8_extent_16 ?_
    have r_16 := rg_AL_3 hR
    refine jx_if_ne C dX8_extent_19 (by omega) (fun c_19 => ?_) (fun c_19 => ?_)
    · refine jx_aload_n C dX8_extent_25 rfl ?_
      refine jx_get (v := .inr (ad G 2)) C 1 ft_X8 (jcl_PJ G _) rfl (by decide) (by decide) wf_X8_19 dX8_extent_26 ?_
      refine jx_aload_n C dX8_extent_29 rfl ?_
      refine jx_get (v := .inl (μ 0 4)) C 4 ft_X8 (jcl_PJ G _) rfl (by decide) (by decide) wf_X8_37 dX8_extent_30 ?_
      have r_30 := rg_PJ_4 hR
      refine jx_aload_n C dX8_extent_33 rfl ?_
      refine jx_get (v := .inl (μ 0 5)) C 5 ft_X8 (jcl_PJ G _) rfl (by decide) (by decide) wf_X8_41 dX8_extent_34 ?_
      have r_34 := rg_PJ_5 hR
      refine jx_cVv (as := [.inl (μ 0 4), .inl (μ 0 5)]) (st := []) C Yy (c_X0_settle l G μ (μ 0 4) (μ 0 5) (by omega) (by omega) hCI hR) yb_X0_settle yv_X0_settle wm_X8_102 (jcl_AL G _) rfl (by decide) rfl rfl (Nat.le_of_ble_eq_true rfl) ⟨⟨rfl, rfl, Nat.le_of_ble_eq_true rfl, Nat.le_of_ble_eq_true rfl⟩, Nat.zero_le _, Nat.zero_le _⟩ dX8_extent_37 ?_
      intro μ1 hμ1
      have hR1 := hμ1.1
      have hCD1 := hμ1.2.2.2.1
      have hB1 : cB μ1 = cB μ := hμ1.2.2.2.2.1
      refine jx_iload_n C dX8_extent_40 rfl ?_
      refine jx_iconst C dX8_extent_41 ?_
      refine jx_icmp_ne C dX8_extent_42 (by omega) (by decide) (fun c_42 => ?_) (fun c_42 => ?_)
      · refine jx_aload_n C dX8_extent_55 rfl ?_
        refine jx_get (v := .inr (ad G 2)) C 1 ft_X8 (jcl_PJ G _) rfl (by decide) (by decide) wf_X8_19 dX8_extent_56 ?_
        refine jx_iload_n C dX8_extent_59 rfl ?_
        refine jx_cVi (as := [.inl t]) (st := []) C Yy (c_X0_edge l G μ1 t (by omega) (by rw [hB1]; omega) hCD1 hR1) yb_X0_edge yv_X0_edge wm_X8_223 (jcl_AL G _) rfl (by decide) rfl rfl (Nat.le_of_ble_eq_true rfl) ⟨⟨rfl, rfl, Nat.le_of_ble_eq_true rfl, Nat.le_of_ble_eq_true rfl⟩, Nat.zero_le _, Nat.zero_le _⟩ dX8_extent_60 ?_
        rintro _ _ ⟨rfl, rfl⟩
        exact jx_iret C dX8_extent_63 (AP_st hμ1 (by rw [a_extent, if_neg (fun g => g c_3), if_neg (by omega), if_neg (by omega), hB1]))
      · refine jx_aload_n C dX8_extent_45 rfl ?_
        refine jx_get (v := .inr (ad G 2)) C 1 ft_X8 (jcl_PJ G _) rfl (by decide) (by decide) wf_X8_19 dX8_extent_46 ?_
        refine jx_cVi (as := []) (st := []) C Yy (c_X0_countPlaces l G μ1 hCD1 hR1) yb_X0_countPlaces yv_X0_countPlaces wm_X8_220 (jcl_AL G _) rfl (by decide) rfl rfl (Nat.le_of_ble_eq_true rfl) ⟨⟨rfl, rfl, Nat.le_of_ble_eq_true rfl, Nat.le_of_ble_eq_true rfl⟩, Nat.zero_le _, Nat.zero_le _⟩ dX8_extent_49 ?_
        rintro _ _ ⟨rfl, rfl⟩
        refine jx_goto C dX8_extent_52 ?_
        exact jx_iret C dX8_extent_63 (AP_st hμ1 (by rw [a_extent, if_neg (fun g => g c_3), if_neg (by omega), if_pos (by omega), hB1]))
    · refine jx_ldc C dX8_extent_22 wk_X8_147 (z := (-1000005)) (by decide +kernel) ?_
      exact jx_iret C dX8_extent_24 (AP_rd hR hCI (by rw [a_extent, if_neg (fun g => g c_3), if_pos (by omega)]))
  · refine jx_if_ne C dX8_extent_6 (by decide) (fun q => absurd q (by decide)) (fun _ => ?_)
    refine jx_ldc C dX8_extent_9 wk_X8_86 (z := (-1000002)) (by decide +kernel) ?_
    exact jx_iret C dX8_extent_11 (AP_rd hR hCI (by rw [a_extent, if_pos c_3]))
