set_option maxHeartbeats 4000000 in
set_option maxRecDepth 100000 in
theorem c_X8_isPicture (l : Launch) (G : GT) (μ : Mem) (u : Int) (hu : InR u) (hR : rng μ) : MI l yX8_isPicture cX8_isPicture 2 .boolean ({ frames := 1, cells := 0, slots := 0, locals := 22 } : Room) G [.inr (ad G 0), .inl u] μ (rdc μ (isp (cB μ) u)) := by
  refine MI.of (by decide +kernel) (Nat.le_of_ble_eq_true rfl) ?_
  intro F C Yy
  show jX F G 2 0 0 (jE F G (jQi G (rdc μ (isp (cB μ) u)))) 0 [some (.inr (ad G 0)), some (.inl u)] [] μ
  obtain ⟨hN, hN4⟩ := cB_N hR
  refine jx_iload_n C dX8_isPicture_0 rfl ?_
  refine jx_iconst C dX8_isPicture_1 ?_
  refine jx_aload_n C dX8_isPicture_2 rfl ?_
  refine jx_get (v := .inr (ad G 2)) C 1 ft_X8 (jcl_PJ G _) rfl (by decide) (by decide) wf_X8_19 dX8_isPicture_3 ?_
  refine jx_get (v := .inl (μ 2 3)) C 3 ft_X0 (jcl_AL G _) rfl (by decide) (by decide) wf_X8_55 dX8_isPicture_6 ?_
  have r_6 := rg_AL_3 hR
  refine jx_iconst C dX8_isPicture_9 ?_
  refine jx_isub C dX8_isPicture_10 ?_
  refine jx_cSi (as := [.inl u, .inl 0, .inl (μ 2 3 - 1)]) (st := []) C Yy (c_X8_within l G μ u 0 (μ 2 3 - 1) (by omega) (by omega) (by omega)) yb_X8_within ws_X8_within wm_X8_47 rfl rfl (Nat.le_of_ble_eq_true rfl) ⟨⟨rfl, rfl, Nat.le_of_ble_eq_true rfl, Nat.le_of_ble_eq_true rfl⟩, Nat.zero_le _, Nat.zero_le _⟩ dX8_isPicture_11 ?_
  rintro _ _ ⟨rfl, ⟨rfl, c_11⟩ | ⟨rfl, c_11⟩⟩
  · exact jx_zret C dX8_isPicture_14 (Or.inr rfl) ⟨rfl, Or.inl ⟨rfl, by omega⟩⟩
  · exact jx_zret C dX8_isPicture_14 (Or.inl rfl) ⟨rfl, Or.inr ⟨rfl, by omega⟩⟩
set_option maxHeartbeats 4000000 in
set_option maxRecDepth 100000 in
theorem c_X8_isDot (l : Launch) (G : GT) (μ : Mem) (u i j : Int) (hu : InR u) (hi : InR i) (hj : InR j) (hR : rng μ) : MI l yX8_isDot cX8_isDot 4 .boolean ({ frames := 2, cells := 0, slots := 0, locals := 43 } : Room) G [.inr (ad G 0), .inl u, .inl i, .inl j] μ (rdc μ (isd (cB μ) u i j)) := by
  refine MI.of (by decide +kernel) (Nat.le_of_ble_eq_true rfl) ?_
  intro F C Yy
  show jX F G 4 0 0 (jE F G (jQi G (rdc μ (isd (cB μ) u i j)))) 0 [some (.inr (ad G 0)), some (.inl u), some (.inl i), some (.inl j)] [] μ
  obtain ⟨hN, hN4⟩ := cB_N hR
  refine jx_aload_n C dX8_isDot_0 rfl ?_
  refine jx_iload_n C dX8_isDot_1 rfl ?_
  refine jx_cVi (as := [.inl u]) (st := []) C Yy (c_X8_isPicture l G μ u (by omega) hR) yb_X8_isPicture yv_X8_isPicture wm_X8_98 (jcl_PJ G _) rfl (by decide) rfl rfl (Nat.le_of_ble_eq_true rfl) ⟨⟨rfl, rfl, Nat.le_of_ble_eq_true rfl, Nat.le_of_ble_eq_true rfl⟩, Nat.zero_le _, Nat.zero_le _⟩ dX8_isDot_2 ?_
  rintro _ _ ⟨rfl, ⟨rfl, c_2⟩ | ⟨rfl, c_2⟩⟩
  · obtain ⟨p, rfl⟩ := Int.eq_ofNat_of_zero_le c_2.1
    have eW := cB_W (μ := μ) (p := p) (by omega)
    have eH := cB_H (μ := μ) (p := p) (by omega)
    refine jx_if_eq C dX8_isDot_5 (by decide) (fun q => absurd q (by decide)) (fun _ => ?_)
    refine jx_aload_n C dX8_isDot_8 rfl ?_
    refine jx_get (v := .inr (ad G 2)) C 1 ft_X8 (jcl_PJ G _) rfl (by decide) (by decide) wf_X8_19 dX8_isDot_9 ?_
    refine jx_get (v := .inr (ad G 5)) C 0 ft_X0 (jcl_AL G _) rfl (by decide) (by decide) wf_X8_58 dX8_isDot_12 ?_
    refine jx_iload_n C dX8_isDot_15 rfl ?_
    refine jx_aald (p' := p) (t0 := 1) C (jcl_5 G _) rfl (by decide) rfl (by omega) (by decide) dX8_isDot_16 ?_
    refine jx_get (v := .inr (ad G (14 + p))) C 0 ft_X5 (jcl_PI G (by omega) _) rfl (by decide) (by omega) wf_X8_62 dX8_isDot_17 ?_
    refine jx_iload_n C dX8_isDot_20 rfl ?_
    refine jx_iload_n C dX8_isDot_21 rfl ?_
    refine jx_cVi (as := [.inl i, .inl j]) (st := []) C Yy (c_X1_has l G μ p (by omega) i j (by omega) (by omega) hR) yb_X1_has yv_X1_has wm_X8_227 (jcl_DO G (by omega) _) rfl (by omega) rfl rfl (Nat.le_of_ble_eq_true rfl) ⟨⟨rfl, rfl, Nat.le_of_ble_eq_true rfl, Nat.le_of_ble_eq_true rfl⟩, Nat.zero_le _, Nat.zero_le _⟩ dX8_isDot_22 ?_
    rintro _ _ ⟨rfl, ⟨rfl, c_22⟩ | ⟨rfl, c_22⟩⟩
    · refine jx_if_eq C dX8_isDot_25 (by decide) (fun q => absurd q (by decide)) (fun _ => ?_)
      refine jx_iconst C dX8_isDot_28 ?_
      refine jx_goto C dX8_isDot_29 ?_
      exact jx_zret C dX8_isDot_33 (Or.inr rfl) ⟨rfl, Or.inl ⟨rfl, by (unfold isd; simp only [Int.toNat_natCast]; omega)⟩⟩
    · refine jx_if_eq C dX8_isDot_25 (by decide) (fun _ => ?_) (fun q => absurd q (by decide))
      refine jx_iconst C dX8_isDot_32 ?_
      exact jx_zret C dX8_isDot_33 (Or.inl rfl) ⟨rfl, Or.inr ⟨rfl, by (unfold isd; simp only [Int.toNat_natCast]; omega)⟩⟩
  · refine jx_if_eq C dX8_isDot_5 (by decide) (fun _ => ?_) (fun q => absurd q (by decide)); refine jx_iconst C dX8_isDot_32 ?_; exact jx_zret C dX8_isDot_33 (Or.inl rfl) ⟨rfl, Or.inr ⟨rfl, fun g => c_2 g.1⟩⟩
set_option maxHeartbeats 4000000 in
set_option maxRecDepth 100000 in
theorem c_X8_isMark (l : Launch) (G : GT) (μ : Mem) (u m : Int) (hu : InR u) (hm : InR m) (hCD : CD μ) (hR : rng μ) : MI l yX8_isMark cX8_isMark 3 .boolean ({ frames := 2, cells := 0, slots := 0, locals := 43 } : Room) G [.inr (ad G 0), .inl u, .inl m] μ (rdc μ (ism (cB μ) u m)) := by
  refine MI.of (by decide +kernel) (Nat.le_of_ble_eq_true rfl) ?_
  intro F C Yy
  show jX F G 3 0 0 (jE F G (jQi G (rdc μ (ism (cB μ) u m)))) 0 [some (.inr (ad G 0)), some (.inl u), some (.inl m)] [] μ
  obtain ⟨hN, hN4⟩ := cB_N hR
  refine jx_aload_n C dX8_isMark_0 rfl ?_
  refine jx_iload_n C dX8_isMark_1 rfl ?_
  refine jx_cVi (as := [.inl u]) (st := []) C Yy (c_X8_isPicture l G μ u (by omega) hR) yb_X8_isPicture yv_X8_isPicture wm_X8_98 (jcl_PJ G _) rfl (by decide) rfl rfl (Nat.le_of_ble_eq_true rfl) ⟨⟨rfl, rfl, Nat.le_of_ble_eq_true rfl, Nat.le_of_ble_eq_true rfl⟩, Nat.zero_le _, Nat.zero_le _⟩ dX8_isMark_2 ?_
  rintro _ _ ⟨rfl, ⟨rfl, c_2⟩ | ⟨rfl, c_2⟩⟩
  · obtain ⟨p, rfl⟩ := Int.eq_ofNat_of_zero_le c_2.1
    have hmk := (hCD.1 p (by omega)).1
    refine jx_if_eq C dX8_isMark_5 (by decide) (fun q => absurd q (by decide)) (fun _ => ?_)
    refine jx_iload_n C dX8_isMark_8 rfl ?_
    refine jx_iconst C dX8_isMark_9 ?_
    refine jx_aload_n C dX8_isMark_10 rfl ?_
    refine jx_get (v := .inr (ad G 2)) C 1 ft_X8 (jcl_PJ G _) rfl (by decide) (by decide) wf_X8_19 dX8_isMark_11 ?_
    refine jx_get (v := .inr (ad G 5)) C 0 ft_X0 (jcl_AL G _) rfl (by decide) (by decide) wf_X8_58 dX8_isMark_14 ?_
    refine jx_iload_n C dX8_isMark_17 rfl ?_
    refine jx_aald (p' := p) (t0 := 1) C (jcl_5 G _) rfl (by decide) rfl (by omega) (by decide) dX8_isMark_18 ?_
    refine jx_get (v := .inr (ad G (26 + p))) C 1 ft_X5 (jcl_PI G (by omega) _) rfl (by decide) (by omega) wf_X8_105 dX8_isMark_19 ?_
    refine jx_get (v := .inl (μ (26 + p) 4)) C 4 ft_X2 (jcl_MA G (by omega) _) rfl (by decide) (by omega) wf_X8_109 dX8_isMark_22 ?_
    have r_22 := rg_MA_4 hR (p := p) (by omega)
    refine jx_top (b := ((bmk (cB μ) p).1 : Int)) hmk.2.1 ?_
    have h16 := hmk.1
    refine jx_iconst C dX8_isMark_25 ?_
    refine jx_isub C dX8_isMark_26 ?_
    refine jx_cSi (as := [.inl m, .inl 0, .inl (((bmk (cB μ) p).1 : Int) - 1)]) (st := []) C Yy (c_X8_within l G μ m 0 (((bmk (cB μ) p).1 : Int) - 1) (by omega) (by omega) (by omega)) yb_X8_within ws_X8_within wm_X8_47 rfl rfl (Nat.le_of_ble_eq_true rfl) ⟨⟨rfl, rfl, Nat.le_of_ble_eq_true rfl, Nat.le_of_ble_eq_true rfl⟩, Nat.zero_le _, Nat.zero_le _⟩ dX8_isMark_27 ?_
    rintro _ _ ⟨rfl, ⟨rfl, c_27⟩ | ⟨rfl, c_27⟩⟩
    · refine jx_if_eq C dX8_isMark_30 (by decide) (fun q => absurd q (by decide)) (fun _ => ?_)
      refine jx_iconst C dX8_isMark_33 ?_
      refine jx_goto C dX8_isMark_34 ?_
      exact jx_zret C dX8_isMark_38 (Or.inr rfl) ⟨rfl, Or.inl ⟨rfl, by (unfold ism; simp only [Int.toNat_natCast]; omega)⟩⟩
    · refine jx_if_eq C dX8_isMark_30 (by decide) (fun _ => ?_) (fun q => absurd q (by decide))
      refine jx_iconst C dX8_isMark_37 ?_
      exact jx_zret C dX8_isMark_38 (Or.inl rfl) ⟨rfl, Or.inr ⟨rfl, by (unfold ism; simp only [Int.toNat_natCast]; omega)⟩⟩
  · refine jx_if_eq C dX8_isMark_5 (by decide) (fun _ => ?_) (fun q => absurd q (by decide)); refine jx_iconst C dX8_isMark_37 ?_; exact jx_zret C dX8_isMark_38 (Or.inl rfl) ⟨rfl, Or.inr ⟨rfl, fun g => c_2 g.1⟩⟩
set_option maxHeartbeats 4000000 in
set_option maxRecDepth 100000 in
theorem c_X8_areTwo (l : Launch) (G : GT) (μ : Mem) (u w : Int) (hu : InR u) (hw : InR w) (hR : rng μ) : MI l yX8_areTwo cX8_areTwo 3 .boolean ({ frames := 2, cells := 0, slots := 0, locals := 43 } : Room) G [.inr (ad G 0), .inl u, .inl w] μ (rdc μ (two (cB μ) u w)) := by
  refine MI.of (by decide +kernel) (Nat.le_of_ble_eq_true rfl) ?_
  intro F C Yy
  show jX F G 3 0 0 (jE F G (jQi G (rdc μ (two (cB μ) u w)))) 0 [some (.inr (ad G 0)), some (.inl u), some (.inl w)] [] μ
  obtain ⟨hN, hN4⟩ := cB_N hR
  refine jx_aload_n C dX8_areTwo_0 rfl ?_
  refine jx_iload_n C dX8_areTwo_1 rfl ?_
  refine jx_cVi (as := [.inl u]) (st := []) C Yy (c_X8_isPicture l G μ u (by omega) hR) yb_X8_isPicture yv_X8_isPicture wm_X8_98 (jcl_PJ G _) rfl (by decide) rfl rfl (Nat.le_of_ble_eq_true rfl) ⟨⟨rfl, rfl, Nat.le_of_ble_eq_true rfl, Nat.le_of_ble_eq_true rfl⟩, Nat.zero_le _, Nat.zero_le _⟩ dX8_areTwo_2 ?_
  rintro _ _ ⟨rfl, ⟨rfl, c_2⟩ | ⟨rfl, c_2⟩⟩
  · refine jx_if_eq C dX8_areTwo_5 (by decide) (fun q => absurd q (by decide)) (fun _ => ?_)
    refine jx_aload_n C dX8_areTwo_8 rfl ?_
    refine jx_iload_n C dX8_areTwo_9 rfl ?_
    refine jx_cVi (as := [.inl w]) (st := []) C Yy (c_X8_isPicture l G μ w (by omega) hR) yb_X8_isPicture yv_X8_isPicture wm_X8_98 (jcl_PJ G _) rfl (by decide) rfl rfl (Nat.le_of_ble_eq_true rfl) ⟨⟨rfl, rfl, Nat.le_of_ble_eq_true rfl, Nat.le_of_ble_eq_true rfl⟩, Nat.zero_le _, Nat.zero_le _⟩ dX8_areTwo_10 ?_
    rintro _ _ ⟨rfl, ⟨rfl, c_10⟩ | ⟨rfl, c_10⟩⟩
    · refine jx_if_eq C dX8_areTwo_13 (by decide) (fun q => absurd q (by decide)) (fun _ => ?_)
      refine jx_iload_n C dX8_areTwo_16 rfl ?_
      refine jx_iload_n C dX8_areTwo_17 rfl ?_
      refine jx_icmp_eq C dX8_areTwo_18 (by omega) (by omega) (fun c_18 => ?_) (fun c_18 => ?_)
      · refine jx_iconst C dX8_areTwo_25 ?_
        exact jx_zret C dX8_areTwo_26 (Or.inl rfl) ⟨rfl, Or.inr ⟨rfl, by omega⟩⟩
      · refine jx_iconst C dX8_areTwo_21 ?_
        refine jx_goto C dX8_areTwo_22 ?_
        exact jx_zret C dX8_areTwo_26 (Or.inr rfl) ⟨rfl, Or.inl ⟨rfl, by omega⟩⟩
    · refine jx_if_eq C dX8_areTwo_13 (by decide) (fun _ => ?_) (fun q => absurd q (by decide))
      refine jx_iconst C dX8_areTwo_25 ?_
      exact jx_zret C dX8_areTwo_26 (Or.inl rfl) ⟨rfl, Or.inr ⟨rfl, by omega⟩⟩
  · refine jx_if_eq C dX8_areTwo_5 (by decide) (fun _ => ?_) (fun q => absurd q (by decide))
    refine jx_iconst C dX8_areTwo_25 ?_
    exact jx_zret C dX8_areTwo_26 (Or.inl rfl) ⟨rfl, Or.inr ⟨rfl, by omega⟩⟩
set_option maxHeartbeats 4000000 in
set_option maxRecDepth 100000 in
theorem c_X8_refusalOfTwo (l : Launch) (G : GT) (μ : Mem) (u w f : Int) (hu : InR u) (hw : InR w) (hf : f = 0 ∨ f = 1) (hCD : CD μ) (hR : rng μ) : MI l yX8_refusalOfTwo cX8_refusalOfTwo 4 .int ({ frames := 3, cells := 0, slots := 0, locals := 65 } : Room) G [.inr (ad G 0), .inl u, .inl w, .inl f] μ (rdq μ (rof (cB μ) u w (f = 1))) := by
  refine MI.of (by decide +kernel) (Nat.le_of_ble_eq_true rfl) ?_
  intro F C Yy
  show jX F G 4 0 0 (jE F G (jQi G (rdq μ (rof (cB μ) u w (f = 1))))) 0 [some (.inr (ad G 0)), some (.inl u), some (.inl w), some (.inl f)] [] μ
  obtain ⟨hN, hN4⟩ := cB_N hR
  refine jx_aload_n C dX8_refusalOfTwo_0 rfl ?_
  refine jx_iload_n C dX8_refusalOfTwo_1 rfl ?_
  refine jx_iload_n C dX8_refusalOfTwo_2 rfl ?_
  refine jx_cVi (as := [.inl u, .inl w]) (st := []) C Yy (c_X8_areTwo l G μ u w (by omega) (by omega) hR) yb_X8_areTwo yv_X8_areTwo wm_X8_129 (jcl_PJ G _) rfl (by decide) rfl rfl (Nat.le_of_ble_eq_true rfl) ⟨⟨rfl, rfl, Nat.le_of_ble_eq_true rfl, Nat.le_of_ble_eq_true rfl⟩, Nat.zero_le _, Nat.zero_le _⟩ dX8_refusalOfTwo_3 ?_
  rintro _ _ ⟨rfl, ⟨rfl, c_3⟩ | ⟨rfl, c_3⟩⟩
  · obtain ⟨a, rfl⟩ := Int.eq_ofNat_of_zero_le c_3.1.1
    obtain ⟨b, rfl⟩ := Int.eq_ofNat_of_zero_le c_3.2.1.1
    have pA := CD_pic hCD (p := a) (by omega)
    have pB := CD_pic hCD (p := b) (by omega)
    refine jx_if_ne C dX8_refusalOfTwo_6 (by decide) (fun _ => ?_) (fun q => absurd q (by decide))
    refine jx_iload_n C dX8_refusalOfTwo_11 rfl ?_
    refine jx_if_ne C dX8_refusalOfTwo_12 (by omega) (fun c_12 => ?_) (fun c_12 => ?_)
    · refine jx_aload_n C dX8_refusalOfTwo_18 rfl ?_
      refine jx_get (v := .inr (ad G 2)) C 1 ft_X8 (jcl_PJ G _) rfl (by decide) (by decide) wf_X8_19 dX8_refusalOfTwo_19 ?_
      refine jx_get (v := .inr (ad G 5)) C 0 ft_X0 (jcl_AL G _) rfl (by decide) (by decide) wf_X8_58 dX8_refusalOfTwo_22 ?_
      refine jx_iload_n C dX8_refusalOfTwo_25 rfl ?_
      refine jx_aald (p' := a) (t0 := 1) C (jcl_5 G _) rfl (by decide) rfl (by omega) (by decide) dX8_refusalOfTwo_26 ?_
      refine jx_cVi (as := []) (st := []) C Yy (c_X5_isJoined l G μ a (by omega) hR) yb_X5_isJoined yv_X5_isJoined wm_X8_160 (jcl_PI G (by omega) _) rfl (by omega) rfl rfl (Nat.le_of_ble_eq_true rfl) ⟨⟨rfl, rfl, Nat.le_of_ble_eq_true rfl, Nat.le_of_ble_eq_true rfl⟩, Nat.zero_le _, Nat.zero_le _⟩ dX8_refusalOfTwo_27 ?_
      rintro _ _ ⟨rfl, ⟨rfl, c_27⟩ | ⟨rfl, c_27⟩⟩
      · refine jx_if_eq C dX8_refusalOfTwo_30 (by decide) (fun q => absurd q (by decide)) (fun _ => ?_)
        refine jx_aload_n C dX8_refusalOfTwo_33 rfl ?_
        refine jx_get (v := .inr (ad G 2)) C 1 ft_X8 (jcl_PJ G _) rfl (by decide) (by decide) wf_X8_19 dX8_refusalOfTwo_34 ?_
        refine jx_get (v := .inr (ad G 5)) C 0 ft_X0 (jcl_AL G _) rfl (by decide) (by decide) wf_X8_58 dX8_refusalOfTwo_37 ?_
        refine jx_iload_n C dX8_refusalOfTwo_40 rfl ?_
        refine jx_aald (p' := b) (t0 := 1) C (jcl_5 G _) rfl (by decide) rfl (by omega) (by decide) dX8_refusalOfTwo_41 ?_
        refine jx_cVi (as := []) (st := []) C Yy (c_X5_isJoined l G μ b (by omega) hR) yb_X5_isJoined yv_X5_isJoined wm_X8_160 (jcl_PI G (by omega) _) rfl (by omega) rfl rfl (Nat.le_of_ble_eq_true rfl) ⟨⟨rfl, rfl, Nat.le_of_ble_eq_true rfl, Nat.le_of_ble_eq_true rfl⟩, Nat.zero_le _, Nat.zero_le _⟩ dX8_refusalOfTwo_42 ?_
        rintro _ _ ⟨rfl, ⟨rfl, c_42⟩ | ⟨rfl, c_42⟩⟩
        · refine jx_if_eq C dX8_refusalOfTwo_45 (by decide) (fun q => absurd q (by decide)) (fun _ => ?_)
          refine jx_iconst C dX8_refusalOfTwo_48 ?_
          refine jx_goto C dX8_refusalOfTwo_49 ?_
          exact jx_iret C dX8_refusalOfTwo_54 ⟨by rw [rof, if_neg (fun q => q c_3), if_neg (by omega), if_neg (by simp only [Int.toNat_natCast]; omega)], rfl⟩
        · refine jx_if_eq C dX8_refusalOfTwo_45 (by decide) (fun _ => ?_) (fun q => absurd q (by decide))
          refine jx_bipush C dX8_refusalOfTwo_52 (by decide +kernel) ?_
          exact jx_iret C dX8_refusalOfTwo_54 ⟨by rw [rof, if_neg (fun q => q c_3), if_neg (by omega), if_pos (by simp only [Int.toNat_natCast]; omega)], rfl⟩
      · refine jx_if_eq C dX8_refusalOfTwo_30 (by decide) (fun _ => ?_) (fun q => absurd q (by decide))
        refine jx_bipush C dX8_refusalOfTwo_52 (by decide +kernel) ?_
        exact jx_iret C dX8_refusalOfTwo_54 ⟨by rw [rof, if_neg (fun q => q c_3), if_neg (by omega), if_pos (by simp only [Int.toNat_natCast]; omega)], rfl⟩
    · refine jx_bipush C dX8_refusalOfTwo_15 (by decide +kernel) ?_
      exact jx_iret C dX8_refusalOfTwo_17 ⟨by rw [rof, if_neg (fun q => q c_3), if_pos (by omega)], rfl⟩
  · refine jx_if_ne C dX8_refusalOfTwo_6 (by decide) (fun q => absurd q (by decide)) (fun _ => ?_)
    refine jx_iconst C dX8_refusalOfTwo_9 ?_
    exact jx_iret C dX8_refusalOfTwo_10 ⟨by rw [rof, if_pos c_3], rfl⟩
set_option maxHeartbeats 4000000 in
set_option maxRecDepth 100000 in
theorem c_X8_seed (l : Launch) (G : GT) (μ : Mem) (u : Int) (hu : InR u) (hCI : CI μ) (hR : rng μ) : MI l yX8_seed cX8_seed 3 .int ({ frames := 0, cells := 0, slots := 0, locals := 0 } : Room) G [.inr (ad G 0), .inl u] μ (AP μ (μ 1 0) (cB μ) u) := by
  refine MI.of (by decide +kernel) (Nat.le_of_ble_eq_true rfl) ?_
  intro F C Yy
  show jX F G 3 0 0 (jE F G (jQi G (AP μ (μ 1 0) (cB μ) u))) 0 [some (.inr (ad G 0)), some (.inl u), none] [] μ
  obtain ⟨hN, hN4⟩ := cB_N hR
  refine jx_aload_n C dX8_seed_0 rfl ?_
  refine jx_get (v := .inr (ad G 1)) C 0 ft_X8 (jcl_PJ G _) rfl (by decide) (by decide) wf_X8_12 dX8_seed_1 ?_
  refine jx_get (v := .inl (μ 1 0)) C 0 ft_X7 (jcl_WO G _) rfl (by decide) (by decide) wf_X8_44 dX8_seed_4 ?_
  have r_4 := rg_WO_0 hR
  refine jx_istore_n (L' := [some (.inr (ad G 0)), some (.inl u), some (.inl (μ 1 0))]) C dX8_seed_7 (by decide) rfl ?_
  refine jx_aload_n C dX8_seed_8 rfl ?_
  refine jx_get (v := .inr (ad G 1)) C 0 ft_X8 (jcl_PJ G _) rfl (by decide) (by decide) wf_X8_12 dX8_seed_9 ?_
  refine jx_iload_n C dX8_seed_12 rfl ?_
  refine jx_put C 0 ft_X7 (jcl_WO G _) ((jcl_WO G _).trans rfl) (by decide) (by decide) rfl (Or.inl rfl) (by simp) wf_X8_44 dX8_seed_13 ?_
  obtain ⟨μ1, eμ1⟩ : ∃ y_ : Mem, y_ = jms μ 1 0 u := ⟨_, rfl⟩
  rw [← eμ1]
  have hR1 : rng μ1 := by rw [eμ1]; exact rs_WO_0 hR (by omega) (by omega)
  refine jx_iload_n C dX8_seed_16 rfl ?_
  exact jx_iret C dX8_seed_17 ⟨rfl, hR1, (CDI_fr (μ' := μ1) hR (fun k _ h1 _ _ _ _ => by rw [eμ1, jms_cell _ _ _ _ h1])).2.1 hCI, (CDI_fr (μ' := μ1) hR (fun k _ h1 _ _ _ _ => by rw [eμ1, jms_cell _ _ _ _ h1])).1, by rw [eμ1, jms_same], fun k hk => by rw [eμ1, jms_cell _ _ _ _ (by omega)]⟩
set_option maxHeartbeats 4000000 in
set_option maxRecDepth 100000 in
theorem c_X8_light (l : Launch) (G : GT) (μ : Mem) (u w : Int) (hu : InR u) (hw : InR w) (hCI : CI μ) (hR : rng μ) : MI l yX8_light cX8_light 4 .int ({ frames := 1, cells := 0, slots := 0, locals := 23 } : Room) G [.inr (ad G 0), .inl u, .inl w] μ (AP μ (a_light (μ 1 0) u w) (cB μ) (μ 1 0)) := by
  refine MI.of (by decide +kernel) (Nat.le_of_ble_eq_true rfl) ?_
  intro F C Yy
  show jX F G 4 0 0 (jE F G (jQi G (AP μ (a_light (μ 1 0) u w) (cB μ) (μ 1 0)))) 0 [some (.inr (ad G 0)), some (.inl u), some (.inl w), none] [] μ
  obtain ⟨hN, hN4⟩ := cB_N hR
  refine jx_iload_n C dX8_light_0 rfl ?_
  refine jx_iconst C dX8_light_1 ?_
  refine jx_sipush C dX8_light_2 (by decide +kernel) ?_
  refine jx_cSi (as := [.inl u, .inl 0, .inl 2000]) (st := []) C Yy (c_X8_within l G μ u 0 2000 (by omega) (by omega) (by omega)) yb_X8_within ws_X8_within wm_X8_47 rfl rfl (Nat.le_of_ble_eq_true rfl) ⟨⟨rfl, rfl, Nat.le_of_ble_eq_true rfl, Nat.le_of_ble_eq_true rfl⟩, Nat.zero_le _, Nat.zero_le _⟩ dX8_light_5 ?_
  rintro _ _ ⟨rfl, ⟨rfl, c_5⟩ | ⟨rfl, c_5⟩⟩
  · refine jx_if_eq C dX8_light_8 (by decide) (fun q => absurd q (by decide)) (fun _ => ?_)
    refine jx_iload_n C dX8_light_11 rfl ?_
    refine jx_iconst C dX8_light_12 ?_
    refine jx_sipush C dX8_light_13 (by decide +kernel) ?_
    refine jx_cSi (as := [.inl w, .inl 0, .inl 2000]) (st := []) C Yy (c_X8_within l G μ w 0 2000 (by omega) (by omega) (by omega)) yb_X8_within ws_X8_within wm_X8_47 rfl rfl (Nat.le_of_ble_eq_true rfl) ⟨⟨rfl, rfl, Nat.le_of_ble_eq_true rfl, Nat.le_of_ble_eq_true rfl⟩, Nat.zero_le _, Nat.zero_le _⟩ dX8_light_16 ?_
    rintro _ _ ⟨rfl, ⟨rfl, c_16⟩ | ⟨rfl, c_16⟩⟩
    · refine jx_if_eq C dX8_light_19 (by decide) (fun q => absurd q (by decide)) (fun _ => ?_)
      refine jx_iconst C dX8_light_22 ?_
      refine jx_goto C dX8_light_23 ?_
      refine jx_istore_n (L' := [some (.inr (ad G 0)), some (.inl u), some (.inl w), some (.inl 1)]) C dX8_light_27 (by decide) rfl ?_
      refine jx_iload_n C dX8_light_28 rfl ?_
      refine jx_if_eq C dX8_light_29 (by decide) (fun q => absurd q (by decide)) (fun _ => ?_)
      refine jx_aload_n C dX8_light_32 rfl ?_
      refine jx_get (v := .inr (ad G 1)) C 0 ft_X8 (jcl_PJ G _) rfl (by decide) (by decide) wf_X8_12 dX8_light_33 ?_
      refine jx_iload_n C dX8_light_36 rfl ?_
      refine jx_iload_n C dX8_light_37 rfl ?_
      refine jx_cVi (as := [.inl u, .inl w]) (st := []) C Yy (c_X7_lightAt l G μ u w (by omega) (by omega) hR) yb_X7_lightAt yv_X7_lightAt wm_X8_51 (jcl_WO G _) rfl (by decide) rfl rfl (Nat.le_of_ble_eq_true rfl) ⟨⟨rfl, rfl, Nat.le_of_ble_eq_true rfl, Nat.le_of_ble_eq_true rfl⟩, Nat.zero_le _, Nat.zero_le _⟩ dX8_light_38 ?_
      rintro _ _ ⟨rfl, rfl⟩
      have r_38 := lgt_rng (μ 1 0) u w
      refine jx_goto C dX8_light_41 ?_
      exact jx_iret C dX8_light_46 (AP_rd hR hCI (if_pos (by omega)))
    · refine jx_if_eq C dX8_light_19 (by decide) (fun _ => ?_) (fun q => absurd q (by decide))
      refine jx_iconst C dX8_light_26 ?_
      refine jx_istore_n (L' := [some (.inr (ad G 0)), some (.inl u), some (.inl w), some (.inl 0)]) C dX8_light_27 (by decide) rfl ?_
      refine jx_iload_n C dX8_light_28 rfl ?_
      refine jx_if_eq C dX8_light_29 (by decide) (fun _ => ?_) (fun q => absurd q (by decide))
      refine jx_bipush C dX8_light_44 (by decide +kernel) ?_
      exact jx_iret C dX8_light_46 (AP_rd hR hCI (if_neg (by omega)))
  · refine jx_if_eq C dX8_light_8 (by decide) (fun _ => ?_) (fun q => absurd q (by decide))
    refine jx_iconst C dX8_light_26 ?_
    refine jx_istore_n (L' := [some (.inr (ad G 0)), some (.inl u), some (.inl w), some (.inl 0)]) C dX8_light_27 (by decide) rfl ?_
    refine jx_iload_n C dX8_light_28 rfl ?_
    refine jx_if_eq C dX8_light_29 (by decide) (fun _ => ?_) (fun q => absurd q (by decide))
    refine jx_bipush C dX8_light_44 (by decide +kernel) ?_
    exact jx_iret C dX8_light_46 (AP_rd hR hCI (if_neg (by omega)))
set_option maxHeartbeats 4000000 in
set_option maxRecDepth 100000 in
theorem c_X8_clear (l : Launch) (G : GT) (μ : Mem)  (hCI : CI μ) (hR : rng μ) : MI l yX8_clear cX8_clear 2 .int ({ frames := 0, cells := 0, slots := 0, locals := 0 } : Room) G [.inr (ad G 0)] μ (AP μ ((bN (cB μ) : Int)) (b_clear (cB μ)) (μ 1 0)) := by
  refine MI.of (by decide +kernel) (Nat.le_of_ble_eq_true rfl) ?_
  intro F C Yy
  show jX F G 2 0 0 (jE F G (jQi G (AP μ ((bN (cB μ) : Int)) (b_clear (cB μ)) (μ 1 0)))) 0 [some (.inr (ad G 0)), none] [] μ
  obtain ⟨hN, hN4⟩ := cB_N hR
  refine jx_aload_n C dX8_clear_0 rfl ?_
  refine jx_get (v := .inr (ad G 2)) C 1 ft_X8 (jcl_PJ G _) rfl (by decide) (by decide) wf_X8_19 dX8_clear_1 ?_
  refine jx_get (v := .inl (μ 2 3)) C 3 ft_X0 (jcl_AL G _) rfl (by decide) (by decide) wf_X8_55 dX8_clear_4 ?_
  have r_4 := rg_AL_3 hR
  refine jx_istore_n (L' := [some (.inr (ad G 0)), some (.inl (μ 2 3))]) C dX8_clear_7 (by decide) rfl ?_
  refine jx_aload_n C dX8_clear_8 rfl ?_
  refine jx_get (v := .inr (ad G 2)) C 1 ft_X8 (jcl_PJ G _) rfl (by decide) (by decide) wf_X8_19 dX8_clear_9 ?_
  refine jx_iconst C dX8_clear_12 ?_
  refine jx_put C 3 ft_X0 (jcl_AL G _) ((jcl_AL G _).trans rfl) (by decide) (by decide) rfl (Or.inl rfl) (by simp) wf_X8_55 dX8_clear_13 ?_
  obtain ⟨μ1, eμ1⟩ : ∃ y_ : Mem, y_ = jms μ 2 3 0 := ⟨_, rfl⟩
  rw [← eμ1]
  have hR1 : rng μ1 := by rw [eμ1]; exact rs_AL_3 hR (by omega) (by omega)
  refine jx_aload_n C dX8_clear_16 rfl ?_
  refine jx_get (v := .inr (ad G 2)) C 1 ft_X8 (jcl_PJ G _) rfl (by decide) (by decide) wf_X8_19 dX8_clear_17 ?_
  refine jx_iconst C dX8_clear_20 ?_
  refine jx_put C 5 ft_X0 (jcl_AL G _) ((jcl_AL G _).trans rfl) (by decide) (by decide) rfl (Or.inr ⟨rfl, Or.inr rfl⟩) (by simp) wf_X8_78 dX8_clear_21 ?_
  obtain ⟨μ2, eμ2⟩ : ∃ y_ : Mem, y_ = jms μ1 2 5 1 := ⟨_, rfl⟩
  rw [← eμ2]
  have hR2 : rng μ2 := by rw [eμ2]; exact rs_AL_5 hR1 (by omega) (by omega)
  refine jx_iload_n C dX8_clear_24 rfl ?_
  exact jx_iret C dX8_clear_25 ⟨by omega, hR2, (clear_end hR hCI (by rw [eμ2, eμ1])).2.1, (clear_end hR hCI (by rw [eμ2, eμ1])).1, by rw [eμ2, jms_cell _ _ _ _ (by decide), eμ1, jms_cell _ _ _ _ (by decide)], fun k hk => (clear_end hR hCI (by rw [eμ2, eμ1])).2.2 k (by omega)⟩
set_option maxHeartbeats 4000000 in
set_option maxRecDepth 100000 in
theorem c_X8_rules (l : Launch) (G : GT) (μ : Mem) (u w : Int) (hu : InR u) (hw : InR w) (hCI : CI μ) (hR : rng μ) : MI l yX8_rules cX8_rules 3 .int ({ frames := 1, cells := 0, slots := 0, locals := 22 } : Room) G [.inr (ad G 0), .inl u, .inl w] μ (AP μ (a_rules u w) (b_rules (cB μ) u w) (μ 1 0)) := by
  refine MI.of (by decide +kernel) (Nat.le_of_ble_eq_true rfl) ?_
  intro F C Yy
  show jX F G 3 0 0 (jE F G (jQi G (AP μ (a_rules u w) (b_rules (cB μ) u w) (μ 1 0)))) 0 [some (.inr (ad G 0)), some (.inl u), some (.inl w)] [] μ
  obtain ⟨hN, hN4⟩ := cB_N hR
  refine jx_iload_n C dX8_rules_0 rfl ?_
  refine jx_iconst C dX8_rules_1 ?_
  refine jx_ldc C dX8_rules_2 wk_X8_94 (z := 1000000) (by decide +kernel) ?_
  refine jx_cSi (as := [.inl u, .inl 1, .inl 1000000]) (st := []) C Yy (c_X8_within l G μ u 1 1000000 (by omega) (by omega) (by omega)) yb_X8_within ws_X8_within wm_X8_47 rfl rfl (Nat.le_of_ble_eq_true rfl) ⟨⟨rfl, rfl, Nat.le_of_ble_eq_true rfl, Nat.le_of_ble_eq_true rfl⟩, Nat.zero_le _, Nat.zero_le _⟩ dX8_rules_4 ?_
  rintro _ _ ⟨rfl, ⟨rfl, c_4⟩ | ⟨rfl, c_4⟩⟩
  · refine jx_if_eq C dX8_rules_7 (by decide) (fun q => absurd q (by decide)) (fun _ => ?_)
    refine jx_iload_n C dX8_rules_10 rfl ?_
    refine jx_iconst C dX8_rules_11 ?_
    refine jx_bipush C dX8_rules_12 (by decide +kernel) ?_
    refine jx_cSi (as := [.inl w, .inl 0, .inl 12]) (st := []) C Yy (c_X8_within l G μ w 0 12 (by omega) (by omega) (by omega)) yb_X8_within ws_X8_within wm_X8_47 rfl rfl (Nat.le_of_ble_eq_true rfl) ⟨⟨rfl, rfl, Nat.le_of_ble_eq_true rfl, Nat.le_of_ble_eq_true rfl⟩, Nat.zero_le _, Nat.zero_le _⟩ dX8_rules_14 ?_
    rintro _ _ ⟨rfl, ⟨rfl, c_14⟩ | ⟨rfl, c_14⟩⟩
    · refine jx_if_ne C dX8_rules_17 (by decide) (fun _ => ?_) (fun q => absurd q (by decide))
      refine jx_aload_n C dX8_rules_23 rfl ?_
      refine jx_iload_n C dX8_rules_24 rfl ?_
      refine jx_put C 4 ft_X8 (jcl_PJ G _) ((jcl_PJ G _).trans rfl) (by decide) (by decide) rfl (Or.inl rfl) (by simp) wf_X8_37 dX8_rules_25 ?_
      obtain ⟨μ1, eμ1⟩ : ∃ y_ : Mem, y_ = jms μ 0 4 u := ⟨_, rfl⟩
      rw [← eμ1]
      have hR1 : rng μ1 := by rw [eμ1]; exact rs_PJ_4 hR (by omega) (by omega)
      refine jx_aload_n C dX8_rules_28 rfl ?_
      refine jx_iload_n C dX8_rules_29 rfl ?_
      refine jx_put C 5 ft_X8 (jcl_PJ G _) ((jcl_PJ G _).trans rfl) (by decide) (by decide) rfl (Or.inl rfl) (by simp) wf_X8_41 dX8_rules_30 ?_
      obtain ⟨μ2, eμ2⟩ : ∃ y_ : Mem, y_ = jms μ1 0 5 w := ⟨_, rfl⟩
      rw [← eμ2]
      have hR2 : rng μ2 := by rw [eμ2]; exact rs_PJ_5 hR1 (by omega) (by omega)
      refine jx_aload_n C dX8_rules_33 rfl ?_
      refine jx_get (v := .inr (ad G 2)) C 1 ft_X8 (jcl_PJ G _) rfl (by decide) (by decide) wf_X8_19 dX8_rules_34 ?_
      refine jx_iconst C dX8_rules_37 ?_
      refine jx_put C 5 ft_X0 (jcl_AL G _) ((jcl_AL G _).trans rfl) (by decide) (by decide) rfl (Or.inr ⟨rfl, Or.inr rfl⟩) (by simp) wf_X8_78 dX8_rules_38 ?_
      obtain ⟨μ3, eμ3⟩ : ∃ y_ : Mem, y_ = jms μ2 2 5 1 := ⟨_, rfl⟩
      rw [← eμ3]
      have hR3 : rng μ3 := by rw [eμ3]; exact rs_AL_5 hR2 (by omega) (by omega)
      refine jx_iconst C dX8_rules_41 ?_
      exact jx_iret C dX8_rules_42 ⟨by rw [a_rules, if_pos (by omega)], hR3, (rules_end (μf := μ3) (b := u) (n := w) hR hCI (by rw [eμ3, eμ2, eμ1])).2.1, by rw [b_rules, if_pos (by omega)]; exact (rules_end (μf := μ3) (b := u) (n := w) hR hCI (by rw [eμ3, eμ2, eμ1])).1, (by rw [(rules_end (μf := μ3) (b := u) (n := w) hR hCI (by rw [eμ3, eμ2, eμ1])).2.2 1 (by omega) (by omega)]), fun k hk => (rules_end (μf := μ3) (b := u) (n := w) hR hCI (by rw [eμ3, eμ2, eμ1])).2.2 k (by omega) (by omega)⟩
    · refine jx_if_ne C dX8_rules_17 (by decide) (fun q => absurd q (by decide)) (fun _ => ?_)
      refine jx_bipush C dX8_rules_20 (by decide +kernel) ?_
      exact jx_iret C dX8_rules_22 ⟨by rw [a_rules, if_neg (by omega)], hR, hCI, by rw [b_rules, if_neg (by omega)], rfl, fun _ _ => rfl⟩
  · refine jx_if_eq C dX8_rules_7 (by decide) (fun _ => ?_) (fun q => absurd q (by decide))
    refine jx_bipush C dX8_rules_20 (by decide +kernel) ?_
    exact jx_iret C dX8_rules_22 ⟨by rw [a_rules, if_neg (by omega)], hR, hCI, by rw [b_rules, if_neg (by omega)], rfl, fun _ _ => rfl⟩
set_option maxHeartbeats 4000000 in
set_option maxRecDepth 100000 in
theorem c_X8_at (l : Launch) (G : GT) (μ : Mem) (u i j : Int) (hu : InR u) (hi : InR i) (hj : InR j) (hCI : CI μ) (hR : rng μ) : MI l yX8_at cX8_at 4 .int ({ frames := 3, cells := 0, slots := 0, locals := 66 } : Room) G [.inr (ad G 0), .inl u, .inl i, .inl j] μ (AP μ (a_at (cB μ) u i j) (cB μ) (μ 1 0)) := by
  refine MI.of (by decide +kernel) (Nat.le_of_ble_eq_true rfl) ?_
  intro F C Yy
  show jX F G 4 0 0 (jE F G (jQi G (AP μ (a_at (cB μ) u i j) (cB μ) (μ 1 0)))) 0 [some (.inr (ad G 0)), some (.inl u), some (.inl i), some (.inl j)] [] μ
  obtain ⟨hN, hN4⟩ := cB_N hR
  refine jx_aload_n C dX8_at_0 rfl ?_
  refine jx_iload_n C dX8_at_1 rfl ?_
  refine jx_iload_n C dX8_at_2 rfl ?_
  refine jx_iload_n C dX8_at_3 rfl ?_
  refine jx_cVi (as := [.inl u, .inl i, .inl j]) (st := []) C Yy (c_X8_isDot l G μ u i j (by omega) (by omega) (by omega) hR) yb_X8_isDot yv_X8_isDot wm_X8_82 (jcl_PJ G _) rfl (by decide) rfl rfl (Nat.le_of_ble_eq_true rfl) ⟨⟨rfl, rfl, Nat.le_of_ble_eq_true rfl, Nat.le_of_ble_eq_true rfl⟩, Nat.zero_le _, Nat.zero_le _⟩ dX8_at_4 ?_
  rintro _ _ ⟨rfl, ⟨rfl, c_4⟩ | ⟨rfl, c_4⟩⟩
  · obtain ⟨p, rfl⟩ := Int.eq_ofNat_of_zero_le c_4.1.1
    have c4 := c_4
    unfold isd at c4
    simp only [Int.toNat_natCast] at c4
    have eW := cB_W (μ := μ) (p := p) (by omega)
    have eH := cB_H (μ := μ) (p := p) (by omega)
    refine jx_if_eq C dX8_at_7 (by decide) (fun q => absurd q (by decide)) (fun _ => ?_)
    refine jx_aload_n C dX8_at_10 rfl ?_
    refine jx_get (v := .inr (ad G 2)) C 1 ft_X8 (jcl_PJ G _) rfl (by decide) (by decide) wf_X8_19 dX8_at_11 ?_
    refine jx_get (v := .inr (ad G 5)) C 0 ft_X0 (jcl_AL G _) rfl (by decide) (by decide) wf_X8_58 dX8_at_14 ?_
    refine jx_iload_n C dX8_at_17 rfl ?_
    refine jx_aald (p' := p) (t0 := 1) C (jcl_5 G _) rfl (by decide) rfl (by omega) (by decide) dX8_at_18 ?_
    refine jx_get (v := .inr (ad G (14 + p))) C 0 ft_X5 (jcl_PI G (by omega) _) rfl (by decide) (by omega) wf_X8_62 dX8_at_19 ?_
    refine jx_iload_n C dX8_at_22 rfl ?_
    refine jx_iload_n C dX8_at_23 rfl ?_
    refine jx_cVi (as := [.inl i, .inl j]) (st := []) C Yy (c_X1_get l G μ p (by omega) i j (by omega) (by omega) hR) yb_X1_get yv_X1_get wm_X8_87 (jcl_DO G (by omega) _) rfl (by omega) rfl rfl (Nat.le_of_ble_eq_true rfl) ⟨⟨rfl, rfl, Nat.le_of_ble_eq_true rfl, Nat.le_of_ble_eq_true rfl⟩, Nat.zero_le _, Nat.zero_le _⟩ dX8_at_24 ?_
    rintro _ _ ⟨rfl, rfl⟩
    have r_24 := dgt_rng (W := μ (14 + p) 2) (H := μ (14 + p) 3) (v := μ (18 + p)) (fun t => rg_va hR (p := p) (by omega) t) i j
    refine jx_goto C dX8_at_27 ?_
    exact jx_iret C dX8_at_32 (AP_rd hR hCI (by rw [a_at, if_pos c_4, Int.toNat_natCast, cB_D (by omega)]))
  · refine jx_if_eq C dX8_at_7 (by decide) (fun _ => ?_) (fun q => absurd q (by decide))
    refine jx_ldc C dX8_at_30 wk_X8_85 (z := (-1000001)) (by decide +kernel) ?_
    exact jx_iret C dX8_at_32 (AP_rd hR hCI (if_neg c_4))
set_option maxHeartbeats 4000000 in
set_option maxRecDepth 100000 in
theorem c_X8_score (l : Launch) (G : GT) (μ : Mem) (u i j : Int) (hu : InR u) (hi : InR i) (hj : InR j) (hCI : CI μ) (hR : rng μ) : MI l yX8_score cX8_score 4 .int ({ frames := 4, cells := 0, slots := 0, locals := 98 } : Room) G [.inr (ad G 0), .inl u, .inl i, .inl j] μ (AP μ (a_score (cB μ) u i j) (cB μ) (μ 1 0)) := by
  refine MI.of (by decide +kernel) (Nat.le_of_ble_eq_true rfl) ?_
  intro F C Yy
  show jX F G 4 0 0 (jE F G (jQi G (AP μ (a_score (cB μ) u i j) (cB μ) (μ 1 0)))) 0 [some (.inr (ad G 0)), some (.inl u), some (.inl i), some (.inl j)] [] μ
  obtain ⟨hN, hN4⟩ := cB_N hR
  refine jx_aload_n C dX8_score_0 rfl ?_
  refine jx_iload_n C dX8_score_1 rfl ?_
  refine jx_iload_n C dX8_score_2 rfl ?_
  refine jx_iload_n C dX8_score_3 rfl ?_
  refine jx_cVi (as := [.inl u, .inl i, .inl j]) (st := []) C Yy (c_X8_isDot l G μ u i j (by omega) (by omega) (by omega) hR) yb_X8_isDot yv_X8_isDot wm_X8_82 (jcl_PJ G _) rfl (by decide) rfl rfl (Nat.le_of_ble_eq_true rfl) ⟨⟨rfl, rfl, Nat.le_of_ble_eq_true rfl, Nat.le_of_ble_eq_true rfl⟩, Nat.zero_le _, Nat.zero_le _⟩ dX8_score_4 ?_
  rintro _ _ ⟨rfl, ⟨rfl, c_4⟩ | ⟨rfl, c_4⟩⟩
  · obtain ⟨p, rfl⟩ := Int.eq_ofNat_of_zero_le c_4.1.1
    have c4 := c_4
    unfold isd at c4
    simp only [Int.toNat_natCast] at c4
    have eW := cB_W (μ := μ) (p := p) (by omega)
    have eH := cB_H (μ := μ) (p := p) (by omega)
    refine jx_if_eq C dX8_score_7 (by decide) (fun q => absurd q (by decide)) (fun _ => ?_)
    refine jx_aload_n C dX8_score_10 rfl ?_
    refine jx_get (v := .inr (ad G 2)) C 1 ft_X8 (jcl_PJ G _) rfl (by decide) (by decide) wf_X8_19 dX8_score_11 ?_
    refine jx_get (v := .inr (ad G 5)) C 0 ft_X0 (jcl_AL G _) rfl (by decide) (by decide) wf_X8_58 dX8_score_14 ?_
    refine jx_iload_n C dX8_score_17 rfl ?_
    refine jx_aald (p' := p) (t0 := 1) C (jcl_5 G _) rfl (by decide) rfl (by omega) (by decide) dX8_score_18 ?_
    refine jx_get (v := .inr (ad G (14 + p))) C 0 ft_X5 (jcl_PI G (by omega) _) rfl (by decide) (by omega) wf_X8_62 dX8_score_19 ?_
    refine jx_iload_n C dX8_score_22 rfl ?_
    refine jx_iload_n C dX8_score_23 rfl ?_
    refine jx_cVi (as := [.inl i, .inl j]) (st := []) C Yy (c_X1_scoreOf l G μ p (by omega) (bD (cB μ) p) (cB_D (by omega)) i j (by omega) (by omega) hR) yb_X1_scoreOf yv_X1_scoreOf wm_X8_95 (jcl_DO G (by omega) _) rfl (by omega) rfl rfl (Nat.le_of_ble_eq_true rfl) ⟨⟨rfl, rfl, Nat.le_of_ble_eq_true rfl, Nat.le_of_ble_eq_true rfl⟩, Nat.zero_le _, Nat.zero_le _⟩ dX8_score_24 ?_
    rintro _ _ ⟨rfl, rfl⟩
    have r_24 := sco_rng (W := μ (14 + p) 2) (H := μ (14 + p) 3) (d := (bD (cB μ) p)) (fun x y => by rw [(cB_D (by omega))]; exact dgt_rng (fun t => rg_va hR (p := p) (by omega) t) x y) i j
    refine jx_goto C dX8_score_27 ?_
    exact jx_iret C dX8_score_31 (AP_rd hR hCI (by rw [a_score, if_pos c_4, Int.toNat_natCast, eW, eH]))
  · refine jx_if_eq C dX8_score_7 (by decide) (fun _ => ?_) (fun q => absurd q (by decide))
    refine jx_iconst C dX8_score_30 ?_
    exact jx_iret C dX8_score_31 (AP_rd hR hCI (if_neg c_4))
set_option maxHeartbeats 4000000 in
set_option maxRecDepth 100000 in
theorem c_X8_dot (l : Launch) (G : GT) (μ : Mem) (u i j v : Int) (hu : InR u) (hi : InR i) (hj : InR j) (hv : InR v) (hCI : CI μ) (hR : rng μ) : MI l yX8_dot cX8_dot 7 .int ({ frames := 3, cells := 0, slots := 0, locals := 66 } : Room) G [.inr (ad G 0), .inl u, .inl i, .inl j, .inl v] μ (AP μ (a_dot (cB μ) u i j v) (b_dot (cB μ) u i j v) (μ 1 0)) := by
  refine MI.of (by decide +kernel) (Nat.le_of_ble_eq_true rfl) ?_
  intro F C Yy
  show jX F G 7 0 0 (jE F G (jQi G (AP μ (a_dot (cB μ) u i j v) (b_dot (cB μ) u i j v) (μ 1 0)))) 0 [some (.inr (ad G 0)), some (.inl u), some (.inl i), some (.inl j), some (.inl v), none, none] [] μ
  obtain ⟨hN, hN4⟩ := cB_N hR
  refine jx_aload_n C dX8_dot_0 rfl ?_
  refine jx_iload_n C dX8_dot_1 rfl ?_
  refine jx_iload_n C dX8_dot_2 rfl ?_
  refine jx_iload_n C dX8_dot_3 rfl ?_
  refine jx_cVi (as := [.inl u, .inl i, .inl j]) (st := []) C Yy (c_X8_isDot l G μ u i j (by omega) (by omega) (by omega) hR) yb_X8_isDot yv_X8_isDot wm_X8_82 (jcl_PJ G _) rfl (by decide) rfl rfl (Nat.le_of_ble_eq_true rfl) ⟨⟨rfl, rfl, Nat.le_of_ble_eq_true rfl, Nat.le_of_ble_eq_true rfl⟩, Nat.zero_le _, Nat.zero_le _⟩ dX8_dot_4 ?_
  rintro _ _ ⟨rfl, ⟨rfl, c_4⟩ | ⟨rfl, c_4⟩⟩
  · obtain ⟨p, rfl⟩ := Int.eq_ofNat_of_zero_le c_4.1.1
    have c4 := c_4
    unfold isd at c4
    simp only [Int.toNat_natCast] at c4
    have eW := cB_W (μ := μ) (p := p) (by omega)
    have eH := cB_H (μ := μ) (p := p) (by omega)
    refine jx_if_ne C dX8_dot_7 (by decide) (fun _ => ?_) (fun q => absurd q (by decide))
    refine jx_iload C dX8_dot_13 rfl ?_
    refine jx_iconst C dX8_dot_15 ?_
    refine jx_sipush C dX8_dot_16 (by decide +kernel) ?_
    refine jx_cSi (as := [.inl v, .inl (-1), .inl 255]) (st := []) C Yy (c_X8_within l G μ v (-1) 255 (by omega) (by omega) (by omega)) yb_X8_within ws_X8_within wm_X8_47 rfl rfl (Nat.le_of_ble_eq_true rfl) ⟨⟨rfl, rfl, Nat.le_of_ble_eq_true rfl, Nat.le_of_ble_eq_true rfl⟩, Nat.zero_le _, Nat.zero_le _⟩ dX8_dot_19 ?_
    rintro _ _ ⟨rfl, ⟨rfl, c_19⟩ | ⟨rfl, c_19⟩⟩
    · refine jx_if_ne C dX8_dot_22 (by decide) (fun _ => ?_) (fun q => absurd q (by decide))
      refine jx_aload_n C dX8_dot_28 rfl ?_
      refine jx_get (v := .inr (ad G 2)) C 1 ft_X8 (jcl_PJ G _) rfl (by decide) (by decide) wf_X8_19 dX8_dot_29 ?_
      refine jx_get (v := .inr (ad G 5)) C 0 ft_X0 (jcl_AL G _) rfl (by decide) (by decide) wf_X8_58 dX8_dot_32 ?_
      refine jx_iload_n C dX8_dot_35 rfl ?_
      refine jx_aald (p' := p) (t0 := 1) C (jcl_5 G _) rfl (by decide) rfl (by omega) (by decide) dX8_dot_36 ?_
      refine jx_get (v := .inr (ad G (14 + p))) C 0 ft_X5 (jcl_PI G (by omega) _) rfl (by decide) (by omega) wf_X8_62 dX8_dot_37 ?_
      refine jx_astore (L' := [some (.inr (ad G 0)), some (.inl (p : Int)), some (.inl i), some (.inl j), some (.inl v), some (.inr (ad G (14 + p))), none]) C dX8_dot_40 (by decide) rfl ?_
      refine jx_aload C dX8_dot_42 rfl ?_
      refine jx_iload_n C dX8_dot_44 rfl ?_
      refine jx_iload_n C dX8_dot_45 rfl ?_
      refine jx_cVi (as := [.inl i, .inl j]) (st := []) C Yy (c_X1_get l G μ p (by omega) i j (by omega) (by omega) hR) yb_X1_get yv_X1_get wm_X8_87 (jcl_DO G (by omega) _) rfl (by omega) rfl rfl (Nat.le_of_ble_eq_true rfl) ⟨⟨rfl, rfl, Nat.le_of_ble_eq_true rfl, Nat.le_of_ble_eq_true rfl⟩, Nat.zero_le _, Nat.zero_le _⟩ dX8_dot_46 ?_
      rintro _ _ ⟨rfl, rfl⟩
      have r_46 := dgt_rng (W := μ (14 + p) 2) (H := μ (14 + p) 3) (v := μ (18 + p)) (fun t => rg_va hR (p := p) (by omega) t) i j
      refine jx_istore (L' := [some (.inr (ad G 0)), some (.inl (p : Int)), some (.inl i), some (.inl j), some (.inl v), some (.inr (ad G (14 + p))), some (.inl (dgt (μ (14 + p) 2) (μ (14 + p) 3) (μ (18 + p)) i j))]) C dX8_dot_49 (by decide) rfl ?_
      refine jx_aload C dX8_dot_51 rfl ?_
      refine jx_iload_n C dX8_dot_53 rfl ?_
      refine jx_iload_n C dX8_dot_54 rfl ?_
      refine jx_iload C dX8_dot_55 rfl ?_
      refine jx_cVv (as := [.inl i, .inl j, .inl v]) (st := []) C Yy (c_X1_put l G μ p (by omega) i j v (by omega) (by omega) (by omega) (by omega) hR) yb_X1_put yv_X1_put wm_X8_90 (jcl_DO G (by omega) _) rfl (by omega) rfl rfl (Nat.le_of_ble_eq_true rfl) ⟨⟨rfl, rfl, Nat.le_of_ble_eq_true rfl, Nat.le_of_ble_eq_true rfl⟩, Nat.zero_le _, Nat.zero_le _⟩ dX8_dot_57 ?_
      intro μ1 hμ1
      have hR1 := hμ1.1
      refine jx_aload_n C dX8_dot_60 rfl ?_
      refine jx_get (v := .inr (ad G 2)) C 1 ft_X8 (jcl_PJ G _) rfl (by decide) (by decide) wf_X8_19 dX8_dot_61 ?_
      refine jx_iconst C dX8_dot_64 ?_
      refine jx_put C 5 ft_X0 (jcl_AL G _) ((jcl_AL G _).trans rfl) (by decide) (by decide) rfl (Or.inr ⟨rfl, Or.inr rfl⟩) (by simp) wf_X8_78 dX8_dot_65 ?_
      obtain ⟨μ2, eμ2⟩ : ∃ y_ : Mem, y_ = jms μ1 2 5 1 := ⟨_, rfl⟩
      rw [← eμ2]
      have hR2 : rng μ2 := by rw [eμ2]; exact rs_AL_5 hR1 (by omega) (by omega)
      have hde := dot_end (μf := μ2) (p := p) (i := i) (j := j) (v := v) hR hCI (by omega) (by omega) (by rw [eμ2, hμ1.2])
      refine jx_iload C dX8_dot_68 rfl ?_
      exact jx_iret C dX8_dot_70 ⟨by rw [a_dot, if_neg (fun q => q c_4), if_neg (fun q => q c_19), Int.toNat_natCast, cB_D (by omega)], hR2, hde.2.1, by rw [b_dot, if_pos ⟨c_4, c_19⟩, Int.toNat_natCast]; exact hde.1, by rw [hde.2.2 1 (by omega) (by omega) (by omega)], fun k hk => hde.2.2 k (by omega) (by omega) (by omega)⟩
    · refine jx_if_ne C dX8_dot_22 (by decide) (fun q => absurd q (by decide)) (fun _ => ?_)
      refine jx_ldc C dX8_dot_25 wk_X8_86 (z := (-1000002)) (by decide +kernel) ?_
      exact jx_iret C dX8_dot_27 ⟨by rw [a_dot, if_neg (fun q => q c_4), if_pos c_19], hR, hCI, by rw [b_dot, if_neg (fun q => c_19 q.2)], rfl, fun _ _ => rfl⟩
  · refine jx_if_ne C dX8_dot_7 (by decide) (fun q => absurd q (by decide)) (fun _ => ?_)
    refine jx_ldc C dX8_dot_10 wk_X8_85 (z := (-1000001)) (by decide +kernel) ?_
    exact jx_iret C dX8_dot_12 ⟨by rw [a_dot, if_pos c_4], hR, hCI, by rw [b_dot, if_neg (fun q => c_4 q.1)], rfl, fun _ _ => rfl⟩
set_option maxHeartbeats 4000000 in
set_option maxRecDepth 100000 in
theorem c_X8_shoot (l : Launch) (G : GT) (μ : Mem) (w h x y g : Int) (hw : InR w) (hh : InR h) (hx : InR x) (hy : InR y) (hg : InR g) (hCI : CI μ) (hR : rng μ) : MI l yX8_shoot cX8_shoot 8 .int ({ frames := 3, cells := 0, slots := 0, locals := 71 } : Room) G [.inr (ad G 0), .inl w, .inl h, .inl x, .inl y, .inl g] μ (AP μ (a_shoot (cB μ) w h x y g) (b_shoot (cB μ) (μ 1 0) w h x y g) (μ 1 0)) := by
  refine MI.of (by decide +kernel) (Nat.le_of_ble_eq_true rfl) ?_
  intro F C Yy
  show jX F G 8 0 0 (jE F G (jQi G (AP μ (a_shoot (cB μ) w h x y g) (b_shoot (cB μ) (μ 1 0) w h x y g) (μ 1 0)))) 0 [some (.inr (ad G 0)), some (.inl w), some (.inl h), some (.inl x), some (.inl y), some (.inl g), none, none] [] μ
  obtain ⟨hN, hN4⟩ := cB_N hR
  refine jx_iload_n C dX8_shoot_0 rfl ?_
  refine jx_bipush C dX8_shoot_1 (by decide +kernel) ?_
  refine jx_bipush C dX8_shoot_3 (by decide +kernel) ?_
  refine jx_cSi (as := [.inl w, .inl 8, .inl 20]) (st := []) C Yy (c_X8_within l G μ w 8 20 (by omega) (by omega) (by omega)) yb_X8_within ws_X8_within wm_X8_47 rfl rfl (Nat.le_of_ble_eq_true rfl) ⟨⟨rfl, rfl, Nat.le_of_ble_eq_true rfl, Nat.le_of_ble_eq_true rfl⟩, Nat.zero_le _, Nat.zero_le _⟩ dX8_shoot_5 ?_
  rintro _ _ ⟨rfl, ⟨rfl, c_5⟩ | ⟨rfl, c_5⟩⟩
  · refine jx_if_eq C dX8_shoot_8 (by decide) (fun q => absurd q (by decide)) (fun _ => ?_)
    refine jx_iload_n C dX8_shoot_11 rfl ?_
    refine jx_bipush C dX8_shoot_12 (by decide +kernel) ?_
    refine jx_bipush C dX8_shoot_14 (by decide +kernel) ?_
    refine jx_cSi (as := [.inl h, .inl 8, .inl 20]) (st := []) C Yy (c_X8_within l G μ h 8 20 (by omega) (by omega) (by omega)) yb_X8_within ws_X8_within wm_X8_47 rfl rfl (Nat.le_of_ble_eq_true rfl) ⟨⟨rfl, rfl, Nat.le_of_ble_eq_true rfl, Nat.le_of_ble_eq_true rfl⟩, Nat.zero_le _, Nat.zero_le _⟩ dX8_shoot_16 ?_
    rintro _ _ ⟨rfl, ⟨rfl, c_16⟩ | ⟨rfl, c_16⟩⟩
    · refine jx_if_eq C dX8_shoot_19 (by decide) (fun q => absurd q (by decide)) (fun _ => ?_)
      refine jx_iload_n C dX8_shoot_22 rfl ?_
      refine jx_iconst C dX8_shoot_23 ?_
      refine jx_sipush C dX8_shoot_24 (by decide +kernel) ?_
      refine jx_cSi (as := [.inl x, .inl 0, .inl 1900]) (st := []) C Yy (c_X8_within l G μ x 0 1900 (by omega) (by omega) (by omega)) yb_X8_within ws_X8_within wm_X8_47 rfl rfl (Nat.le_of_ble_eq_true rfl) ⟨⟨rfl, rfl, Nat.le_of_ble_eq_true rfl, Nat.le_of_ble_eq_true rfl⟩, Nat.zero_le _, Nat.zero_le _⟩ dX8_shoot_27 ?_
      rintro _ _ ⟨rfl, ⟨rfl, c_27⟩ | ⟨rfl, c_27⟩⟩
      · refine jx_if_eq C dX8_shoot_30 (by decide) (fun q => absurd q (by decide)) (fun _ => ?_)
        refine jx_iload C dX8_shoot_33 rfl ?_
        refine jx_iconst C dX8_shoot_35 ?_
        refine jx_sipush C dX8_shoot_36 (by decide +kernel) ?_
        refine jx_cSi (as := [.inl y, .inl 0, .inl 1900]) (st := []) C Yy (c_X8_within l G μ y 0 1900 (by omega) (by omega) (by omega)) yb_X8_within ws_X8_within wm_X8_47 rfl rfl (Nat.le_of_ble_eq_true rfl) ⟨⟨rfl, rfl, Nat.le_of_ble_eq_true rfl, Nat.le_of_ble_eq_true rfl⟩, Nat.zero_le _, Nat.zero_le _⟩ dX8_shoot_39 ?_
        rintro _ _ ⟨rfl, ⟨rfl, c_39⟩ | ⟨rfl, c_39⟩⟩
        · refine jx_if_eq C dX8_shoot_42 (by decide) (fun q => absurd q (by decide)) (fun _ => ?_)
          refine jx_iload C dX8_shoot_45 rfl ?_
          refine jx_iconst C dX8_shoot_47 ?_
          refine jx_bipush C dX8_shoot_48 (by decide +kernel) ?_
          refine jx_cSi (as := [.inl g, .inl 1, .inl 64]) (st := []) C Yy (c_X8_within l G μ g 1 64 (by omega) (by omega) (by omega)) yb_X8_within ws_X8_within wm_X8_47 rfl rfl (Nat.le_of_ble_eq_true rfl) ⟨⟨rfl, rfl, Nat.le_of_ble_eq_true rfl, Nat.le_of_ble_eq_true rfl⟩, Nat.zero_le _, Nat.zero_le _⟩ dX8_shoot_50 ?_
          rintro _ _ ⟨rfl, ⟨rfl, c_50⟩ | ⟨rfl, c_50⟩⟩
          · refine jx_if_eq C dX8_shoot_53 (by decide) (fun q => absurd q (by decide)) (fun _ => ?_)
            refine jx_iconst C dX8_shoot_56 ?_
            refine jx_goto C dX8_shoot_57 ?_
            refine jx_istore (L' := [some (.inr (ad G 0)), some (.inl w), some (.inl h), some (.inl x), some (.inl y), some (.inl g), some (.inl 1), none]) C dX8_shoot_61 (by decide) rfl ?_
            refine jx_iload C dX8_shoot_63 rfl ?_
            refine jx_if_ne C dX8_shoot_65 (by decide) (fun _ => ?_) (fun q => absurd q (by decide))
            refine jx_aload_n C dX8_shoot_71 rfl ?_
            refine jx_get (v := .inr (ad G 2)) C 1 ft_X8 (jcl_PJ G _) rfl (by decide) (by decide) wf_X8_19 dX8_shoot_72 ?_
            refine jx_get (v := .inl (μ 2 3)) C 3 ft_X0 (jcl_AL G _) rfl (by decide) (by decide) wf_X8_55 dX8_shoot_75 ?_
            have r_75 := rg_AL_3 hR
            refine jx_iconst C dX8_shoot_78 ?_
            refine jx_icmp_lt C dX8_shoot_79 (by omega) (by decide) (fun c_79 => ?_) (fun c_79 => ?_)
            · refine jx_aload_n C dX8_shoot_85 rfl ?_
              refine jx_get (v := .inr (ad G 2)) C 1 ft_X8 (jcl_PJ G _) rfl (by decide) (by decide) wf_X8_19 dX8_shoot_86 ?_
              refine jx_get (v := .inr (ad G 5)) C 0 ft_X0 (jcl_AL G _) rfl (by decide) (by decide) wf_X8_58 dX8_shoot_89 ?_
              refine jx_aload_n C dX8_shoot_92 rfl ?_
              refine jx_get (v := .inr (ad G 2)) C 1 ft_X8 (jcl_PJ G _) rfl (by decide) (by decide) wf_X8_19 dX8_shoot_93 ?_
              refine jx_get (v := .inl (μ 2 3)) C 3 ft_X0 (jcl_AL G _) rfl (by decide) (by decide) wf_X8_55 dX8_shoot_96 ?_
              have r_96 := rg_AL_3 hR
              refine jx_aald (p' := (bN (cB μ))) (t0 := 1) C (jcl_5 G _) rfl (by decide) (by omega) (by omega) (by decide) dX8_shoot_99 ?_
              refine jx_get (v := .inr (ad G (14 + (bN (cB μ))))) C 0 ft_X5 (jcl_PI G (by omega) _) rfl (by decide) (by omega) wf_X8_62 dX8_shoot_100 ?_
              refine jx_astore (L' := [some (.inr (ad G 0)), some (.inl w), some (.inl h), some (.inl x), some (.inl y), some (.inl g), some (.inl 1), some (.inr (ad G (14 + (bN (cB μ)))))]) C dX8_shoot_103 (by decide) rfl ?_
              refine jx_aload C dX8_shoot_105 rfl ?_
              refine jx_iload_n C dX8_shoot_107 rfl ?_
              refine jx_iload_n C dX8_shoot_108 rfl ?_
              refine jx_cVv (as := [.inl w, .inl h]) (st := []) C Yy (c_X1_resize l G μ (bN (cB μ)) (by omega) w h (by omega) (by omega) hR) yb_X1_resize yv_X1_resize wm_X8_68 (jcl_DO G (by omega) _) rfl (by omega) rfl rfl (Nat.le_of_ble_eq_true rfl) ⟨⟨rfl, rfl, Nat.le_of_ble_eq_true rfl, Nat.le_of_ble_eq_true rfl⟩, Nat.zero_le _, Nat.zero_le _⟩ dX8_shoot_109 ?_
              intro μ1 hμ1
              have hR1 := hμ1.1
              refine jx_aload_n C dX8_shoot_112 rfl ?_
              refine jx_get (v := .inr (ad G 1)) C 0 ft_X8 (jcl_PJ G _) rfl (by decide) (by decide) wf_X8_12 dX8_shoot_113 ?_
              refine jx_aload C dX8_shoot_116 rfl ?_
              refine jx_iload_n C dX8_shoot_118 rfl ?_
              refine jx_iload C dX8_shoot_119 rfl ?_
              refine jx_iload C dX8_shoot_121 rfl ?_
              have q4 : μ1 (14 + bN (cB μ)) 4 = 1 := by rw [hμ1.2, jms_same]
              refine jx_cVv (as := [.inr (ad G (14 + (bN (cB μ)))), .inl x, .inl y, .inl g]) (st := []) C Yy (c_X7_shootInto l G μ1 (bN (cB μ)) (by omega) x y g (by omega) (by omega) (by omega) q4 hR1) yb_X7_shootInto yv_X7_shootInto wm_X8_74 (jcl_WO G _) rfl (by decide) rfl rfl (Nat.le_of_ble_eq_true rfl) ⟨⟨rfl, rfl, Nat.le_of_ble_eq_true rfl, Nat.le_of_ble_eq_true rfl⟩, Nat.zero_le _, Nat.zero_le _⟩ dX8_shoot_123 ?_
              intro μ2 hμ2
              have hR2 := hμ2.1
              have q10 : μ1 1 0 = μ 1 0 := by rw [hμ1.2, jms_cell _ _ _ _ (by omega), jms_cell _ _ _ _ (by omega), jms_cell _ _ _ _ (by omega)]
              have q23 : μ2 2 3 = (bN (cB μ) : Int) := by rw [hμ2.2.1 2 (by omega), hμ1.2, jms_cell _ _ _ _ (by omega), jms_cell _ _ _ _ (by omega), jms_cell _ _ _ _ (by omega)]; exact hN
              refine jx_aload_n C dX8_shoot_126 rfl ?_
              refine jx_get (v := .inr (ad G 2)) C 1 ft_X8 (jcl_PJ G _) rfl (by decide) (by decide) wf_X8_19 dX8_shoot_127 ?_
              refine jx_iconst C dX8_shoot_130 ?_
              refine jx_put C 5 ft_X0 (jcl_AL G _) ((jcl_AL G _).trans rfl) (by decide) (by decide) rfl (Or.inr ⟨rfl, Or.inr rfl⟩) (by simp) wf_X8_78 dX8_shoot_131 ?_
              obtain ⟨μ3, eμ3⟩ : ∃ y_ : Mem, y_ = jms μ2 2 5 1 := ⟨_, rfl⟩
              rw [← eμ3]
              have hR3 : rng μ3 := by rw [eμ3]; exact rs_AL_5 hR2 (by omega) (by omega)
              refine jx_aload_n C dX8_shoot_134 rfl ?_
              refine jx_get (v := .inr (ad G 2)) C 1 ft_X8 (jcl_PJ G _) rfl (by decide) (by decide) wf_X8_19 dX8_shoot_135 ?_
              refine jx_dup C dX8_shoot_138 ?_
              refine jx_get (v := .inl (μ3 2 3)) C 3 ft_X0 (jcl_AL G _) rfl (by decide) (by decide) wf_X8_55 dX8_shoot_139 ?_
              have r_139 := rg_AL_3 hR3
              refine jx_top (b := (bN (cB μ) : Int)) (by rw [eμ3, jms_slot _ _ _ _ (by decide)]; exact q23) ?_
              refine jx_iconst C dX8_shoot_142 ?_
              refine jx_iadd C dX8_shoot_143 ?_
              refine jx_put C 3 ft_X0 (jcl_AL G _) ((jcl_AL G _).trans rfl) (by decide) (by decide) rfl (Or.inl rfl) (by simp) wf_X8_55 dX8_shoot_144 ?_
              obtain ⟨μ4, eμ4⟩ : ∃ y_ : Mem, y_ = jms μ3 2 3 ((bN (cB μ) : Int) + 1) := ⟨_, rfl⟩
              rw [← eμ4]
              have hR4 : rng μ4 := by rw [eμ4]; exact rs_AL_3 hR3 (by omega) (by omega)
              refine jx_aload_n C dX8_shoot_147 rfl ?_
              refine jx_get (v := .inr (ad G 2)) C 1 ft_X8 (jcl_PJ G _) rfl (by decide) (by decide) wf_X8_19 dX8_shoot_148 ?_
              refine jx_get (v := .inl (μ4 2 3)) C 3 ft_X0 (jcl_AL G _) rfl (by decide) (by decide) wf_X8_55 dX8_shoot_151 ?_
              have r_151 := rg_AL_3 hR4
              refine jx_top (b := (bN (cB μ) : Int) + 1) (by rw [eμ4]; exact jms_same _ _ _ _) ?_
              refine jx_iconst C dX8_shoot_154 ?_
              refine jx_isub C dX8_shoot_155 ?_
              have hse := shoot_end (μ1 := μ1) (μ2 := μ2) (μf := μ4) (s := μ 1 0) (x := x) (y := y) (g := g) (w := w) (h := h) hR hCI (by omega) (by omega) (by omega) hμ1.2 hμ2.2.1 (by rw [← q10]; exact hμ2.2.2) (by rw [eμ4, eμ3])
              exact jx_iret C dX8_shoot_156 ⟨by rw [a_shoot, if_pos (by omega), if_pos (by omega)]; omega, hR4, hse.2.1, by rw [b_shoot, if_pos ⟨by omega, by omega⟩]; exact hse.1, by rw [hse.2.2 1 (by omega) (by omega) (by omega)], fun k hk => hse.2.2 k (by omega) (by omega) (by omega)⟩
            · refine jx_bipush C dX8_shoot_82 (by decide +kernel) ?_
              exact jx_iret C dX8_shoot_84 ⟨by rw [a_shoot, if_pos (by omega), if_neg (by omega)], hR, hCI, by rw [b_shoot, if_neg (fun q => by have := q.2; omega)], rfl, fun _ _ => rfl⟩
          · refine jx_if_eq C dX8_shoot_53 (by decide) (fun _ => ?_) (fun q => absurd q (by decide))
            refine jx_iconst C dX8_shoot_60 ?_
            refine jx_istore (L' := [some (.inr (ad G 0)), some (.inl w), some (.inl h), some (.inl x), some (.inl y), some (.inl g), some (.inl 0), none]) C dX8_shoot_61 (by decide) rfl ?_
            refine jx_iload C dX8_shoot_63 rfl ?_
            refine jx_if_ne C dX8_shoot_65 (by decide) (fun q => absurd q (by decide)) (fun _ => ?_)
            refine jx_bipush C dX8_shoot_68 (by decide +kernel) ?_
            exact jx_iret C dX8_shoot_70 ⟨by rw [a_shoot, if_neg (by omega)], hR, hCI, by rw [b_shoot, if_neg (fun q => by have := q.1; omega)], rfl, fun _ _ => rfl⟩
        · refine jx_if_eq C dX8_shoot_42 (by decide) (fun _ => ?_) (fun q => absurd q (by decide))
          refine jx_iconst C dX8_shoot_60 ?_
          refine jx_istore (L' := [some (.inr (ad G 0)), some (.inl w), some (.inl h), some (.inl x), some (.inl y), some (.inl g), some (.inl 0), none]) C dX8_shoot_61 (by decide) rfl ?_
          refine jx_iload C dX8_shoot_63 rfl ?_
          refine jx_if_ne C dX8_shoot_65 (by decide) (fun q => absurd q (by decide)) (fun _ => ?_)
          refine jx_bipush C dX8_shoot_68 (by decide +kernel) ?_
          exact jx_iret C dX8_shoot_70 ⟨by rw [a_shoot, if_neg (by omega)], hR, hCI, by rw [b_shoot, if_neg (fun q => by have := q.1; omega)], rfl, fun _ _ => rfl⟩
      · refine jx_if_eq C dX8_shoot_30 (by decide) (fun _ => ?_) (fun q => absurd q (by decide))
        refine jx_iconst C dX8_shoot_60 ?_
        refine jx_istore (L' := [some (.inr (ad G 0)), some (.inl w), some (.inl h), some (.inl x), some (.inl y), some (.inl g), some (.inl 0), none]) C dX8_shoot_61 (by decide) rfl ?_
        refine jx_iload C dX8_shoot_63 rfl ?_
        refine jx_if_ne C dX8_shoot_65 (by decide) (fun q => absurd q (by decide)) (fun _ => ?_)
        refine jx_bipush C dX8_shoot_68 (by decide +kernel) ?_
        exact jx_iret C dX8_shoot_70 ⟨by rw [a_shoot, if_neg (by omega)], hR, hCI, by rw [b_shoot, if_neg (fun q => by have := q.1; omega)], rfl, fun _ _ => rfl⟩
    · refine jx_if_eq C dX8_shoot_19 (by decide) (fun _ => ?_) (fun q => absurd q (by decide))
      refine jx_iconst C dX8_shoot_60 ?_
      refine jx_istore (L' := [some (.inr (ad G 0)), some (.inl w), some (.inl h), some (.inl x), some (.inl y), some (.inl g), some (.inl 0), none]) C dX8_shoot_61 (by decide) rfl ?_
      refine jx_iload C dX8_shoot_63 rfl ?_
      refine jx_if_ne C dX8_shoot_65 (by decide) (fun q => absurd q (by decide)) (fun _ => ?_)
      refine jx_bipush C dX8_shoot_68 (by decide +kernel) ?_
      exact jx_iret C dX8_shoot_70 ⟨by rw [a_shoot, if_neg (by omega)], hR, hCI, by rw [b_shoot, if_neg (fun q => by have := q.1; omega)], rfl, fun _ _ => rfl⟩
  · refine jx_if_eq C dX8_shoot_8 (by decide) (fun _ => ?_) (fun q => absurd q (by decide))
    refine jx_iconst C dX8_shoot_60 ?_
    refine jx_istore (L' := [some (.inr (ad G 0)), some (.inl w), some (.inl h), some (.inl x), some (.inl y), some (.inl g), some (.inl 0), none]) C dX8_shoot_61 (by decide) rfl ?_
    refine jx_iload C dX8_shoot_63 rfl ?_
    refine jx_if_ne C dX8_shoot_65 (by decide) (fun q => absurd q (by decide)) (fun _ => ?_)
    refine jx_bipush C dX8_shoot_68 (by decide +kernel) ?_
    exact jx_iret C dX8_shoot_70 ⟨by rw [a_shoot, if_neg (by omega)], hR, hCI, by rw [b_shoot, if_neg (fun q => by have := q.1; omega)], rfl, fun _ _ => rfl⟩
set_option maxHeartbeats 4000000 in
set_option maxRecDepth 100000 in
theorem c_X8_told (l : Launch) (G : GT) (μ : Mem) (u : Int) (hu : InR u) (hCI : CI μ) (hR : rng μ) : MI l yX8_told cX8_told 2 .int ({ frames := 0, cells := 0, slots := 0, locals := 0 } : Room) G [.inr (ad G 0), .inl u] μ (AP μ (a_told (cB μ) (μ 1 0) u) (cB μ) (μ 1 0)) := by
  refine MI.of (by decide +kernel) (Nat.le_of_ble_eq_true rfl) ?_
  intro F C Yy
  show jX F G 2 0 0 (jE F G (jQi G (AP μ (a_told (cB μ) (μ 1 0) u) (cB μ) (μ 1 0)))) 0 [some (.inr (ad G 0)), some (.inl u)] [] μ
  obtain ⟨hN, hN4⟩ := cB_N hR
  refine jx_iload_n C dX8_told_0 rfl ?_
  rcases (show u = 0 ∨ u = 1 ∨ u = 2 ∨ u = 3 ∨ (u < 0 ∨ 3 < u) by omega) with rfl | rfl | rfl | rfl | hsw
  · refine jx_tableIn (tgt := 32) C dX8_told_1 (by decide) (by decide) (by decide) rfl (by decide) ?_
    refine jx_aload_n C dX8_told_32 rfl ?_
    refine jx_get (v := .inr (ad G 2)) C 1 ft_X8 (jcl_PJ G _) rfl (by decide) (by decide) wf_X8_19 dX8_told_33 ?_
    refine jx_get (v := .inl (μ 2 3)) C 3 ft_X0 (jcl_AL G _) rfl (by decide) (by decide) wf_X8_55 dX8_told_36 ?_
    have r_36 := rg_AL_3 hR
    exact jx_iret C dX8_told_39 (AP_rd hR hCI (by rw [a_told, if_pos rfl]; omega))
  · refine jx_tableIn (tgt := 40) C dX8_told_1 (by decide) (by decide) (by decide) rfl (by decide) ?_
    refine jx_aload_n C dX8_told_40 rfl ?_
    refine jx_get (v := .inl (μ 0 4)) C 4 ft_X8 (jcl_PJ G _) rfl (by decide) (by decide) wf_X8_37 dX8_told_41 ?_
    have r_41 := rg_PJ_4 hR
    exact jx_iret C dX8_told_44 (AP_rd hR hCI (by rfl))
  · refine jx_tableIn (tgt := 45) C dX8_told_1 (by decide) (by decide) (by decide) rfl (by decide) ?_
    refine jx_aload_n C dX8_told_45 rfl ?_
    refine jx_get (v := .inl (μ 0 5)) C 5 ft_X8 (jcl_PJ G _) rfl (by decide) (by decide) wf_X8_41 dX8_told_46 ?_
    have r_46 := rg_PJ_5 hR
    exact jx_iret C dX8_told_49 (AP_rd hR hCI (by rfl))
  · refine jx_tableIn (tgt := 50) C dX8_told_1 (by decide) (by decide) (by decide) rfl (by decide) ?_
    refine jx_aload_n C dX8_told_50 rfl ?_
    refine jx_get (v := .inr (ad G 1)) C 0 ft_X8 (jcl_PJ G _) rfl (by decide) (by decide) wf_X8_12 dX8_told_51 ?_
    refine jx_get (v := .inl (μ 1 0)) C 0 ft_X7 (jcl_WO G _) rfl (by decide) (by decide) wf_X8_44 dX8_told_54 ?_
    have r_54 := rg_WO_0 hR
    exact jx_iret C dX8_told_57 (AP_rd hR hCI (by rfl))
  · refine jx_tableOut (tgt := 58) C dX8_told_1 (by omega) hsw (by decide) ?_
    refine jx_ldc C dX8_told_58 wk_X8_86 (z := (-1000002)) (by decide +kernel) ?_
    exact jx_iret C dX8_told_60 (AP_rd hR hCI (by rw [a_told, if_neg (by omega), if_neg (by omega), if_neg (by omega), if_neg (by omega)]))
