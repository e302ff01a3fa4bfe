set_option maxHeartbeats 4000000 in
set_option maxRecDepth 100000 in
theorem c_X9_barsOverlap (l : Launch) (G : GT) (μ : Mem) (u w f : Int) (hu : InR u) (hw : InR w) (hf : f = 0 ∨ f = 1) (hMI : MIv μ) (hR : rng μ) : MI l yX9_barsOverlap cX9_barsOverlap 4 .int ({ frames := 5, cells := 0, slots := 0, locals := 120 } : Room) G [.inr (ad G 78), .inl u, .inl w, .inl f] μ (fun z μ' => rng μ' ∧ MPx μ μ' ∧ z = rof (mB μ) u w (f = 1) ∧ (z = 0 → OVm μ μ' u w)) := by
  refine MI.of (by decide +kernel) (Nat.le_of_ble_eq_true rfl) ?_
  intro F C Yy
  show jX F G 4 0 0 (jE F G (jQi G (fun z μ' => rng μ' ∧ MPx μ μ' ∧ z = rof (mB μ) u w (f = 1) ∧ (z = 0 → OVm μ μ' u w)))) 0 [some (.inr (ad G 78)), some (.inl u), some (.inl w), some (.inl f)] [] μ
  obtain ⟨hN, hN4⟩ := mB_N hR
  refine jx_aload_n C dX9_barsOverlap_0 rfl ?_
  refine jx_iload_n C dX9_barsOverlap_1 rfl ?_
  refine jx_iload_n C dX9_barsOverlap_2 rfl ?_
  refine jx_cVi (as := [.inl u, .inl w]) (st := []) C Yy (c_X9_arePair l G μ u w (by omega) (by omega) hR) yb_X9_arePair yv_X9_arePair wm_X9_157 (jcl_MO G _) rfl (by decide) rfl rfl (Nat.le_of_ble_eq_true rfl) ⟨⟨rfl, rfl, Nat.le_of_ble_eq_true rfl, Nat.le_of_ble_eq_true rfl⟩, Nat.zero_le _, Nat.zero_le _⟩ dX9_barsOverlap_3 ?_
  rintro _ _ ⟨rfl, ⟨rfl, c_3⟩ | ⟨rfl, c_3⟩⟩
  · obtain ⟨a, rfl⟩ := Int.eq_ofNat_of_zero_le c_3.1.1
    obtain ⟨b, rfl⟩ := Int.eq_ofNat_of_zero_le c_3.2.1.1
    have ha : a < bN (mB μ) := by have := c_3.1.2; omega
    have hb : b < bN (mB μ) := by have := c_3.2.1.2; omega
    have hab : ¬ a = b := by have := c_3.2.2; omega
    refine jx_if_ne C dX9_barsOverlap_6 (by decide) (fun _ => ?_) (fun q => absurd q (by decide))
    refine jx_iload_n C dX9_barsOverlap_11 rfl ?_
    refine jx_if_ne C dX9_barsOverlap_12 (by omega) (fun c_12 => ?_) (fun c_12 => ?_)
    · refine jx_aload_n C dX9_barsOverlap_18 rfl ?_
      refine jx_cVv (as := []) (st := []) C Yy (c_X9_lay l G μ hMI hR) yb_X9_lay yv_X9_lay wm_X9_150 (jcl_MO G _) rfl (by decide) rfl rfl (Nat.le_of_ble_eq_true rfl) ⟨⟨rfl, rfl, Nat.le_of_ble_eq_true rfl, Nat.le_of_ble_eq_true rfl⟩, Nat.zero_le _, Nat.zero_le _⟩ dX9_barsOverlap_19 ?_
      intro μ1 hμ1
      have hR1 := hμ1.1
      have hMD1 := hμ1.2.2.1
      have hB1 : mB μ1 = mB μ := hμ1.2.2.2.1
      have q_n1 : μ1 78 1 = (bN (mB μ) : Int) := by rw [hμ1.2.2.2.2.2 1 (by decide) (by decide)]; exact hN
      have hA := MD_pic hMD1 (p := a) (by rw [hB1]; exact ha)
      have hB := MD_pic hMD1 (p := b) (by rw [hB1]; exact hb)
      rw [hB1] at hA hB
      have hjA := MD_j6 hR ha
      have hjB := MD_j6 hR hb
      refine jx_aload_n C dX9_barsOverlap_22 rfl ?_
      refine jx_get (v := .inr (ad G 94)) C 21 ft_X9 (jcl_MO G _) rfl (by decide) (by decide) wf_X9_62 dX9_barsOverlap_23 ?_
      refine jx_iload_n C dX9_barsOverlap_26 rfl ?_
      refine jx_iald C (jcl_94 G _) (by decide) (by omega) (by omega) (by decide) dX9_barsOverlap_27 ?_
      have r_27 := rg_94 hR1 ((a : Int).toNat)
      have e_27 : μ1 94 (a : Int).toNat = jrk (mB μ) a := (by rw [Int.toNat_natCast]; exact hA.1)
      rw [e_27] at r_27
      refine jx_top (b := jrk (mB μ) a) e_27 ?_
      refine jx_if_lt C dX9_barsOverlap_28 (by omega) (fun c_28 => ?_) (fun c_28 => ?_)
      · refine jx_bipush C dX9_barsOverlap_40 (by decide +kernel) ?_
        exact jx_iret C dX9_barsOverlap_42 ⟨hR1, MPx_lt hμ1, by rw [rof, if_neg (fun q => q c_3), if_neg (by omega), if_pos (by simp only [Int.toNat_natCast]; omega)], fun h => by omega⟩
      · refine jx_aload_n C dX9_barsOverlap_31 rfl ?_
        refine jx_get (v := .inr (ad G 94)) C 21 ft_X9 (jcl_MO G _) rfl (by decide) (by decide) wf_X9_62 dX9_barsOverlap_32 ?_
        refine jx_iload_n C dX9_barsOverlap_35 rfl ?_
        refine jx_iald C (jcl_94 G _) (by decide) (by omega) (by omega) (by decide) dX9_barsOverlap_36 ?_
        have r_36 := rg_94 hR1 ((b : Int).toNat)
        have e_36 : μ1 94 (b : Int).toNat = jrk (mB μ) b := (by rw [Int.toNat_natCast]; exact hB.1)
        rw [e_36] at r_36
        refine jx_top (b := jrk (mB μ) b) e_36 ?_
        refine jx_if_ge C dX9_barsOverlap_37 (by omega) (fun c_37 => ?_) (fun c_37 => ?_)
        · refine jx_aload_n C dX9_barsOverlap_43 rfl ?_
          refine jx_iload_n C dX9_barsOverlap_44 rfl ?_
          refine jx_iload_n C dX9_barsOverlap_45 rfl ?_
          refine jx_cVv (as := [.inl (a : Int), .inl (b : Int)]) (st := []) C Yy (c_X9_layOverlap l G μ1 a b (by omega) (by omega) (a : Int) (b : Int) rfl rfl hR1) yb_X9_layOverlap yv_X9_layOverlap wm_X9_173 (jcl_MO G _) rfl (by decide) rfl rfl (Nat.le_of_ble_eq_true rfl) ⟨⟨rfl, rfl, Nat.le_of_ble_eq_true rfl, Nat.le_of_ble_eq_true rfl⟩, Nat.zero_le _, Nat.zero_le _⟩ dX9_barsOverlap_46 ?_
          intro μ2 hμ2
          have hR2 := hμ2.1
          have hX := MPx_ov (μ1 := μ1) (μ2 := μ2) hμ1 hR2 (fun k hk _ => hμ2.2.2.1 k hk) hμ2.2.2.2
          refine jx_iconst C dX9_barsOverlap_49 ?_
          exact jx_iret C dX9_barsOverlap_50 ⟨hR2, hX, by rw [rof, if_neg (fun q => q c_3), if_neg (by omega), if_neg (by simp only [Int.toNat_natCast]; omega)], fun _ => ⟨a, b, rfl, rfl, ha, hb, hab, by omega, by omega, (MDn_fr (μ := μ1) (μ' := μ2) (fun k hk _ => hμ2.2.2.1 k hk) (fun j _ hj => hμ2.2.2.2 j hj)).2 hMD1, by rw [hμ2.2.1, ← hB1]; exact MD_ovr hMD1 (by rw [hB1]; exact ha) (by rw [hB1]; exact hb) (by rw [hB1]; omega) (by rw [hB1]; omega)⟩⟩
        · refine jx_bipush C dX9_barsOverlap_40 (by decide +kernel) ?_
          exact jx_iret C dX9_barsOverlap_42 ⟨hR1, MPx_lt hμ1, by rw [rof, if_neg (fun q => q c_3), if_neg (by omega), if_pos (by simp only [Int.toNat_natCast]; omega)], fun h => by omega⟩
    · refine jx_bipush C dX9_barsOverlap_15 (by decide +kernel) ?_
      exact jx_iret C dX9_barsOverlap_17 ⟨hR, MPx_id hR hMI, by rw [rof, if_neg (fun q => q c_3), if_pos (by omega)], fun h => by omega⟩
  · refine jx_if_ne C dX9_barsOverlap_6 (by decide) (fun q => absurd q (by decide)) (fun _ => ?_)
    refine jx_iconst C dX9_barsOverlap_9 ?_
    exact jx_iret C dX9_barsOverlap_10 ⟨hR, MPx_id hR hMI, by rw [rof, if_pos c_3], fun h => by omega⟩
set_option maxHeartbeats 4000000 in
set_option maxRecDepth 100000 in
theorem c_X9_overlap (l : Launch) (G : GT) (μ : Mem) (u w t : Int) (hu : InR u) (hw : InR w) (ht : InR t) (hMI : MIv μ) (hR : rng μ) : MI l yX9_overlap cX9_overlap 5 .int ({ frames := 6, cells := 0, slots := 0, locals := 143 } : Room) G [.inr (ad G 78), .inl u, .inl w, .inl t] μ (MP μ (a_overlap (mB μ) u w t) (mB μ) (μ 78 0)) := by
  refine MI.of (by decide +kernel) (Nat.le_of_ble_eq_true rfl) ?_
  intro F C Yy
  show jX F G 5 0 0 (jE F G (jQi G (MP μ (a_overlap (mB μ) u w t) (mB μ) (μ 78 0)))) 0 [some (.inr (ad G 78)), some (.inl u), some (.inl w), some (.inl t), none] [] μ
  obtain ⟨hN, hN4⟩ := mB_N hR
  refine jx_aload_n C dX9_overlap_0 rfl ?_
  refine jx_iload_n C dX9_overlap_1 rfl ?_
  refine jx_iload_n C dX9_overlap_2 rfl ?_
  refine jx_iload_n C dX9_overlap_3 rfl ?_
  refine jx_iconst C dX9_overlap_4 ?_
  refine jx_iconst C dX9_overlap_5 ?_
  refine jx_cSi (as := [.inl t, .inl 0, .inl 3]) (st := [.inl w, .inl u, .inr (ad G 78)]) C Yy (c_X9_in l G μ t 0 3 (by omega) (by omega) (by omega)) yb_X9_in ws_X9_in wm_X9_71 rfl rfl (Nat.le_of_ble_eq_true rfl) ⟨⟨rfl, rfl, Nat.le_of_ble_eq_true rfl, Nat.le_of_ble_eq_true rfl⟩, Nat.zero_le _, Nat.zero_le _⟩ dX9_overlap_6 ?_
  rintro _ _ ⟨rfl, ⟨rfl, c_6⟩ | ⟨rfl, c_6⟩⟩
  · refine jx_cVi (as := [.inl u, .inl w, .inl 1]) (st := []) C Yy (c_X9_barsOverlap l G μ u w 1 (by omega) (by omega) (by omega) hMI hR) yb_X9_barsOverlap yv_X9_barsOverlap wm_X9_176 (jcl_MO G _) rfl (by decide) rfl rfl (Nat.le_of_ble_eq_true rfl) ⟨⟨rfl, rfl, Nat.le_of_ble_eq_true rfl, Nat.le_of_ble_eq_true rfl⟩, Nat.zero_le _, Nat.zero_le _⟩ dX9_overlap_9 ?_
    intro z_9 μ1 hμ1
    have hR1 := hμ1.1
    have hX := hμ1.2.1
    have hrf : z_9 = rof (mB μ) u w (0 ≤ t ∧ t ≤ 3) := by rw [hμ1.2.2.1]; exact rof_cong (by first | omega | simp)
    have hrr := rof_rng (mB μ) u w (0 ≤ t ∧ t ≤ 3)
    have hOV := hμ1.2.2.2
    refine jx_istore (L' := [some (.inr (ad G 78)), some (.inl u), some (.inl w), some (.inl t), some (.inl z_9)]) C dX9_overlap_12 (by decide) rfl ?_
    refine jx_iload C dX9_overlap_14 rfl ?_
    refine jx_if_ge C dX9_overlap_16 (by omega) (fun c_16 => ?_) (fun c_16 => ?_)
    · obtain ⟨a, b, hua, hwb, ha, hb, hab, ja, jb, hMD, hov⟩ := hOV (by omega)
      have ov0 : μ1 78 22 = (bov (mB μ) a b).1 := congrArg (fun z => z.1) hov
      have ov1 : μ1 78 23 = (bov (mB μ) a b).2.1 := congrArg (fun z => z.2.1) hov
      have ov2 : μ1 78 24 = (bov (mB μ) a b).2.2.1 := congrArg (fun z => z.2.2.1) hov
      have ov3 : μ1 78 25 = (bov (mB μ) a b).2.2.2 := congrArg (fun z => z.2.2.2) hov
      have hau : u.toNat = a := by omega
      have hbw : w.toNat = b := by omega
      have hBx : mB μ1 = mB μ := hX.2.2.1
      have hbr := bov_rng (mB_ok hR) (a := a) (b := b) ha
      refine jx_iload_n C dX9_overlap_27 rfl ?_
      refine jx_if_ne C dX9_overlap_28 (by omega) (fun c_28 => ?_) (fun c_28 => ?_)
      · refine jx_iload_n C dX9_overlap_38 rfl ?_
        refine jx_iconst C dX9_overlap_39 ?_
        refine jx_icmp_ne C dX9_overlap_40 (by omega) (by decide) (fun c_40 => ?_) (fun c_40 => ?_)
        · refine jx_iload_n C dX9_overlap_50 rfl ?_
          refine jx_iconst C dX9_overlap_51 ?_
          refine jx_icmp_ne C dX9_overlap_52 (by omega) (by decide) (fun c_52 => ?_) (fun c_52 => ?_)
          · refine jx_aload_n C dX9_overlap_62 rfl ?_
            refine jx_get (v := .inl (μ1 78 25)) C 25 ft_X9 (jcl_MO G _) rfl (by decide) (by decide) wf_X9_170 dX9_overlap_63 ?_
            have r_63 := rg_MO_25 hR1
            have e_63 : μ1 78 25 = (bov (mB μ) a b).2.2.2 := ov3
            rw [e_63] at r_63
            refine jx_top (b := (bov (mB μ) a b).2.2.2) e_63 ?_
            exact jx_iret C dX9_overlap_66 (MP_x hX (by rw [a_overlap, if_neg (by omega), if_neg (by omega), if_neg (by omega), if_neg (by omega), hau, hbw]; first | done | rfl))
          · refine jx_aload_n C dX9_overlap_55 rfl ?_
            refine jx_get (v := .inl (μ1 78 24)) C 24 ft_X9 (jcl_MO G _) rfl (by decide) (by decide) wf_X9_167 dX9_overlap_56 ?_
            have r_56 := rg_MO_24 hR1
            have e_56 : μ1 78 24 = (bov (mB μ) a b).2.2.1 := ov2
            rw [e_56] at r_56
            refine jx_top (b := (bov (mB μ) a b).2.2.1) e_56 ?_
            refine jx_goto C dX9_overlap_59 ?_
            exact jx_iret C dX9_overlap_66 (MP_x hX (by rw [a_overlap, if_neg (by omega), if_neg (by omega), if_neg (by omega), if_pos (by omega), hau, hbw]; first | done | rfl))
        · refine jx_aload_n C dX9_overlap_43 rfl ?_
          refine jx_get (v := .inl (μ1 78 23)) C 23 ft_X9 (jcl_MO G _) rfl (by decide) (by decide) wf_X9_164 dX9_overlap_44 ?_
          have r_44 := rg_MO_23 hR1
          have e_44 : μ1 78 23 = (bov (mB μ) a b).2.1 := ov1
          rw [e_44] at r_44
          refine jx_top (b := (bov (mB μ) a b).2.1) e_44 ?_
          refine jx_goto C dX9_overlap_47 ?_
          exact jx_iret C dX9_overlap_66 (MP_x hX (by rw [a_overlap, if_neg (by omega), if_neg (by omega), if_pos (by omega), hau, hbw]; first | done | rfl))
      · refine jx_aload_n C dX9_overlap_31 rfl ?_
        refine jx_get (v := .inl (μ1 78 22)) C 22 ft_X9 (jcl_MO G _) rfl (by decide) (by decide) wf_X9_161 dX9_overlap_32 ?_
        have r_32 := rg_MO_22 hR1
        have e_32 : μ1 78 22 = (bov (mB μ) a b).1 := ov0
        rw [e_32] at r_32
        refine jx_top (b := (bov (mB μ) a b).1) e_32 ?_
        refine jx_goto C dX9_overlap_35 ?_
        exact jx_iret C dX9_overlap_66 (MP_x hX (by rw [a_overlap, if_neg (by omega), if_pos (by omega), hau, hbw]; first | done | rfl))
    · refine jx_ldc C dX9_overlap_19 wk_X9_180 (z := (-1000000)) (by decide +kernel) ?_
      refine jx_iload C dX9_overlap_21 rfl ?_
      refine jx_iadd C dX9_overlap_23 ?_
      refine jx_goto C dX9_overlap_24 ?_
      exact jx_iret C dX9_overlap_66 (MP_x hX (by rw [a_overlap, if_pos (by omega)]; omega))
  · refine jx_cVi (as := [.inl u, .inl w, .inl 0]) (st := []) C Yy (c_X9_barsOverlap l G μ u w 0 (by omega) (by omega) (by omega) hMI hR) yb_X9_barsOverlap yv_X9_barsOverlap wm_X9_176 (jcl_MO G _) rfl (by decide) rfl rfl (Nat.le_of_ble_eq_true rfl) ⟨⟨rfl, rfl, Nat.le_of_ble_eq_true rfl, Nat.le_of_ble_eq_true rfl⟩, Nat.zero_le _, Nat.zero_le _⟩ dX9_overlap_9 ?_
    intro z_9 μ2 hμ2
    have hR2 := hμ2.1
    have hX := hμ2.2.1
    have hrf : z_9 = rof (mB μ) u w (0 ≤ t ∧ t ≤ 3) := by rw [hμ2.2.2.1]; exact rof_cong (by first | omega | simp)
    have hrr := rof_rng (mB μ) u w (0 ≤ t ∧ t ≤ 3)
    have hOV := hμ2.2.2.2
    refine jx_istore (L' := [some (.inr (ad G 78)), some (.inl u), some (.inl w), some (.inl t), some (.inl z_9)]) C dX9_overlap_12 (by decide) rfl ?_
    refine jx_iload C dX9_overlap_14 rfl ?_
    refine jx_if_ge C dX9_overlap_16 (by omega) (fun c_16 => ?_) (fun c_16 => ?_)
    · obtain ⟨a, b, hua, hwb, ha, hb, hab, ja, jb, hMD, hov⟩ := hOV (by omega)
      have ov0 : μ2 78 22 = (bov (mB μ) a b).1 := congrArg (fun z => z.1) hov
      have ov1 : μ2 78 23 = (bov (mB μ) a b).2.1 := congrArg (fun z => z.2.1) hov
      have ov2 : μ2 78 24 = (bov (mB μ) a b).2.2.1 := congrArg (fun z => z.2.2.1) hov
      have ov3 : μ2 78 25 = (bov (mB μ) a b).2.2.2 := congrArg (fun z => z.2.2.2) hov
      have hau : u.toNat = a := by omega
      have hbw : w.toNat = b := by omega
      have hBx : mB μ2 = mB μ := hX.2.2.1
      have hbr := bov_rng (mB_ok hR) (a := a) (b := b) ha
      refine jx_iload_n C dX9_overlap_27 rfl ?_
      refine jx_if_ne C dX9_overlap_28 (by omega) (fun c_28 => ?_) (fun c_28 => ?_)
      · refine jx_iload_n C dX9_overlap_38 rfl ?_
        refine jx_iconst C dX9_overlap_39 ?_
        refine jx_icmp_ne C dX9_overlap_40 (by omega) (by decide) (fun c_40 => ?_) (fun c_40 => ?_)
        · refine jx_iload_n C dX9_overlap_50 rfl ?_
          refine jx_iconst C dX9_overlap_51 ?_
          refine jx_icmp_ne C dX9_overlap_52 (by omega) (by decide) (fun c_52 => ?_) (fun c_52 => ?_)
          · refine jx_aload_n C dX9_overlap_62 rfl ?_
            refine jx_get (v := .inl (μ2 78 25)) C 25 ft_X9 (jcl_MO G _) rfl (by decide) (by decide) wf_X9_170 dX9_overlap_63 ?_
            have r_63 := rg_MO_25 hR2
            have e_63 : μ2 78 25 = (bov (mB μ) a b).2.2.2 := ov3
            rw [e_63] at r_63
            refine jx_top (b := (bov (mB μ) a b).2.2.2) e_63 ?_
            exact jx_iret C dX9_overlap_66 (MP_x hX (by rw [a_overlap, if_neg (by omega), if_neg (by omega), if_neg (by omega), if_neg (by omega), hau, hbw]; first | done | rfl))
          · refine jx_aload_n C dX9_overlap_55 rfl ?_
            refine jx_get (v := .inl (μ2 78 24)) C 24 ft_X9 (jcl_MO G _) rfl (by decide) (by decide) wf_X9_167 dX9_overlap_56 ?_
            have r_56 := rg_MO_24 hR2
            have e_56 : μ2 78 24 = (bov (mB μ) a b).2.2.1 := ov2
            rw [e_56] at r_56
            refine jx_top (b := (bov (mB μ) a b).2.2.1) e_56 ?_
            refine jx_goto C dX9_overlap_59 ?_
            exact jx_iret C dX9_overlap_66 (MP_x hX (by rw [a_overlap, if_neg (by omega), if_neg (by omega), if_neg (by omega), if_pos (by omega), hau, hbw]; first | done | rfl))
        · refine jx_aload_n C dX9_overlap_43 rfl ?_
          refine jx_get (v := .inl (μ2 78 23)) C 23 ft_X9 (jcl_MO G _) rfl (by decide) (by decide) wf_X9_164 dX9_overlap_44 ?_
          have r_44 := rg_MO_23 hR2
          have e_44 : μ2 78 23 = (bov (mB μ) a b).2.1 := ov1
          rw [e_44] at r_44
          refine jx_top (b := (bov (mB μ) a b).2.1) e_44 ?_
          refine jx_goto C dX9_overlap_47 ?_
          exact jx_iret C dX9_overlap_66 (MP_x hX (by rw [a_overlap, if_neg (by omega), if_neg (by omega), if_pos (by omega), hau, hbw]; first | done | rfl))
      · refine jx_aload_n C dX9_overlap_31 rfl ?_
        refine jx_get (v := .inl (μ2 78 22)) C 22 ft_X9 (jcl_MO G _) rfl (by decide) (by decide) wf_X9_161 dX9_overlap_32 ?_
        have r_32 := rg_MO_22 hR2
        have e_32 : μ2 78 22 = (bov (mB μ) a b).1 := ov0
        rw [e_32] at r_32
        refine jx_top (b := (bov (mB μ) a b).1) e_32 ?_
        refine jx_goto C dX9_overlap_35 ?_
        exact jx_iret C dX9_overlap_66 (MP_x hX (by rw [a_overlap, if_neg (by omega), if_pos (by omega), hau, hbw]; first | done | rfl))
    · refine jx_ldc C dX9_overlap_19 wk_X9_180 (z := (-1000000)) (by decide +kernel) ?_
      refine jx_iload C dX9_overlap_21 rfl ?_
      refine jx_iadd C dX9_overlap_23 ?_
      refine jx_goto C dX9_overlap_24 ?_
      exact jx_iret C dX9_overlap_66 (MP_x hX (by rw [a_overlap, if_pos (by omega)]; omega))
set_option maxHeartbeats 4000000 in
set_option maxRecDepth 100000 in
theorem c_X9_dotOver (l : Launch) (G : GT) (μ : Mem) (p : Nat) (hp : p < 4) (pi : Int) (hpi : pi = (p : Int)) (dA : Int → Int → Int) (hdA : ∀ x y, dgt (μ 79 p) (μ 80 p) (mvv μ p) (x - μ 91 p) (y - μ 92 p) = dA x y) (x y : Int) (hx : 0 ≤ x ∧ x ≤ 20) (hy : 0 ≤ y ∧ y ≤ 20) (hin : (0 ≤ μ 78 22 + x - μ 91 p ∧ μ 78 22 + x - μ 91 p < μ 79 p) ∧ 0 ≤ μ 78 23 + y - μ 92 p ∧ μ 78 23 + y - μ 92 p < μ 80 p) (hR : rng μ) : MI l yX9_dotOver cX9_dotOver 4 .int ({ frames := 1, cells := 0, slots := 0, locals := 23 } : Room) G [.inr (ad G 78), .inl pi, .inl x, .inl y] μ (rdq μ (dA (μ 78 22 + x) (μ 78 23 + y))) := by
  refine MI.of (by decide +kernel) (Nat.le_of_ble_eq_true rfl) ?_
  intro F C Yy
  show jX F G 4 0 0 (jE F G (jQi G (rdq μ (dA (μ 78 22 + x) (μ 78 23 + y))))) 0 [some (.inr (ad G 78)), some (.inl pi), some (.inl x), some (.inl y)] [] μ
  have hpt : pi.toNat = p := by omega
  have r_w := rg_79 hR p
  have r_h := rg_80 hR p
  refine jx_aload_n C dX9_dotOver_0 rfl ?_
  refine jx_iload_n C dX9_dotOver_1 rfl ?_
  refine jx_aload_n C dX9_dotOver_2 rfl ?_
  refine jx_get (v := .inl (μ 78 22)) C 22 ft_X9 (jcl_MO G _) rfl (by decide) (by decide) wf_X9_161 dX9_dotOver_3 ?_
  have r_3 := rg_MO_22 hR
  refine jx_iload_n C dX9_dotOver_6 rfl ?_
  refine jx_iadd C dX9_dotOver_7 ?_
  refine jx_aload_n C dX9_dotOver_8 rfl ?_
  refine jx_get (v := .inr (ad G 91)) C 18 ft_X9 (jcl_MO G _) rfl (by decide) (by decide) wf_X9_53 dX9_dotOver_9 ?_
  refine jx_iload_n C dX9_dotOver_12 rfl ?_
  refine jx_iald C (jcl_91 G _) (by decide) (by omega) (by omega) (by decide) dX9_dotOver_13 ?_
  have r_13 := rg_91 hR pi.toNat
  have e_13 : μ 91 pi.toNat = μ 91 p := (by rw [hpt])
  rw [e_13] at r_13
  refine jx_top (b := μ 91 p) e_13 ?_
  refine jx_isub C dX9_dotOver_14 ?_
  refine jx_aload_n C dX9_dotOver_15 rfl ?_
  refine jx_get (v := .inl (μ 78 23)) C 23 ft_X9 (jcl_MO G _) rfl (by decide) (by decide) wf_X9_164 dX9_dotOver_16 ?_
  have r_16 := rg_MO_23 hR
  refine jx_iload_n C dX9_dotOver_19 rfl ?_
  refine jx_iadd C dX9_dotOver_20 ?_
  refine jx_aload_n C dX9_dotOver_21 rfl ?_
  refine jx_get (v := .inr (ad G 92)) C 19 ft_X9 (jcl_MO G _) rfl (by decide) (by decide) wf_X9_56 dX9_dotOver_22 ?_
  refine jx_iload_n C dX9_dotOver_25 rfl ?_
  refine jx_iald C (jcl_92 G _) (by decide) (by omega) (by omega) (by decide) dX9_dotOver_26 ?_
  have r_26 := rg_92 hR pi.toNat
  have e_26 : μ 92 pi.toNat = μ 92 p := (by rw [hpt])
  rw [e_26] at r_26
  refine jx_top (b := μ 92 p) e_26 ?_
  refine jx_isub C dX9_dotOver_27 ?_
  refine jx_cVi (as := [.inl pi, .inl (μ 78 22 + x - (μ 91 p)), .inl (μ 78 23 + y - (μ 92 p))]) (st := []) C Yy (c_X9_dotAt l G μ pi (μ 78 22 + x - (μ 91 p)) (μ 78 23 + y - (μ 92 p)) (by omega) hR) yb_X9_dotAt yv_X9_dotAt wm_X9_99 (jcl_MO G _) rfl (by decide) rfl rfl (Nat.le_of_ble_eq_true rfl) ⟨⟨rfl, rfl, Nat.le_of_ble_eq_true rfl, Nat.le_of_ble_eq_true rfl⟩, Nat.zero_le _, Nat.zero_le _⟩ dX9_dotOver_28 ?_
  rintro _ _ ⟨rfl, rfl⟩
  have r_28 := rg_81 hR (400 * pi + 20 * (μ 78 23 + y - (μ 92 p)) + (μ 78 22 + x - (μ 91 p))).toNat
  exact jx_iret C dX9_dotOver_31 ⟨by rw [← hdA]; exact (md_in hR hpi ⟨hin.1.1, hin.1.2, hin.2.1, hin.2.2⟩).symm, rfl⟩
