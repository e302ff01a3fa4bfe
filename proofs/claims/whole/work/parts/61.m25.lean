set_option maxHeartbeats 4000000 in
set_option maxRecDepth 100000 in
theorem c_X9_shift (l : Launch) (G : GT) (μ : Mem) (u w t : Int) (hu : InR u) (hw : InR w) (ht : InR t) (hMI : MIv μ) (hR : rng μ) : MI l yX9_shift cX9_shift 5 .int ({ frames := 5, cells := 0, slots := 0, locals := 120 } : Room) G [.inr (ad G 78), .inl u, .inl w, .inl t] μ (MP μ (a_shift (mB μ) u w t) (mB μ) (μ 78 0)) := by
  refine MI.of (by decide +kernel) (Nat.le_of_ble_eq_true rfl) ?_
  intro F C Yy
  show jX F G 5 0 0 (jE F G (jQi G (MP μ (a_shift (mB μ) u w t) (mB μ) (μ 78 0)))) 0 [some (.inr (ad G 78)), some (.inl u), some (.inl w), some (.inl t), none] [] μ
  obtain ⟨hN, hN4⟩ := mB_N hR
  refine jx_aload_n C dX9_shift_0 rfl ?_
  refine jx_iload_n C dX9_shift_1 rfl ?_
  refine jx_iload_n C dX9_shift_2 rfl ?_
  refine jx_cVi (as := [.inl u, .inl w]) (st := []) C Yy (c_X9_arePair l G μ u w (by omega) (by omega) hR) yb_X9_arePair yv_X9_arePair wm_X9_157 (jcl_MO G _) rfl (by decide) rfl rfl (Nat.le_of_ble_eq_true rfl) ⟨⟨rfl, rfl, Nat.le_of_ble_eq_true rfl, Nat.le_of_ble_eq_true rfl⟩, Nat.zero_le _, Nat.zero_le _⟩ dX9_shift_3 ?_
  rintro _ _ ⟨rfl, ⟨rfl, c_3⟩ | ⟨rfl, c_3⟩⟩
  · obtain ⟨a, rfl⟩ := Int.eq_ofNat_of_zero_le c_3.1.1
    obtain ⟨b, rfl⟩ := Int.eq_ofNat_of_zero_le c_3.2.1.1
    have ha : a < bN (mB μ) := by have := c_3.1.2; omega
    have hb : b < bN (mB μ) := by have := c_3.2.1.2; omega
    have hab : ¬ a = b := by have := c_3.2.2; omega
    refine jx_if_ne C dX9_shift_6 (by decide) (fun _ => ?_) (fun q => absurd q (by decide))
    refine jx_iload_n C dX9_shift_12 rfl ?_
    refine jx_iconst C dX9_shift_13 ?_
    refine jx_iconst C dX9_shift_14 ?_
    refine jx_cSi (as := [.inl t, .inl 0, .inl 3]) (st := []) C Yy (c_X9_in l G μ t 0 3 (by omega) (by omega) (by omega)) yb_X9_in ws_X9_in wm_X9_71 rfl rfl (Nat.le_of_ble_eq_true rfl) ⟨⟨rfl, rfl, Nat.le_of_ble_eq_true rfl, Nat.le_of_ble_eq_true rfl⟩, Nat.zero_le _, Nat.zero_le _⟩ dX9_shift_15 ?_
    rintro _ _ ⟨rfl, ⟨rfl, c_15⟩ | ⟨rfl, c_15⟩⟩
    · refine jx_if_ne C dX9_shift_18 (by decide) (fun _ => ?_) (fun q => absurd q (by decide))
      refine jx_aload_n C dX9_shift_24 rfl ?_
      refine jx_cVv (as := []) (st := []) C Yy (c_X9_lay l G μ hMI hR) yb_X9_lay yv_X9_lay wm_X9_150 (jcl_MO G _) rfl (by decide) rfl rfl (Nat.le_of_ble_eq_true rfl) ⟨⟨rfl, rfl, Nat.le_of_ble_eq_true rfl, Nat.le_of_ble_eq_true rfl⟩, Nat.zero_le _, Nat.zero_le _⟩ dX9_shift_25 ?_
      intro μ1 hμ1
      have hR1 := hμ1.1
      have hMD1 := hμ1.2.2.1
      have hB1 : mB μ1 = mB μ := hμ1.2.2.2.1
      have q_n1 : μ1 78 1 = (bN (mB μ) : Int) := by rw [hμ1.2.2.2.2.2 1 (by decide) (by decide)]; exact hN
      have hP := (hMD1.2.1 a b (by rw [hB1]; exact ha) (by rw [hB1]; exact hb) hab).2
      rw [hB1] at hP
      have hVr := bV_rng (mB μ) (4 * a + b)
      refine jx_iconst C dX9_shift_28 ?_
      refine jx_iload_n C dX9_shift_29 rfl ?_
      refine jx_imul C dX9_shift_30 ?_
      refine jx_iload_n C dX9_shift_31 rfl ?_
      refine jx_iadd C dX9_shift_32 ?_
      refine jx_istore (L' := [some (.inr (ad G 78)), some (.inl (a : Int)), some (.inl (b : Int)), some (.inl t), some (.inl (4 * (a : Int) + (b : Int)))]) C dX9_shift_33 (by decide) rfl ?_
      refine jx_iload_n C dX9_shift_35 rfl ?_
      refine jx_iconst C dX9_shift_36 ?_
      refine jx_icmp_le C dX9_shift_37 (by omega) (by decide) (fun c_37 => ?_) (fun c_37 => ?_)
      · refine jx_aload_n C dX9_shift_63 rfl ?_
        refine jx_get (v := .inr (ad G 89)) C 15 ft_X9 (jcl_MO G _) rfl (by decide) (by decide) wf_X9_47 dX9_shift_64 ?_
        refine jx_iload C dX9_shift_67 rfl ?_
        refine jx_iald C (jcl_89 G _) (by decide) (by omega) (by omega) (by decide) dX9_shift_69 ?_
        have r_69 := rg_89 hR1 ((4 * (a : Int) + (b : Int)).toNat)
        have e_69 : μ1 89 (4 * (a : Int) + (b : Int)).toNat = bV (mB μ) (4 * a + b) := (by rw [show (4 * (a : Int) + (b : Int)).toNat = 4 * a + b by omega]; exact hP.2.1)
        rw [e_69] at r_69
        refine jx_top (b := bV (mB μ) (4 * a + b)) e_69 ?_
        refine jx_if_ne C dX9_shift_70 (by omega) (fun c_70 => ?_) (fun c_70 => ?_)
        · refine jx_iload_n C dX9_shift_78 rfl ?_
          refine jx_if_ne C dX9_shift_79 (by omega) (fun c_79 => ?_) (fun c_79 => ?_)
          · refine jx_aload_n C dX9_shift_92 rfl ?_
            refine jx_get (v := .inr (ad G 88)) C 14 ft_X9 (jcl_MO G _) rfl (by decide) (by decide) wf_X9_44 dX9_shift_93 ?_
            refine jx_iload C dX9_shift_96 rfl ?_
            refine jx_iald C (jcl_88 G _) (by decide) (by omega) (by omega) (by decide) dX9_shift_98 ?_
            have r_98 := rg_88 hR1 ((4 * (a : Int) + (b : Int)).toNat)
            have e_98 : μ1 88 (4 * (a : Int) + (b : Int)).toNat = bY (mB μ) (4 * a + b) := (by rw [show (4 * (a : Int) + (b : Int)).toNat = 4 * a + b by omega]; exact (hP.2.2 (by omega)).2)
            rw [e_98] at r_98
            refine jx_top (b := bY (mB μ) (4 * a + b)) e_98 ?_
            exact jx_iret C dX9_shift_99 (MP_lt hμ1 (by rw [a_shift, Int.toNat_natCast, Int.toNat_natCast, if_neg (fun g => g c_3), if_neg (fun g => g c_15), if_neg (by omega), if_neg (by omega), if_neg (by omega), if_neg (by omega)]; first | done | rfl))
          · refine jx_aload_n C dX9_shift_82 rfl ?_
            refine jx_get (v := .inr (ad G 87)) C 13 ft_X9 (jcl_MO G _) rfl (by decide) (by decide) wf_X9_41 dX9_shift_83 ?_
            refine jx_iload C dX9_shift_86 rfl ?_
            refine jx_iald C (jcl_87 G _) (by decide) (by omega) (by omega) (by decide) dX9_shift_88 ?_
            have r_88 := rg_87 hR1 ((4 * (a : Int) + (b : Int)).toNat)
            have e_88 : μ1 87 (4 * (a : Int) + (b : Int)).toNat = bX (mB μ) (4 * a + b) := (by rw [show (4 * (a : Int) + (b : Int)).toNat = 4 * a + b by omega]; exact (hP.2.2 (by omega)).1)
            rw [e_88] at r_88
            refine jx_top (b := bX (mB μ) (4 * a + b)) e_88 ?_
            refine jx_goto C dX9_shift_89 ?_
            exact jx_iret C dX9_shift_99 (MP_lt hμ1 (by rw [a_shift, Int.toNat_natCast, Int.toNat_natCast, if_neg (fun g => g c_3), if_neg (fun g => g c_15), if_neg (by omega), if_neg (by omega), if_neg (by omega), if_pos (by omega)]; first | done | rfl))
        · refine jx_ldc C dX9_shift_73 wk_X9_160 (z := (-1000005)) (by decide +kernel) ?_
          refine jx_goto C dX9_shift_75 ?_
          exact jx_iret C dX9_shift_99 (MP_lt hμ1 (by rw [a_shift, Int.toNat_natCast, Int.toNat_natCast, if_neg (fun g => g c_3), if_neg (fun g => g c_15), if_neg (by omega), if_neg (by omega), if_pos (by omega)]; first | done | rfl))
      · refine jx_iload_n C dX9_shift_40 rfl ?_
        refine jx_iconst C dX9_shift_41 ?_
        refine jx_icmp_ne C dX9_shift_42 (by omega) (by decide) (fun c_42 => ?_) (fun c_42 => ?_)
        · refine jx_aload_n C dX9_shift_55 rfl ?_
          refine jx_get (v := .inr (ad G 90)) C 16 ft_X9 (jcl_MO G _) rfl (by decide) (by decide) wf_X9_50 dX9_shift_56 ?_
          refine jx_iload C dX9_shift_59 rfl ?_
          refine jx_iald C (jcl_90 G _) (by decide) (by omega) (by omega) (by decide) dX9_shift_61 ?_
          have r_61 := rg_90 hR1 ((4 * (a : Int) + (b : Int)).toNat)
          have e_61 : μ1 90 (4 * (a : Int) + (b : Int)).toNat = bmc (mB μ) a b := (by rw [show (4 * (a : Int) + (b : Int)).toNat = 4 * a + b by omega]; exact hP.1)
          rw [e_61] at r_61
          refine jx_top (b := bmc (mB μ) a b) e_61 ?_
          exact jx_iret C dX9_shift_62 (MP_lt hμ1 (by rw [a_shift, Int.toNat_natCast, Int.toNat_natCast, if_neg (fun g => g c_3), if_neg (fun g => g c_15), if_pos (by omega)]; first | done | rfl))
        · refine jx_aload_n C dX9_shift_45 rfl ?_
          refine jx_get (v := .inr (ad G 89)) C 15 ft_X9 (jcl_MO G _) rfl (by decide) (by decide) wf_X9_47 dX9_shift_46 ?_
          refine jx_iload C dX9_shift_49 rfl ?_
          refine jx_iald C (jcl_89 G _) (by decide) (by omega) (by omega) (by decide) dX9_shift_51 ?_
          have r_51 := rg_89 hR1 ((4 * (a : Int) + (b : Int)).toNat)
          have e_51 : μ1 89 (4 * (a : Int) + (b : Int)).toNat = bV (mB μ) (4 * a + b) := (by rw [show (4 * (a : Int) + (b : Int)).toNat = 4 * a + b by omega]; exact hP.2.1)
          rw [e_51] at r_51
          refine jx_top (b := bV (mB μ) (4 * a + b)) e_51 ?_
          refine jx_goto C dX9_shift_52 ?_
          exact jx_iret C dX9_shift_62 (MP_lt hμ1 (by rw [a_shift, Int.toNat_natCast, Int.toNat_natCast, if_neg (fun g => g c_3), if_neg (fun g => g c_15), if_neg (by omega), if_pos (by omega)]; first | done | rfl))
    · refine jx_if_ne C dX9_shift_18 (by decide) (fun q => absurd q (by decide)) (fun _ => ?_)
      refine jx_ldc C dX9_shift_21 wk_X9_98 (z := (-1000002)) (by decide +kernel) ?_
      exact jx_iret C dX9_shift_23 (MP_rd hR hMI (by rw [a_shift, if_neg (fun g => g c_3), if_pos c_15]))
  · refine jx_if_ne C dX9_shift_6 (by decide) (fun q => absurd q (by decide)) (fun _ => ?_)
    refine jx_ldc C dX9_shift_9 wk_X9_97 (z := (-1000001)) (by decide +kernel) ?_
    exact jx_iret C dX9_shift_11 (MP_rd hR hMI (by rw [a_shift, if_pos c_3]))
set_option maxHeartbeats 4000000 in
set_option maxRecDepth 100000 in
theorem c_X9_place (l : Launch) (G : GT) (μ : Mem) (u t : Int) (hu : InR u) (ht : InR t) (hMI : MIv μ) (hR : rng μ) : MI l yX9_place cX9_place 3 .int ({ frames := 5, cells := 0, slots := 0, locals := 120 } : Room) G [.inr (ad G 78), .inl u, .inl t] μ (MP μ (a_place (mB μ) u t) (mB μ) (μ 78 0)) := by
  refine MI.of (by decide +kernel) (Nat.le_of_ble_eq_true rfl) ?_
  intro F C Yy
  show jX F G 3 0 0 (jE F G (jQi G (MP μ (a_place (mB μ) u t) (mB μ) (μ 78 0)))) 0 [some (.inr (ad G 78)), some (.inl u), some (.inl t)] [] μ
  obtain ⟨hN, hN4⟩ := mB_N hR
  refine jx_aload_n C dX9_place_0 rfl ?_
  refine jx_iload_n C dX9_place_1 rfl ?_
  refine jx_cVi (as := [.inl u]) (st := []) C Yy (c_X9_isPicture l G μ u (by omega) hR) yb_X9_isPicture yv_X9_isPicture wm_X9_90 (jcl_MO G _) rfl (by decide) rfl rfl (Nat.le_of_ble_eq_true rfl) ⟨⟨rfl, rfl, Nat.le_of_ble_eq_true rfl, Nat.le_of_ble_eq_true rfl⟩, Nat.zero_le _, Nat.zero_le _⟩ dX9_place_2 ?_
  rintro _ _ ⟨rfl, ⟨rfl, c_2⟩ | ⟨rfl, c_2⟩⟩
  · have c2 := (isp_iff hR).mp c_2
    obtain ⟨p, rfl⟩ := Int.eq_ofNat_of_zero_le c_2.1
    have hp : p < bN (mB μ) := by omega
    refine jx_if_ne C dX9_place_5 (by decide) (fun _ => ?_) (fun q => absurd q (by decide))
    refine jx_iload_n C dX9_place_11 rfl ?_
    refine jx_iconst C dX9_place_12 ?_
    refine jx_iconst C dX9_place_13 ?_
    refine jx_cSi (as := [.inl t, .inl 0, .inl 5]) (st := []) C Yy (c_X9_in l G μ t 0 5 (by omega) (by omega) (by omega)) yb_X9_in ws_X9_in wm_X9_71 rfl rfl (Nat.le_of_ble_eq_true rfl) ⟨⟨rfl, rfl, Nat.le_of_ble_eq_true rfl, Nat.le_of_ble_eq_true rfl⟩, Nat.zero_le _, Nat.zero_le _⟩ dX9_place_14 ?_
    rintro _ _ ⟨rfl, ⟨rfl, c_14⟩ | ⟨rfl, c_14⟩⟩
    · refine jx_if_ne C dX9_place_17 (by decide) (fun _ => ?_) (fun q => absurd q (by decide))
      refine jx_aload_n C dX9_place_23 rfl ?_
      refine jx_cVv (as := []) (st := []) C Yy (c_X9_lay l G μ hMI hR) yb_X9_lay yv_X9_lay wm_X9_150 (jcl_MO G _) rfl (by decide) rfl rfl (Nat.le_of_ble_eq_true rfl) ⟨⟨rfl, rfl, Nat.le_of_ble_eq_true rfl, Nat.le_of_ble_eq_true rfl⟩, Nat.zero_le _, Nat.zero_le _⟩ dX9_place_24 ?_
      intro μ1 hμ1
      have hR1 := hμ1.1
      have hMD1 := hμ1.2.2.1
      have hB1 : mB μ1 = mB μ := hμ1.2.2.2.1
      have q_n1 : μ1 78 1 = (bN (mB μ) : Int) := by rw [hμ1.2.2.2.2.2 1 (by decide) (by decide)]; exact hN
      have hpc := MD_pic hMD1 (p := p) (by rw [hB1]; exact hp)
      rw [hB1] at hpc
      have hj6 := MD_j6 hR hp
      refine jx_iload_n C dX9_place_27 rfl ?_
      refine jx_iconst C dX9_place_28 ?_
      refine jx_icmp_le C dX9_place_29 (by omega) (by decide) (fun c_29 => ?_) (fun c_29 => ?_)
      · refine jx_aload_n C dX9_place_53 rfl ?_
        refine jx_get (v := .inr (ad G 94)) C 21 ft_X9 (jcl_MO G _) rfl (by decide) (by decide) wf_X9_62 dX9_place_54 ?_
        refine jx_iload_n C dX9_place_57 rfl ?_
        refine jx_iald C (jcl_94 G _) (by decide) (by omega) (by omega) (by decide) dX9_place_58 ?_
        have r_58 := rg_94 hR1 ((p : Int).toNat)
        have e_58 : μ1 94 (p : Int).toNat = jrk (mB μ) p := (by rw [Int.toNat_natCast]; exact hpc.1)
        rw [e_58] at r_58
        refine jx_top (b := jrk (mB μ) p) e_58 ?_
        refine jx_if_ge C dX9_place_59 (by omega) (fun c_59 => ?_) (fun c_59 => ?_)
        · refine jx_iload_n C dX9_place_65 rfl ?_
          refine jx_if_ne C dX9_place_66 (by omega) (fun c_66 => ?_) (fun c_66 => ?_)
          · refine jx_iload_n C dX9_place_78 rfl ?_
            refine jx_iconst C dX9_place_79 ?_
            refine jx_icmp_ne C dX9_place_80 (by omega) (by decide) (fun c_80 => ?_) (fun c_80 => ?_)
            · refine jx_iload_n C dX9_place_92 rfl ?_
              refine jx_iconst C dX9_place_93 ?_
              refine jx_icmp_ne C dX9_place_94 (by omega) (by decide) (fun c_94 => ?_) (fun c_94 => ?_)
              · refine jx_aload_n C dX9_place_106 rfl ?_
                refine jx_get (v := .inr (ad G 94)) C 21 ft_X9 (jcl_MO G _) rfl (by decide) (by decide) wf_X9_62 dX9_place_107 ?_
                refine jx_iload_n C dX9_place_110 rfl ?_
                refine jx_iald C (jcl_94 G _) (by decide) (by omega) (by omega) (by decide) dX9_place_111 ?_
                have r_111 := rg_94 hR1 ((p : Int).toNat)
                have e_111 : μ1 94 (p : Int).toNat = jrk (mB μ) p := (by rw [Int.toNat_natCast]; exact hpc.1)
                rw [e_111] at r_111
                refine jx_top (b := jrk (mB μ) p) e_111 ?_
                exact jx_iret C dX9_place_112 (MP_lt hμ1 (by rw [a_place, Int.toNat_natCast, if_neg (fun g => g c2), if_neg (fun g => g c_14), if_neg (by omega), if_neg (by omega), if_neg (by omega), if_neg (by omega), if_neg (by omega), if_neg (by omega)]; first | done | rfl))
              · refine jx_aload_n C dX9_place_97 rfl ?_
                refine jx_get (v := .inr (ad G 93)) C 20 ft_X9 (jcl_MO G _) rfl (by decide) (by decide) wf_X9_59 dX9_place_98 ?_
                refine jx_iload_n C dX9_place_101 rfl ?_
                refine jx_iald C (jcl_93 G _) (by decide) (by omega) (by omega) (by decide) dX9_place_102 ?_
                have r_102 := rg_93 hR1 ((p : Int).toNat)
                have e_102 : μ1 93 (p : Int).toNat = jbb (mB μ) p := (by rw [Int.toNat_natCast]; exact (hpc.2 (by omega)).2.2)
                rw [e_102] at r_102
                refine jx_top (b := jbb (mB μ) p) e_102 ?_
                refine jx_goto C dX9_place_103 ?_
                exact jx_iret C dX9_place_112 (MP_lt hμ1 (by rw [a_place, Int.toNat_natCast, if_neg (fun g => g c2), if_neg (fun g => g c_14), if_neg (by omega), if_neg (by omega), if_neg (by omega), if_neg (by omega), if_neg (by omega), if_pos (by omega)]; first | done | rfl))
            · refine jx_aload_n C dX9_place_83 rfl ?_
              refine jx_get (v := .inr (ad G 92)) C 19 ft_X9 (jcl_MO G _) rfl (by decide) (by decide) wf_X9_56 dX9_place_84 ?_
              refine jx_iload_n C dX9_place_87 rfl ?_
              refine jx_iald C (jcl_92 G _) (by decide) (by omega) (by omega) (by decide) dX9_place_88 ?_
              have r_88 := rg_92 hR1 ((p : Int).toNat)
              have e_88 : μ1 92 (p : Int).toNat = jyy (mB μ) p := (by rw [Int.toNat_natCast]; exact (hpc.2 (by omega)).2.1)
              rw [e_88] at r_88
              refine jx_top (b := jyy (mB μ) p) e_88 ?_
              refine jx_goto C dX9_place_89 ?_
              exact jx_iret C dX9_place_112 (MP_lt hμ1 (by rw [a_place, Int.toNat_natCast, if_neg (fun g => g c2), if_neg (fun g => g c_14), if_neg (by omega), if_neg (by omega), if_neg (by omega), if_neg (by omega), if_pos (by omega)]; first | done | rfl))
          · refine jx_aload_n C dX9_place_69 rfl ?_
            refine jx_get (v := .inr (ad G 91)) C 18 ft_X9 (jcl_MO G _) rfl (by decide) (by decide) wf_X9_53 dX9_place_70 ?_
            refine jx_iload_n C dX9_place_73 rfl ?_
            refine jx_iald C (jcl_91 G _) (by decide) (by omega) (by omega) (by decide) dX9_place_74 ?_
            have r_74 := rg_91 hR1 ((p : Int).toNat)
            have e_74 : μ1 91 (p : Int).toNat = jxx (mB μ) p := (by rw [Int.toNat_natCast]; exact (hpc.2 (by omega)).1)
            rw [e_74] at r_74
            refine jx_top (b := jxx (mB μ) p) e_74 ?_
            refine jx_goto C dX9_place_75 ?_
            exact jx_iret C dX9_place_112 (MP_lt hμ1 (by rw [a_place, Int.toNat_natCast, if_neg (fun g => g c2), if_neg (fun g => g c_14), if_neg (by omega), if_neg (by omega), if_neg (by omega), if_pos (by omega)]; first | done | rfl))
        · refine jx_ldc C dX9_place_62 wk_X9_160 (z := (-1000005)) (by decide +kernel) ?_
          exact jx_iret C dX9_place_64 (MP_lt hμ1 (by rw [a_place, Int.toNat_natCast, if_neg (fun g => g c2), if_neg (fun g => g c_14), if_neg (by omega), if_neg (by omega), if_pos (by omega)]; first | done | rfl))
      · refine jx_iload_n C dX9_place_32 rfl ?_
        refine jx_iconst C dX9_place_33 ?_
        refine jx_icmp_ne C dX9_place_34 (by omega) (by decide) (fun c_34 => ?_) (fun c_34 => ?_)
        · refine jx_aload_n C dX9_place_46 rfl ?_
          refine jx_get (v := .inr (ad G 80)) C 3 ft_X9 (jcl_MO G _) rfl (by decide) (by decide) wf_X9_13 dX9_place_47 ?_
          refine jx_iload_n C dX9_place_50 rfl ?_
          refine jx_iald C (jcl_80 G _) (by decide) (by omega) (by omega) (by decide) dX9_place_51 ?_
          have r_51 := rg_80 hR1 ((p : Int).toNat)
          have e_51 : μ1 80 (p : Int).toNat = bH (mB μ) p := (by rw [Int.toNat_natCast]; exact (by rw [mB_H hp, hμ1.2.2.2.2.1 80 (by decide)]))
          rw [e_51] at r_51
          refine jx_top (b := bH (mB μ) p) e_51 ?_
          exact jx_iret C dX9_place_52 (MP_lt hμ1 (by rw [a_place, Int.toNat_natCast, if_neg (fun g => g c2), if_neg (fun g => g c_14), if_neg (by omega), if_pos (by omega)]; first | done | rfl))
        · refine jx_aload_n C dX9_place_37 rfl ?_
          refine jx_get (v := .inr (ad G 79)) C 2 ft_X9 (jcl_MO G _) rfl (by decide) (by decide) wf_X9_7 dX9_place_38 ?_
          refine jx_iload_n C dX9_place_41 rfl ?_
          refine jx_iald C (jcl_79 G _) (by decide) (by omega) (by omega) (by decide) dX9_place_42 ?_
          have r_42 := rg_79 hR1 ((p : Int).toNat)
          have e_42 : μ1 79 (p : Int).toNat = bW (mB μ) p := (by rw [Int.toNat_natCast]; exact (by rw [mB_W hp, hμ1.2.2.2.2.1 79 (by decide)]))
          rw [e_42] at r_42
          refine jx_top (b := bW (mB μ) p) e_42 ?_
          refine jx_goto C dX9_place_43 ?_
          exact jx_iret C dX9_place_52 (MP_lt hμ1 (by rw [a_place, Int.toNat_natCast, if_neg (fun g => g c2), if_neg (fun g => g c_14), if_pos (by omega)]; first | done | rfl))
    · refine jx_if_ne C dX9_place_17 (by decide) (fun q => absurd q (by decide)) (fun _ => ?_)
      refine jx_ldc C dX9_place_20 wk_X9_98 (z := (-1000002)) (by decide +kernel) ?_
      exact jx_iret C dX9_place_22 (MP_rd hR hMI (by rw [a_place, if_neg (fun g => g c2), if_pos c_14]))
  · have c2 := fun g => c_2 ((isp_iff hR).mpr g)
    refine jx_if_ne C dX9_place_5 (by decide) (fun q => absurd q (by decide)) (fun _ => ?_)
    refine jx_ldc C dX9_place_8 wk_X9_97 (z := (-1000001)) (by decide +kernel) ?_
    exact jx_iret C dX9_place_10 (MP_rd hR hMI (by rw [a_place, if_pos c2]))
set_option maxHeartbeats 4000000 in
set_option maxRecDepth 100000 in
theorem c_X9_joined (l : Launch) (G : GT) (μ : Mem)  (hMI : MIv μ) (hR : rng μ) : MI l yX9_joined cX9_joined 1 .int ({ frames := 5, cells := 0, slots := 0, locals := 120 } : Room) G [.inr (ad G 78)] μ (MP μ (((bJ (mB μ)).1 : Int)) (mB μ) (μ 78 0)) := by
  refine MI.of (by decide +kernel) (Nat.le_of_ble_eq_true rfl) ?_
  intro F C Yy
  show jX F G 1 0 0 (jE F G (jQi G (MP μ (((bJ (mB μ)).1 : Int)) (mB μ) (μ 78 0)))) 0 [some (.inr (ad G 78))] [] μ
  obtain ⟨hN, hN4⟩ := mB_N hR
  refine jx_aload_n C dX9_joined_0 rfl ?_
  refine jx_cVv (as := []) (st := []) C Yy (c_X9_lay l G μ hMI hR) yb_X9_lay yv_X9_lay wm_X9_150 (jcl_MO G _) rfl (by decide) rfl rfl (Nat.le_of_ble_eq_true rfl) ⟨⟨rfl, rfl, Nat.le_of_ble_eq_true rfl, Nat.le_of_ble_eq_true rfl⟩, Nat.zero_le _, Nat.zero_le _⟩ dX9_joined_1 ?_
  intro μ1 hμ1
  have hR1 := hμ1.1
  have hMD1 := hμ1.2.2.1
  have hB1 : mB μ1 = mB μ := hμ1.2.2.2.1
  have q_n1 : μ1 78 1 = (bN (mB μ) : Int) := by rw [hμ1.2.2.2.2.2 1 (by decide) (by decide)]; exact hN
  refine jx_aload_n C dX9_joined_4 rfl ?_
  refine jx_get (v := .inl (μ1 78 17)) C 17 ft_X9 (jcl_MO G _) rfl (by decide) (by decide) wf_X9_137 dX9_joined_5 ?_
  have r_5 := rg_MO_17 hR1
  exact jx_iret C dX9_joined_8 (MP_lt hμ1 (by rw [← hB1]; exact (MD_n hMD1).symm))
set_option maxHeartbeats 4000000 in
set_option maxRecDepth 100000 in
theorem c_X9_open (l : Launch) (G : GT) (μ : Mem)  (hMI : MIv μ) (hR : rng μ) : MI l yX9_open cX9_open 7 .int ({ frames := 5, cells := 0, slots := 0, locals := 120 } : Room) G [.inr (ad G 78)] μ (MP μ (opc (mB μ)) (mB μ) (μ 78 0)) := by
  refine MI.of (by decide +kernel) (Nat.le_of_ble_eq_true rfl) ?_
  intro F C Yy
  show jX F G 7 0 0 (jE F G (jQi G (MP μ (opc (mB μ)) (mB μ) (μ 78 0)))) 0 [some (.inr (ad G 78)), none, none, none, none, none, none] [] μ
  obtain ⟨hN, hN4⟩ := mB_N hR
  refine jx_aload_n C dX9_open_0 rfl ?_
  refine jx_cVv (as := []) (st := []) C Yy (c_X9_lay l G μ hMI hR) yb_X9_lay yv_X9_lay wm_X9_150 (jcl_MO G _) rfl (by decide) rfl rfl (Nat.le_of_ble_eq_true rfl) ⟨⟨rfl, rfl, Nat.le_of_ble_eq_true rfl, Nat.le_of_ble_eq_true rfl⟩, Nat.zero_le _, Nat.zero_le _⟩ dX9_open_1 ?_
  intro μ1 hμ1
  have hR1 := hμ1.1
  have hMD1 := hμ1.2.2.1
  have hB1 : mB μ1 = mB μ := hμ1.2.2.2.1
  have q_n1 : μ1 78 1 = (bN (mB μ) : Int) := by rw [hμ1.2.2.2.2.2 1 (by decide) (by decide)]; exact hN
  refine jx_iconst C dX9_open_4 ?_
  refine jx_istore_n (L' := [some (.inr (ad G 78)), some (.inl 0), none, none, none, none, none]) C dX9_open_5 (by decide) rfl ?_
  refine jx_iconst C dX9_open_6 ?_
  refine jx_istore_n (L' := [some (.inr (ad G 78)), some (.inl 0), some (.inl 0), none, none, none, none]) C dX9_open_7 (by decide) rfl ?_
  have LP_8 : ∀ (n : Nat) (a : Nat) (a2 : Int) (op : Int), (a2 = (a : Int)) → (a ≤ bN (mB μ)) → (op = opf (mB μ) (4 * a)) → (0 ≤ op ∧ op ≤ 12 * a) → 5 - a < n → jX F G 7 0 0 (jE F G (jQi G (MP μ (opc (mB μ)) (mB μ) (μ 78 0)))) 8 [some (.inr (ad G 78)), some (.inl op), some (.inl a2), none, none, none, none] [] μ1 := by
    intro n
    induction n with
    | zero =>
      intro a a2 op ha2 hac hop hoa hms
      exact absurd hms (Nat.not_lt_zero _)
    | succ n ih =>
      intro a a2 op ha2 hac hop hoa hms
      have ih_8 := ih
      clear ih
      refine jx_iload_n C dX9_open_8 rfl ?_
      refine jx_aload_n C dX9_open_9 rfl ?_
      refine jx_get (v := .inl (μ1 78 1)) C 1 ft_X9 (jcl_MO G _) rfl (by decide) (by decide) wf_X9_68 dX9_open_10 ?_
      have r_10 := rg_MO_1 hR1
      refine jx_icmp_ge C dX9_open_13 (by omega) (by omega) (fun c_13 => ?_) (fun c_13 => ?_)
      · refine jx_iload_n C dX9_open_173 rfl ?_
        exact jx_iret C dX9_open_174 (MP_lt hμ1 (by rw [hop, opc, opf_skip' (a := 4 * a) (b := 16) (by omega) (fun t h1 h2 g => by omega)]))
      · refine jx_iload_n C dX9_open_16 rfl ?_
        refine jx_iconst C dX9_open_17 ?_
        refine jx_iadd C dX9_open_18 ?_
        refine jx_istore_n (L' := [some (.inr (ad G 78)), some (.inl op), some (.inl a2), some (.inl (a2 + 1)), none, none, none]) C dX9_open_19 (by decide) rfl ?_
        have LP_20 : ∀ (n : Nat) (b : Nat) (b3 : Int) (op2 : Int), (b3 = (b : Int)) → (a < b ∧ b ≤ bN (mB μ)) → (op2 = opf (mB μ) (4 * a + b)) → (0 ≤ op2 ∧ op2 ≤ 12 * a + b) → 5 - b < n → jX F G 7 0 0 (jE F G (jQi G (MP μ (opc (mB μ)) (mB μ) (μ 78 0)))) 20 [some (.inr (ad G 78)), some (.inl op2), some (.inl a2), some (.inl b3), none, none, none] [] μ1 := by
          intro n
          induction n with
          | zero =>
            intro b b3 op2 hb3 hbc hop2 hob hms
            exact absurd hms (Nat.not_lt_zero _)
          | succ n ih =>
            intro b b3 op2 hb3 hbc hop2 hob hms
            have ih_20 := ih
            clear ih
            refine jx_iload_n C dX9_open_20 rfl ?_
            refine jx_aload_n C dX9_open_21 rfl ?_
            refine jx_get (v := .inl (μ1 78 1)) C 1 ft_X9 (jcl_MO G _) rfl (by decide) (by decide) wf_X9_68 dX9_open_22 ?_
            have r_22 := rg_MO_1 hR1
            refine jx_icmp_ge C dX9_open_25 (by omega) (by omega) (fun c_25 => ?_) (fun c_25 => ?_)
            · refine jx_iinc (L' := [some (.inr (ad G 78)), some (.inl op2), some (.inl (a2 + 1)), some (.inl b3), none, none, none]) C dX9_open_167 rfl (by decide) rfl ?_
              refine jx_goto C dX9_open_170 ?_
              refine jx_fewer (L' := [some (.inr (ad G 78)), some (.inl op2), some (.inl (a2 + 1)), none, none, none, none]) (fun i v h => ?_) ?_
              · exact jfew_ok (by simp [jfew]) h
              exact ih_8 (a + 1) (a2 + 1) op2 (by omega) (by omega) (by rw [hop2, opf_skip' (a := 4 * a + b) (b := 4 * (a + 1)) (by omega) (fun t h1 h2 g => by omega)]) (by omega) (by omega)
            · have hA := MD_pic hMD1 (p := a) (by rw [hB1]; omega)
              have hB := MD_pic hMD1 (p := b) (by rw [hB1]; omega)
              have hP := (hMD1.2.1 a b (by rw [hB1]; omega) (by rw [hB1]; omega) (by omega)).2.2
              rw [hB1] at hA hB hP
              have hVr := bV_rng (mB μ) (4 * a + b)
              have hjA := MD_j6 hR (p := a) (by omega)
              have hjB := MD_j6 hR (p := b) (by omega)
              have hopn : ((¬ jrk (mB μ) a = -6 ∧ ¬ jrk (mB μ) b = -6 ∧ ¬ bV (mB μ) (4 * a + b) = 0 ∧ ¬ μ1 93 a = (b : Int) ∧ ¬ μ1 93 b = (a : Int)) ∧ (¬ (μ1 91 b = μ1 91 a + μ1 87 (4 * a + b) ∧ μ1 92 b = μ1 92 a + μ1 88 (4 * a + b)))) ↔ opn (mB μ) a b := by
                  unfold opn
                  by_cases e1 : jrk (mB μ) a = -6
                  · exact ⟨fun g => absurd e1 g.1.1, fun g => absurd e1 g.1⟩
                  · by_cases e2 : jrk (mB μ) b = -6
                    · exact ⟨fun g => absurd e2 g.1.2.1, fun g => absurd e2 g.2.1⟩
                    · by_cases e3 : bV (mB μ) (4 * a + b) = 0
                      · exact ⟨fun g => absurd e3 g.1.2.2.1, fun g => absurd e3 g.2.2.1⟩
                      · have g1 := hA.2 e1
                        have g2 := hB.2 e2
                        have g3 := hP.2 (by omega)
                        rw [g1.1, g1.2.1, g1.2.2, g2.1, g2.2.1, g2.2.2, g3.1, g3.2]
                        exact ⟨fun g => ⟨g.1.1, g.1.2.1, g.1.2.2.1, g.1.2.2.2.1, g.1.2.2.2.2, g.2⟩, fun g => ⟨⟨g.1, g.2.1, g.2.2.1, g.2.2.2.1, g.2.2.2.2.1⟩, g.2.2.2.2.2⟩⟩
              refine jx_iconst C dX9_open_28 ?_
              refine jx_iload_n C dX9_open_29 rfl ?_
              refine jx_imul C dX9_open_30 ?_
              refine jx_iload_n C dX9_open_31 rfl ?_
              refine jx_iadd C dX9_open_32 ?_
              refine jx_istore (L' := [some (.inr (ad G 78)), some (.inl op2), some (.inl a2), some (.inl b3), some (.inl (4 * a2 + b3)), none, none]) C dX9_open_33 (by decide) rfl ?_
              have J_88 : ∀ z : Int, z = (if (¬ jrk (mB μ) a = -6 ∧ ¬ jrk (mB μ) b = -6 ∧ ¬ bV (mB μ) (4 * a + b) = 0 ∧ ¬ μ1 93 a = (b : Int) ∧ ¬ μ1 93 b = (a : Int)) then 1 else 0) → jX F G 7 0 0 (jE F G (jQi G (MP μ (opc (mB μ)) (mB μ) (μ 78 0)))) 88 [some (.inr (ad G 78)), some (.inl op2), some (.inl a2), some (.inl b3), some (.inl (4 * a2 + b3)), none, none] [.inl z] μ1 := by
                intro ask hask
                refine jx_istore (L' := [some (.inr (ad G 78)), some (.inl op2), some (.inl a2), some (.inl b3), some (.inl (4 * a2 + b3)), some (.inl ask), none]) C dX9_open_88 (by decide) rfl ?_
                have J_141 : ∀ z : Int, z = (if (¬ (μ1 91 b = μ1 91 a + μ1 87 (4 * a + b) ∧ μ1 92 b = μ1 92 a + μ1 88 (4 * a + b))) then 1 else 0) → jX F G 7 0 0 (jE F G (jQi G (MP μ (opc (mB μ)) (mB μ) (μ 78 0)))) 141 [some (.inr (ad G 78)), some (.inl op2), some (.inl a2), some (.inl b3), some (.inl (4 * a2 + b3)), some (.inl ask), none] [.inl z] μ1 := by
                  intro off hoff
                  refine jx_istore (L' := [some (.inr (ad G 78)), some (.inl op2), some (.inl a2), some (.inl b3), some (.inl (4 * a2 + b3)), some (.inl ask), some (.inl off)]) C dX9_open_141 (by decide) rfl ?_
                  refine jx_iload_n C dX9_open_143 rfl ?_
                  refine jx_iload C dX9_open_144 rfl ?_
                  refine jx_if_eq C dX9_open_146 (by omega) (fun c_146 => ?_) (fun c_146 => ?_)
                  · refine jx_iconst C dX9_open_158 ?_
                    refine jx_iadd C dX9_open_159 ?_
                    refine jx_istore_n (L' := [some (.inr (ad G 78)), some (.inl (op2 + 0)), some (.inl a2), some (.inl b3), some (.inl (4 * a2 + b3)), some (.inl ask), some (.inl off)]) C dX9_open_160 (by decide) rfl ?_
                    refine jx_iinc (L' := [some (.inr (ad G 78)), some (.inl (op2 + 0)), some (.inl a2), some (.inl (b3 + 1)), some (.inl (4 * a2 + b3)), some (.inl ask), some (.inl off)]) C dX9_open_161 rfl (by decide) rfl ?_
                    refine jx_goto C dX9_open_164 ?_
                    refine jx_fewer (L' := [some (.inr (ad G 78)), some (.inl (op2 + 0)), some (.inl a2), some (.inl (b3 + 1)), none, none, none]) (fun i v h => ?_) ?_
                    · exact jfew_ok (by simp [jfew]) h
                    exact ih_20 (b + 1) (b3 + 1) (op2 + 0) (by omega) (by omega) (by rw [opf_no (by omega) (fun g => by have g2 := hopn.mpr g.2.2; first | exact ite_0 hask (by omega) g2.1 | exact ite_0 hoff (by omega) g2.2)]; omega) (by omega) (by omega)
                  · refine jx_iload C dX9_open_149 rfl ?_
                    refine jx_if_eq C dX9_open_151 (by omega) (fun c_151 => ?_) (fun c_151 => ?_)
                    · refine jx_iconst C dX9_open_158 ?_
                      refine jx_iadd C dX9_open_159 ?_
                      refine jx_istore_n (L' := [some (.inr (ad G 78)), some (.inl (op2 + 0)), some (.inl a2), some (.inl b3), some (.inl (4 * a2 + b3)), some (.inl ask), some (.inl off)]) C dX9_open_160 (by decide) rfl ?_
                      refine jx_iinc (L' := [some (.inr (ad G 78)), some (.inl (op2 + 0)), some (.inl a2), some (.inl (b3 + 1)), some (.inl (4 * a2 + b3)), some (.inl ask), some (.inl off)]) C dX9_open_161 rfl (by decide) rfl ?_
                      refine jx_goto C dX9_open_164 ?_
                      refine jx_fewer (L' := [some (.inr (ad G 78)), some (.inl (op2 + 0)), some (.inl a2), some (.inl (b3 + 1)), none, none, none]) (fun i v h => ?_) ?_
                      · exact jfew_ok (by simp [jfew]) h
                      exact ih_20 (b + 1) (b3 + 1) (op2 + 0) (by omega) (by omega) (by rw [opf_no (by omega) (fun g => by have g2 := hopn.mpr g.2.2; first | exact ite_0 hask (by omega) g2.1 | exact ite_0 hoff (by omega) g2.2)]; omega) (by omega) (by omega)
                    · refine jx_iconst C dX9_open_154 ?_
                      refine jx_goto C dX9_open_155 ?_
                      refine jx_iadd C dX9_open_159 ?_
                      refine jx_istore_n (L' := [some (.inr (ad G 78)), some (.inl (op2 + 1)), some (.inl a2), some (.inl b3), some (.inl (4 * a2 + b3)), some (.inl ask), some (.inl off)]) C dX9_open_160 (by decide) rfl ?_
                      refine jx_iinc (L' := [some (.inr (ad G 78)), some (.inl (op2 + 1)), some (.inl a2), some (.inl (b3 + 1)), some (.inl (4 * a2 + b3)), some (.inl ask), some (.inl off)]) C dX9_open_161 rfl (by decide) rfl ?_
                      refine jx_goto C dX9_open_164 ?_
                      refine jx_fewer (L' := [some (.inr (ad G 78)), some (.inl (op2 + 1)), some (.inl a2), some (.inl (b3 + 1)), none, none, none]) (fun i v h => ?_) ?_
                      · exact jfew_ok (by simp [jfew]) h
                      exact ih_20 (b + 1) (b3 + 1) (op2 + 1) (by omega) (by omega) (by rw [opf_yes (by omega) (by omega) (by omega) (hopn.mp ⟨ite_1 hask (by omega), ite_1 hoff (by omega)⟩), hop2]) (by omega) (by omega)
                refine jx_aload_n C dX9_open_90 rfl ?_
                refine jx_get (v := .inr (ad G 91)) C 18 ft_X9 (jcl_MO G _) rfl (by decide) (by decide) wf_X9_53 dX9_open_91 ?_
                refine jx_iload_n C dX9_open_94 rfl ?_
                refine jx_iald C (jcl_91 G _) (by decide) (by omega) (by omega) (by decide) dX9_open_95 ?_
                have r_95 := rg_91 hR1 b3.toNat
                have e_95 : μ1 91 b3.toNat = μ1 91 b := (by rw [show b3.toNat = b by omega])
                rw [e_95] at r_95
                refine jx_top (b := μ1 91 b) e_95 ?_
                refine jx_aload_n C dX9_open_96 rfl ?_
                refine jx_get (v := .inr (ad G 91)) C 18 ft_X9 (jcl_MO G _) rfl (by decide) (by decide) wf_X9_53 dX9_open_97 ?_
                refine jx_iload_n C dX9_open_100 rfl ?_
                refine jx_iald C (jcl_91 G _) (by decide) (by omega) (by omega) (by decide) dX9_open_101 ?_
                have r_101 := rg_91 hR1 a2.toNat
                have e_101 : μ1 91 a2.toNat = μ1 91 a := (by rw [show a2.toNat = a by omega])
                rw [e_101] at r_101
                refine jx_top (b := μ1 91 a) e_101 ?_
                refine jx_aload_n C dX9_open_102 rfl ?_
                refine jx_get (v := .inr (ad G 87)) C 13 ft_X9 (jcl_MO G _) rfl (by decide) (by decide) wf_X9_41 dX9_open_103 ?_
                refine jx_iload C dX9_open_106 rfl ?_
                refine jx_iald C (jcl_87 G _) (by decide) (by omega) (by omega) (by decide) dX9_open_108 ?_
                have r_108 := rg_87 hR1 ((4 * a2 + b3).toNat)
                have e_108 : μ1 87 (4 * a2 + b3).toNat = μ1 87 (4 * a + b) := (by rw [show (4 * a2 + b3).toNat = 4 * a + b by omega])
                rw [e_108] at r_108
                refine jx_top (b := μ1 87 (4 * a + b)) e_108 ?_
                refine jx_iadd C dX9_open_109 ?_
                refine jx_icmp_ne C dX9_open_110 (by omega) (by omega) (fun c_110 => ?_) (fun c_110 => ?_)
                · refine jx_iconst C dX9_open_136 ?_
                  refine jx_goto C dX9_open_137 ?_
                  exact J_141 _ (by first | rw [if_pos (by omega)] | rw [if_neg (by omega)])
                · refine jx_aload_n C dX9_open_113 rfl ?_
                  refine jx_get (v := .inr (ad G 92)) C 19 ft_X9 (jcl_MO G _) rfl (by decide) (by decide) wf_X9_56 dX9_open_114 ?_
                  refine jx_iload_n C dX9_open_117 rfl ?_
                  refine jx_iald C (jcl_92 G _) (by decide) (by omega) (by omega) (by decide) dX9_open_118 ?_
                  have r_118 := rg_92 hR1 b3.toNat
                  have e_118 : μ1 92 b3.toNat = μ1 92 b := (by rw [show b3.toNat = b by omega])
                  rw [e_118] at r_118
                  refine jx_top (b := μ1 92 b) e_118 ?_
                  refine jx_aload_n C dX9_open_119 rfl ?_
                  refine jx_get (v := .inr (ad G 92)) C 19 ft_X9 (jcl_MO G _) rfl (by decide) (by decide) wf_X9_56 dX9_open_120 ?_
                  refine jx_iload_n C dX9_open_123 rfl ?_
                  refine jx_iald C (jcl_92 G _) (by decide) (by omega) (by omega) (by decide) dX9_open_124 ?_
                  have r_124 := rg_92 hR1 a2.toNat
                  have e_124 : μ1 92 a2.toNat = μ1 92 a := (by rw [show a2.toNat = a by omega])
                  rw [e_124] at r_124
                  refine jx_top (b := μ1 92 a) e_124 ?_
                  refine jx_aload_n C dX9_open_125 rfl ?_
                  refine jx_get (v := .inr (ad G 88)) C 14 ft_X9 (jcl_MO G _) rfl (by decide) (by decide) wf_X9_44 dX9_open_126 ?_
                  refine jx_iload C dX9_open_129 rfl ?_
                  refine jx_iald C (jcl_88 G _) (by decide) (by omega) (by omega) (by decide) dX9_open_131 ?_
                  have r_131 := rg_88 hR1 ((4 * a2 + b3).toNat)
                  have e_131 : μ1 88 (4 * a2 + b3).toNat = μ1 88 (4 * a + b) := (by rw [show (4 * a2 + b3).toNat = 4 * a + b by omega])
                  rw [e_131] at r_131
                  refine jx_top (b := μ1 88 (4 * a + b)) e_131 ?_
                  refine jx_iadd C dX9_open_132 ?_
                  refine jx_icmp_eq C dX9_open_133 (by omega) (by omega) (fun c_133 => ?_) (fun c_133 => ?_)
                  · refine jx_iconst C dX9_open_140 ?_
                    exact J_141 _ (by first | rw [if_pos (by omega)] | rw [if_neg (by omega)])
                  · refine jx_iconst C dX9_open_136 ?_
                    refine jx_goto C dX9_open_137 ?_
                    exact J_141 _ (by first | rw [if_pos (by omega)] | rw [if_neg (by omega)])
              refine jx_aload_n C dX9_open_35 rfl ?_
              refine jx_get (v := .inr (ad G 94)) C 21 ft_X9 (jcl_MO G _) rfl (by decide) (by decide) wf_X9_62 dX9_open_36 ?_
              refine jx_iload_n C dX9_open_39 rfl ?_
              refine jx_iald C (jcl_94 G _) (by decide) (by omega) (by omega) (by decide) dX9_open_40 ?_
              have r_40 := rg_94 hR1 a2.toNat
              have e_40 : μ1 94 a2.toNat = jrk (mB μ) a := (by rw [show a2.toNat = a by omega]; exact hA.1)
              rw [e_40] at r_40
              refine jx_top (b := jrk (mB μ) a) e_40 ?_
              refine jx_if_lt C dX9_open_41 (by omega) (fun c_41 => ?_) (fun c_41 => ?_)
              · refine jx_iconst C dX9_open_87 ?_
                exact J_88 _ (by first | rw [if_pos (by omega)] | rw [if_neg (by omega)])
              · refine jx_aload_n C dX9_open_44 rfl ?_
                refine jx_get (v := .inr (ad G 94)) C 21 ft_X9 (jcl_MO G _) rfl (by decide) (by decide) wf_X9_62 dX9_open_45 ?_
                refine jx_iload_n C dX9_open_48 rfl ?_
                refine jx_iald C (jcl_94 G _) (by decide) (by omega) (by omega) (by decide) dX9_open_49 ?_
                have r_49 := rg_94 hR1 b3.toNat
                have e_49 : μ1 94 b3.toNat = jrk (mB μ) b := (by rw [show b3.toNat = b by omega]; exact hB.1)
                rw [e_49] at r_49
                refine jx_top (b := jrk (mB μ) b) e_49 ?_
                refine jx_if_lt C dX9_open_50 (by omega) (fun c_50 => ?_) (fun c_50 => ?_)
                · refine jx_iconst C dX9_open_87 ?_
                  exact J_88 _ (by first | rw [if_pos (by omega)] | rw [if_neg (by omega)])
                · refine jx_aload_n C dX9_open_53 rfl ?_
                  refine jx_get (v := .inr (ad G 89)) C 15 ft_X9 (jcl_MO G _) rfl (by decide) (by decide) wf_X9_47 dX9_open_54 ?_
                  refine jx_iload C dX9_open_57 rfl ?_
                  refine jx_iald C (jcl_89 G _) (by decide) (by omega) (by omega) (by decide) dX9_open_59 ?_
                  have r_59 := rg_89 hR1 ((4 * a2 + b3).toNat)
                  have e_59 : μ1 89 (4 * a2 + b3).toNat = bV (mB μ) (4 * a + b) := (by rw [show (4 * a2 + b3).toNat = 4 * a + b by omega]; exact hP.1)
                  rw [e_59] at r_59
                  refine jx_top (b := bV (mB μ) (4 * a + b)) e_59 ?_
                  refine jx_if_le C dX9_open_60 (by omega) (fun c_60 => ?_) (fun c_60 => ?_)
                  · refine jx_iconst C dX9_open_87 ?_
                    exact J_88 _ (by first | rw [if_pos (by omega)] | rw [if_neg (by omega)])
                  · refine jx_aload_n C dX9_open_63 rfl ?_
                    refine jx_get (v := .inr (ad G 93)) C 20 ft_X9 (jcl_MO G _) rfl (by decide) (by decide) wf_X9_59 dX9_open_64 ?_
                    refine jx_iload_n C dX9_open_67 rfl ?_
                    refine jx_iald C (jcl_93 G _) (by decide) (by omega) (by omega) (by decide) dX9_open_68 ?_
                    have r_68 := rg_93 hR1 a2.toNat
                    have e_68 : μ1 93 a2.toNat = μ1 93 a := (by rw [show a2.toNat = a by omega])
                    rw [e_68] at r_68
                    refine jx_top (b := μ1 93 a) e_68 ?_
                    refine jx_iload_n C dX9_open_69 rfl ?_
                    refine jx_icmp_eq C dX9_open_70 (by omega) (by omega) (fun c_70 => ?_) (fun c_70 => ?_)
                    · refine jx_iconst C dX9_open_87 ?_
                      exact J_88 _ (by first | rw [if_pos (by omega)] | rw [if_neg (by omega)])
                    · refine jx_aload_n C dX9_open_73 rfl ?_
                      refine jx_get (v := .inr (ad G 93)) C 20 ft_X9 (jcl_MO G _) rfl (by decide) (by decide) wf_X9_59 dX9_open_74 ?_
                      refine jx_iload_n C dX9_open_77 rfl ?_
                      refine jx_iald C (jcl_93 G _) (by decide) (by omega) (by omega) (by decide) dX9_open_78 ?_
                      have r_78 := rg_93 hR1 b3.toNat
                      have e_78 : μ1 93 b3.toNat = μ1 93 b := (by rw [show b3.toNat = b by omega])
                      rw [e_78] at r_78
                      refine jx_top (b := μ1 93 b) e_78 ?_
                      refine jx_iload_n C dX9_open_79 rfl ?_
                      refine jx_icmp_eq C dX9_open_80 (by omega) (by omega) (fun c_80 => ?_) (fun c_80 => ?_)
                      · refine jx_iconst C dX9_open_87 ?_
                        exact J_88 _ (by first | rw [if_pos (by omega)] | rw [if_neg (by omega)])
                      · refine jx_iconst C dX9_open_83 ?_
                        refine jx_goto C dX9_open_84 ?_
                        exact J_88 _ (by first | rw [if_pos (by omega)] | rw [if_neg (by omega)])
        exact LP_20 _ (a + 1) (a2 + 1) op (by omega) (by omega) (by rw [hop, opf_skip' (a := 4 * a) (b := 4 * a + (a + 1)) (by omega) (fun t h1 h2 g => by omega)]) (by omega) (Nat.lt_succ_self _)
  exact LP_8 _ 0 0 0 rfl (Nat.zero_le _) rfl (by omega) (Nat.lt_succ_self _)
set_option maxHeartbeats 4000000 in
set_option maxRecDepth 100000 in
theorem c_X9_layOverlap (l : Launch) (G : GT) (μ : Mem) (a b : Nat) (ha : a < 4) (hb : b < 4) (ai bi : Int) (hai : ai = (a : Int)) (hbi : bi = (b : Int)) (hR : rng μ) : MV l yX9_layOverlap cX9_layOverlap 7 ({ frames := 0, cells := 0, slots := 0, locals := 0 } : Room) G [.inr (ad G 78), .inl ai, .inl bi] μ (fun μ' => rng μ' ∧ (μ' 78 22, μ' 78 23, μ' 78 24, μ' 78 25) = ovr (μ 91 a) (μ 92 a) (μ 79 a) (μ 80 a) (μ 91 b) (μ 92 b) (μ 79 b) (μ 80 b) ∧ (∀ k, k ≠ 78 → μ' k = μ k) ∧ ∀ j, j < 22 → μ' 78 j = μ 78 j) := by
  refine MV.of (by decide +kernel) (Nat.le_of_ble_eq_true rfl) ?_
  intro F C Yy
  show jX F G 7 0 0 (jE F G (jQv G (fun μ' => rng μ' ∧ (μ' 78 22, μ' 78 23, μ' 78 24, μ' 78 25) = ovr (μ 91 a) (μ 92 a) (μ 79 a) (μ 80 a) (μ 91 b) (μ 92 b) (μ 79 b) (μ 80 b) ∧ (∀ k, k ≠ 78 → μ' k = μ k) ∧ ∀ j, j < 22 → μ' 78 j = μ 78 j))) 0 [some (.inr (ad G 78)), some (.inl ai), some (.inl bi), none, none, none, none] [] μ
  have hat : ai.toNat = a := by omega
  have hbt : bi.toNat = b := by omega
  have v_91a := rg_91 hR a
  have v_91b := rg_91 hR b
  have v_92a := rg_92 hR a
  have v_92b := rg_92 hR b
  have v_79a := rg_79 hR a
  have v_79b := rg_79 hR b
  have v_80a := rg_80 hR a
  have v_80b := rg_80 hR b
  refine jx_aload_n C dX9_layOverlap_0 rfl ?_
  have J_31 : ∀ z : Int, z = max (μ 91 a) (μ 91 b) → jX F G 7 0 0 (jE F G (jQv G (fun μ' => rng μ' ∧ (μ' 78 22, μ' 78 23, μ' 78 24, μ' 78 25) = ovr (μ 91 a) (μ 92 a) (μ 79 a) (μ 80 a) (μ 91 b) (μ 92 b) (μ 79 b) (μ 80 b) ∧ (∀ k, k ≠ 78 → μ' k = μ k) ∧ ∀ j, j < 22 → μ' 78 j = μ 78 j))) 31 [some (.inr (ad G 78)), some (.inl ai), some (.inl bi), none, none, none, none] [.inl z, .inr (ad G 78)] μ := by
    rintro _ rfl
    refine jx_put C 22 ft_X9 (jcl_MO G _) ((jcl_MO G _).trans rfl) (by decide) (by decide) rfl (Or.inl rfl) (by simp) wf_X9_161 dX9_layOverlap_31 ?_
    obtain ⟨μ1, eμ1⟩ : ∃ y_ : Mem, y_ = jms μ 78 22 (max (μ 91 a) (μ 91 b)) := ⟨_, rfl⟩
    rw [← eμ1]
    have hR1 : rng μ1 := by rw [eμ1]; exact rs_MO_22 hR (by omega) (by omega)
    refine jx_aload_n C dX9_layOverlap_34 rfl ?_
    have J_65 : ∀ z : Int, z = max (μ 92 a) (μ 92 b) → jX F G 7 0 0 (jE F G (jQv G (fun μ' => rng μ' ∧ (μ' 78 22, μ' 78 23, μ' 78 24, μ' 78 25) = ovr (μ 91 a) (μ 92 a) (μ 79 a) (μ 80 a) (μ 91 b) (μ 92 b) (μ 79 b) (μ 80 b) ∧ (∀ k, k ≠ 78 → μ' k = μ k) ∧ ∀ j, j < 22 → μ' 78 j = μ 78 j))) 65 [some (.inr (ad G 78)), some (.inl ai), some (.inl bi), none, none, none, none] [.inl z, .inr (ad G 78)] μ1 := by
      rintro _ rfl
      refine jx_put C 23 ft_X9 (jcl_MO G _) ((jcl_MO G _).trans rfl) (by decide) (by decide) rfl (Or.inl rfl) (by simp) wf_X9_164 dX9_layOverlap_65 ?_
      obtain ⟨μ2, eμ2⟩ : ∃ y_ : Mem, y_ = jms μ1 78 23 (max (μ 92 a) (μ 92 b)) := ⟨_, rfl⟩
      rw [← eμ2]
      have hR2 : rng μ2 := by rw [eμ2]; exact rs_MO_23 hR1 (by omega) (by omega)
      refine jx_aload_n C dX9_layOverlap_68 rfl ?_
      refine jx_get (v := .inr (ad G 91)) C 18 ft_X9 (jcl_MO G _) rfl (by decide) (by decide) wf_X9_53 dX9_layOverlap_69 ?_
      refine jx_iload_n C dX9_layOverlap_72 rfl ?_
      refine jx_iald C (jcl_91 G _) (by decide) (by omega) (by omega) (by decide) dX9_layOverlap_73 ?_
      have r_73 := rg_91 hR2 ai.toNat
      have e_73 : μ2 91 ai.toNat = μ 91 a := by rw [eμ2, jms_cell _ _ _ _ (by decide), eμ1, jms_cell _ _ _ _ (by decide), hat]
      rw [e_73] at r_73
      refine jx_top (b := μ 91 a) e_73 ?_
      refine jx_aload_n C dX9_layOverlap_74 rfl ?_
      refine jx_get (v := .inr (ad G 79)) C 2 ft_X9 (jcl_MO G _) rfl (by decide) (by decide) wf_X9_7 dX9_layOverlap_75 ?_
      refine jx_iload_n C dX9_layOverlap_78 rfl ?_
      refine jx_iald C (jcl_79 G _) (by decide) (by omega) (by omega) (by decide) dX9_layOverlap_79 ?_
      have r_79 := rg_79 hR2 ai.toNat
      have e_79 : μ2 79 ai.toNat = μ 79 a := by rw [eμ2, jms_cell _ _ _ _ (by decide), eμ1, jms_cell _ _ _ _ (by decide), hat]
      rw [e_79] at r_79
      refine jx_top (b := μ 79 a) e_79 ?_
      refine jx_iadd C dX9_layOverlap_80 ?_
      refine jx_istore_n (L' := [some (.inr (ad G 78)), some (.inl ai), some (.inl bi), some (.inl (μ 91 a + μ 79 a)), none, none, none]) C dX9_layOverlap_81 (by decide) rfl ?_
      refine jx_aload_n C dX9_layOverlap_82 rfl ?_
      refine jx_get (v := .inr (ad G 91)) C 18 ft_X9 (jcl_MO G _) rfl (by decide) (by decide) wf_X9_53 dX9_layOverlap_83 ?_
      refine jx_iload_n C dX9_layOverlap_86 rfl ?_
      refine jx_iald C (jcl_91 G _) (by decide) (by omega) (by omega) (by decide) dX9_layOverlap_87 ?_
      have r_87 := rg_91 hR2 bi.toNat
      have e_87 : μ2 91 bi.toNat = μ 91 b := by rw [eμ2, jms_cell _ _ _ _ (by decide), eμ1, jms_cell _ _ _ _ (by decide), hbt]
      rw [e_87] at r_87
      refine jx_top (b := μ 91 b) e_87 ?_
      refine jx_aload_n C dX9_layOverlap_88 rfl ?_
      refine jx_get (v := .inr (ad G 79)) C 2 ft_X9 (jcl_MO G _) rfl (by decide) (by decide) wf_X9_7 dX9_layOverlap_89 ?_
      refine jx_iload_n C dX9_layOverlap_92 rfl ?_
      refine jx_iald C (jcl_79 G _) (by decide) (by omega) (by omega) (by decide) dX9_layOverlap_93 ?_
      have r_93 := rg_79 hR2 bi.toNat
      have e_93 : μ2 79 bi.toNat = μ 79 b := by rw [eμ2, jms_cell _ _ _ _ (by decide), eμ1, jms_cell _ _ _ _ (by decide), hbt]
      rw [e_93] at r_93
      refine jx_top (b := μ 79 b) e_93 ?_
      refine jx_iadd C dX9_layOverlap_94 ?_
      refine jx_istore (L' := [some (.inr (ad G 78)), some (.inl ai), some (.inl bi), some (.inl (μ 91 a + μ 79 a)), some (.inl (μ 91 b + μ 79 b)), none, none]) C dX9_layOverlap_95 (by decide) rfl ?_
      refine jx_aload_n C dX9_layOverlap_97 rfl ?_
      have J_110 : ∀ z : Int, z = min (μ 91 a + μ 79 a) (μ 91 b + μ 79 b) → jX F G 7 0 0 (jE F G (jQv G (fun μ' => rng μ' ∧ (μ' 78 22, μ' 78 23, μ' 78 24, μ' 78 25) = ovr (μ 91 a) (μ 92 a) (μ 79 a) (μ 80 a) (μ 91 b) (μ 92 b) (μ 79 b) (μ 80 b) ∧ (∀ k, k ≠ 78 → μ' k = μ k) ∧ ∀ j, j < 22 → μ' 78 j = μ 78 j))) 110 [some (.inr (ad G 78)), some (.inl ai), some (.inl bi), some (.inl (μ 91 a + μ 79 a)), some (.inl (μ 91 b + μ 79 b)), none, none] [.inl z, .inr (ad G 78)] μ2 := by
        rintro _ rfl
        refine jx_aload_n C dX9_layOverlap_110 rfl ?_
        refine jx_get (v := .inl (μ2 78 22)) C 22 ft_X9 (jcl_MO G _) rfl (by decide) (by decide) wf_X9_161 dX9_layOverlap_111 ?_
        have r_111 := rg_MO_22 hR2
        have e_111 : μ2 78 22 = max (μ 91 a) (μ 91 b) := (by rw [eμ2, jms_slot _ _ _ _ (by decide), eμ1, jms_same])
        rw [e_111] at r_111
        refine jx_top (b := max (μ 91 a) (μ 91 b)) e_111 ?_
        refine jx_isub C dX9_layOverlap_114 ?_
        refine jx_put C 24 ft_X9 (jcl_MO G _) ((jcl_MO G _).trans rfl) (by decide) (by decide) rfl (Or.inl rfl) (by simp) wf_X9_167 dX9_layOverlap_115 ?_
        obtain ⟨μ3, eμ3⟩ : ∃ y_ : Mem, y_ = jms μ2 78 24 (min (μ 91 a + μ 79 a) (μ 91 b + μ 79 b) - (max (μ 91 a) (μ 91 b))) := ⟨_, rfl⟩
        rw [← eμ3]
        have hR3 : rng μ3 := by rw [eμ3]; exact rs_MO_24 hR2 (by omega) (by omega)
        refine jx_aload_n C dX9_layOverlap_118 rfl ?_
        refine jx_get (v := .inr (ad G 92)) C 19 ft_X9 (jcl_MO G _) rfl (by decide) (by decide) wf_X9_56 dX9_layOverlap_119 ?_
        refine jx_iload_n C dX9_layOverlap_122 rfl ?_
        refine jx_iald C (jcl_92 G _) (by decide) (by omega) (by omega) (by decide) dX9_layOverlap_123 ?_
        have r_123 := rg_92 hR3 ai.toNat
        have e_123 : μ3 92 ai.toNat = μ 92 a := by rw [eμ3, jms_cell _ _ _ _ (by decide), eμ2, jms_cell _ _ _ _ (by decide), eμ1, jms_cell _ _ _ _ (by decide), hat]
        rw [e_123] at r_123
        refine jx_top (b := μ 92 a) e_123 ?_
        refine jx_aload_n C dX9_layOverlap_124 rfl ?_
        refine jx_get (v := .inr (ad G 80)) C 3 ft_X9 (jcl_MO G _) rfl (by decide) (by decide) wf_X9_13 dX9_layOverlap_125 ?_
        refine jx_iload_n C dX9_layOverlap_128 rfl ?_
        refine jx_iald C (jcl_80 G _) (by decide) (by omega) (by omega) (by decide) dX9_layOverlap_129 ?_
        have r_129 := rg_80 hR3 ai.toNat
        have e_129 : μ3 80 ai.toNat = μ 80 a := by rw [eμ3, jms_cell _ _ _ _ (by decide), eμ2, jms_cell _ _ _ _ (by decide), eμ1, jms_cell _ _ _ _ (by decide), hat]
        rw [e_129] at r_129
        refine jx_top (b := μ 80 a) e_129 ?_
        refine jx_iadd C dX9_layOverlap_130 ?_
        refine jx_istore (L' := [some (.inr (ad G 78)), some (.inl ai), some (.inl bi), some (.inl (μ 91 a + μ 79 a)), some (.inl (μ 91 b + μ 79 b)), some (.inl (μ 92 a + μ 80 a)), none]) C dX9_layOverlap_131 (by decide) rfl ?_
        refine jx_aload_n C dX9_layOverlap_133 rfl ?_
        refine jx_get (v := .inr (ad G 92)) C 19 ft_X9 (jcl_MO G _) rfl (by decide) (by decide) wf_X9_56 dX9_layOverlap_134 ?_
        refine jx_iload_n C dX9_layOverlap_137 rfl ?_
        refine jx_iald C (jcl_92 G _) (by decide) (by omega) (by omega) (by decide) dX9_layOverlap_138 ?_
        have r_138 := rg_92 hR3 bi.toNat
        have e_138 : μ3 92 bi.toNat = μ 92 b := by rw [eμ3, jms_cell _ _ _ _ (by decide), eμ2, jms_cell _ _ _ _ (by decide), eμ1, jms_cell _ _ _ _ (by decide), hbt]
        rw [e_138] at r_138
        refine jx_top (b := μ 92 b) e_138 ?_
        refine jx_aload_n C dX9_layOverlap_139 rfl ?_
        refine jx_get (v := .inr (ad G 80)) C 3 ft_X9 (jcl_MO G _) rfl (by decide) (by decide) wf_X9_13 dX9_layOverlap_140 ?_
        refine jx_iload_n C dX9_layOverlap_143 rfl ?_
        refine jx_iald C (jcl_80 G _) (by decide) (by omega) (by omega) (by decide) dX9_layOverlap_144 ?_
        have r_144 := rg_80 hR3 bi.toNat
        have e_144 : μ3 80 bi.toNat = μ 80 b := by rw [eμ3, jms_cell _ _ _ _ (by decide), eμ2, jms_cell _ _ _ _ (by decide), eμ1, jms_cell _ _ _ _ (by decide), hbt]
        rw [e_144] at r_144
        refine jx_top (b := μ 80 b) e_144 ?_
        refine jx_iadd C dX9_layOverlap_145 ?_
        refine jx_istore (L' := [some (.inr (ad G 78)), some (.inl ai), some (.inl bi), some (.inl (μ 91 a + μ 79 a)), some (.inl (μ 91 b + μ 79 b)), some (.inl (μ 92 a + μ 80 a)), some (.inl (μ 92 b + μ 80 b))]) C dX9_layOverlap_146 (by decide) rfl ?_
        refine jx_aload_n C dX9_layOverlap_148 rfl ?_
        have J_163 : ∀ z : Int, z = min (μ 92 a + μ 80 a) (μ 92 b + μ 80 b) → jX F G 7 0 0 (jE F G (jQv G (fun μ' => rng μ' ∧ (μ' 78 22, μ' 78 23, μ' 78 24, μ' 78 25) = ovr (μ 91 a) (μ 92 a) (μ 79 a) (μ 80 a) (μ 91 b) (μ 92 b) (μ 79 b) (μ 80 b) ∧ (∀ k, k ≠ 78 → μ' k = μ k) ∧ ∀ j, j < 22 → μ' 78 j = μ 78 j))) 163 [some (.inr (ad G 78)), some (.inl ai), some (.inl bi), some (.inl (μ 91 a + μ 79 a)), some (.inl (μ 91 b + μ 79 b)), some (.inl (μ 92 a + μ 80 a)), some (.inl (μ 92 b + μ 80 b))] [.inl z, .inr (ad G 78)] μ3 := by
          rintro _ rfl
          refine jx_aload_n C dX9_layOverlap_163 rfl ?_
          refine jx_get (v := .inl (μ3 78 23)) C 23 ft_X9 (jcl_MO G _) rfl (by decide) (by decide) wf_X9_164 dX9_layOverlap_164 ?_
          have r_164 := rg_MO_23 hR3
          have e_164 : μ3 78 23 = max (μ 92 a) (μ 92 b) := (by rw [eμ3, jms_slot _ _ _ _ (by decide), eμ2, jms_same])
          rw [e_164] at r_164
          refine jx_top (b := max (μ 92 a) (μ 92 b)) e_164 ?_
          refine jx_isub C dX9_layOverlap_167 ?_
          refine jx_put C 25 ft_X9 (jcl_MO G _) ((jcl_MO G _).trans rfl) (by decide) (by decide) rfl (Or.inl rfl) (by simp) wf_X9_170 dX9_layOverlap_168 ?_
          obtain ⟨μ4, eμ4⟩ : ∃ y_ : Mem, y_ = jms μ3 78 25 (min (μ 92 a + μ 80 a) (μ 92 b + μ 80 b) - (max (μ 92 a) (μ 92 b))) := ⟨_, rfl⟩
          rw [← eμ4]
          have hR4 : rng μ4 := by rw [eμ4]; exact rs_MO_25 hR3 (by omega) (by omega)
          refine jx_aload_n C dX9_layOverlap_171 rfl ?_
          refine jx_get (v := .inl (μ4 78 24)) C 24 ft_X9 (jcl_MO G _) rfl (by decide) (by decide) wf_X9_167 dX9_layOverlap_172 ?_
          have r_172 := rg_MO_24 hR4
          have e_172 : μ4 78 24 = min (μ 91 a + μ 79 a) (μ 91 b + μ 79 b) - max (μ 91 a) (μ 91 b) := (by rw [eμ4, jms_slot _ _ _ _ (by decide), eμ3, jms_same])
          rw [e_172] at r_172
          refine jx_top (b := min (μ 91 a + μ 79 a) (μ 91 b + μ 79 b) - max (μ 91 a) (μ 91 b)) e_172 ?_
          refine jx_if_le C dX9_layOverlap_175 (by omega) (fun c_175 => ?_) (fun c_175 => ?_)
          · refine jx_aload_n C dX9_layOverlap_185 rfl ?_
            refine jx_iconst C dX9_layOverlap_186 ?_
            refine jx_put C 22 ft_X9 (jcl_MO G _) ((jcl_MO G _).trans rfl) (by decide) (by decide) rfl (Or.inl rfl) (by simp) wf_X9_161 dX9_layOverlap_187 ?_
            obtain ⟨μ5, eμ5⟩ : ∃ y_ : Mem, y_ = jms μ4 78 22 0 := ⟨_, rfl⟩
            rw [← eμ5]
            have hR5 : rng μ5 := by rw [eμ5]; exact rs_MO_22 hR4 (by omega) (by omega)
            refine jx_aload_n C dX9_layOverlap_190 rfl ?_
            refine jx_iconst C dX9_layOverlap_191 ?_
            refine jx_put C 23 ft_X9 (jcl_MO G _) ((jcl_MO G _).trans rfl) (by decide) (by decide) rfl (Or.inl rfl) (by simp) wf_X9_164 dX9_layOverlap_192 ?_
            obtain ⟨μ6, eμ6⟩ : ∃ y_ : Mem, y_ = jms μ5 78 23 0 := ⟨_, rfl⟩
            rw [← eμ6]
            have hR6 : rng μ6 := by rw [eμ6]; exact rs_MO_23 hR5 (by omega) (by omega)
            refine jx_aload_n C dX9_layOverlap_195 rfl ?_
            refine jx_iconst C dX9_layOverlap_196 ?_
            refine jx_put C 24 ft_X9 (jcl_MO G _) ((jcl_MO G _).trans rfl) (by decide) (by decide) rfl (Or.inl rfl) (by simp) wf_X9_167 dX9_layOverlap_197 ?_
            obtain ⟨μ7, eμ7⟩ : ∃ y_ : Mem, y_ = jms μ6 78 24 0 := ⟨_, rfl⟩
            rw [← eμ7]
            have hR7 : rng μ7 := by rw [eμ7]; exact rs_MO_24 hR6 (by omega) (by omega)
            refine jx_aload_n C dX9_layOverlap_200 rfl ?_
            refine jx_iconst C dX9_layOverlap_201 ?_
            refine jx_put C 25 ft_X9 (jcl_MO G _) ((jcl_MO G _).trans rfl) (by decide) (by decide) rfl (Or.inl rfl) (by simp) wf_X9_170 dX9_layOverlap_202 ?_
            obtain ⟨μ8, eμ8⟩ : ∃ y_ : Mem, y_ = jms μ7 78 25 0 := ⟨_, rfl⟩
            rw [← eμ8]
            have hR8 : rng μ8 := by rw [eμ8]; exact rs_MO_25 hR7 (by omega) (by omega)
            exact jx_vret C dX9_layOverlap_205 ⟨hR8, by rw [eμ8, jms_slot _ _ _ _ (by decide), jms_slot _ _ _ _ (by decide), jms_slot _ _ _ _ (by decide), jms_same, eμ7, jms_slot _ _ _ _ (by decide), jms_slot _ _ _ _ (by decide), jms_same, eμ6, jms_slot _ _ _ _ (by decide), jms_same, eμ5, jms_same, ovr, if_neg (by omega)], fun k hk => by rw [eμ8, jms_cell _ _ _ _ hk, eμ7, jms_cell _ _ _ _ hk, eμ6, jms_cell _ _ _ _ hk, eμ5, jms_cell _ _ _ _ hk, eμ4, jms_cell _ _ _ _ hk, eμ3, jms_cell _ _ _ _ hk, eμ2, jms_cell _ _ _ _ hk, eμ1, jms_cell _ _ _ _ hk], fun j hj => by rw [eμ8, jms_slot _ _ _ _ (by omega), eμ7, jms_slot _ _ _ _ (by omega), eμ6, jms_slot _ _ _ _ (by omega), eμ5, jms_slot _ _ _ _ (by omega), eμ4, jms_slot _ _ _ _ (by omega), eμ3, jms_slot _ _ _ _ (by omega), eμ2, jms_slot _ _ _ _ (by omega), eμ1, jms_slot _ _ _ _ (by omega)]⟩
          · refine jx_aload_n C dX9_layOverlap_178 rfl ?_
            refine jx_get (v := .inl (μ4 78 25)) C 25 ft_X9 (jcl_MO G _) rfl (by decide) (by decide) wf_X9_170 dX9_layOverlap_179 ?_
            have r_179 := rg_MO_25 hR4
            have e_179 : μ4 78 25 = min (μ 92 a + μ 80 a) (μ 92 b + μ 80 b) - max (μ 92 a) (μ 92 b) := (by rw [eμ4, jms_same])
            rw [e_179] at r_179
            refine jx_top (b := min (μ 92 a + μ 80 a) (μ 92 b + μ 80 b) - max (μ 92 a) (μ 92 b)) e_179 ?_
            refine jx_if_gt C dX9_layOverlap_182 (by omega) (fun c_182 => ?_) (fun c_182 => ?_)
            · exact jx_vret C dX9_layOverlap_205 ⟨hR4, by rw [eμ4, jms_slot _ _ _ _ (by decide), jms_slot _ _ _ _ (by decide), jms_slot _ _ _ _ (by decide), jms_same, eμ3, jms_slot _ _ _ _ (by decide), jms_slot _ _ _ _ (by decide), jms_same, eμ2, jms_slot _ _ _ _ (by decide), jms_same, eμ1, jms_same, ovr, if_pos (by omega)]; exact Prod.ext rfl (Prod.ext rfl (Prod.ext (by dsimp only; omega) (by dsimp only; omega))), fun k hk => by rw [eμ4, jms_cell _ _ _ _ hk, eμ3, jms_cell _ _ _ _ hk, eμ2, jms_cell _ _ _ _ hk, eμ1, jms_cell _ _ _ _ hk], fun j hj => by rw [eμ4, jms_slot _ _ _ _ (by omega), eμ3, jms_slot _ _ _ _ (by omega), eμ2, jms_slot _ _ _ _ (by omega), eμ1, jms_slot _ _ _ _ (by omega)]⟩
            · refine jx_aload_n C dX9_layOverlap_185 rfl ?_
              refine jx_iconst C dX9_layOverlap_186 ?_
              refine jx_put C 22 ft_X9 (jcl_MO G _) ((jcl_MO G _).trans rfl) (by decide) (by decide) rfl (Or.inl rfl) (by simp) wf_X9_161 dX9_layOverlap_187 ?_
              obtain ⟨μ9, eμ9⟩ : ∃ y_ : Mem, y_ = jms μ4 78 22 0 := ⟨_, rfl⟩
              rw [← eμ9]
              have hR9 : rng μ9 := by rw [eμ9]; exact rs_MO_22 hR4 (by omega) (by omega)
              refine jx_aload_n C dX9_layOverlap_190 rfl ?_
              refine jx_iconst C dX9_layOverlap_191 ?_
              refine jx_put C 23 ft_X9 (jcl_MO G _) ((jcl_MO G _).trans rfl) (by decide) (by decide) rfl (Or.inl rfl) (by simp) wf_X9_164 dX9_layOverlap_192 ?_
              obtain ⟨μ10, eμ10⟩ : ∃ y_ : Mem, y_ = jms μ9 78 23 0 := ⟨_, rfl⟩
              rw [← eμ10]
              have hR10 : rng μ10 := by rw [eμ10]; exact rs_MO_23 hR9 (by omega) (by omega)
              refine jx_aload_n C dX9_layOverlap_195 rfl ?_
              refine jx_iconst C dX9_layOverlap_196 ?_
              refine jx_put C 24 ft_X9 (jcl_MO G _) ((jcl_MO G _).trans rfl) (by decide) (by decide) rfl (Or.inl rfl) (by simp) wf_X9_167 dX9_layOverlap_197 ?_
              obtain ⟨μ11, eμ11⟩ : ∃ y_ : Mem, y_ = jms μ10 78 24 0 := ⟨_, rfl⟩
              rw [← eμ11]
              have hR11 : rng μ11 := by rw [eμ11]; exact rs_MO_24 hR10 (by omega) (by omega)
              refine jx_aload_n C dX9_layOverlap_200 rfl ?_
              refine jx_iconst C dX9_layOverlap_201 ?_
              refine jx_put C 25 ft_X9 (jcl_MO G _) ((jcl_MO G _).trans rfl) (by decide) (by decide) rfl (Or.inl rfl) (by simp) wf_X9_170 dX9_layOverlap_202 ?_
              obtain ⟨μ12, eμ12⟩ : ∃ y_ : Mem, y_ = jms μ11 78 25 0 := ⟨_, rfl⟩
              rw [← eμ12]
              have hR12 : rng μ12 := by rw [eμ12]; exact rs_MO_25 hR11 (by omega) (by omega)
              exact jx_vret C dX9_layOverlap_205 ⟨hR12, by rw [eμ12, jms_slot _ _ _ _ (by decide), jms_slot _ _ _ _ (by decide), jms_slot _ _ _ _ (by decide), jms_same, eμ11, jms_slot _ _ _ _ (by decide), jms_slot _ _ _ _ (by decide), jms_same, eμ10, jms_slot _ _ _ _ (by decide), jms_same, eμ9, jms_same, ovr, if_neg (by omega)], fun k hk => by rw [eμ12, jms_cell _ _ _ _ hk, eμ11, jms_cell _ _ _ _ hk, eμ10, jms_cell _ _ _ _ hk, eμ9, jms_cell _ _ _ _ hk, eμ4, jms_cell _ _ _ _ hk, eμ3, jms_cell _ _ _ _ hk, eμ2, jms_cell _ _ _ _ hk, eμ1, jms_cell _ _ _ _ hk], fun j hj => by rw [eμ12, jms_slot _ _ _ _ (by omega), eμ11, jms_slot _ _ _ _ (by omega), eμ10, jms_slot _ _ _ _ (by omega), eμ9, jms_slot _ _ _ _ (by omega), eμ4, jms_slot _ _ _ _ (by omega), eμ3, jms_slot _ _ _ _ (by omega), eμ2, jms_slot _ _ _ _ (by omega), eμ1, jms_slot _ _ _ _ (by omega)]⟩
        refine jx_iload C dX9_layOverlap_149 rfl ?_
        refine jx_iload C dX9_layOverlap_151 rfl ?_
        refine jx_icmp_ge C dX9_layOverlap_153 (by omega) (by omega) (fun c_153 => ?_) (fun c_153 => ?_)
        · refine jx_iload C dX9_layOverlap_161 rfl ?_
          exact J_163 _ (by omega)
        · refine jx_iload C dX9_layOverlap_156 rfl ?_
          refine jx_goto C dX9_layOverlap_158 ?_
          exact J_163 _ (by omega)
      refine jx_iload_n C dX9_layOverlap_98 rfl ?_
      refine jx_iload C dX9_layOverlap_99 rfl ?_
      refine jx_icmp_ge C dX9_layOverlap_101 (by omega) (by omega) (fun c_101 => ?_) (fun c_101 => ?_)
      · refine jx_iload C dX9_layOverlap_108 rfl ?_
        exact J_110 _ (by omega)
      · refine jx_iload_n C dX9_layOverlap_104 rfl ?_
        refine jx_goto C dX9_layOverlap_105 ?_
        exact J_110 _ (by omega)
    refine jx_aload_n C dX9_layOverlap_35 rfl ?_
    refine jx_get (v := .inr (ad G 92)) C 19 ft_X9 (jcl_MO G _) rfl (by decide) (by decide) wf_X9_56 dX9_layOverlap_36 ?_
    refine jx_iload_n C dX9_layOverlap_39 rfl ?_
    refine jx_iald C (jcl_92 G _) (by decide) (by omega) (by omega) (by decide) dX9_layOverlap_40 ?_
    have r_40 := rg_92 hR1 ai.toNat
    have e_40 : μ1 92 ai.toNat = μ 92 a := by rw [eμ1, jms_cell _ _ _ _ (by decide), hat]
    rw [e_40] at r_40
    refine jx_top (b := μ 92 a) e_40 ?_
    refine jx_aload_n C dX9_layOverlap_41 rfl ?_
    refine jx_get (v := .inr (ad G 92)) C 19 ft_X9 (jcl_MO G _) rfl (by decide) (by decide) wf_X9_56 dX9_layOverlap_42 ?_
    refine jx_iload_n C dX9_layOverlap_45 rfl ?_
    refine jx_iald C (jcl_92 G _) (by decide) (by omega) (by omega) (by decide) dX9_layOverlap_46 ?_
    have r_46 := rg_92 hR1 bi.toNat
    have e_46 : μ1 92 bi.toNat = μ 92 b := by rw [eμ1, jms_cell _ _ _ _ (by decide), hbt]
    rw [e_46] at r_46
    refine jx_top (b := μ 92 b) e_46 ?_
    refine jx_icmp_le C dX9_layOverlap_47 (by omega) (by omega) (fun c_47 => ?_) (fun c_47 => ?_)
    · refine jx_aload_n C dX9_layOverlap_59 rfl ?_
      refine jx_get (v := .inr (ad G 92)) C 19 ft_X9 (jcl_MO G _) rfl (by decide) (by decide) wf_X9_56 dX9_layOverlap_60 ?_
      refine jx_iload_n C dX9_layOverlap_63 rfl ?_
      refine jx_iald C (jcl_92 G _) (by decide) (by omega) (by omega) (by decide) dX9_layOverlap_64 ?_
      have r_64 := rg_92 hR1 bi.toNat
      have e_64 : μ1 92 bi.toNat = μ 92 b := by rw [eμ1, jms_cell _ _ _ _ (by decide), hbt]
      rw [e_64] at r_64
      refine jx_top (b := μ 92 b) e_64 ?_
      exact J_65 _ (by omega)
    · refine jx_aload_n C dX9_layOverlap_50 rfl ?_
      refine jx_get (v := .inr (ad G 92)) C 19 ft_X9 (jcl_MO G _) rfl (by decide) (by decide) wf_X9_56 dX9_layOverlap_51 ?_
      refine jx_iload_n C dX9_layOverlap_54 rfl ?_
      refine jx_iald C (jcl_92 G _) (by decide) (by omega) (by omega) (by decide) dX9_layOverlap_55 ?_
      have r_55 := rg_92 hR1 ai.toNat
      have e_55 : μ1 92 ai.toNat = μ 92 a := by rw [eμ1, jms_cell _ _ _ _ (by decide), hat]
      rw [e_55] at r_55
      refine jx_top (b := μ 92 a) e_55 ?_
      refine jx_goto C dX9_layOverlap_56 ?_
      exact J_65 _ (by omega)
  refine jx_aload_n C dX9_layOverlap_1 rfl ?_
  refine jx_get (v := .inr (ad G 91)) C 18 ft_X9 (jcl_MO G _) rfl (by decide) (by decide) wf_X9_53 dX9_layOverlap_2 ?_
  refine jx_iload_n C dX9_layOverlap_5 rfl ?_
  refine jx_iald C (jcl_91 G _) (by decide) (by omega) (by omega) (by decide) dX9_layOverlap_6 ?_
  have r_6 := rg_91 hR ai.toNat
  have e_6 : μ 91 ai.toNat = μ 91 a := by rw [hat]
  rw [e_6] at r_6
  refine jx_top (b := μ 91 a) e_6 ?_
  refine jx_aload_n C dX9_layOverlap_7 rfl ?_
  refine jx_get (v := .inr (ad G 91)) C 18 ft_X9 (jcl_MO G _) rfl (by decide) (by decide) wf_X9_53 dX9_layOverlap_8 ?_
  refine jx_iload_n C dX9_layOverlap_11 rfl ?_
  refine jx_iald C (jcl_91 G _) (by decide) (by omega) (by omega) (by decide) dX9_layOverlap_12 ?_
  have r_12 := rg_91 hR bi.toNat
  have e_12 : μ 91 bi.toNat = μ 91 b := by rw [hbt]
  rw [e_12] at r_12
  refine jx_top (b := μ 91 b) e_12 ?_
  refine jx_icmp_le C dX9_layOverlap_13 (by omega) (by omega) (fun c_13 => ?_) (fun c_13 => ?_)
  · refine jx_aload_n C dX9_layOverlap_25 rfl ?_
    refine jx_get (v := .inr (ad G 91)) C 18 ft_X9 (jcl_MO G _) rfl (by decide) (by decide) wf_X9_53 dX9_layOverlap_26 ?_
    refine jx_iload_n C dX9_layOverlap_29 rfl ?_
    refine jx_iald C (jcl_91 G _) (by decide) (by omega) (by omega) (by decide) dX9_layOverlap_30 ?_
    have r_30 := rg_91 hR bi.toNat
    have e_30 : μ 91 bi.toNat = μ 91 b := by rw [hbt]
    rw [e_30] at r_30
    refine jx_top (b := μ 91 b) e_30 ?_
    exact J_31 _ (by omega)
  · refine jx_aload_n C dX9_layOverlap_16 rfl ?_
    refine jx_get (v := .inr (ad G 91)) C 18 ft_X9 (jcl_MO G _) rfl (by decide) (by decide) wf_X9_53 dX9_layOverlap_17 ?_
    refine jx_iload_n C dX9_layOverlap_20 rfl ?_
    refine jx_iald C (jcl_91 G _) (by decide) (by omega) (by omega) (by decide) dX9_layOverlap_21 ?_
    have r_21 := rg_91 hR ai.toNat
    have e_21 : μ 91 ai.toNat = μ 91 a := by rw [hat]
    rw [e_21] at r_21
    refine jx_top (b := μ 91 a) e_21 ?_
    refine jx_goto C dX9_layOverlap_22 ?_
    exact J_31 _ (by omega)
