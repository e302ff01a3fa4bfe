set_option maxHeartbeats 4000000 in
set_option maxRecDepth 100000 in
theorem c_X9_whole (l : Launch) (G : GT) (μ : Mem) (x y t : Int) (hx : InR x) (hy : InR y) (ht : InR t) (hMI : MIv μ) (hR : rng μ) : MI l yX9_whole cX9_whole 5 .int ({ frames := 5, cells := 0, slots := 0, locals := 120 } : Room) G [.inr (ad G 78), .inl x, .inl y, .inl t] μ (MP μ (a_whole (mB μ) x y t) (mB μ) (μ 78 0)) := by
  refine MI.of (by decide +kernel) (Nat.le_of_ble_eq_true rfl) ?_
  intro F C Yy
  show jX F G 5 0 0 (jE F G (jQi G (MP μ (a_whole (mB μ) x y t) (mB μ) (μ 78 0)))) 0 [some (.inr (ad G 78)), some (.inl x), some (.inl y), some (.inl t), none] [] μ
  obtain ⟨hN, hN4⟩ := mB_N hR
  refine jx_iload_n C dX9_whole_0 rfl ?_
  refine jx_iconst C dX9_whole_1 ?_
  refine jx_iconst C dX9_whole_2 ?_
  refine jx_cSi (as := [.inl t, .inl 0, .inl 1]) (st := []) C Yy (c_X9_in l G μ t 0 1 (by omega) (by omega) (by omega)) yb_X9_in ws_X9_in wm_X9_71 rfl rfl (Nat.le_of_ble_eq_true rfl) ⟨⟨rfl, rfl, Nat.le_of_ble_eq_true rfl, Nat.le_of_ble_eq_true rfl⟩, Nat.zero_le _, Nat.zero_le _⟩ dX9_whole_3 ?_
  rintro _ _ ⟨rfl, ⟨rfl, c_3⟩ | ⟨rfl, c_3⟩⟩
  · refine jx_if_ne C dX9_whole_6 (by decide) (fun _ => ?_) (fun q => absurd q (by decide))
    refine jx_aload_n C dX9_whole_12 rfl ?_
    refine jx_cVv (as := []) (st := []) C Yy (c_X9_lay l G μ hMI hR) yb_X9_lay yv_X9_lay wm_X9_150 (jcl_MO G _) rfl (by decide) rfl rfl (Nat.le_of_ble_eq_true rfl) ⟨⟨rfl, rfl, Nat.le_of_ble_eq_true rfl, Nat.le_of_ble_eq_true rfl⟩, Nat.zero_le _, Nat.zero_le _⟩ dX9_whole_13 ?_
    intro μ1 hμ1
    have hR1 := hμ1.1
    have hMD1 := hμ1.2.2.1
    have hB1 : mB μ1 = mB μ := hμ1.2.2.2.1
    have q_n1 : μ1 78 1 = (bN (mB μ) : Int) := by rw [hμ1.2.2.2.2.2 1 (by decide) (by decide)]; exact hN
    have hfo := fat_ok (mB μ) x y
    have J_53 : ∀ z : Int, z = fat (mB μ) x y → jX F G 5 0 0 (jE F G (jQi G (MP μ (a_whole (mB μ) x y t) (mB μ) (μ 78 0)))) 53 [some (.inr (ad G 78)), some (.inl x), some (.inl y), some (.inl t), none] [.inl z] μ1 := by
      rintro _ rfl
      refine jx_istore (L' := [some (.inr (ad G 78)), some (.inl x), some (.inl y), some (.inl t), some (.inl (fat (mB μ) x y))]) C dX9_whole_53 (by decide) rfl ?_
      refine jx_iload C dX9_whole_55 rfl ?_
      refine jx_if_ge C dX9_whole_57 (by omega) (fun c_57 => ?_) (fun c_57 => ?_)
      · refine jx_iload_n C dX9_whole_65 rfl ?_
        refine jx_iconst C dX9_whole_66 ?_
        refine jx_icmp_ne C dX9_whole_67 (by omega) (by decide) (fun c_67 => ?_) (fun c_67 => ?_)
        · have hfp : ¬ bdv (mB μ) x y (fat (mB μ) x y).toNat = -1 := by omega
          have hfn : (fat (mB μ) x y).toNat < bN (mB μ) := by omega
          have hfi := bdv_in (mB_ok hR) hfn hfp
          have hA := MD_pic hMD1 (p := (fat (mB μ) x y).toNat) (by rw [hB1]; exact hfn)
          rw [hB1] at hA
          have eW := mB_W (μ := μ1) (p := (fat (mB μ) x y).toNat) (by rw [hB1]; exact hfn)
          have eH := mB_H (μ := μ1) (p := (fat (mB μ) x y).toNat) (by rw [hB1]; exact hfn)
          have eD := mB_D (μ := μ1) (p := (fat (mB μ) x y).toNat) (by rw [hB1]; exact hfn)
          rw [hB1] at eW eH eD
          have hbj := Bj6 (mB_ok hR) hfn
          have r_w := rg_79 hR1 (fat (mB μ) x y).toNat
          have r_h := rg_80 hR1 (fat (mB μ) x y).toNat
          refine jx_aload_n C dX9_whole_75 rfl ?_
          refine jx_iload C dX9_whole_76 rfl ?_
          refine jx_iload_n C dX9_whole_78 rfl ?_
          refine jx_aload_n C dX9_whole_79 rfl ?_
          refine jx_get (v := .inr (ad G 91)) C 18 ft_X9 (jcl_MO G _) rfl (by decide) (by decide) wf_X9_53 dX9_whole_80 ?_
          refine jx_iload C dX9_whole_83 rfl ?_
          refine jx_iald C (jcl_91 G _) (by decide) (by omega) (by omega) (by decide) dX9_whole_85 ?_
          have r_85 := rg_91 hR1 ((fat (mB μ) x y).toNat)
          have e_85 : μ1 91 (fat (mB μ) x y).toNat = jxx (mB μ) (fat (mB μ) x y).toNat := (hA.2 (by omega)).1
          rw [e_85] at r_85
          refine jx_top (b := jxx (mB μ) (fat (mB μ) x y).toNat) e_85 ?_
          refine jx_isub C dX9_whole_86 ?_
          refine jx_iload_n C dX9_whole_87 rfl ?_
          refine jx_aload_n C dX9_whole_88 rfl ?_
          refine jx_get (v := .inr (ad G 92)) C 19 ft_X9 (jcl_MO G _) rfl (by decide) (by decide) wf_X9_56 dX9_whole_89 ?_
          refine jx_iload C dX9_whole_92 rfl ?_
          refine jx_iald C (jcl_92 G _) (by decide) (by omega) (by omega) (by decide) dX9_whole_94 ?_
          have r_94 := rg_92 hR1 ((fat (mB μ) x y).toNat)
          have e_94 : μ1 92 (fat (mB μ) x y).toNat = jyy (mB μ) (fat (mB μ) x y).toNat := (hA.2 (by omega)).2.1
          rw [e_94] at r_94
          refine jx_top (b := jyy (mB μ) (fat (mB μ) x y).toNat) e_94 ?_
          refine jx_isub C dX9_whole_95 ?_
          refine jx_cVi (as := [.inl (fat (mB μ) x y), .inl (x - (jxx (mB μ) (fat (mB μ) x y).toNat)), .inl (y - (jyy (mB μ) (fat (mB μ) x y).toNat))]) (st := []) C Yy (c_X9_dotAt l G μ1 (fat (mB μ) x y) (x - (jxx (mB μ) (fat (mB μ) x y).toNat)) (y - (jyy (mB μ) (fat (mB μ) x y).toNat)) (by omega) hR1) yb_X9_dotAt yv_X9_dotAt wm_X9_99 (jcl_MO G _) rfl (by decide) rfl rfl (Nat.le_of_ble_eq_true rfl) ⟨⟨rfl, rfl, Nat.le_of_ble_eq_true rfl, Nat.le_of_ble_eq_true rfl⟩, Nat.zero_le _, Nat.zero_le _⟩ dX9_whole_96 ?_
          rintro _ _ ⟨rfl, rfl⟩
          have r_96 := rg_81 hR1 (400 * (fat (mB μ) x y) + 20 * (y - (jyy (mB μ) (fat (mB μ) x y).toNat)) + (x - (jxx (mB μ) (fat (mB μ) x y).toNat))).toNat
          refine jx_top (b := bdv (mB μ) x y (fat (mB μ) x y).toNat) (by unfold bdv; rw [eD]; exact md_in hR1 (by omega) (by omega)) ?_
          exact jx_iret C dX9_whole_99 (MP_lt hμ1 (by rw [a_whole, if_neg (fun g => g c_3), if_neg (by omega), if_pos (by omega)]; first | done | rfl))
        · refine jx_iload C dX9_whole_70 rfl ?_
          refine jx_goto C dX9_whole_72 ?_
          exact jx_iret C dX9_whole_99 (MP_lt hμ1 (by rw [a_whole, if_neg (fun g => g c_3), if_neg (by omega), if_neg (by omega)]; first | done | rfl))
      · refine jx_bipush C dX9_whole_60 (by decide +kernel) ?_
        refine jx_goto C dX9_whole_62 ?_
        exact jx_iret C dX9_whole_99 (MP_lt hμ1 (by rw [a_whole, if_neg (fun g => g c_3), if_pos (by omega)]))
    refine jx_iload_n C dX9_whole_16 rfl ?_
    refine jx_sipush C dX9_whole_17 (by decide +kernel) ?_
    refine jx_sipush C dX9_whole_20 (by decide +kernel) ?_
    refine jx_cSi (as := [.inl x, .inl (-1000), .inl 1000]) (st := []) C Yy (c_X9_in l G μ1 x (-1000) 1000 (by omega) (by omega) (by omega)) yb_X9_in ws_X9_in wm_X9_71 rfl rfl (Nat.le_of_ble_eq_true rfl) ⟨⟨rfl, rfl, Nat.le_of_ble_eq_true rfl, Nat.le_of_ble_eq_true rfl⟩, Nat.zero_le _, Nat.zero_le _⟩ dX9_whole_23 ?_
    rintro _ _ ⟨rfl, ⟨rfl, c_23⟩ | ⟨rfl, c_23⟩⟩
    · refine jx_if_eq C dX9_whole_26 (by decide) (fun q => absurd q (by decide)) (fun _ => ?_)
      refine jx_iload_n C dX9_whole_29 rfl ?_
      refine jx_sipush C dX9_whole_30 (by decide +kernel) ?_
      refine jx_sipush C dX9_whole_33 (by decide +kernel) ?_
      refine jx_cSi (as := [.inl y, .inl (-1000), .inl 1000]) (st := []) C Yy (c_X9_in l G μ1 y (-1000) 1000 (by omega) (by omega) (by omega)) yb_X9_in ws_X9_in wm_X9_71 rfl rfl (Nat.le_of_ble_eq_true rfl) ⟨⟨rfl, rfl, Nat.le_of_ble_eq_true rfl, Nat.le_of_ble_eq_true rfl⟩, Nat.zero_le _, Nat.zero_le _⟩ dX9_whole_36 ?_
      rintro _ _ ⟨rfl, ⟨rfl, c_36⟩ | ⟨rfl, c_36⟩⟩
      · refine jx_if_eq C dX9_whole_39 (by decide) (fun q => absurd q (by decide)) (fun _ => ?_)
        refine jx_aload_n C dX9_whole_42 rfl ?_
        refine jx_iload_n C dX9_whole_43 rfl ?_
        refine jx_iload_n C dX9_whole_44 rfl ?_
        refine jx_cVi (as := [.inl x, .inl y]) (st := []) C Yy (c_X9_pictureAt l G μ1 x y (by omega) (by omega) hMD1 hR1) yb_X9_pictureAt yv_X9_pictureAt wm_X9_190 (jcl_MO G _) rfl (by decide) rfl rfl (Nat.le_of_ble_eq_true rfl) ⟨⟨rfl, rfl, Nat.le_of_ble_eq_true rfl, Nat.le_of_ble_eq_true rfl⟩, Nat.zero_le _, Nat.zero_le _⟩ dX9_whole_45 ?_
        rintro _ _ ⟨rfl, rfl⟩
        have r_45 := fat_ok (mB μ1) x y
        refine jx_top (b := fat (mB μ) x y) (by rw [hB1]) ?_
        refine jx_goto C dX9_whole_48 ?_
        exact J_53 _ (by first | rw [hB1] | rfl | exact (fat_far (mB_ok hR) (by omega)).symm)
      · refine jx_if_eq C dX9_whole_39 (by decide) (fun _ => ?_) (fun q => absurd q (by decide))
        refine jx_bipush C dX9_whole_51 (by decide +kernel) ?_
        exact J_53 _ (by first | rw [hB1] | rfl | exact (fat_far (mB_ok hR) (by omega)).symm)
    · refine jx_if_eq C dX9_whole_26 (by decide) (fun _ => ?_) (fun q => absurd q (by decide))
      refine jx_bipush C dX9_whole_51 (by decide +kernel) ?_
      exact J_53 _ (by first | rw [hB1] | rfl | exact (fat_far (mB_ok hR) (by omega)).symm)
  · refine jx_if_ne C dX9_whole_6 (by decide) (fun q => absurd q (by decide)) (fun _ => ?_)
    refine jx_bipush C dX9_whole_9 (by decide +kernel) ?_
    exact jx_iret C dX9_whole_11 (MP_rd hR hMI (by rw [a_whole, if_pos c_3]))
set_option maxHeartbeats 4000000 in
set_option maxRecDepth 100000 in
theorem c_X9_extent (l : Launch) (G : GT) (μ : Mem) (t : Int) (ht : InR t) (hMI : MIv μ) (hR : rng μ) : MI l yX9_extent cX9_extent 5 .int ({ frames := 5, cells := 0, slots := 0, locals := 120 } : Room) G [.inr (ad G 78), .inl t] μ (MP μ (a_extent (mB μ) t) (mB μ) (μ 78 0)) := by
  refine MI.of (by decide +kernel) (Nat.le_of_ble_eq_true rfl) ?_
  intro F C Yy
  show jX F G 5 0 0 (jE F G (jQi G (MP μ (a_extent (mB μ) t) (mB μ) (μ 78 0)))) 0 [some (.inr (ad G 78)), some (.inl t), none, none, none] [] μ
  obtain ⟨hN, hN4⟩ := mB_N hR
  refine jx_iload_n C dX9_extent_0 rfl ?_
  refine jx_iconst C dX9_extent_1 ?_
  refine jx_iconst C dX9_extent_2 ?_
  refine jx_cSi (as := [.inl t, .inl 0, .inl 4]) (st := []) C Yy (c_X9_in l G μ t 0 4 (by omega) (by omega) (by omega)) yb_X9_in ws_X9_in wm_X9_71 rfl rfl (Nat.le_of_ble_eq_true rfl) ⟨⟨rfl, rfl, Nat.le_of_ble_eq_true rfl, Nat.le_of_ble_eq_true rfl⟩, Nat.zero_le _, Nat.zero_le _⟩ dX9_extent_3 ?_
  rintro _ _ ⟨rfl, ⟨rfl, c_3⟩ | ⟨rfl, c_3⟩⟩
  · refine jx_if_ne C dX9_extent_6 (by decide) (fun _ => ?_) (fun q => absurd q (by decide))
    refine jx_aload_n C dX9_extent_12 rfl ?_
    refine jx_get (v := .inl (μ 78 1)) C 1 ft_X9 (jcl_MO G _) rfl (by decide) (by decide) wf_X9_68 dX9_extent_13 ?_
    have r_13 := rg_MO_1 hR
    refine jx_if_ne C dX9_extent_16 (by omega) (fun c_16 => ?_) (fun c_16 => ?_)
    · refine jx_aload_n C dX9_extent_22 rfl ?_
      refine jx_cVv (as := []) (st := []) C Yy (c_X9_lay l G μ hMI hR) yb_X9_lay yv_X9_lay wm_X9_150 (jcl_MO G _) rfl (by decide) rfl rfl (Nat.le_of_ble_eq_true rfl) ⟨⟨rfl, rfl, Nat.le_of_ble_eq_true rfl, Nat.le_of_ble_eq_true rfl⟩, Nat.zero_le _, Nat.zero_le _⟩ dX9_extent_23 ?_
      intro μ1 hμ1
      have hR1 := hμ1.1
      have hMD1 := hμ1.2.2.1
      have hB1 : mB μ1 = mB μ := hμ1.2.2.2.1
      have q_n1 : μ1 78 1 = (bN (mB μ) : Int) := by rw [hμ1.2.2.2.2.2 1 (by decide) (by decide)]; exact hN
      refine jx_iload_n C dX9_extent_26 rfl ?_
      refine jx_iconst C dX9_extent_27 ?_
      refine jx_icmp_ge C dX9_extent_28 (by omega) (by decide) (fun c_28 => ?_) (fun c_28 => ?_)
      · have hNp : 0 < bN (mB μ) := by omega
        have hec := ext_cpl (mB_ok hR) hNp
        have o_r : ∀ x y, 0 ≤ one (mB μ) x y ∧ one (mB μ) x y ≤ 1 := fun x y => by unfold one; split <;> omega
        have hWN : (exs (mB μ) 2 - exs (mB μ) 0 + 1).toNat ≤ 181 ∧ (exs (mB μ) 3 - exs (mB μ) 1 + 1).toNat ≤ 181 := by omega
        refine jx_iconst C dX9_extent_37 ?_
        refine jx_istore_n (L' := [some (.inr (ad G 78)), some (.inl t), some (.inl 0), none, none]) C dX9_extent_38 (by decide) rfl ?_
        refine jx_aload_n C dX9_extent_39 rfl ?_
        refine jx_iconst C dX9_extent_40 ?_
        refine jx_cVi (as := [.inl 1]) (st := []) C Yy (c_X9_edge l G μ1 1 (by omega) hMD1 hR1) yb_X9_edge yv_X9_edge wm_X9_193 (jcl_MO G _) rfl (by decide) rfl rfl (Nat.le_of_ble_eq_true rfl) ⟨⟨rfl, rfl, Nat.le_of_ble_eq_true rfl, Nat.le_of_ble_eq_true rfl⟩, Nat.zero_le _, Nat.zero_le _⟩ dX9_extent_41 ?_
        rintro _ _ ⟨rfl, rfl⟩
        refine jx_top (b := exs (mB μ) 1) (by rw [hB1]) ?_
        refine jx_istore_n (L' := [some (.inr (ad G 78)), some (.inl t), some (.inl 0), some (.inl (exs (mB μ) 1)), none]) C dX9_extent_44 (by decide) rfl ?_
        have LP_45 : ∀ (n : Nat) (v : Nat) (y3 : Int) (s2 : Int), (y3 = exs (mB μ) 1 + (v : Int)) → (v ≤ (exs (mB μ) 3 - exs (mB μ) 1 + 1).toNat) → (s2 = bxs (one (mB μ)) (exs (mB μ) 0) (exs (mB μ) 1) (exs (mB μ) 2 - exs (mB μ) 0 + 1).toNat v) → (0 ≤ s2 ∧ s2 ≤ 200 * (v : Int)) → (exs (mB μ) 3 - exs (mB μ) 1 + 1).toNat + 1 - v < n → jX F G 5 0 0 (jE F G (jQi G (MP μ (a_extent (mB μ) t) (mB μ) (μ 78 0)))) 45 [some (.inr (ad G 78)), some (.inl t), some (.inl s2), some (.inl y3), none] [] μ1 := by
          intro n
          induction n with
          | zero =>
            intro v y3 s2 hy3 hv hs hsr hms
            exact absurd hms (Nat.not_lt_zero _)
          | succ n ih =>
            intro v y3 s2 hy3 hv hs hsr hms
            have ih_45 := ih
            clear ih
            refine jx_iload_n C dX9_extent_45 rfl ?_
            refine jx_aload_n C dX9_extent_46 rfl ?_
            refine jx_iconst C dX9_extent_47 ?_
            refine jx_cVi (as := [.inl 3]) (st := [.inl y3]) C Yy (c_X9_edge l G μ1 3 (by omega) hMD1 hR1) yb_X9_edge yv_X9_edge wm_X9_193 (jcl_MO G _) rfl (by decide) rfl rfl (Nat.le_of_ble_eq_true rfl) ⟨⟨rfl, rfl, Nat.le_of_ble_eq_true rfl, Nat.le_of_ble_eq_true rfl⟩, Nat.zero_le _, Nat.zero_le _⟩ dX9_extent_48 ?_
            rintro _ _ ⟨rfl, rfl⟩
            refine jx_top (b := exs (mB μ) 3) (by rw [hB1]) ?_
            refine jx_icmp_gt C dX9_extent_51 (by omega) (by omega) (fun c_51 => ?_) (fun c_51 => ?_)
            · refine jx_iload_n C dX9_extent_101 rfl ?_
              exact jx_iret C dX9_extent_102 (MP_lt hμ1 (by rw [a_extent, if_neg (fun g => g c_3), if_neg (by omega), if_pos (by omega), hec.2.2.2.2, hs, show (exs (mB μ) 3 - exs (mB μ) 1 + 1).toNat = v by omega]))
            · refine jx_aload_n C dX9_extent_54 rfl ?_
              refine jx_iconst C dX9_extent_55 ?_
              refine jx_cVi (as := [.inl 0]) (st := []) C Yy (c_X9_edge l G μ1 0 (by omega) hMD1 hR1) yb_X9_edge yv_X9_edge wm_X9_193 (jcl_MO G _) rfl (by decide) rfl rfl (Nat.le_of_ble_eq_true rfl) ⟨⟨rfl, rfl, Nat.le_of_ble_eq_true rfl, Nat.le_of_ble_eq_true rfl⟩, Nat.zero_le _, Nat.zero_le _⟩ dX9_extent_56 ?_
              rintro _ _ ⟨rfl, rfl⟩
              refine jx_top (b := exs (mB μ) 0) (by rw [hB1]) ?_
              refine jx_istore (L' := [some (.inr (ad G 78)), some (.inl t), some (.inl s2), some (.inl y3), some (.inl (exs (mB μ) 0))]) C dX9_extent_59 (by decide) rfl ?_
              have LP_61 : ∀ (n : Nat) (c : Nat) (x4 : Int) (s4 : Int), (x4 = exs (mB μ) 0 + (c : Int)) → (c ≤ (exs (mB μ) 2 - exs (mB μ) 0 + 1).toNat) → (s4 = bxs (one (mB μ)) (exs (mB μ) 0) (exs (mB μ) 1) (exs (mB μ) 2 - exs (mB μ) 0 + 1).toNat v + rsm (fun i => one (mB μ) (exs (mB μ) 0 + i) (exs (mB μ) 1 + ((v : Nat) : Int))) c) → (0 ≤ s4 ∧ s4 ≤ 200 * (v : Int) + (c : Int)) → (exs (mB μ) 2 - exs (mB μ) 0 + 1).toNat + 1 - c < n → jX F G 5 0 0 (jE F G (jQi G (MP μ (a_extent (mB μ) t) (mB μ) (μ 78 0)))) 61 [some (.inr (ad G 78)), some (.inl t), some (.inl s4), some (.inl y3), some (.inl x4)] [] μ1 := by
                intro n
                induction n with
                | zero =>
                  intro c x4 s4 hx4 hc hs4 hsr4 hms
                  exact absurd hms (Nat.not_lt_zero _)
                | succ n ih =>
                  intro c x4 s4 hx4 hc hs4 hsr4 hms
                  have ih_61 := ih
                  clear ih
                  refine jx_iload C dX9_extent_61 rfl ?_
                  refine jx_aload_n C dX9_extent_63 rfl ?_
                  refine jx_iconst C dX9_extent_64 ?_
                  refine jx_cVi (as := [.inl 2]) (st := [.inl x4]) C Yy (c_X9_edge l G μ1 2 (by omega) hMD1 hR1) yb_X9_edge yv_X9_edge wm_X9_193 (jcl_MO G _) rfl (by decide) rfl rfl (Nat.le_of_ble_eq_true rfl) ⟨⟨rfl, rfl, Nat.le_of_ble_eq_true rfl, Nat.le_of_ble_eq_true rfl⟩, Nat.zero_le _, Nat.zero_le _⟩ dX9_extent_65 ?_
                  rintro _ _ ⟨rfl, rfl⟩
                  refine jx_top (b := exs (mB μ) 2) (by rw [hB1]) ?_
                  refine jx_icmp_gt C dX9_extent_68 (by omega) (by omega) (fun c_68 => ?_) (fun c_68 => ?_)
                  · refine jx_iinc (L' := [some (.inr (ad G 78)), some (.inl t), some (.inl s4), some (.inl (y3 + 1)), some (.inl x4)]) C dX9_extent_95 rfl (by decide) rfl ?_
                    refine jx_goto C dX9_extent_98 ?_
                    refine jx_fewer (L' := [some (.inr (ad G 78)), some (.inl t), some (.inl s4), some (.inl (y3 + 1)), none]) (fun i v h => ?_) ?_
                    · exact jfew_ok (by simp [jfew]) h
                    exact ih_45 (v + 1) (y3 + 1) s4 (by omega) (by omega) (by rw [hs4]; unfold bxs; rw [rsm, show (exs (mB μ) 2 - exs (mB μ) 0 + 1).toNat = c by omega]) (by omega) (by omega)
                  · have hfo := fat_ok (mB μ) (exs (mB μ) 0 + (c : Int)) (exs (mB μ) 1 + (v : Int))
                    refine jx_iload_n C dX9_extent_71 rfl ?_
                    refine jx_aload_n C dX9_extent_72 rfl ?_
                    refine jx_iload C dX9_extent_73 rfl ?_
                    refine jx_iload_n C dX9_extent_75 rfl ?_
                    refine jx_cVi (as := [.inl x4, .inl y3]) (st := [.inl s4]) C Yy (c_X9_pictureAt l G μ1 x4 y3 (by omega) (by omega) hMD1 hR1) yb_X9_pictureAt yv_X9_pictureAt wm_X9_190 (jcl_MO G _) rfl (by decide) rfl rfl (Nat.le_of_ble_eq_true rfl) ⟨⟨rfl, rfl, Nat.le_of_ble_eq_true rfl, Nat.le_of_ble_eq_true rfl⟩, Nat.zero_le _, Nat.zero_le _⟩ dX9_extent_76 ?_
                    rintro _ _ ⟨rfl, rfl⟩
                    have r_76 := fat_ok (mB μ1) x4 y3
                    refine jx_top (b := fat (mB μ) (exs (mB μ) 0 + (c : Int)) (exs (mB μ) 1 + (v : Int))) (by rw [hB1, hx4, hy3]) ?_
                    refine jx_if_lt C dX9_extent_79 (by omega) (fun c_79 => ?_) (fun c_79 => ?_)
                    · refine jx_iconst C dX9_extent_86 ?_
                      refine jx_iadd C dX9_extent_87 ?_
                      refine jx_istore_n (L' := [some (.inr (ad G 78)), some (.inl t), some (.inl (s4 + 0)), some (.inl y3), some (.inl x4)]) C dX9_extent_88 (by decide) rfl ?_
                      refine jx_iinc (L' := [some (.inr (ad G 78)), some (.inl t), some (.inl (s4 + 0)), some (.inl y3), some (.inl (x4 + 1))]) C dX9_extent_89 rfl (by decide) rfl ?_
                      refine jx_goto C dX9_extent_92 ?_
                      exact ih_61 (c + 1) (x4 + 1) (s4 + 0) (by omega) (by omega) (by rw [rsm, ← Int.add_assoc, ← hs4]; unfold one; rw [if_pos (by omega)]) (by omega) (by omega)
                    · refine jx_iconst C dX9_extent_82 ?_
                      refine jx_goto C dX9_extent_83 ?_
                      refine jx_iadd C dX9_extent_87 ?_
                      refine jx_istore_n (L' := [some (.inr (ad G 78)), some (.inl t), some (.inl (s4 + 1)), some (.inl y3), some (.inl x4)]) C dX9_extent_88 (by decide) rfl ?_
                      refine jx_iinc (L' := [some (.inr (ad G 78)), some (.inl t), some (.inl (s4 + 1)), some (.inl y3), some (.inl (x4 + 1))]) C dX9_extent_89 rfl (by decide) rfl ?_
                      refine jx_goto C dX9_extent_92 ?_
                      exact ih_61 (c + 1) (x4 + 1) (s4 + 1) (by omega) (by omega) (by rw [rsm, ← Int.add_assoc, ← hs4]; unfold one; rw [if_neg (by omega)]) (by omega) (by omega)
              exact LP_61 _ 0 (exs (mB μ) 0) s2 (by omega) (Nat.zero_le _) (by rw [hs, rsm, Int.add_zero]) (by omega) (Nat.lt_succ_self _)
        exact LP_45 _ 0 (exs (mB μ) 1) 0 (by omega) (Nat.zero_le _) (by unfold bxs; rfl) (by omega) (Nat.lt_succ_self _)
      · refine jx_aload_n C dX9_extent_31 rfl ?_
        refine jx_iload_n C dX9_extent_32 rfl ?_
        refine jx_cVi (as := [.inl t]) (st := []) C Yy (c_X9_edge l G μ1 t (by omega) hMD1 hR1) yb_X9_edge yv_X9_edge wm_X9_193 (jcl_MO G _) rfl (by decide) rfl rfl (Nat.le_of_ble_eq_true rfl) ⟨⟨rfl, rfl, Nat.le_of_ble_eq_true rfl, Nat.le_of_ble_eq_true rfl⟩, Nat.zero_le _, Nat.zero_le _⟩ dX9_extent_33 ?_
        rintro _ _ ⟨rfl, rfl⟩
        exact jx_iret C dX9_extent_36 (MP_lt hμ1 (by rw [a_extent, if_neg (fun g => g c_3), if_neg (by omega), if_neg (by omega), hB1]))
    · refine jx_ldc C dX9_extent_19 wk_X9_160 (z := (-1000005)) (by decide +kernel) ?_
      exact jx_iret C dX9_extent_21 (MP_rd hR hMI (by rw [a_extent, if_neg (fun g => g c_3), if_pos (by omega)]))
  · refine jx_if_ne C dX9_extent_6 (by decide) (fun q => absurd q (by decide)) (fun _ => ?_)
    refine jx_ldc C dX9_extent_9 wk_X9_98 (z := (-1000002)) (by decide +kernel) ?_
    exact jx_iret C dX9_extent_11 (MP_rd hR hMI (by rw [a_extent, if_pos c_3]))
