set_option maxHeartbeats 4000000 in
set_option maxRecDepth 100000 in
theorem c_X9_pictureAt (l : Launch) (G : GT) (μ : Mem) (x y : Int) (hx : -1000 ≤ x ∧ x ≤ 1000) (hy : -1000 ≤ y ∧ y ≤ 1000) (hD : MDn μ) (hR : rng μ) : MI l yX9_pictureAt cX9_pictureAt 6 .int ({ frames := 3, cells := 0, slots := 0, locals := 66 } : Room) G [.inr (ad G 78), .inl x, .inl y] μ (rdq μ (fat (mB μ) x y)) := by
  refine MI.of (by decide +kernel) (Nat.le_of_ble_eq_true rfl) ?_
  intro F C Yy
  show jX F G 6 0 0 (jE F G (jQi G (rdq μ (fat (mB μ) x y)))) 0 [some (.inr (ad G 78)), some (.inl x), some (.inl y), none, none, none] [] μ
  obtain ⟨hN, hN4⟩ := mB_N hR
  refine jx_bipush C dX9_pictureAt_0 (by decide +kernel) ?_
  refine jx_istore_n (L' := [some (.inr (ad G 78)), some (.inl x), some (.inl y), some (.inl (-6)), none, none]) C dX9_pictureAt_2 (by decide) rfl ?_
  refine jx_iconst C dX9_pictureAt_3 ?_
  refine jx_istore (L' := [some (.inr (ad G 78)), some (.inl x), some (.inl y), some (.inl (-6)), some (.inl 0), none]) C dX9_pictureAt_4 (by decide) rfl ?_
  have LP_6 : ∀ (n : Nat) (p : Nat) (p4 : Int) (best : Int), (p4 = (p : Int)) → (p ≤ bN (mB μ)) → (best = pat (jrk (mB μ)) (bdv (mB μ) x y) p) → 5 - p < n → jX F G 6 0 0 (jE F G (jQi G (rdq μ (fat (mB μ) x y)))) 6 [some (.inr (ad G 78)), some (.inl x), some (.inl y), some (.inl best), some (.inl p4), none] [] μ := by
    intro n
    induction n with
    | zero =>
      intro p p4 best hp4 hpn hb hms
      exact absurd hms (Nat.not_lt_zero _)
    | succ n ih =>
      intro p p4 best hp4 hpn hb hms
      have ih_6 := ih
      clear ih
      have hpo := pat_ok (jrk (mB μ)) (bdv (mB μ) x y) p
      refine jx_iload C dX9_pictureAt_6 rfl ?_
      refine jx_aload_n C dX9_pictureAt_8 rfl ?_
      refine jx_get (v := .inl (μ 78 1)) C 1 ft_X9 (jcl_MO G _) rfl (by decide) (by decide) wf_X9_68 dX9_pictureAt_9 ?_
      have r_9 := rg_MO_1 hR
      refine jx_icmp_ge C dX9_pictureAt_12 (by omega) (by omega) (fun c_12 => ?_) (fun c_12 => ?_)
      · refine jx_iload_n C dX9_pictureAt_124 rfl ?_
        exact jx_iret C dX9_pictureAt_125 ⟨by rw [hb, fat, show bN (mB μ) = p by omega], rfl⟩
      · have hp : p < bN (mB μ) := by omega
        have hA := MD_pic hD hp
        have hj6 := MD_j6 hR hp
        have ep : p4.toNat = p := by omega
        have r_w := rg_79 hR p
        have r_h := rg_80 hR p
        have J_84 : ∀ z : Int, z = (if (¬ jrk (mB μ) p = -6 ∧ ¬ bdv (mB μ) x y p = -1) then 1 else 0) → jX F G 6 0 0 (jE F G (jQi G (rdq μ (fat (mB μ) x y)))) 84 [some (.inr (ad G 78)), some (.inl x), some (.inl y), some (.inl best), some (.inl p4), none] [.inl z] μ := by
          intro cov hcov
          refine jx_istore (L' := [some (.inr (ad G 78)), some (.inl x), some (.inl y), some (.inl best), some (.inl p4), some (.inl cov)]) C dX9_pictureAt_84 (by decide) rfl ?_
          refine jx_iload C dX9_pictureAt_86 rfl ?_
          refine jx_if_eq C dX9_pictureAt_88 (by omega) (fun c_88 => ?_) (fun c_88 => ?_)
          · refine jx_iload_n C dX9_pictureAt_116 rfl ?_
            refine jx_istore_n (L' := [some (.inr (ad G 78)), some (.inl x), some (.inl y), some (.inl best), some (.inl p4), some (.inl cov)]) C dX9_pictureAt_117 (by decide) rfl ?_
            refine jx_iinc (L' := [some (.inr (ad G 78)), some (.inl x), some (.inl y), some (.inl best), some (.inl (p4 + 1)), some (.inl cov)]) C dX9_pictureAt_118 rfl (by decide) rfl ?_
            refine jx_goto C dX9_pictureAt_121 ?_
            refine jx_fewer (L' := [some (.inr (ad G 78)), some (.inl x), some (.inl y), some (.inl best), some (.inl (p4 + 1)), none]) (fun i v h => ?_) ?_
            · exact jfew_ok (by simp [jfew]) h
            exact ih_6 (p + 1) (p4 + 1) best (by omega) (by omega) (by rw [pat, if_neg (fun g => by first | exact ite_0 hcov (by omega) ⟨g.1, g.2.1⟩ | omega)]; exact hb) (by omega)
          · refine jx_iload_n C dX9_pictureAt_91 rfl ?_
            refine jx_if_lt C dX9_pictureAt_92 (by omega) (fun c_92 => ?_) (fun c_92 => ?_)
            · refine jx_iload C dX9_pictureAt_111 rfl ?_
              refine jx_goto C dX9_pictureAt_113 ?_
              refine jx_istore_n (L' := [some (.inr (ad G 78)), some (.inl x), some (.inl y), some (.inl p4), some (.inl p4), some (.inl cov)]) C dX9_pictureAt_117 (by decide) rfl ?_
              refine jx_iinc (L' := [some (.inr (ad G 78)), some (.inl x), some (.inl y), some (.inl p4), some (.inl (p4 + 1)), some (.inl cov)]) C dX9_pictureAt_118 rfl (by decide) rfl ?_
              refine jx_goto C dX9_pictureAt_121 ?_
              refine jx_fewer (L' := [some (.inr (ad G 78)), some (.inl x), some (.inl y), some (.inl p4), some (.inl (p4 + 1)), none]) (fun i v h => ?_) ?_
              · exact jfew_ok (by simp [jfew]) h
              exact ih_6 (p + 1) (p4 + 1) p4 (by omega) (by omega) (by rw [pat, if_pos ⟨(ite_1 hcov (by omega)).1, (ite_1 hcov (by omega)).2, by omega⟩]; exact hp4) (by omega)
            · refine jx_aload_n C dX9_pictureAt_95 rfl ?_
              refine jx_get (v := .inr (ad G 94)) C 21 ft_X9 (jcl_MO G _) rfl (by decide) (by decide) wf_X9_62 dX9_pictureAt_96 ?_
              refine jx_iload C dX9_pictureAt_99 rfl ?_
              refine jx_iald C (jcl_94 G _) (by decide) (by omega) (by omega) (by decide) dX9_pictureAt_101 ?_
              have r_101 := rg_94 hR p4.toNat
              have e_101 : μ 94 p4.toNat = jrk (mB μ) p := (by rw [show p4.toNat = p by omega]; exact hA.1)
              rw [e_101] at r_101
              refine jx_top (b := jrk (mB μ) p) e_101 ?_
              refine jx_aload_n C dX9_pictureAt_102 rfl ?_
              refine jx_get (v := .inr (ad G 94)) C 21 ft_X9 (jcl_MO G _) rfl (by decide) (by decide) wf_X9_62 dX9_pictureAt_103 ?_
              refine jx_iload_n C dX9_pictureAt_106 rfl ?_
              refine jx_iald C (jcl_94 G _) (by decide) (by omega) (by omega) (by decide) dX9_pictureAt_107 ?_
              have r_107 := rg_94 hR best.toNat
              have e_107 : μ 94 best.toNat = jrk (mB μ) (pat (jrk (mB μ)) (bdv (mB μ) x y) p).toNat := (by rw [hb]; exact (MD_pic hD (by omega)).1)
              rw [e_107] at r_107
              refine jx_top (b := jrk (mB μ) (pat (jrk (mB μ)) (bdv (mB μ) x y) p).toNat) e_107 ?_
              refine jx_icmp_ge C dX9_pictureAt_108 (by omega) (by omega) (fun c_108 => ?_) (fun c_108 => ?_)
              · refine jx_iload_n C dX9_pictureAt_116 rfl ?_
                refine jx_istore_n (L' := [some (.inr (ad G 78)), some (.inl x), some (.inl y), some (.inl best), some (.inl p4), some (.inl cov)]) C dX9_pictureAt_117 (by decide) rfl ?_
                refine jx_iinc (L' := [some (.inr (ad G 78)), some (.inl x), some (.inl y), some (.inl best), some (.inl (p4 + 1)), some (.inl cov)]) C dX9_pictureAt_118 rfl (by decide) rfl ?_
                refine jx_goto C dX9_pictureAt_121 ?_
                refine jx_fewer (L' := [some (.inr (ad G 78)), some (.inl x), some (.inl y), some (.inl best), some (.inl (p4 + 1)), none]) (fun i v h => ?_) ?_
                · exact jfew_ok (by simp [jfew]) h
                exact ih_6 (p + 1) (p4 + 1) best (by omega) (by omega) (by rw [pat, if_neg (fun g => by first | exact ite_0 hcov (by omega) ⟨g.1, g.2.1⟩ | omega)]; exact hb) (by omega)
              · refine jx_iload C dX9_pictureAt_111 rfl ?_
                refine jx_goto C dX9_pictureAt_113 ?_
                refine jx_istore_n (L' := [some (.inr (ad G 78)), some (.inl x), some (.inl y), some (.inl p4), some (.inl p4), some (.inl cov)]) C dX9_pictureAt_117 (by decide) rfl ?_
                refine jx_iinc (L' := [some (.inr (ad G 78)), some (.inl x), some (.inl y), some (.inl p4), some (.inl (p4 + 1)), some (.inl cov)]) C dX9_pictureAt_118 rfl (by decide) rfl ?_
                refine jx_goto C dX9_pictureAt_121 ?_
                refine jx_fewer (L' := [some (.inr (ad G 78)), some (.inl x), some (.inl y), some (.inl p4), some (.inl (p4 + 1)), none]) (fun i v h => ?_) ?_
                · exact jfew_ok (by simp [jfew]) h
                exact ih_6 (p + 1) (p4 + 1) p4 (by omega) (by omega) (by rw [pat, if_pos ⟨(ite_1 hcov (by omega)).1, (ite_1 hcov (by omega)).2, by omega⟩]; exact hp4) (by omega)
        refine jx_aload_n C dX9_pictureAt_15 rfl ?_
        refine jx_get (v := .inr (ad G 94)) C 21 ft_X9 (jcl_MO G _) rfl (by decide) (by decide) wf_X9_62 dX9_pictureAt_16 ?_
        refine jx_iload C dX9_pictureAt_19 rfl ?_
        refine jx_iald C (jcl_94 G _) (by decide) (by omega) (by omega) (by decide) dX9_pictureAt_21 ?_
        have r_21 := rg_94 hR p4.toNat
        have e_21 : μ 94 p4.toNat = jrk (mB μ) p := (by rw [show p4.toNat = p by omega]; exact hA.1)
        rw [e_21] at r_21
        refine jx_top (b := jrk (mB μ) p) e_21 ?_
        refine jx_if_lt C dX9_pictureAt_22 (by omega) (fun c_22 => ?_) (fun c_22 => ?_)
        · refine jx_iconst C dX9_pictureAt_83 ?_
          exact J_84 _ (by first | rw [if_pos (by omega)] | rw [if_neg (by omega)])
        · refine jx_aload_n C dX9_pictureAt_25 rfl ?_
          refine jx_iload C dX9_pictureAt_26 rfl ?_
          refine jx_iload_n C dX9_pictureAt_28 rfl ?_
          refine jx_aload_n C dX9_pictureAt_29 rfl ?_
          refine jx_get (v := .inr (ad G 91)) C 18 ft_X9 (jcl_MO G _) rfl (by decide) (by decide) wf_X9_53 dX9_pictureAt_30 ?_
          refine jx_iload C dX9_pictureAt_33 rfl ?_
          refine jx_iald C (jcl_91 G _) (by decide) (by omega) (by omega) (by decide) dX9_pictureAt_35 ?_
          have r_35 := rg_91 hR p4.toNat
          have e_35 : μ 91 p4.toNat = jxx (mB μ) p := (by rw [show p4.toNat = p by omega]; exact (hA.2 (by omega)).1)
          rw [e_35] at r_35
          refine jx_top (b := jxx (mB μ) p) e_35 ?_
          refine jx_isub C dX9_pictureAt_36 ?_
          refine jx_iload_n C dX9_pictureAt_37 rfl ?_
          refine jx_aload_n C dX9_pictureAt_38 rfl ?_
          refine jx_get (v := .inr (ad G 92)) C 19 ft_X9 (jcl_MO G _) rfl (by decide) (by decide) wf_X9_56 dX9_pictureAt_39 ?_
          refine jx_iload C dX9_pictureAt_42 rfl ?_
          refine jx_iald C (jcl_92 G _) (by decide) (by omega) (by omega) (by decide) dX9_pictureAt_44 ?_
          have r_44 := rg_92 hR p4.toNat
          have e_44 : μ 92 p4.toNat = jyy (mB μ) p := (by rw [show p4.toNat = p by omega]; exact (hA.2 (by omega)).2.1)
          rw [e_44] at r_44
          refine jx_top (b := jyy (mB μ) p) e_44 ?_
          refine jx_isub C dX9_pictureAt_45 ?_
          refine jx_cVi (as := [.inl p4, .inl (x - (jxx (mB μ) p)), .inl (y - (jyy (mB μ) p))]) (st := []) C Yy (c_X9_isDot l G μ p4 (x - (jxx (mB μ) p)) (y - (jyy (mB μ) p)) (by omega) (by omega) (by omega) hR) yb_X9_isDot yv_X9_isDot wm_X9_94 (jcl_MO G _) rfl (by decide) rfl rfl (Nat.le_of_ble_eq_true rfl) ⟨⟨rfl, rfl, Nat.le_of_ble_eq_true rfl, Nat.le_of_ble_eq_true rfl⟩, Nat.zero_le _, Nat.zero_le _⟩ dX9_pictureAt_46 ?_
          rintro _ _ ⟨rfl, ⟨rfl, c_46⟩ | ⟨rfl, c_46⟩⟩
          · rw [ep] at c_46
            have hdv : bdv (mB μ) x y p = μ 81 (400 * p4 + 20 * (y - jyy (mB μ) p) + (x - jxx (mB μ) p)).toNat := by unfold bdv; rw [mB_D hp]; exact (md_in hR hp4 (by omega)).symm
            refine jx_if_eq C dX9_pictureAt_49 (by decide) (fun q => absurd q (by decide)) (fun _ => ?_)
            refine jx_aload_n C dX9_pictureAt_52 rfl ?_
            refine jx_iload C dX9_pictureAt_53 rfl ?_
            refine jx_iload_n C dX9_pictureAt_55 rfl ?_
            refine jx_aload_n C dX9_pictureAt_56 rfl ?_
            refine jx_get (v := .inr (ad G 91)) C 18 ft_X9 (jcl_MO G _) rfl (by decide) (by decide) wf_X9_53 dX9_pictureAt_57 ?_
            refine jx_iload C dX9_pictureAt_60 rfl ?_
            refine jx_iald C (jcl_91 G _) (by decide) (by omega) (by omega) (by decide) dX9_pictureAt_62 ?_
            have r_62 := rg_91 hR p4.toNat
            have e_62 : μ 91 p4.toNat = jxx (mB μ) p := (by rw [show p4.toNat = p by omega]; exact (hA.2 (by omega)).1)
            rw [e_62] at r_62
            refine jx_top (b := jxx (mB μ) p) e_62 ?_
            refine jx_isub C dX9_pictureAt_63 ?_
            refine jx_iload_n C dX9_pictureAt_64 rfl ?_
            refine jx_aload_n C dX9_pictureAt_65 rfl ?_
            refine jx_get (v := .inr (ad G 92)) C 19 ft_X9 (jcl_MO G _) rfl (by decide) (by decide) wf_X9_56 dX9_pictureAt_66 ?_
            refine jx_iload C dX9_pictureAt_69 rfl ?_
            refine jx_iald C (jcl_92 G _) (by decide) (by omega) (by omega) (by decide) dX9_pictureAt_71 ?_
            have r_71 := rg_92 hR p4.toNat
            have e_71 : μ 92 p4.toNat = jyy (mB μ) p := (by rw [show p4.toNat = p by omega]; exact (hA.2 (by omega)).2.1)
            rw [e_71] at r_71
            refine jx_top (b := jyy (mB μ) p) e_71 ?_
            refine jx_isub C dX9_pictureAt_72 ?_
            refine jx_cVi (as := [.inl p4, .inl (x - (jxx (mB μ) p)), .inl (y - (jyy (mB μ) p))]) (st := []) C Yy (c_X9_dotAt l G μ p4 (x - (jxx (mB μ) p)) (y - (jyy (mB μ) p)) (by omega) hR) yb_X9_dotAt yv_X9_dotAt wm_X9_99 (jcl_MO G _) rfl (by decide) rfl rfl (Nat.le_of_ble_eq_true rfl) ⟨⟨rfl, rfl, Nat.le_of_ble_eq_true rfl, Nat.le_of_ble_eq_true rfl⟩, Nat.zero_le _, Nat.zero_le _⟩ dX9_pictureAt_73 ?_
            rintro _ _ ⟨rfl, rfl⟩
            have r_73 := rg_81 hR (400 * p4 + 20 * (y - (jyy (mB μ) p)) + (x - (jxx (mB μ) p))).toNat
            rw [← hdv] at r_73
            refine jx_top (b := bdv (mB μ) x y p) hdv.symm ?_
            refine jx_if_lt C dX9_pictureAt_76 (by omega) (fun c_76 => ?_) (fun c_76 => ?_)
            · refine jx_iconst C dX9_pictureAt_83 ?_
              exact J_84 _ (by first | rw [if_pos (by omega)] | rw [if_neg (by omega)])
            · refine jx_iconst C dX9_pictureAt_79 ?_
              refine jx_goto C dX9_pictureAt_80 ?_
              exact J_84 _ (by first | rw [if_pos (by omega)] | rw [if_neg (by omega)])
          · rw [ep] at c_46
            have hdv : bdv (mB μ) x y p = -1 := by unfold bdv; rw [mB_D hp]; exact dgt_out (by omega)
            refine jx_if_eq C dX9_pictureAt_49 (by decide) (fun _ => ?_) (fun q => absurd q (by decide))
            refine jx_iconst C dX9_pictureAt_83 ?_
            exact J_84 _ (by first | rw [if_pos (by omega)] | rw [if_neg (by omega)])
  exact LP_6 _ 0 0 (-6) rfl (Nat.zero_le _) rfl (Nat.lt_succ_self _)
set_option maxHeartbeats 4000000 in
set_option maxRecDepth 100000 in
theorem c_X9_edge (l : Launch) (G : GT) (μ : Mem) (what : Int) (hwt : 0 ≤ what ∧ what ≤ 3) (hD : MDn μ) (hR : rng μ) : MI l yX9_edge cX9_edge 6 .int ({ frames := 0, cells := 0, slots := 0, locals := 0 } : Room) G [.inr (ad G 78), .inl what] μ (rdq μ (exs (mB μ) what)) := by
  refine MI.of (by decide +kernel) (Nat.le_of_ble_eq_true rfl) ?_
  intro F C Yy
  show jX F G 6 0 0 (jE F G (jQi G (rdq μ (exs (mB μ) what)))) 0 [some (.inr (ad G 78)), some (.inl what), none, none, none, none] [] μ
  obtain ⟨hN, hN4⟩ := mB_N hR
  refine jx_iconst C dX9_edge_0 ?_
  refine jx_istore_n (L' := [some (.inr (ad G 78)), some (.inl what), some (.inl 0), none, none, none]) C dX9_edge_1 (by decide) rfl ?_
  refine jx_iconst C dX9_edge_2 ?_
  refine jx_istore_n (L' := [some (.inr (ad G 78)), some (.inl what), some (.inl 0), some (.inl 0), none, none]) C dX9_edge_3 (by decide) rfl ?_
  have LP_4 : ∀ (n : Nat) (p : Nat) (p3 : Int) (best : Int), (p3 = (p : Int)) → (p ≤ bN (mB μ)) → (best = exf (jrk (mB μ)) (bex (mB μ) what) (what < 2) p) → (-100 ≤ best ∧ best ≤ 100) → 5 - p < n → jX F G 6 0 0 (jE F G (jQi G (rdq μ (exs (mB μ) what)))) 4 [some (.inr (ad G 78)), some (.inl what), some (.inl best), some (.inl p3), none, none] [] μ := by
    intro n
    induction n with
    | zero =>
      intro p p3 best hp3 hpn hb hbr hms
      exact absurd hms (Nat.not_lt_zero _)
    | succ n ih =>
      intro p p3 best hp3 hpn hb hbr hms
      have ih_4 := ih
      clear ih
      refine jx_iload_n C dX9_edge_4 rfl ?_
      refine jx_aload_n C dX9_edge_5 rfl ?_
      refine jx_get (v := .inl (μ 78 1)) C 1 ft_X9 (jcl_MO G _) rfl (by decide) (by decide) wf_X9_68 dX9_edge_6 ?_
      have r_6 := rg_MO_1 hR
      refine jx_icmp_ge C dX9_edge_9 (by omega) (by omega) (fun c_9 => ?_) (fun c_9 => ?_)
      · refine jx_iload_n C dX9_edge_137 rfl ?_
        exact jx_iret C dX9_edge_138 ⟨by rw [hb, exs, show bN (mB μ) = p by omega], rfl⟩
      · have hp : p < bN (mB μ) := by omega
        have hA := MD_pic hD hp
        have hj6 := MD_j6 hR hp
        have r_w := rg_79 hR p
        have r_h := rg_80 hR p
        have eW := mB_W hp
        have eH := mB_H hp
        refine jx_aload_n C dX9_edge_12 rfl ?_
        refine jx_get (v := .inr (ad G 94)) C 21 ft_X9 (jcl_MO G _) rfl (by decide) (by decide) wf_X9_62 dX9_edge_13 ?_
        refine jx_iload_n C dX9_edge_16 rfl ?_
        refine jx_iald C (jcl_94 G _) (by decide) (by omega) (by omega) (by decide) dX9_edge_17 ?_
        have r_17 := rg_94 hR p3.toNat
        have e_17 : μ 94 p3.toNat = jrk (mB μ) p := (by rw [show p3.toNat = p by omega]; exact hA.1)
        rw [e_17] at r_17
        refine jx_top (b := jrk (mB μ) p) e_17 ?_
        refine jx_if_lt C dX9_edge_18 (by omega) (fun c_18 => ?_) (fun c_18 => ?_)
        · refine jx_iinc (L' := [some (.inr (ad G 78)), some (.inl what), some (.inl best), some (.inl (p3 + 1)), none, none]) C dX9_edge_131 rfl (by decide) rfl ?_
          refine jx_goto C dX9_edge_134 ?_
          exact ih_4 (p + 1) (p3 + 1) best (by omega) (by omega) (by first | (rw [exf, if_pos (by omega)]; exact hb) | (rw [exf, if_neg hjp, if_neg (by rw [← hb, ← hv4]; exact ite_0 hah (by omega))]; exact hb)) (by omega) (by omega)
        · have hjp : ¬ jrk (mB μ) p = -6 := by omega
          have J_86 : ∀ z : Int, z = bex (mB μ) what p → jX F G 6 0 0 (jE F G (jQi G (rdq μ (exs (mB μ) what)))) 86 [some (.inr (ad G 78)), some (.inl what), some (.inl best), some (.inl p3), none, none] [.inl z] μ := by
            intro v4 hv4
            have hvr := edg_rng (x := jxx (mB μ) p) (y := jyy (mB μ) p) (w := bW (mB μ) p) (h := bH (mB μ) p) (what := what)
            have hv5 : -61 ≤ v4 ∧ v4 ≤ 80 := by rw [hv4]; unfold bex edg; split; omega; split; omega; split <;> omega
            refine jx_istore (L' := [some (.inr (ad G 78)), some (.inl what), some (.inl best), some (.inl p3), some (.inl v4), none]) C dX9_edge_86 (by decide) rfl ?_
            have J_117 : ∀ z : Int, z = (if (p = 0 ∨ (what < 2 ∧ v4 < best) ∨ (¬ what < 2 ∧ best < v4)) then 1 else 0) → jX F G 6 0 0 (jE F G (jQi G (rdq μ (exs (mB μ) what)))) 117 [some (.inr (ad G 78)), some (.inl what), some (.inl best), some (.inl p3), some (.inl v4), none] [.inl z] μ := by
              intro ah hah
              refine jx_istore (L' := [some (.inr (ad G 78)), some (.inl what), some (.inl best), some (.inl p3), some (.inl v4), some (.inl ah)]) C dX9_edge_117 (by decide) rfl ?_
              refine jx_iload C dX9_edge_119 rfl ?_
              refine jx_if_eq C dX9_edge_121 (by omega) (fun c_121 => ?_) (fun c_121 => ?_)
              · refine jx_iload_n C dX9_edge_129 rfl ?_
                refine jx_istore_n (L' := [some (.inr (ad G 78)), some (.inl what), some (.inl best), some (.inl p3), some (.inl v4), some (.inl ah)]) C dX9_edge_130 (by decide) rfl ?_
                refine jx_iinc (L' := [some (.inr (ad G 78)), some (.inl what), some (.inl best), some (.inl (p3 + 1)), some (.inl v4), some (.inl ah)]) C dX9_edge_131 rfl (by decide) rfl ?_
                refine jx_goto C dX9_edge_134 ?_
                refine jx_fewer (L' := [some (.inr (ad G 78)), some (.inl what), some (.inl best), some (.inl (p3 + 1)), none, none]) (fun i v h => ?_) ?_
                · exact jfew_ok (by simp [jfew]) h
                exact ih_4 (p + 1) (p3 + 1) best (by omega) (by omega) (by first | (rw [exf, if_pos (by omega)]; exact hb) | (rw [exf, if_neg hjp, if_neg (by rw [← hb, ← hv4]; exact ite_0 hah (by omega))]; exact hb)) (by omega) (by omega)
              · refine jx_iload C dX9_edge_124 rfl ?_
                refine jx_goto C dX9_edge_126 ?_
                refine jx_istore_n (L' := [some (.inr (ad G 78)), some (.inl what), some (.inl v4), some (.inl p3), some (.inl v4), some (.inl ah)]) C dX9_edge_130 (by decide) rfl ?_
                refine jx_iinc (L' := [some (.inr (ad G 78)), some (.inl what), some (.inl v4), some (.inl (p3 + 1)), some (.inl v4), some (.inl ah)]) C dX9_edge_131 rfl (by decide) rfl ?_
                refine jx_goto C dX9_edge_134 ?_
                refine jx_fewer (L' := [some (.inr (ad G 78)), some (.inl what), some (.inl v4), some (.inl (p3 + 1)), none, none]) (fun i v h => ?_) ?_
                · exact jfew_ok (by simp [jfew]) h
                exact ih_4 (p + 1) (p3 + 1) v4 (by omega) (by omega) (by rw [exf, if_neg hjp, if_pos (by rw [← hb, ← hv4]; exact ite_1 hah (by omega))]; exact hv4) (by omega) (by omega)
            refine jx_iload_n C dX9_edge_88 rfl ?_
            refine jx_if_eq C dX9_edge_89 (by omega) (fun c_89 => ?_) (fun c_89 => ?_)
            · refine jx_iconst C dX9_edge_112 ?_
              refine jx_goto C dX9_edge_113 ?_
              exact J_117 _ (by first | rw [if_pos (by omega)] | rw [if_neg (by omega)])
            · refine jx_iload_n C dX9_edge_92 rfl ?_
              refine jx_iconst C dX9_edge_93 ?_
              refine jx_icmp_ge C dX9_edge_94 (by omega) (by decide) (fun c_94 => ?_) (fun c_94 => ?_)
              · refine jx_iload C dX9_edge_106 rfl ?_
                refine jx_iload_n C dX9_edge_108 rfl ?_
                refine jx_icmp_le C dX9_edge_109 (by omega) (by omega) (fun c_109 => ?_) (fun c_109 => ?_)
                · refine jx_iconst C dX9_edge_116 ?_
                  exact J_117 _ (by first | rw [if_pos (by omega)] | rw [if_neg (by omega)])
                · refine jx_iconst C dX9_edge_112 ?_
                  refine jx_goto C dX9_edge_113 ?_
                  exact J_117 _ (by first | rw [if_pos (by omega)] | rw [if_neg (by omega)])
              · refine jx_iload C dX9_edge_97 rfl ?_
                refine jx_iload_n C dX9_edge_99 rfl ?_
                refine jx_icmp_ge C dX9_edge_100 (by omega) (by omega) (fun c_100 => ?_) (fun c_100 => ?_)
                · refine jx_iconst C dX9_edge_116 ?_
                  exact J_117 _ (by first | rw [if_pos (by omega)] | rw [if_neg (by omega)])
                · refine jx_goto C dX9_edge_103 ?_
                  refine jx_iconst C dX9_edge_112 ?_
                  refine jx_goto C dX9_edge_113 ?_
                  exact J_117 _ (by first | rw [if_pos (by omega)] | rw [if_neg (by omega)])
          refine jx_iload_n C dX9_edge_21 rfl ?_
          refine jx_if_ne C dX9_edge_22 (by omega) (fun c_22 => ?_) (fun c_22 => ?_)
          · refine jx_iload_n C dX9_edge_34 rfl ?_
            refine jx_iconst C dX9_edge_35 ?_
            refine jx_icmp_ne C dX9_edge_36 (by omega) (by decide) (fun c_36 => ?_) (fun c_36 => ?_)
            · refine jx_iload_n C dX9_edge_48 rfl ?_
              refine jx_iconst C dX9_edge_49 ?_
              refine jx_icmp_ne C dX9_edge_50 (by omega) (by decide) (fun c_50 => ?_) (fun c_50 => ?_)
              · refine jx_aload_n C dX9_edge_71 rfl ?_
                refine jx_get (v := .inr (ad G 92)) C 19 ft_X9 (jcl_MO G _) rfl (by decide) (by decide) wf_X9_56 dX9_edge_72 ?_
                refine jx_iload_n C dX9_edge_75 rfl ?_
                refine jx_iald C (jcl_92 G _) (by decide) (by omega) (by omega) (by decide) dX9_edge_76 ?_
                have r_76 := rg_92 hR p3.toNat
                have e_76 : μ 92 p3.toNat = jyy (mB μ) p := (by rw [show p3.toNat = p by omega]; exact (hA.2 (by omega)).2.1)
                rw [e_76] at r_76
                refine jx_top (b := jyy (mB μ) p) e_76 ?_
                refine jx_aload_n C dX9_edge_77 rfl ?_
                refine jx_get (v := .inr (ad G 80)) C 3 ft_X9 (jcl_MO G _) rfl (by decide) (by decide) wf_X9_13 dX9_edge_78 ?_
                refine jx_iload_n C dX9_edge_81 rfl ?_
                refine jx_iald C (jcl_80 G _) (by decide) (by omega) (by omega) (by decide) dX9_edge_82 ?_
                have r_82 := rg_80 hR p3.toNat
                have e_82 : μ 80 p3.toNat = bH (mB μ) p := (by rw [show p3.toNat = p by omega]; exact eH.symm)
                rw [e_82] at r_82
                refine jx_top (b := bH (mB μ) p) e_82 ?_
                refine jx_iadd C dX9_edge_83 ?_
                refine jx_iconst C dX9_edge_84 ?_
                refine jx_isub C dX9_edge_85 ?_
                exact J_86 _ (by unfold bex edg; first | rw [if_pos (by omega)] | rw [if_neg (by omega), if_pos (by omega)] | rw [if_neg (by omega), if_neg (by omega), if_pos (by omega)] | rw [if_neg (by omega), if_neg (by omega), if_neg (by omega)])
              · refine jx_aload_n C dX9_edge_53 rfl ?_
                refine jx_get (v := .inr (ad G 91)) C 18 ft_X9 (jcl_MO G _) rfl (by decide) (by decide) wf_X9_53 dX9_edge_54 ?_
                refine jx_iload_n C dX9_edge_57 rfl ?_
                refine jx_iald C (jcl_91 G _) (by decide) (by omega) (by omega) (by decide) dX9_edge_58 ?_
                have r_58 := rg_91 hR p3.toNat
                have e_58 : μ 91 p3.toNat = jxx (mB μ) p := (by rw [show p3.toNat = p by omega]; exact (hA.2 (by omega)).1)
                rw [e_58] at r_58
                refine jx_top (b := jxx (mB μ) p) e_58 ?_
                refine jx_aload_n C dX9_edge_59 rfl ?_
                refine jx_get (v := .inr (ad G 79)) C 2 ft_X9 (jcl_MO G _) rfl (by decide) (by decide) wf_X9_7 dX9_edge_60 ?_
                refine jx_iload_n C dX9_edge_63 rfl ?_
                refine jx_iald C (jcl_79 G _) (by decide) (by omega) (by omega) (by decide) dX9_edge_64 ?_
                have r_64 := rg_79 hR p3.toNat
                have e_64 : μ 79 p3.toNat = bW (mB μ) p := (by rw [show p3.toNat = p by omega]; exact eW.symm)
                rw [e_64] at r_64
                refine jx_top (b := bW (mB μ) p) e_64 ?_
                refine jx_iadd C dX9_edge_65 ?_
                refine jx_iconst C dX9_edge_66 ?_
                refine jx_isub C dX9_edge_67 ?_
                refine jx_goto C dX9_edge_68 ?_
                exact J_86 _ (by unfold bex edg; first | rw [if_pos (by omega)] | rw [if_neg (by omega), if_pos (by omega)] | rw [if_neg (by omega), if_neg (by omega), if_pos (by omega)] | rw [if_neg (by omega), if_neg (by omega), if_neg (by omega)])
            · refine jx_aload_n C dX9_edge_39 rfl ?_
              refine jx_get (v := .inr (ad G 92)) C 19 ft_X9 (jcl_MO G _) rfl (by decide) (by decide) wf_X9_56 dX9_edge_40 ?_
              refine jx_iload_n C dX9_edge_43 rfl ?_
              refine jx_iald C (jcl_92 G _) (by decide) (by omega) (by omega) (by decide) dX9_edge_44 ?_
              have r_44 := rg_92 hR p3.toNat
              have e_44 : μ 92 p3.toNat = jyy (mB μ) p := (by rw [show p3.toNat = p by omega]; exact (hA.2 (by omega)).2.1)
              rw [e_44] at r_44
              refine jx_top (b := jyy (mB μ) p) e_44 ?_
              refine jx_goto C dX9_edge_45 ?_
              exact J_86 _ (by unfold bex edg; first | rw [if_pos (by omega)] | rw [if_neg (by omega), if_pos (by omega)] | rw [if_neg (by omega), if_neg (by omega), if_pos (by omega)] | rw [if_neg (by omega), if_neg (by omega), if_neg (by omega)])
          · refine jx_aload_n C dX9_edge_25 rfl ?_
            refine jx_get (v := .inr (ad G 91)) C 18 ft_X9 (jcl_MO G _) rfl (by decide) (by decide) wf_X9_53 dX9_edge_26 ?_
            refine jx_iload_n C dX9_edge_29 rfl ?_
            refine jx_iald C (jcl_91 G _) (by decide) (by omega) (by omega) (by decide) dX9_edge_30 ?_
            have r_30 := rg_91 hR p3.toNat
            have e_30 : μ 91 p3.toNat = jxx (mB μ) p := (by rw [show p3.toNat = p by omega]; exact (hA.2 (by omega)).1)
            rw [e_30] at r_30
            refine jx_top (b := jxx (mB μ) p) e_30 ?_
            refine jx_goto C dX9_edge_31 ?_
            exact J_86 _ (by unfold bex edg; first | rw [if_pos (by omega)] | rw [if_neg (by omega), if_pos (by omega)] | rw [if_neg (by omega), if_neg (by omega), if_pos (by omega)] | rw [if_neg (by omega), if_neg (by omega), if_neg (by omega)])
  exact LP_4 _ 0 0 0 rfl (Nat.zero_le _) rfl (by omega) (Nat.lt_succ_self _)
