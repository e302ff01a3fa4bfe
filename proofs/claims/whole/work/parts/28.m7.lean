set_option maxHeartbeats 4000000 in
set_option maxRecDepth 100000 in
theorem c_X0_settle (l : Launch) (G : GT) (μ : Mem) (br nr : Int) (hbr : br = μ 0 4) (hnr : nr = μ 0 5) (hCI : CI μ) (hR : rng μ) : MV l yX0_settle cX0_settle 5 ({ frames := 5, cells := 0, slots := 0, locals := 120 } : Room) G [.inr (ad G 2), .inl br, .inl nr] μ (fun μ' => rng μ' ∧ μ' 2 5 = 0 ∧ CI μ' ∧ CD μ' ∧ cB μ' = cB μ ∧ ∀ k, (k < 2 ∨ k = 3 ∨ k = 4 ∨ k = 8 ∨ k = 9 ∨ 78 ≤ k) → μ' k = μ k) := by
  refine MV.of (by decide +kernel) (Nat.le_of_ble_eq_true rfl) ?_
  intro F C Yy
  show jX F G 5 0 0 (jE F G (jQv G (fun μ' => rng μ' ∧ μ' 2 5 = 0 ∧ CI μ' ∧ CD μ' ∧ cB μ' = cB μ ∧ ∀ k, (k < 2 ∨ k = 3 ∨ k = 4 ∨ k = 8 ∨ k = 9 ∨ 78 ≤ k) → μ' k = μ k))) 0 [some (.inr (ad G 2)), some (.inl br), some (.inl nr), none, none] [] μ
  obtain ⟨hc1, hc2⟩ := cB_N hR
  have r_br := rg_PJ_4 hR
  have r_nr := rg_PJ_5 hR
  refine jx_aload_n C dX0_settle_0 rfl ?_
  refine jx_get (v := .inl (μ 2 5)) C 5 ft_X0 (jcl_AL G _) rfl (by decide) (by decide) wf_X0_29 dX0_settle_1 ?_
  have r_1 := rg_AL_5 hR
  refine jx_if_ne C dX0_settle_4 (by omega) (fun c_4 => ?_) (fun c_4 => ?_)
  · refine jx_iconst C dX0_settle_8 ?_
    refine jx_istore_n (L' := [some (.inr (ad G 2)), some (.inl br), some (.inl nr), some (.inl 0), none]) C dX0_settle_9 (by decide) rfl ?_
    have LP_10 : ∀ (n : Nat) (p : Nat) (pi : Int) (μa : Mem), (rng μa) → (pi = (p : Int)) → (p ≤ bN (cB μ)) → (∀ x, x < p → MKp μa (cB μ) x) → (∀ x, x < bN (cB μ) → μa (14 + x) 4 = 0 → SVp μa (cB μ) x) → ((∀ k, (k < 14 ∨ (18 ≤ k ∧ k < 22) ∨ 46 ≤ k) → μa k = μ k) ∧ ∀ x j, x < 4 → j ≠ 4 → μa (14 + x) j = μ (14 + x) j) → 5 - p < n → jX F G 5 0 0 (jE F G (jQv G (fun μ' => rng μ' ∧ μ' 2 5 = 0 ∧ CI μ' ∧ CD μ' ∧ cB μ' = cB μ ∧ ∀ k, (k < 2 ∨ k = 3 ∨ k = 4 ∨ k = 8 ∨ k = 9 ∨ 78 ≤ k) → μ' k = μ k))) 10 [some (.inr (ad G 2)), some (.inl br), some (.inl nr), some (.inl pi), none] [] μa := by
      intro n
      induction n with
      | zero =>
        intro p pi μa hRa hpi hpc hma hsa hfa hms
        exact absurd hms (Nat.not_lt_zero _)
      | succ n ih =>
        intro p pi μa hRa hpi hpc hma hsa hfa hms
        have ih_10 := ih
        clear ih
        have q_c : μa 2 3 = (bN (cB μ) : Int) := by rw [hfa.1 2 (by omega)]; exact hc1
        refine jx_iload_n C dX0_settle_10 rfl ?_
        refine jx_aload_n C dX0_settle_11 rfl ?_
        refine jx_get (v := .inl (μa 2 3)) C 3 ft_X0 (jcl_AL G _) rfl (by decide) (by decide) wf_X0_33 dX0_settle_12 ?_
        have r_12 := rg_AL_3 hRa
        refine jx_icmp_ge C dX0_settle_15 (by omega) (by omega) (fun c_15 => ?_) (fun c_15 => ?_)
        · refine jx_iconst C dX0_settle_58 ?_
          refine jx_istore_n (L' := [some (.inr (ad G 2)), some (.inl br), some (.inl nr), some (.inl 0), none]) C dX0_settle_59 (by decide) rfl ?_
          have LP_60 : ∀ (n : Nat) (a : Nat) (ai : Int) (μc : Mem), (rng μc) → (ai = (a : Int)) → (a ≤ bN (cB μ)) → (∀ x y, x < bN (cB μ) → y < bN (cB μ) → ¬ x = y → 4 * x + y < 4 * a → PRp μc (cB μ) x y) → (∀ k, (k < 46 ∨ 78 ≤ k) → μc k = μa k) → 5 - a < n → jX F G 5 0 0 (jE F G (jQv G (fun μ' => rng μ' ∧ μ' 2 5 = 0 ∧ CI μ' ∧ CD μ' ∧ cB μ' = cB μ ∧ ∀ k, (k < 2 ∨ k = 3 ∨ k = 4 ∨ k = 8 ∨ k = 9 ∨ 78 ≤ k) → μ' k = μ k))) 60 [some (.inr (ad G 2)), some (.inl br), some (.inl nr), some (.inl ai), none] [] μc := by
            intro n
            induction n with
            | zero =>
              intro a ai μc hRc hai hac hpr hfc hms
              exact absurd hms (Nat.not_lt_zero _)
            | succ n ih =>
              intro a ai μc hRc hai hac hpr hfc hms
              have ih_60 := ih
              clear ih
              have q_c2 : μc 2 3 = (bN (cB μ) : Int) := by rw [hfc 2 (by omega)]; exact q_c
              refine jx_iload_n C dX0_settle_60 rfl ?_
              refine jx_aload_n C dX0_settle_61 rfl ?_
              refine jx_get (v := .inl (μc 2 3)) C 3 ft_X0 (jcl_AL G _) rfl (by decide) (by decide) wf_X0_33 dX0_settle_62 ?_
              have r_62 := rg_AL_3 hRc
              refine jx_icmp_ge C dX0_settle_65 (by omega) (by omega) (fun c_65 => ?_) (fun c_65 => ?_)
              · refine jx_aload_n C dX0_settle_128 rfl ?_
                refine jx_cVv (as := []) (st := []) C Yy (c_X0_joinAll l G μc (bN (cB μ)) q_c2 (by omega) (bV (cB μ)) (bX (cB μ)) (bY (cB μ)) (fun t h1 h2 h3 => by have h9 := (hpr (t / 4) (t % 4) h1 h2 h3 (by omega)).2.2; rw [show 4 * (t / 4) + t % 4 = t by omega] at h9; exact h9) (bV_rng (cB μ)) (fun t _ _ _ => bXY_rng (cB μ) t) hRc) yb_X0_joinAll yv_X0_joinAll wm_X0_63 (jcl_AL G _) rfl (by decide) rfl rfl (Nat.le_of_ble_eq_true rfl) ⟨⟨rfl, rfl, Nat.le_of_ble_eq_true rfl, Nat.le_of_ble_eq_true rfl⟩, Nat.zero_le _, Nat.zero_le _⟩ dX0_settle_129 ?_
                intro μ1 hμ1
                have hR1 := hμ1.1
                refine jx_aload_n C dX0_settle_132 rfl ?_
                refine jx_iconst C dX0_settle_133 ?_
                refine jx_put C 5 ft_X0 (jcl_AL G _) ((jcl_AL G _).trans rfl) (by decide) (by decide) rfl (Or.inr ⟨rfl, Or.inl rfl⟩) (by simp) wf_X0_29 dX0_settle_134 ?_
                obtain ⟨μ2, eμ2⟩ : ∃ y_ : Mem, y_ = jms μ1 2 5 0 := ⟨_, rfl⟩
                rw [← eμ2]
                have hR2 : rng μ2 := by rw [eμ2]; exact rs_AL_5 hR1 (by omega) (by omega)
                exact jx_vret C dX0_settle_137 ⟨hR2, settle_end hR hfa (fun x hx => hma x (by omega)) hsa (fun x y h1 h2 h3 => hpr x y h1 h2 h3 (by omega)) hfc hμ1.2.1 hμ1.2.2 eμ2⟩
              · refine jx_iconst C dX0_settle_68 ?_
                refine jx_istore (L' := [some (.inr (ad G 2)), some (.inl br), some (.inl nr), some (.inl ai), some (.inl 0)]) C dX0_settle_69 (by decide) rfl ?_
                have LP_71 : ∀ (n : Nat) (b : Nat) (bi : Int) (μd : Mem), (rng μd) → (bi = (b : Int)) → (b ≤ bN (cB μ)) → (∀ x y, x < bN (cB μ) → y < bN (cB μ) → ¬ x = y → 4 * x + y < 4 * a + b → PRp μd (cB μ) x y) → (∀ k, (k < 46 ∨ 78 ≤ k) → μd k = μa k) → 5 - b < n → jX F G 5 0 0 (jE F G (jQv G (fun μ' => rng μ' ∧ μ' 2 5 = 0 ∧ CI μ' ∧ CD μ' ∧ cB μ' = cB μ ∧ ∀ k, (k < 2 ∨ k = 3 ∨ k = 4 ∨ k = 8 ∨ k = 9 ∨ 78 ≤ k) → μ' k = μ k))) 71 [some (.inr (ad G 2)), some (.inl br), some (.inl nr), some (.inl ai), some (.inl bi)] [] μd := by
                  intro n
                  induction n with
                  | zero =>
                    intro b bi μd hRd hbi hbc hpr2 hfd hms
                    exact absurd hms (Nat.not_lt_zero _)
                  | succ n ih =>
                    intro b bi μd hRd hbi hbc hpr2 hfd hms
                    have ih_71 := ih
                    clear ih
                    have q_c3 : μd 2 3 = (bN (cB μ) : Int) := by rw [hfd 2 (by omega)]; exact q_c
                    have hmd : ∀ x, x < bN (cB μ) → MKp μd (cB μ) x := fun x hx => MKp_fr (hma x (by omega)) (hfd _ (by omega)) (hfd _ (by omega)) (hfd _ (by omega)) (hfd _ (by omega)) (hfd _ (by omega))
                    refine jx_iload C dX0_settle_71 rfl ?_
                    refine jx_aload_n C dX0_settle_73 rfl ?_
                    refine jx_get (v := .inl (μd 2 3)) C 3 ft_X0 (jcl_AL G _) rfl (by decide) (by decide) wf_X0_33 dX0_settle_74 ?_
                    have r_74 := rg_AL_3 hRd
                    refine jx_icmp_ge C dX0_settle_77 (by omega) (by omega) (fun c_77 => ?_) (fun c_77 => ?_)
                    · refine jx_iinc (L' := [some (.inr (ad G 2)), some (.inl br), some (.inl nr), some (.inl (ai + 1)), some (.inl bi)]) C dX0_settle_122 rfl (by decide) rfl ?_
                      refine jx_goto C dX0_settle_125 ?_
                      refine jx_fewer (L' := [some (.inr (ad G 2)), some (.inl br), some (.inl nr), some (.inl (ai + 1)), none]) (fun i v h => ?_) ?_
                      · exact jfew_ok (by simp [jfew]) h
                      exact ih_60 (a + 1) (ai + 1) μd hRd (by omega) (by omega) (fun x y h1 h2 h3 h4 => hpr2 x y h1 h2 h3 (by omega)) hfd (by omega)
                    · refine jx_iload_n C dX0_settle_80 rfl ?_
                      refine jx_iload C dX0_settle_81 rfl ?_
                      refine jx_icmp_eq C dX0_settle_83 (by omega) (by omega) (fun c_83 => ?_) (fun c_83 => ?_)
                      · refine jx_iinc (L' := [some (.inr (ad G 2)), some (.inl br), some (.inl nr), some (.inl ai), some (.inl (bi + 1))]) C dX0_settle_116 rfl (by decide) rfl ?_
                        refine jx_goto C dX0_settle_119 ?_
                        exact ih_71 (b + 1) (bi + 1) μd hRd (by omega) (by omega) (fun x y h1 h2 h3 h4 => hpr2 x y h1 h2 h3 (by omega)) hfd (by omega)
                      · refine jx_aload_n C dX0_settle_86 rfl ?_
                        refine jx_iload_n C dX0_settle_87 rfl ?_
                        refine jx_iload C dX0_settle_88 rfl ?_
                        refine jx_cVr (as := [.inl ai, .inl bi]) (st := []) C Yy (c_X0_pairingOf l G μd a b (by omega) (by omega) ai bi (by omega) (by omega)) yb_X0_pairingOf yv_X0_pairingOf wm_X0_56 (jcl_AL G _) rfl (by decide) rfl rfl (Nat.le_of_ble_eq_true rfl) ⟨⟨rfl, rfl, Nat.le_of_ble_eq_true rfl, Nat.le_of_ble_eq_true rfl⟩, Nat.zero_le _, Nat.zero_le _⟩ dX0_settle_90 ?_
                        rintro _ _ ⟨rfl, rfl⟩
                        refine jx_aload_n C dX0_settle_93 rfl ?_
                        refine jx_get (v := .inr (ad G 5)) C 0 ft_X0 (jcl_AL G _) rfl (by decide) (by decide) wf_X0_11 dX0_settle_94 ?_
                        refine jx_iload_n C dX0_settle_97 rfl ?_
                        refine jx_aald (p' := a) (t0 := 1) C (jcl_5 G _) rfl (by decide) (by omega) (by omega) (by decide) dX0_settle_98 ?_
                        refine jx_get (v := .inr (ad G (26 + a))) C 1 ft_X5 (jcl_PI G (by omega) _) rfl (by decide) (by omega) wf_X0_46 dX0_settle_99 ?_
                        refine jx_aload_n C dX0_settle_102 rfl ?_
                        refine jx_get (v := .inr (ad G 5)) C 0 ft_X0 (jcl_AL G _) rfl (by decide) (by decide) wf_X0_11 dX0_settle_103 ?_
                        refine jx_iload C dX0_settle_106 rfl ?_
                        refine jx_aald (p' := b) (t0 := 1) C (jcl_5 G _) rfl (by decide) (by omega) (by omega) (by decide) dX0_settle_108 ?_
                        refine jx_get (v := .inr (ad G (26 + b))) C 1 ft_X5 (jcl_PI G (by omega) _) rfl (by decide) (by omega) wf_X0_46 dX0_settle_109 ?_
                        refine jx_iload_n C dX0_settle_112 rfl ?_
                        refine jx_cVv (as := [.inr (ad G (26 + a)), .inr (ad G (26 + b)), .inl nr]) (st := []) C Yy (c_X4_find l G μd (4 * a + b) (by omega) a b (by omega) (by omega) nr (by omega) hRd) yb_X4_find yv_X4_find wm_X0_60 (jcl_PA G (by omega) _) rfl (by omega) rfl rfl (Nat.le_of_ble_eq_true rfl) ⟨⟨rfl, rfl, Nat.le_of_ble_eq_true rfl, Nat.le_of_ble_eq_true rfl⟩, Nat.zero_le _, Nat.zero_le _⟩ dX0_settle_113 ?_
                        intro μ3 hμ3
                        have hR3 := hμ3.1
                        refine jx_iinc (L' := [some (.inr (ad G 2)), some (.inl br), some (.inl nr), some (.inl ai), some (.inl (bi + 1))]) C dX0_settle_116 rfl (by decide) rfl ?_
                        refine jx_goto C dX0_settle_119 ?_
                        exact ih_71 (b + 1) (bi + 1) μ3 hR3 (by omega) (by omega) (fun x y h1 h2 h3 h4 => by
          by_cases e : 4 * x + y = 4 * a + b
          · obtain ⟨rfl, rfl⟩ : x = a ∧ y = b := by omega
            have hnn : nr = bNear (cB μ) := hnr
            rw [hnn] at hμ3
            exact PRp_of (by omega) (by omega) (hmd x h1) (hmd y h2) hμ3.2.1 hμ3.2.2.1 hμ3.2.2.2.1
          · exact PRp_fr (hpr2 x y h1 h2 h3 (by omega)) (hμ3.2.2.2.2 _ (by omega) (by omega)) (hμ3.2.2.2.2 _ (by omega) (by omega))) (fun k hk => by rw [hμ3.2.2.2.2 _ (by omega) (by omega)]; exact hfd k hk) (by omega)
                exact LP_71 _ 0 0 μc hRc rfl (Nat.zero_le _) (fun x y h1 h2 h3 h4 => hpr x y h1 h2 h3 (by omega)) hfc (Nat.lt_succ_self _)
          exact LP_60 _ 0 0 μa hRa rfl (Nat.zero_le _) (fun x y _ _ _ h => absurd h (by omega)) (fun k _ => rfl) (Nat.lt_succ_self _)
        · refine jx_aload_n C dX0_settle_18 rfl ?_
          refine jx_get (v := .inr (ad G 5)) C 0 ft_X0 (jcl_AL G _) rfl (by decide) (by decide) wf_X0_11 dX0_settle_19 ?_
          refine jx_iload_n C dX0_settle_22 rfl ?_
          refine jx_aald (p' := p) (t0 := 1) C (jcl_5 G _) rfl (by decide) (by omega) (by omega) (by decide) dX0_settle_23 ?_
          refine jx_get (v := .inr (ad G (14 + p))) C 0 ft_X5 (jcl_PI G (by omega) _) rfl (by decide) (by omega) wf_X0_37 dX0_settle_24 ?_
          have eW := cB_W (μ := μ) (p := p) (by omega)
          have eH := cB_H (μ := μ) (p := p) (by omega)
          have eD := cB_D (μ := μ) (p := p) (by omega)
          rw [← hfa.2 p 2 (by omega) (by decide)] at eW eD
          rw [← hfa.2 p 3 (by omega) (by decide)] at eH eD
          rw [← hfa.1 (18 + p) (by omega)] at eD
          refine jx_cVv (as := []) (st := []) C Yy (c_X1_scoreAll l G μa p (by omega) (bD (cB μ) p) eD (fun h0 => by have h9 := hsa p (by omega) h0; unfold SVp at h9; rw [eW, eH] at h9; exact h9) hRa) yb_X1_scoreAll yv_X1_scoreAll wm_X0_41 (jcl_DO G (by omega) _) rfl (by omega) rfl rfl (Nat.le_of_ble_eq_true rfl) ⟨⟨rfl, rfl, Nat.le_of_ble_eq_true rfl, Nat.le_of_ble_eq_true rfl⟩, Nat.zero_le _, Nat.zero_le _⟩ dX0_settle_27 ?_
          intro μ4 hμ4
          have hR4 := hμ4.1
          have eW1 : bW (cB μ) p = μ4 (14 + p) 2 := by rw [hμ4.2.2.1 2 (by decide)]; exact eW
          have eH1 : bH (cB μ) p = μ4 (14 + p) 3 := by rw [hμ4.2.2.1 3 (by decide)]; exact eH
          have eD1 : bD (cB μ) p = dgt (μ4 (14 + p) 2) (μ4 (14 + p) 3) (μ4 (18 + p)) := by rw [hμ4.2.2.1 2 (by decide), hμ4.2.2.1 3 (by decide), hμ4.2.2.2.1 (18 + p) (by omega) (by omega)]; exact eD
          have hs1 : SVp μ4 (cB μ) p := by unfold SVp; rw [eW, eH]; exact hμ4.2.2.2.2
          refine jx_aload_n C dX0_settle_30 rfl ?_
          refine jx_get (v := .inr (ad G 5)) C 0 ft_X0 (jcl_AL G _) rfl (by decide) (by decide) wf_X0_11 dX0_settle_31 ?_
          refine jx_iload_n C dX0_settle_34 rfl ?_
          refine jx_aald (p' := p) (t0 := 1) C (jcl_5 G _) rfl (by decide) (by omega) (by omega) (by decide) dX0_settle_35 ?_
          refine jx_get (v := .inr (ad G (26 + p))) C 1 ft_X5 (jcl_PI G (by omega) _) rfl (by decide) (by omega) wf_X0_46 dX0_settle_36 ?_
          refine jx_aload_n C dX0_settle_39 rfl ?_
          refine jx_get (v := .inr (ad G 5)) C 0 ft_X0 (jcl_AL G _) rfl (by decide) (by decide) wf_X0_11 dX0_settle_40 ?_
          refine jx_iload_n C dX0_settle_43 rfl ?_
          refine jx_aald (p' := p) (t0 := 1) C (jcl_5 G _) rfl (by decide) (by omega) (by omega) (by decide) dX0_settle_44 ?_
          refine jx_get (v := .inr (ad G (14 + p))) C 0 ft_X5 (jcl_PI G (by omega) _) rfl (by decide) (by omega) wf_X0_37 dX0_settle_45 ?_
          refine jx_iload_n C dX0_settle_48 rfl ?_
          refine jx_cVv (as := [.inr (ad G (14 + p)), .inl br]) (st := []) C Yy (c_X2_find l G μ4 p (by omega) br (bD (cB μ) p) (bfn (cB μ) p) eD1 (bfn_kgt eW1.symm.symm eH1 hs1) (by omega) hR4) yb_X2_find yv_X2_find wm_X0_50 (jcl_MA G (by omega) _) rfl (by omega) rfl rfl (Nat.le_of_ble_eq_true rfl) ⟨⟨rfl, rfl, Nat.le_of_ble_eq_true rfl, Nat.le_of_ble_eq_true rfl⟩, Nat.zero_le _, Nat.zero_le _⟩ dX0_settle_49 ?_
          intro μ5 hμ5
          have hR5 := hμ5.1
          refine jx_iinc (L' := [some (.inr (ad G 2)), some (.inl br), some (.inl nr), some (.inl (pi + 1)), none]) C dX0_settle_52 rfl (by decide) rfl ?_
          refine jx_goto C dX0_settle_55 ?_
          exact ih_10 (p + 1) (pi + 1) μ5 hR5 (by omega) (by omega) (fun x hx => by
        by_cases hxp : x = p
        · subst hxp
          refine ⟨?_, ?_⟩
          · have h9 := hμ5.2.1
            rw [← eW1, ← eH1, hbr] at h9
            exact h9
          · have h9 := hμ5.2.2.1
            rw [← eW1, ← eH1, hbr] at h9
            exact h9
        · exact MKp_fr (hma x (by omega)) (by rw [hμ5.2.2.2 _ (by omega) (by omega) (by omega) (by omega) (by omega), hμ4.2.2.2.1 _ (by omega) (by omega)]) (by rw [hμ5.2.2.2 _ (by omega) (by omega) (by omega) (by omega) (by omega), hμ4.2.2.2.1 _ (by omega) (by omega)]) (by rw [hμ5.2.2.2 _ (by omega) (by omega) (by omega) (by omega) (by omega), hμ4.2.2.2.1 _ (by omega) (by omega)]) (by rw [hμ5.2.2.2 _ (by omega) (by omega) (by omega) (by omega) (by omega), hμ4.2.2.2.1 _ (by omega) (by omega)]) (by rw [hμ5.2.2.2 _ (by omega) (by omega) (by omega) (by omega) (by omega), hμ4.2.2.2.1 _ (by omega) (by omega)])) (fun x hx h0 => by
        by_cases hxp : x = p
        · subst hxp
          exact SVp_fr hs1 (hμ5.2.2.2 _ (by omega) (by omega) (by omega) (by omega) (by omega))
        · rw [hμ5.2.2.2 _ (by omega) (by omega) (by omega) (by omega) (by omega), hμ4.2.2.2.1 _ (by omega) (by omega)] at h0
          exact SVp_fr (hsa x hx h0) (by rw [hμ5.2.2.2 _ (by omega) (by omega) (by omega) (by omega) (by omega), hμ4.2.2.2.1 _ (by omega) (by omega)])) ⟨fun k hk => by rw [hμ5.2.2.2 _ (by omega) (by omega) (by omega) (by omega) (by omega), hμ4.2.2.2.1 _ (by omega) (by omega)]; exact hfa.1 k hk, fun x j hx hj => by
        rw [hμ5.2.2.2 _ (by omega) (by omega) (by omega) (by omega) (by omega)]
        by_cases hxp : x = p
        · rw [hxp, hμ4.2.2.1 j hj]; exact hfa.2 p j (by omega) hj
        · rw [hμ4.2.2.2.1 _ (by omega) (by omega)]; exact hfa.2 x j hx hj⟩ (by omega)
    exact LP_10 _ 0 0 μ hR rfl (Nat.zero_le _) (fun x hx => absurd hx (Nat.not_lt_zero _)) hCI.1 ⟨fun k _ => rfl, fun x j _ _ => rfl⟩ (Nat.lt_succ_self _)
  · exact jx_vret C dX0_settle_7 ⟨hR, by omega, hCI, hCI.2 (by omega), rfl, fun k _ => rfl⟩
