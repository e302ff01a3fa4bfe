set_option maxHeartbeats 4000000 in
set_option maxRecDepth 100000 in
theorem c_X0_joinAll (l : Launch) (G : GT) (μ : Mem) (c : Nat) (hc : μ 2 3 = (c : Int)) (hc4 : c ≤ 4) (V X Y : Nat → Int) (hV : ∀ t, t / 4 < c → t % 4 < c → ¬ t / 4 = t % 4 → μ (46 + t) 2 = V t ∧ (0 < V t → μ (46 + t) 3 = X t ∧ μ (46 + t) 4 = Y t)) (hVr : ∀ t, 0 ≤ V t ∧ V t ≤ 16) (hXr : ∀ t, t / 4 < c → t % 4 < c → 0 < V t → -20 ≤ X t ∧ X t ≤ 20 ∧ -20 ≤ Y t ∧ Y t ≤ 20) (hR : rng μ) : MV l yX0_joinAll cX0_joinAll 4 ({ frames := 2, cells := 0, slots := 0, locals := 47 } : Room) G [.inr (ad G 2)] μ (fun μ' => rng μ' ∧ JOk μ' c (jn c V X Y (c - 1)) ∧ (∀ k, k ≠ 2 → k ≠ 7 → (k < 10 ∨ 14 ≤ k) → μ' k = μ k) ∧ ∀ j, j ≠ 4 → μ' 2 j = μ 2 j) := by
  refine MV.of (by decide +kernel) (Nat.le_of_ble_eq_true rfl) ?_
  intro F C Yy
  show jX F G 4 0 0 (jE F G (jQv G (fun μ' => rng μ' ∧ JOk μ' c (jn c V X Y (c - 1)) ∧ (∀ k, k ≠ 2 → k ≠ 7 → (k < 10 ∨ 14 ≤ k) → μ' k = μ k) ∧ ∀ j, j ≠ 4 → μ' 2 j = μ 2 j))) 0 [some (.inr (ad G 2)), none, none, none] [] μ
  have r_c := rg_AL_3 hR
  refine jx_aload_n C dX0_joinAll_0 rfl ?_
  refine jx_iconst C dX0_joinAll_1 ?_
  refine jx_put C 4 ft_X0 (jcl_AL G _) ((jcl_AL G _).trans rfl) (by decide) (by decide) rfl (Or.inl rfl) (by simp) wf_X0_66 dX0_joinAll_2 ?_
  obtain ⟨μ1, eμ1⟩ : ∃ y_ : Mem, y_ = jms μ 2 4 0 := ⟨_, rfl⟩
  rw [← eμ1]
  have hR1 : rng μ1 := by rw [eμ1]; exact rs_AL_4 hR (by omega) (by omega)
  refine jx_iconst C dX0_joinAll_5 ?_
  refine jx_istore_n (L' := [some (.inr (ad G 2)), some (.inl 0), none, none]) C dX0_joinAll_6 (by decide) rfl ?_
  have LP_7 : ∀ (n : Nat) (p : Nat) (pi : Int) (μa : Mem), (rng μa) → (pi = (p : Int)) → (p ≤ c) → (∀ x, x < p → μa (10 + x) 5 = -6) → (μa 2 4 = 0) → ((∀ k, k ≠ 2 → k ≠ 7 → (k < 10 ∨ 14 ≤ k) → μa k = μ k) ∧ ∀ j, j ≠ 4 → μa 2 j = μ 2 j) → 5 - p < n → jX F G 4 0 0 (jE F G (jQv G (fun μ' => rng μ' ∧ JOk μ' c (jn c V X Y (c - 1)) ∧ (∀ k, k ≠ 2 → k ≠ 7 → (k < 10 ∨ 14 ≤ k) → μ' k = μ k) ∧ ∀ j, j ≠ 4 → μ' 2 j = μ 2 j))) 7 [some (.inr (ad G 2)), some (.inl pi), none, none] [] μa := by
    intro n
    induction n with
    | zero =>
      intro p pi μa hRa hpi hpc hra hz hfa hms
      exact absurd hms (Nat.not_lt_zero _)
    | succ n ih =>
      intro p pi μa hRa hpi hpc hra hz hfa hms
      have ih_7 := ih
      clear ih
      have q_c : μa 2 3 = (c : Int) := by rw [hfa.2 3 (by decide)]; exact hc
      refine jx_iload_n C dX0_joinAll_7 rfl ?_
      refine jx_aload_n C dX0_joinAll_8 rfl ?_
      refine jx_get (v := .inl (μa 2 3)) C 3 ft_X0 (jcl_AL G _) rfl (by decide) (by decide) wf_X0_33 dX0_joinAll_9 ?_
      have r_9 := rg_AL_3 hRa
      refine jx_icmp_ge C dX0_joinAll_12 (by omega) (by omega) (fun c_12 => ?_) (fun c_12 => ?_)
      · have CUT_48 : ∀ (μx : Mem), (rng μx) → (JOk μx c (jnil c)) → ((∀ k, k ≠ 2 → k ≠ 7 → (k < 10 ∨ 14 ≤ k) → μx k = μ k) ∧ ∀ j, j ≠ 4 → μx 2 j = μ 2 j) → jX F G 4 0 0 (jE F G (jQv G (fun μ' => rng μ' ∧ JOk μ' c (jn c V X Y (c - 1)) ∧ (∀ k, k ≠ 2 → k ≠ 7 → (k < 10 ∨ 14 ≤ k) → μ' k = μ k) ∧ ∀ j, j ≠ 4 → μ' 2 j = μ 2 j))) 48 [some (.inr (ad G 2)), none, none, none] [] μx := by
          intro μx hRx hJx hfx
          refine jx_iconst C dX0_joinAll_48 ?_
          refine jx_istore_n (L' := [some (.inr (ad G 2)), some (.inl 1), none, none]) C dX0_joinAll_49 (by decide) rfl ?_
          have LP_50 : ∀ (n : Nat) (s : Nat) (si : Int) (μb : Mem), (rng μb) → (si = (s : Int)) → (1 ≤ s) → (s ≤ max c 1) → (JOk μb c (jn c V X Y (s - 1))) → ((∀ k, k ≠ 2 → k ≠ 7 → (k < 10 ∨ 14 ≤ k) → μb k = μ k) ∧ ∀ j, j ≠ 4 → μb 2 j = μ 2 j) → 6 - s < n → jX F G 4 0 0 (jE F G (jQv G (fun μ' => rng μ' ∧ JOk μ' c (jn c V X Y (c - 1)) ∧ (∀ k, k ≠ 2 → k ≠ 7 → (k < 10 ∨ 14 ≤ k) → μ' k = μ k) ∧ ∀ j, j ≠ 4 → μ' 2 j = μ 2 j))) 50 [some (.inr (ad G 2)), some (.inl si), none, none] [] μb := by
            intro n
            induction n with
            | zero =>
              intro s si μb hRb hsi hs1 hsc hJb hfb hms
              exact absurd hms (Nat.not_lt_zero _)
            | succ n ih =>
              intro s si μb hRb hsi hs1 hsc hJb hfb hms
              have ih_50 := ih
              clear ih
              have q_c : μb 2 3 = (c : Int) := by rw [hfb.2 3 (by decide)]; exact hc
              refine jx_iload_n C dX0_joinAll_50 rfl ?_
              refine jx_aload_n C dX0_joinAll_51 rfl ?_
              refine jx_get (v := .inl (μb 2 3)) C 3 ft_X0 (jcl_AL G _) rfl (by decide) (by decide) wf_X0_33 dX0_joinAll_52 ?_
              have r_52 := rg_AL_3 hRb
              refine jx_icmp_ge C dX0_joinAll_55 (by omega) (by omega) (fun c_55 => ?_) (fun c_55 => ?_)
              · exact jx_vret C dX0_joinAll_126 ⟨hRb, by rw [show c - 1 = s - 1 by omega]; exact hJb, hfb⟩
              · refine jx_aload_n C dX0_joinAll_58 rfl ?_
                refine jx_cVi (as := []) (st := []) C Yy (c_X0_bestPair l G μb c q_c ((jn c V X Y (s - 1)).2.1) V (fun p hp => (hJb.2.1 p hp).1) (fun t h1 h2 h3 => by rw [hfb.1 (46 + t) (by omega) (by omega) (by omega)]; exact (hV t h1 h2 h3).1) hVr hRb) yb_X0_bestPair yv_X0_bestPair wm_X0_76 (jcl_AL G _) rfl (by decide) rfl rfl (Nat.le_of_ble_eq_true rfl) ⟨⟨rfl, rfl, Nat.le_of_ble_eq_true rfl, Nat.le_of_ble_eq_true rfl⟩, Nat.zero_le _, Nat.zero_le _⟩ dX0_joinAll_59 ?_
                rintro _ _ ⟨rfl, rfl⟩
                have r_59 := bst_rng (c := c) (rk := ((jn c V X Y (s - 1)).2.1)) (V := V)
                refine jx_nm (fun tb htb => ?_)
                rw [← htb] at r_59
                refine jx_istore_n (L' := [some (.inr (ad G 2)), some (.inl si), some (.inl tb), none]) C dX0_joinAll_62 (by decide) rfl ?_
                refine jx_iload_n C dX0_joinAll_63 rfl ?_
                refine jx_bipush C dX0_joinAll_64 (by decide +kernel) ?_
                refine jx_icmp_ne C dX0_joinAll_66 (by omega) (by decide) (fun c_66 => ?_) (fun c_66 => ?_)
                · have hto : tb = (tb.toNat : Int) := by omega
                  obtain ⟨t, et⟩ : ∃ t : Nat, tb = (t : Int) := ⟨_, hto⟩
                  subst et
                  rw [Int.toNat_natCast] at r_59
                  have hV2 := (hV t (by omega) (by omega) (by intro e; rw [e] at r_59; omega)).2 (by omega)
                  have hfx := (hfb.1 (46 + t) (by omega) (by omega) (by omega))
                  have hJa := hJb.2.1 (t / 4) (by omega)
                  have hJa2 := hJa.2 (by omega)
                  have hia := (jn_inv hc4 hXr (s - 1)).2.1 (t / 4) (by omega)
                  have hun := unj_pos hc4 (rk := (jn c V X Y (s - 1)).2.1) (b := t % 4) (by omega) (by omega)
                  have hcn := (jn_inv hc4 hXr (s - 1)).1
                  have hn4 := hJb.1
                  have hXt := hXr t (by omega) (by omega) (by omega)
                  refine jx_iload_n C dX0_joinAll_70 rfl ?_
                  refine jx_iconst C dX0_joinAll_71 ?_
                  refine jx_idiv (z := (t : Int) / 4) C dX0_joinAll_72 (by omega) (by decide) (by decide) (jtd (by omega)) ?_
                  refine jx_top (b := ((t / 4 : Nat) : Int)) (by omega) ?_
                  refine jx_istore_n (L' := [some (.inr (ad G 2)), some (.inl si), some (.inl (t : Int)), some (.inl ((t / 4 : Nat) : Int))]) C dX0_joinAll_73 (by decide) rfl ?_
                  refine jx_aload_n C dX0_joinAll_74 rfl ?_
                  refine jx_iload_n C dX0_joinAll_75 rfl ?_
                  refine jx_iconst C dX0_joinAll_76 ?_
                  refine jx_irem (z := (t : Int) % 4) C dX0_joinAll_77 (by omega) (by decide) (by decide) (jtm (by omega)) ?_
                  refine jx_top (b := ((t % 4 : Nat) : Int)) (by omega) ?_
                  refine jx_aload_n C dX0_joinAll_78 rfl ?_
                  refine jx_get (v := .inr (ad G 5)) C 0 ft_X0 (jcl_AL G _) rfl (by decide) (by decide) wf_X0_11 dX0_joinAll_79 ?_
                  refine jx_iload_n C dX0_joinAll_82 rfl ?_
                  refine jx_aald (p' := (t / 4)) (t0 := 1) C (jcl_5 G _) rfl (by decide) rfl (by omega) (by decide) dX0_joinAll_83 ?_
                  refine jx_get (v := .inl (μb (10 + (t / 4)) 2)) C 2 ft_X5 (jcl_PI G (by omega) _) rfl (by decide) (by omega) wf_X0_80 dX0_joinAll_84 ?_
                  have r_84 := rg_PI_2 hRb (p := t / 4) (by omega)
                  refine jx_aload_n C dX0_joinAll_87 rfl ?_
                  refine jx_get (v := .inr (ad G 6)) C 1 ft_X0 (jcl_AL G _) rfl (by decide) (by decide) wf_X0_19 dX0_joinAll_88 ?_
                  refine jx_iload_n C dX0_joinAll_91 rfl ?_
                  refine jx_aald (p' := t) (t0 := 2) C (jcl_6 G _) rfl (by decide) rfl (by omega) (by decide) dX0_joinAll_92 ?_
                  refine jx_get (v := .inl (μb (46 + t) 3)) C 3 ft_X4 (jcl_PA G (by omega) _) rfl (by decide) (by omega) wf_X0_83 dX0_joinAll_93 ?_
                  have r_93 := rg_PA_3 hRb (p := t) (by omega)
                  refine jx_iadd C dX0_joinAll_96 ?_
                  refine jx_top (b := (jn c V X Y (s - 1)).2.2.1 (t / 4) + X t) (by rw [hJa2.1, hfx, hV2.1]) ?_
                  refine jx_aload_n C dX0_joinAll_97 rfl ?_
                  refine jx_get (v := .inr (ad G 5)) C 0 ft_X0 (jcl_AL G _) rfl (by decide) (by decide) wf_X0_11 dX0_joinAll_98 ?_
                  refine jx_iload_n C dX0_joinAll_101 rfl ?_
                  refine jx_aald (p' := (t / 4)) (t0 := 1) C (jcl_5 G _) rfl (by decide) rfl (by omega) (by decide) dX0_joinAll_102 ?_
                  refine jx_get (v := .inl (μb (10 + (t / 4)) 3)) C 3 ft_X5 (jcl_PI G (by omega) _) rfl (by decide) (by omega) wf_X0_84 dX0_joinAll_103 ?_
                  have r_103 := rg_PI_3 hRb (p := t / 4) (by omega)
                  refine jx_aload_n C dX0_joinAll_106 rfl ?_
                  refine jx_get (v := .inr (ad G 6)) C 1 ft_X0 (jcl_AL G _) rfl (by decide) (by decide) wf_X0_19 dX0_joinAll_107 ?_
                  refine jx_iload_n C dX0_joinAll_110 rfl ?_
                  refine jx_aald (p' := t) (t0 := 2) C (jcl_6 G _) rfl (by decide) rfl (by omega) (by decide) dX0_joinAll_111 ?_
                  refine jx_get (v := .inl (μb (46 + t) 4)) C 4 ft_X4 (jcl_PA G (by omega) _) rfl (by decide) (by omega) wf_X0_87 dX0_joinAll_112 ?_
                  have r_112 := rg_PA_4 hRb (p := t) (by omega)
                  refine jx_iadd C dX0_joinAll_115 ?_
                  refine jx_top (b := (jn c V X Y (s - 1)).2.2.2.1 (t / 4) + Y t) (by rw [hJa2.2.1, hfx, hV2.2]) ?_
                  refine jx_iload_n C dX0_joinAll_116 rfl ?_
                  refine jx_cVv (as := [.inl ((t % 4 : Nat) : Int), .inl ((jn c V X Y (s - 1)).2.2.1 (t / 4) + X t), .inl ((jn c V X Y (s - 1)).2.2.2.1 (t / 4) + Y t), .inl ((t / 4 : Nat) : Int)]) (st := []) C Yy (c_X0_put l G μb (t % 4) (by omega) ((t % 4 : Nat) : Int) ((jn c V X Y (s - 1)).2.2.1 (t / 4) + X t) ((jn c V X Y (s - 1)).2.2.2.1 (t / 4) + Y t) ((t / 4 : Nat) : Int) (by omega) (by omega) (by omega) (by omega) (by omega) hRb) yb_X0_put yv_X0_put wm_X0_72 (jcl_AL G _) rfl (by decide) rfl rfl (Nat.le_of_ble_eq_true rfl) ⟨⟨rfl, rfl, Nat.le_of_ble_eq_true rfl, Nat.le_of_ble_eq_true rfl⟩, Nat.zero_le _, Nat.zero_le _⟩ dX0_joinAll_117 ?_
                  intro μ2 hμ2
                  have hR2 := hμ2.1
                  refine jx_iinc (L' := [some (.inr (ad G 2)), some (.inl (si + 1)), some (.inl (t : Int)), some (.inl ((t / 4 : Nat) : Int))]) C dX0_joinAll_120 rfl (by decide) rfl ?_
                  refine jx_goto C dX0_joinAll_123 ?_
                  refine jx_fewer (L' := [some (.inr (ad G 2)), some (.inl (si + 1)), none, none]) (fun i v h => ?_) ?_
                  · exact jfew_ok (by simp [jfew]) h
                  exact ih_50 (s + 1) (si + 1) μ2 hμ2.1 (by omega) (by omega) (by omega) (by rw [hμ2.2, Nat.add_sub_cancel, show s = s - 1 + 1 by omega, jn_put (t := t) htb.symm]; exact JOk_put hc4 hJb (jn_inv hc4 hXr (s - 1)) (by omega) (by omega) _ _ _) ⟨fun k h1 h2 h3 => by rw [hμ2.2, jms_cell _ _ _ _ (by omega), jms_cell _ _ _ _ (by omega), jms_cell _ _ _ _ (by omega), jms_cell _ _ _ _ (by omega), jms_cell _ _ _ _ (by omega), jms_cell _ _ _ _ (by omega)]; exact hfb.1 k h1 h2 h3, fun j hj => by rw [hμ2.2, jms_slot _ _ _ _ hj, jms_cell _ _ _ _ (by omega), jms_cell _ _ _ _ (by omega), jms_cell _ _ _ _ (by omega), jms_cell _ _ _ _ (by omega), jms_cell _ _ _ _ (by omega)]; exact hfb.2 j hj⟩ (by omega)
                · exact jx_vret C dX0_joinAll_69 ⟨hRb, by rw [show c - 1 = s - 1 + (c - 1 - (s - 1)) by omega, jn_fix (by rw [← htb]; exact c_66)]; exact hJb, hfb⟩
          exact LP_50 _ 1 1 μx hRx rfl (Nat.le_refl _) (by omega) hJx hfx (Nat.lt_succ_self _)
        refine jx_aload_n C dX0_joinAll_32 rfl ?_
        refine jx_get (v := .inl (μa 2 3)) C 3 ft_X0 (jcl_AL G _) rfl (by decide) (by decide) wf_X0_33 dX0_joinAll_33 ?_
        have r_33 := rg_AL_3 hRa
        refine jx_if_le C dX0_joinAll_36 (by omega) (fun c_36 => ?_) (fun c_36 => ?_)
        · refine jx_fewer (L' := [some (.inr (ad G 2)), none, none, none]) (fun i v h => ?_) ?_
          · exact jfew_ok (by simp [jfew]) h
          exact CUT_48 μa hRa ⟨by rw [show c = 0 by omega]; exact hz, fun p hp => absurd hp (by omega), fun k hk => by rw [show c = 0 by omega] at hk; exact absurd hk (Nat.not_lt_zero _)⟩ hfa
        · refine jx_aload_n C dX0_joinAll_39 rfl ?_
          refine jx_iconst C dX0_joinAll_40 ?_
          refine jx_iconst C dX0_joinAll_41 ?_
          refine jx_iconst C dX0_joinAll_42 ?_
          refine jx_bipush C dX0_joinAll_43 (by decide +kernel) ?_
          refine jx_cVv (as := [.inl 0, .inl 0, .inl 0, .inl (-6)]) (st := []) C Yy (c_X0_put l G μa 0 (by omega) 0 0 0 (-6) (by omega) (by omega) (by omega) (by omega) (by omega) hRa) yb_X0_put yv_X0_put wm_X0_72 (jcl_AL G _) rfl (by decide) rfl rfl (Nat.le_of_ble_eq_true rfl) ⟨⟨rfl, rfl, Nat.le_of_ble_eq_true rfl, Nat.le_of_ble_eq_true rfl⟩, Nat.zero_le _, Nat.zero_le _⟩ dX0_joinAll_45 ?_
          intro μ3 hμ3
          have hR3 := hμ3.1
          refine jx_fewer (L' := [some (.inr (ad G 2)), none, none, none]) (fun i v h => ?_) ?_
          · exact jfew_ok (by simp [jfew]) h
          exact CUT_48 μ3 hR3 (by rw [hμ3.2]; have hJ0 : JOk μa c (0, fun _ => -6, fun _ => 0, fun _ => 0, fun _ => -6) := ⟨hz, fun x hx => ⟨hra x (by omega), fun q => absurd rfl q⟩, fun k hk => absurd hk (Nat.not_lt_zero _)⟩; have hJ1 := JOk_put_0 hJ0 (by omega) 0 0 (-6); have e0 := jnil_pos (c := c) (by omega); rw [e0]; exact hJ1) ⟨fun k h1 h2 h3 => by rw [hμ3.2, jms_cell _ _ _ _ (by omega), jms_cell _ _ _ _ (by omega), jms_cell _ _ _ _ (by omega), jms_cell _ _ _ _ (by omega), jms_cell _ _ _ _ (by omega), jms_cell _ _ _ _ (by omega)]; exact hfa.1 k h1 h2 h3, fun j hj => by rw [hμ3.2, jms_slot _ _ _ _ hj, jms_cell _ _ _ _ (by omega), jms_cell _ _ _ _ (by omega), jms_cell _ _ _ _ (by omega), jms_cell _ _ _ _ (by omega), jms_cell _ _ _ _ (by omega)]; exact hfa.2 j hj⟩
      · refine jx_aload_n C dX0_joinAll_15 rfl ?_
        refine jx_get (v := .inr (ad G 5)) C 0 ft_X0 (jcl_AL G _) rfl (by decide) (by decide) wf_X0_11 dX0_joinAll_16 ?_
        refine jx_iload_n C dX0_joinAll_19 rfl ?_
        refine jx_aald (p' := p) (t0 := 1) C (jcl_5 G _) rfl (by decide) (by omega) (by omega) (by decide) dX0_joinAll_20 ?_
        refine jx_bipush C dX0_joinAll_21 (by decide +kernel) ?_
        refine jx_put C 5 ft_X5 (jcl_PI G (by omega) _) ((jcl_PI G (by omega) _).trans rfl) (by decide) (by omega) rfl (Or.inl rfl) (by simp) wf_X0_69 dX0_joinAll_23 ?_
        obtain ⟨μ4, eμ4⟩ : ∃ y_ : Mem, y_ = jms μa (10 + p) 5 (-6) := ⟨_, rfl⟩
        rw [← eμ4]
        have hR4 : rng μ4 := by rw [eμ4]; exact rs_PI_5 hRa (by omega) (by omega) (by omega)
        refine jx_iinc (L' := [some (.inr (ad G 2)), some (.inl (pi + 1)), none, none]) C dX0_joinAll_26 rfl (by decide) rfl ?_
        refine jx_goto C dX0_joinAll_29 ?_
        exact ih_7 (p + 1) (pi + 1) μ4 hR4 (by omega) (by omega) (fun x hx => by
        rw [eμ4]
        by_cases hxp : x = p
        · rw [hxp]; exact jms_same _ _ _ _
        · rw [jms_cell _ _ _ _ (by omega)]; exact hra x (by omega)) (by rw [eμ4, jms_cell _ _ _ _ (by omega)]; exact hz) ⟨fun k h1 h2 h3 => by rw [eμ4, jms_cell _ _ _ _ (by omega)]; exact hfa.1 k h1 h2 h3, fun j hj => by rw [eμ4, jms_cell _ _ _ _ (by omega)]; exact hfa.2 j hj⟩ (by omega)
  exact LP_7 _ 0 0 μ1 hR1 rfl (Nat.zero_le _) (fun x hx => absurd hx (Nat.not_lt_zero _)) (by rw [eμ1]; exact jms_same _ _ _ _) ⟨fun k h1 _ _ => by rw [eμ1]; exact jms_cell _ _ _ _ h1, fun j hj => by rw [eμ1]; exact jms_slot _ _ _ _ hj⟩ (Nat.lt_succ_self _)
