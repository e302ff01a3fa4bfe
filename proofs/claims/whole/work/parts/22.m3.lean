set_option maxHeartbeats 4000000 in
set_option maxRecDepth 100000 in
theorem c_X2_insert (l : Launch) (G : GT) (μ : Mem) (p : Nat) (hp : p < 4) (f : Int → Int → Int) (a : Mks) (t : Nat) (i j sc : Int) (hM : MAok μ p f a) (hi : i = ((t % 20 : Nat) : Int)) (hj : j = ((t / 20 : Nat) : Int)) (ht : t < 400) (hsc : sc = fS f t) (hsr : 0 ≤ sc ∧ sc ≤ 585225) (hR : rng μ) : MV l yX2_insert cX2_insert 6 ({ frames := 1, cells := 0, slots := 0, locals := 21 } : Room) G [.inr (ad G (26 + p)), .inl i, .inl j, .inl sc] μ (fun μ' => rng μ' ∧ MAok μ' p f (ins (fS f) t a) ∧ ∀ k : Nat, k ≠ 26 + p → k ≠ 30 + p → k ≠ 34 + p → k ≠ 38 + p → μ' k = μ k) := by
  refine MV.of (by decide +kernel) (Nat.le_of_ble_eq_true rfl) ?_
  intro F C Yy
  show jX F G 6 0 0 (jE F G (jQv G (fun μ' => rng μ' ∧ MAok μ' p f (ins (fS f) t a) ∧ ∀ k : Nat, k ≠ 26 + p → k ≠ 30 + p → k ≠ 34 + p → k ≠ 38 + p → μ' k = μ k))) 0 [some (.inr (ad G (26 + p))), some (.inl i), some (.inl j), some (.inl sc), none, none] [] μ
  have h16 := hM.1
  refine jx_aload_n C dX2_insert_0 rfl ?_
  refine jx_get (v := .inl (μ (26 + p) 4)) C 4 ft_X2 (jcl_MA G hp _) rfl (by decide) (by omega) wf_X2_24 dX2_insert_1 ?_
  have r_1 := rg_MA_4 hR (p := p) hp
  refine jx_top (b := (a.1 : Int)) hM.2.1 ?_
  refine jx_istore (L' := [some (.inr (ad G (26 + p))), some (.inl i), some (.inl j), some (.inl sc), some (.inl (a.1 : Int)), none]) C dX2_insert_4 (by decide) rfl ?_
  have CUT_30 : ∀ (sp : Nat) (k : Int), (k = (sp : Int)) → (sp ≤ a.1) → (plc (fS f) a.2 sc a.1 = sp) → jX F G 6 0 0 (jE F G (jQv G (fun μ' => rng μ' ∧ MAok μ' p f (ins (fS f) t a) ∧ ∀ k : Nat, k ≠ 26 + p → k ≠ 30 + p → k ≠ 34 + p → k ≠ 38 + p → μ' k = μ k))) 30 [some (.inr (ad G (26 + p))), some (.inl i), some (.inl j), some (.inl sc), some (.inl k), none] [] μ := by
    intro sp k hk hle hsp
    refine jx_iload C dX2_insert_30 rfl ?_
    refine jx_bipush C dX2_insert_32 (by decide +kernel) ?_
    refine jx_icmp_lt C dX2_insert_34 (by omega) (by decide) (fun c_34 => ?_) (fun c_34 => ?_)
    · refine jx_aload_n C dX2_insert_38 rfl ?_
      refine jx_aload_n C dX2_insert_39 rfl ?_
      refine jx_get (v := .inl (μ (26 + p) 4)) C 4 ft_X2 (jcl_MA G hp _) rfl (by decide) (by omega) wf_X2_24 dX2_insert_40 ?_
      have r_40 := rg_MA_4 hR (p := p) hp
      refine jx_top (b := (a.1 : Int)) hM.2.1 ?_
      refine jx_iconst C dX2_insert_43 ?_
      refine jx_iadd C dX2_insert_44 ?_
      refine jx_bipush C dX2_insert_45 (by decide +kernel) ?_
      refine jx_min C Yy (by omega) (by decide) wm_X2_51 ws_J9_min_7cf53 wi_Math wc_J9_min_7cf53 (Nat.le_of_ble_eq_true rfl) ⟨by decide, by decide, by decide, by decide⟩ dX2_insert_47 ?_
      refine jx_put C 4 ft_X2 (jcl_MA G hp _) ((jcl_MA G hp _).trans rfl) (by decide) (by omega) rfl (Or.inl rfl) (by simp) wf_X2_24 dX2_insert_50 ?_
      obtain ⟨μ1, eμ1⟩ : ∃ y_ : Mem, y_ = jms μ (26 + p) 4 (min ((a.1 : Int) + 1) 16) := ⟨_, rfl⟩
      rw [← eμ1]
      have hR1 : rng μ1 := by rw [eμ1]; exact rs_MA_4 hR hp (by omega) (by omega)
      refine jx_aload_n C dX2_insert_53 rfl ?_
      refine jx_get (v := .inl (μ1 (26 + p) 4)) C 4 ft_X2 (jcl_MA G hp _) rfl (by decide) (by omega) wf_X2_24 dX2_insert_54 ?_
      have r_54 := rg_MA_4 hR1 (p := p) hp
      refine jx_top (b := min ((a.1 : Int) + 1) 16) (by rw [eμ1]; exact jms_same _ _ _ _) ?_
      refine jx_iconst C dX2_insert_57 ?_
      refine jx_isub C dX2_insert_58 ?_
      refine jx_istore (L' := [some (.inr (ad G (26 + p))), some (.inl i), some (.inl j), some (.inl sc), some (.inl k), some (.inl (min ((a.1 : Int) + 1) 16 - 1))]) C dX2_insert_59 (by decide) rfl ?_
      have LP_61 : ∀ (n : Nat) (m : Nat) (k5 : Int) (μa : Mem), (rng μa) → (k5 = (m : Int)) → (sp ≤ m ∧ m + 1 ≤ min (a.1 + 1) 16) → (∀ x, μa (30 + p) x = if m < x ∧ x < min (a.1 + 1) 16 then μ (30 + p) (x - 1) else μ (30 + p) x) → (∀ x, μa (34 + p) x = if m < x ∧ x < min (a.1 + 1) 16 then μ (34 + p) (x - 1) else μ (34 + p) x) → (∀ x, μa (38 + p) x = if m < x ∧ x < min (a.1 + 1) 16 then μ (38 + p) (x - 1) else μ (38 + p) x) → (μa (26 + p) 4 = min ((a.1 : Int) + 1) 16) → (∀ k : Nat, k ≠ 26 + p → k ≠ 30 + p → k ≠ 34 + p → k ≠ 38 + p → μa k = μ k) → m + 1 < n → jX F G 6 0 0 (jE F G (jQv G (fun μ' => rng μ' ∧ MAok μ' p f (ins (fS f) t a) ∧ ∀ k : Nat, k ≠ 26 + p → k ≠ 30 + p → k ≠ 34 + p → k ≠ 38 + p → μ' k = μ k))) 61 [some (.inr (ad G (26 + p))), some (.inl i), some (.inl j), some (.inl sc), some (.inl k), some (.inl k5)] [] μa := by
        intro n
        induction n with
        | zero =>
          intro m k5 μa hRa hk5 hm hA0 hA1 hA2 hc26 hfa hms
          exact absurd hms (Nat.not_lt_zero _)
        | succ n ih =>
          intro m k5 μa hRa hk5 hm hA0 hA1 hA2 hc26 hfa hms
          have ih_61 := ih
          clear ih
          refine jx_iload C dX2_insert_61 rfl ?_
          refine jx_iload C dX2_insert_63 rfl ?_
          refine jx_icmp_le C dX2_insert_65 (by omega) (by omega) (fun c_65 => ?_) (fun c_65 => ?_)
          · refine jx_aload_n C dX2_insert_122 rfl ?_
            refine jx_get (v := .inr (ad G (30 + p))) C 0 ft_X2 (jcl_MA G hp _) rfl (by decide) (by omega) wf_X2_9 dX2_insert_123 ?_
            refine jx_iload C dX2_insert_126 rfl ?_
            refine jx_iload_n C dX2_insert_128 rfl ?_
            refine jx_iast C (jcl_co G hp _) (jcl_co G hp _) (by omega) (by omega) (by omega) (by decide) dX2_insert_129 ?_
            obtain ⟨μ2, eμ2⟩ : ∃ y_ : Mem, y_ = jms μa (30 + p) k.toNat i := ⟨_, rfl⟩
            rw [← eμ2]
            have hR2 : rng μ2 := by rw [eμ2]; exact rs_co hRa hp k.toNat (by omega) (by omega)
            refine jx_aload_n C dX2_insert_130 rfl ?_
            refine jx_get (v := .inr (ad G (34 + p))) C 1 ft_X2 (jcl_MA G hp _) rfl (by decide) (by omega) wf_X2_15 dX2_insert_131 ?_
            refine jx_iload C dX2_insert_134 rfl ?_
            refine jx_iload_n C dX2_insert_136 rfl ?_
            refine jx_iast C (jcl_ro G hp _) (jcl_ro G hp _) (by omega) (by omega) (by omega) (by decide) dX2_insert_137 ?_
            obtain ⟨μ3, eμ3⟩ : ∃ y_ : Mem, y_ = jms μ2 (34 + p) k.toNat j := ⟨_, rfl⟩
            rw [← eμ3]
            have hR3 : rng μ3 := by rw [eμ3]; exact rs_ro hR2 hp k.toNat (by omega) (by omega)
            refine jx_aload_n C dX2_insert_138 rfl ?_
            refine jx_get (v := .inr (ad G (38 + p))) C 2 ft_X2 (jcl_MA G hp _) rfl (by decide) (by omega) wf_X2_18 dX2_insert_139 ?_
            refine jx_iload C dX2_insert_142 rfl ?_
            refine jx_iload_n C dX2_insert_144 rfl ?_
            refine jx_iast C (jcl_he G hp _) (jcl_he G hp _) (by omega) (by omega) (by omega) (by decide) dX2_insert_145 ?_
            obtain ⟨μ4, eμ4⟩ : ∃ y_ : Mem, y_ = jms μ3 (38 + p) k.toNat sc := ⟨_, rfl⟩
            rw [← eμ4]
            have hR4 : rng μ4 := by rw [eμ4]; exact rs_he hR3 hp k.toNat (by omega) (by omega)
            exact jx_vret C dX2_insert_146 ⟨hR4, ins_MA (sp := sp) hM (by rw [← hsc]; exact hsp) (by omega) (by rw [eμ4, jms_cell _ _ _ _ (by omega), eμ3, jms_cell _ _ _ _ (by omega), eμ2, jms_cell _ _ _ _ (by omega)]; exact hc26) (fun x => by rw [eμ4, jms_cell _ _ _ _ (by omega), eμ3, jms_cell _ _ _ _ (by omega), eμ2, jms_arr, show k.toNat = sp by omega, hA0, show m = sp by omega, hi]) (fun x => by rw [eμ4, jms_cell _ _ _ _ (by omega), eμ3, jms_arr, show k.toNat = sp by omega, eμ2, jms_cell _ _ _ _ (by omega), hA1, show m = sp by omega, hj]) (fun x => by rw [eμ4, jms_arr, show k.toNat = sp by omega, eμ3, jms_cell _ _ _ _ (by omega), eμ2, jms_cell _ _ _ _ (by omega), hA2, show m = sp by omega, hsc]), fun k h1 h2 h3 h4 => by rw [eμ4, jms_cell _ _ _ _ h4, eμ3, jms_cell _ _ _ _ h3, eμ2, jms_cell _ _ _ _ h2]; exact hfa k h1 h2 h3 h4⟩
          · refine jx_aload_n C dX2_insert_68 rfl ?_
            refine jx_get (v := .inr (ad G (30 + p))) C 0 ft_X2 (jcl_MA G hp _) rfl (by decide) (by omega) wf_X2_9 dX2_insert_69 ?_
            refine jx_iload C dX2_insert_72 rfl ?_
            refine jx_aload_n C dX2_insert_74 rfl ?_
            refine jx_get (v := .inr (ad G (30 + p))) C 0 ft_X2 (jcl_MA G hp _) rfl (by decide) (by omega) wf_X2_9 dX2_insert_75 ?_
            refine jx_iload C dX2_insert_78 rfl ?_
            refine jx_iconst C dX2_insert_80 ?_
            refine jx_isub C dX2_insert_81 ?_
            refine jx_iald C (jcl_co G hp _) (by omega) (by omega) (by omega) (by decide) dX2_insert_82 ?_
            have r_82 := rg_co hRa (p := p) hp ((k5 - 1).toNat)
            refine jx_iast C (jcl_co G hp _) (jcl_co G hp _) (by omega) (by omega) (by omega) (by decide) dX2_insert_83 ?_
            obtain ⟨μ5, eμ5⟩ : ∃ y_ : Mem, y_ = jms μa (30 + p) k5.toNat (μa (30 + p) (k5 - 1).toNat) := ⟨_, rfl⟩
            rw [← eμ5]
            have hR5 : rng μ5 := by rw [eμ5]; exact rs_co hRa hp k5.toNat (by omega) (by omega)
            refine jx_aload_n C dX2_insert_84 rfl ?_
            refine jx_get (v := .inr (ad G (34 + p))) C 1 ft_X2 (jcl_MA G hp _) rfl (by decide) (by omega) wf_X2_15 dX2_insert_85 ?_
            refine jx_iload C dX2_insert_88 rfl ?_
            refine jx_aload_n C dX2_insert_90 rfl ?_
            refine jx_get (v := .inr (ad G (34 + p))) C 1 ft_X2 (jcl_MA G hp _) rfl (by decide) (by omega) wf_X2_15 dX2_insert_91 ?_
            refine jx_iload C dX2_insert_94 rfl ?_
            refine jx_iconst C dX2_insert_96 ?_
            refine jx_isub C dX2_insert_97 ?_
            refine jx_iald C (jcl_ro G hp _) (by omega) (by omega) (by omega) (by decide) dX2_insert_98 ?_
            have r_98 := rg_ro hR5 (p := p) hp ((k5 - 1).toNat)
            try rw [eμ5, jms_cell _ _ _ _ (by omega)] at r_98
            refine jx_top (b := μa (34 + p) (k5 - 1).toNat) (by rw [eμ5, jms_cell _ _ _ _ (by omega)]) ?_
            refine jx_iast C (jcl_ro G hp _) (jcl_ro G hp _) (by omega) (by omega) (by omega) (by decide) dX2_insert_99 ?_
            obtain ⟨μ6, eμ6⟩ : ∃ y_ : Mem, y_ = jms μ5 (34 + p) k5.toNat (μa (34 + p) (k5 - 1).toNat) := ⟨_, rfl⟩
            rw [← eμ6]
            have hR6 : rng μ6 := by rw [eμ6]; exact rs_ro hR5 hp k5.toNat (by omega) (by omega)
            refine jx_aload_n C dX2_insert_100 rfl ?_
            refine jx_get (v := .inr (ad G (38 + p))) C 2 ft_X2 (jcl_MA G hp _) rfl (by decide) (by omega) wf_X2_18 dX2_insert_101 ?_
            refine jx_iload C dX2_insert_104 rfl ?_
            refine jx_aload_n C dX2_insert_106 rfl ?_
            refine jx_get (v := .inr (ad G (38 + p))) C 2 ft_X2 (jcl_MA G hp _) rfl (by decide) (by omega) wf_X2_18 dX2_insert_107 ?_
            refine jx_iload C dX2_insert_110 rfl ?_
            refine jx_iconst C dX2_insert_112 ?_
            refine jx_isub C dX2_insert_113 ?_
            refine jx_iald C (jcl_he G hp _) (by omega) (by omega) (by omega) (by decide) dX2_insert_114 ?_
            have r_114 := rg_he hR6 (p := p) hp ((k5 - 1).toNat)
            try rw [eμ6, jms_cell _ _ _ _ (by omega), eμ5, jms_cell _ _ _ _ (by omega)] at r_114
            refine jx_top (b := μa (38 + p) (k5 - 1).toNat) (by rw [eμ6, jms_cell _ _ _ _ (by omega), eμ5, jms_cell _ _ _ _ (by omega)]) ?_
            refine jx_iast C (jcl_he G hp _) (jcl_he G hp _) (by omega) (by omega) (by omega) (by decide) dX2_insert_115 ?_
            obtain ⟨μ7, eμ7⟩ : ∃ y_ : Mem, y_ = jms μ6 (38 + p) k5.toNat (μa (38 + p) (k5 - 1).toNat) := ⟨_, rfl⟩
            rw [← eμ7]
            have hR7 : rng μ7 := by rw [eμ7]; exact rs_he hR6 hp k5.toNat (by omega) (by omega)
            refine jx_iinc (L' := [some (.inr (ad G (26 + p))), some (.inl i), some (.inl j), some (.inl sc), some (.inl k), some (.inl (k5 + (-1)))]) C dX2_insert_116 rfl (by decide) rfl ?_
            refine jx_goto C dX2_insert_119 ?_
            have em : k5.toNat = m := by omega
            have em1 : (k5 - 1).toNat = m - 1 := by omega
            exact ih_61 (m - 1) (k5 + (-1)) μ7 hR7 (by omega) (by omega) (sh_step (m := m) hA0 (by omega) (by omega) (fun x => by rw [eμ7, jms_cell _ _ _ _ (by omega), eμ6, jms_cell _ _ _ _ (by omega), eμ5, jms_arr, em, em1])) (sh_step (m := m) hA1 (by omega) (by omega) (fun x => by rw [eμ7, jms_cell _ _ _ _ (by omega), eμ6, jms_arr, em, em1, eμ5, jms_cell _ _ _ _ (by omega)])) (sh_step (m := m) hA2 (by omega) (by omega) (fun x => by rw [eμ7, jms_arr, em, em1, eμ6, jms_cell _ _ _ _ (by omega), eμ5, jms_cell _ _ _ _ (by omega)])) (by rw [eμ7, jms_cell _ _ _ _ (by omega), eμ6, jms_cell _ _ _ _ (by omega), eμ5, jms_cell _ _ _ _ (by omega)]; exact hc26) (fun k h1 h2 h3 h4 => by rw [eμ7, jms_cell _ _ _ _ h4, eμ6, jms_cell _ _ _ _ h3, eμ5, jms_cell _ _ _ _ h2]; exact hfa k h1 h2 h3 h4) (by omega)
      have hs0 : ∀ c, c ≠ 26 + p → μ1 c = μ c := fun c hc => by rw [eμ1]; exact jms_cell _ _ _ _ hc
      exact LP_61 _ (min (a.1 + 1) 16 - 1) (min ((a.1 : Int) + 1) 16 - 1) μ1 hR1 (by omega) (by omega) (fun x => by rw [hs0 _ (by omega), if_neg (by omega)]) (fun x => by rw [hs0 _ (by omega), if_neg (by omega)]) (fun x => by rw [hs0 _ (by omega), if_neg (by omega)]) (by rw [eμ1]; exact jms_same _ _ _ _) (fun k h1 _ _ _ => hs0 k h1) (Nat.lt_succ_self _)
    · exact jx_vret C dX2_insert_37 ⟨hR, by rw [ins, if_neg (by rw [← hsc, hsp]; omega)]; exact hM, fun k _ _ _ _ => rfl⟩
  have LP_6 : ∀ (n : Nat) (sl : Nat) (k : Int), (k = (sl : Int)) → (sl ≤ a.1) → (plc (fS f) a.2 sc a.1 = plc (fS f) a.2 sc sl) → sl + 1 < n → jX F G 6 0 0 (jE F G (jQv G (fun μ' => rng μ' ∧ MAok μ' p f (ins (fS f) t a) ∧ ∀ k : Nat, k ≠ 26 + p → k ≠ 30 + p → k ≠ 34 + p → k ≠ 38 + p → μ' k = μ k))) 6 [some (.inr (ad G (26 + p))), some (.inl i), some (.inl j), some (.inl sc), some (.inl k), none] [] μ := by
    intro n
    induction n with
    | zero =>
      intro sl k hk hle hpl hms
      exact absurd hms (Nat.not_lt_zero _)
    | succ n ih =>
      intro sl k hk hle hpl hms
      have ih_6 := ih
      clear ih
      refine jx_iload C dX2_insert_6 rfl ?_
      refine jx_if_le C dX2_insert_8 (by omega) (fun c_8 => ?_) (fun c_8 => ?_)
      · exact CUT_30 sl k (by omega) (by omega) (by rw [hpl]; exact plc_at (by first | exact Or.inl (by omega) | exact Or.inr (by have h1 := (hM.2.2 (sl - 1) (by omega)).2.2; rw [show (k - 1).toNat = sl - 1 by omega] at c_21; omega)))
      · refine jx_aload_n C dX2_insert_11 rfl ?_
        refine jx_get (v := .inr (ad G (38 + p))) C 2 ft_X2 (jcl_MA G hp _) rfl (by decide) (by omega) wf_X2_18 dX2_insert_12 ?_
        refine jx_iload C dX2_insert_15 rfl ?_
        refine jx_iconst C dX2_insert_17 ?_
        refine jx_isub C dX2_insert_18 ?_
        refine jx_iald C (jcl_he G hp _) (by omega) (by omega) (by omega) (by decide) dX2_insert_19 ?_
        have r_19 := rg_he hR (p := p) hp ((k - 1).toNat)
        refine jx_iload_n C dX2_insert_20 rfl ?_
        refine jx_icmp_ge C dX2_insert_21 (by omega) (by omega) (fun c_21 => ?_) (fun c_21 => ?_)
        · exact CUT_30 sl k (by omega) (by omega) (by rw [hpl]; exact plc_at (by first | exact Or.inl (by omega) | exact Or.inr (by have h1 := (hM.2.2 (sl - 1) (by omega)).2.2; rw [show (k - 1).toNat = sl - 1 by omega] at c_21; omega)))
        · refine jx_iinc (L' := [some (.inr (ad G (26 + p))), some (.inl i), some (.inl j), some (.inl sc), some (.inl (k + (-1))), none]) C dX2_insert_24 rfl (by decide) rfl ?_
          refine jx_goto C dX2_insert_27 ?_
          exact ih_6 (sl - 1) (k + (-1)) (by omega) (by omega) (by rw [hpl, plc_go (by omega) (by have h1 := (hM.2.2 (sl - 1) (by omega)).2.2; rw [show (k - 1).toNat = sl - 1 by omega] at c_21; omega)]) (by omega)
  exact LP_6 _ a.1 (a.1 : Int) rfl (Nat.le_refl _) rfl (Nat.lt_succ_self _)
set_option maxHeartbeats 4000000 in
set_option maxRecDepth 100000 in
theorem c_X2_find (l : Launch) (G : GT) (μ : Mem) (p : Nat) (hp : p < 4) (bar : Int) (d f : Int → Int → Int) (hd : d = dgt (μ (14 + p) 2) (μ (14 + p) 3) (μ (18 + p))) (hf : f = kgt (μ (14 + p) 2) (μ (14 + p) 3) (μ (22 + p))) (hbar : 1 ≤ bar ∧ bar ≤ 1000000) (hR : rng μ) : MV l yX2_find cX2_find 6 ({ frames := 3, cells := 0, slots := 0, locals := 71 } : Room) G [.inr (ad G (26 + p)), .inr (ad G (14 + p)), .inl bar] μ (fun μ' => rng μ' ∧ MAok μ' p f (mkf f (μ (14 + p) 2) (μ (14 + p) 3) bar 400) ∧ (∀ m, m < (mkf f (μ (14 + p) 2) (μ (14 + p) 3) bar 400).1 → μ' (42 + p) m = sgn d (((mkf f (μ (14 + p) 2) (μ (14 + p) 3) bar 400).2 m % 20 : Nat) : Int) (((mkf f (μ (14 + p) 2) (μ (14 + p) 3) bar 400).2 m / 20 : Nat) : Int) 12) ∧ ∀ k : Nat, k ≠ 26 + p → k ≠ 30 + p → k ≠ 34 + p → k ≠ 38 + p → k ≠ 42 + p → μ' k = μ k) := by
  refine MV.of (by decide +kernel) (Nat.le_of_ble_eq_true rfl) ?_
  intro F C Yy
  show jX F G 6 0 0 (jE F G (jQv G (fun μ' => rng μ' ∧ MAok μ' p f (mkf f (μ (14 + p) 2) (μ (14 + p) 3) bar 400) ∧ (∀ m, m < (mkf f (μ (14 + p) 2) (μ (14 + p) 3) bar 400).1 → μ' (42 + p) m = sgn d (((mkf f (μ (14 + p) 2) (μ (14 + p) 3) bar 400).2 m % 20 : Nat) : Int) (((mkf f (μ (14 + p) 2) (μ (14 + p) 3) bar 400).2 m / 20 : Nat) : Int) 12) ∧ ∀ k : Nat, k ≠ 26 + p → k ≠ 30 + p → k ≠ 34 + p → k ≠ 38 + p → k ≠ 42 + p → μ' k = μ k))) 0 [some (.inr (ad G (26 + p))), some (.inr (ad G (14 + p))), some (.inl bar), none, none, none] [] μ
  have r_a := rg_DO_2 hR hp
  have r_b := rg_DO_3 hR hp
  refine jx_aload_n C dX2_find_0 rfl ?_
  refine jx_iconst C dX2_find_1 ?_
  refine jx_put C 4 ft_X2 (jcl_MA G hp _) ((jcl_MA G hp _).trans rfl) (by decide) (by omega) rfl (Or.inl rfl) (by simp) wf_X2_24 dX2_find_2 ?_
  obtain ⟨μ1, eμ1⟩ : ∃ y_ : Mem, y_ = jms μ (26 + p) 4 0 := ⟨_, rfl⟩
  rw [← eμ1]
  have hR1 : rng μ1 := by rw [eμ1]; exact rs_MA_4 hR hp (by omega) (by omega)
  refine jx_iconst C dX2_find_5 ?_
  refine jx_istore_n (L' := [some (.inr (ad G (26 + p))), some (.inr (ad G (14 + p))), some (.inl bar), some (.inl 0), none, none]) C dX2_find_6 (by decide) rfl ?_
  have LP_7 : ∀ (n : Nat) (y : Nat) (j : Int) (μa : Mem), (rng μa) → (j = (y : Int)) → ((y : Int) ≤ μ (14 + p) 3) → (MAok μa p f (mkf f (μ (14 + p) 2) (μ (14 + p) 3) bar (20 * y))) → (∀ k : Nat, k ≠ 26 + p → k ≠ 30 + p → k ≠ 34 + p → k ≠ 38 + p → μa k = μ k) → 21 - y < n → jX F G 6 0 0 (jE F G (jQv G (fun μ' => rng μ' ∧ MAok μ' p f (mkf f (μ (14 + p) 2) (μ (14 + p) 3) bar 400) ∧ (∀ m, m < (mkf f (μ (14 + p) 2) (μ (14 + p) 3) bar 400).1 → μ' (42 + p) m = sgn d (((mkf f (μ (14 + p) 2) (μ (14 + p) 3) bar 400).2 m % 20 : Nat) : Int) (((mkf f (μ (14 + p) 2) (μ (14 + p) 3) bar 400).2 m / 20 : Nat) : Int) 12) ∧ ∀ k : Nat, k ≠ 26 + p → k ≠ 30 + p → k ≠ 34 + p → k ≠ 38 + p → k ≠ 42 + p → μ' k = μ k))) 7 [some (.inr (ad G (26 + p))), some (.inr (ad G (14 + p))), some (.inl bar), some (.inl j), none, none] [] μa := by
    intro n
    induction n with
    | zero =>
      intro y j μa hRa hj hy hMa hfa hms
      exact absurd hms (Nat.not_lt_zero _)
    | succ n ih =>
      intro y j μa hRa hj hy hMa hfa hms
      have ih_7 := ih
      clear ih
      have q_a : μa (14 + p) 3 = μ (14 + p) 3 := by rw [hfa _ (by omega) (by omega) (by omega) (by omega)]
      have q_b : μa (14 + p) 2 = μ (14 + p) 2 := by rw [hfa _ (by omega) (by omega) (by omega) (by omega)]
      refine jx_iload_n C dX2_find_7 rfl ?_
      refine jx_aload_n C dX2_find_8 rfl ?_
      refine jx_get (v := .inl (μa (14 + p) 3)) C 3 ft_X1 (jcl_DO G hp _) rfl (by decide) (by omega) wf_X2_28 dX2_find_9 ?_
      have r_9 := rg_DO_3 hRa (p := p) hp
      refine jx_icmp_ge C dX2_find_12 (by omega) (by omega) (fun c_12 => ?_) (fun c_12 => ?_)
      · refine jx_iconst C dX2_find_73 ?_
        refine jx_istore_n (L' := [some (.inr (ad G (26 + p))), some (.inr (ad G (14 + p))), some (.inl bar), some (.inl 0), none, none]) C dX2_find_74 (by decide) rfl ?_
        have LP_75 : ∀ (n : Nat) (q : Nat) (m : Int) (μd : Mem), (rng μd) → (m = (q : Int)) → (q ≤ (mkf f (μ (14 + p) 2) (μ (14 + p) 3) bar 400).1) → (MAok μd p f (mkf f (μ (14 + p) 2) (μ (14 + p) 3) bar 400)) → (∀ x, x < q → μd (42 + p) x = sgn d (((mkf f (μ (14 + p) 2) (μ (14 + p) 3) bar 400).2 x % 20 : Nat) : Int) (((mkf f (μ (14 + p) 2) (μ (14 + p) 3) bar 400).2 x / 20 : Nat) : Int) 12) → (∀ k : Nat, k ≠ 26 + p → k ≠ 30 + p → k ≠ 34 + p → k ≠ 38 + p → k ≠ 42 + p → μd k = μ k) → (mkf f (μ (14 + p) 2) (μ (14 + p) 3) bar 400).1 + 1 - q < n → jX F G 6 0 0 (jE F G (jQv G (fun μ' => rng μ' ∧ MAok μ' p f (mkf f (μ (14 + p) 2) (μ (14 + p) 3) bar 400) ∧ (∀ m, m < (mkf f (μ (14 + p) 2) (μ (14 + p) 3) bar 400).1 → μ' (42 + p) m = sgn d (((mkf f (μ (14 + p) 2) (μ (14 + p) 3) bar 400).2 m % 20 : Nat) : Int) (((mkf f (μ (14 + p) 2) (μ (14 + p) 3) bar 400).2 m / 20 : Nat) : Int) 12) ∧ ∀ k : Nat, k ≠ 26 + p → k ≠ 30 + p → k ≠ 34 + p → k ≠ 38 + p → k ≠ 42 + p → μ' k = μ k))) 75 [some (.inr (ad G (26 + p))), some (.inr (ad G (14 + p))), some (.inl bar), some (.inl m), none, none] [] μd := by
          intro n
          induction n with
          | zero =>
            intro q m μd hRd hm hq hMd hsd hfd hms
            exact absurd hms (Nat.not_lt_zero _)
          | succ n ih =>
            intro q m μd hRd hm hq hMd hsd hfd hms
            have ih_75 := ih
            clear ih
            have h16 := hMd.1
            have hcn := hMd.2.1
            have hd2 : d = dgt (μd (14 + p) 2) (μd (14 + p) 3) (μd (18 + p)) := by rw [hfd _ (by omega) (by omega) (by omega) (by omega) (by omega), hfd _ (by omega) (by omega) (by omega) (by omega) (by omega)]; exact hd
            refine jx_iload_n C dX2_find_75 rfl ?_
            refine jx_aload_n C dX2_find_76 rfl ?_
            refine jx_get (v := .inl (μd (26 + p) 4)) C 4 ft_X2 (jcl_MA G hp _) rfl (by decide) (by omega) wf_X2_24 dX2_find_77 ?_
            have r_77 := rg_MA_4 hRd (p := p) hp
            refine jx_icmp_ge C dX2_find_80 (by omega) (by omega) (fun c_80 => ?_) (fun c_80 => ?_)
            · exact jx_vret C dX2_find_111 ⟨hRd, hMd, fun x hx => hsd x (by omega), hfd⟩
            · refine jx_aload_n C dX2_find_83 rfl ?_
              refine jx_get (v := .inr (ad G (42 + p))) C 3 ft_X2 (jcl_MA G hp _) rfl (by decide) (by omega) wf_X2_21 dX2_find_84 ?_
              refine jx_iload_n C dX2_find_87 rfl ?_
              refine jx_aload_n C dX2_find_88 rfl ?_
              refine jx_aload_n C dX2_find_89 rfl ?_
              refine jx_get (v := .inr (ad G (30 + p))) C 0 ft_X2 (jcl_MA G hp _) rfl (by decide) (by omega) wf_X2_9 dX2_find_90 ?_
              refine jx_iload_n C dX2_find_93 rfl ?_
              refine jx_iald C (jcl_co G hp _) (by omega) (by omega) (by omega) (by decide) dX2_find_94 ?_
              have r_94 := rg_co hRd (p := p) hp m.toNat
              refine jx_aload_n C dX2_find_95 rfl ?_
              refine jx_get (v := .inr (ad G (34 + p))) C 1 ft_X2 (jcl_MA G hp _) rfl (by decide) (by omega) wf_X2_15 dX2_find_96 ?_
              refine jx_iload_n C dX2_find_99 rfl ?_
              refine jx_iald C (jcl_ro G hp _) (by omega) (by omega) (by omega) (by decide) dX2_find_100 ?_
              have r_100 := rg_ro hRd (p := p) hp m.toNat
              refine jx_cVi (as := [.inl (μd (30 + p) m.toNat), .inl (μd (34 + p) m.toNat)]) (st := [.inl m, .inr (ad G (42 + p))]) C Yy (c_X1_signOf l G μd p (by omega) d hd2 (μd (30 + p) m.toNat) (μd (34 + p) m.toNat) (by omega) (by omega) hRd) yb_X1_signOf yv_X1_signOf wm_X2_48 (jcl_DO G hp _) rfl (by omega) rfl rfl (Nat.le_of_ble_eq_true rfl) ⟨⟨rfl, rfl, Nat.le_of_ble_eq_true rfl, Nat.le_of_ble_eq_true rfl⟩, Nat.zero_le _, Nat.zero_le _⟩ dX2_find_101 ?_
              rintro _ _ ⟨rfl, rfl⟩
              have r_101 := sgn12 d (μd (30 + p) m.toNat) (μd (34 + p) m.toNat)
              refine jx_iast C (jcl_si G hp _) (jcl_si G hp _) (by omega) (by omega) (by omega) (by decide) dX2_find_104 ?_
              obtain ⟨μ2, eμ2⟩ : ∃ y_ : Mem, y_ = jms μd (42 + p) m.toNat (sgn d (μd (30 + p) m.toNat) (μd (34 + p) m.toNat) 12) := ⟨_, rfl⟩
              rw [← eμ2]
              have hR2 : rng μ2 := by rw [eμ2]; exact rs_si hRd hp m.toNat (by omega) (by omega)
              refine jx_iinc (L' := [some (.inr (ad G (26 + p))), some (.inr (ad G (14 + p))), some (.inl bar), some (.inl (m + 1)), none, none]) C dX2_find_105 rfl (by decide) rfl ?_
              refine jx_goto C dX2_find_108 ?_
              exact ih_75 (q + 1) (m + 1) μ2 hR2 (by omega) (by omega) (MAok_fr hMd (by rw [eμ2]; exact jms_cell _ _ _ _ (by omega)) (by rw [eμ2]; exact jms_cell _ _ _ _ (by omega)) (by rw [eμ2]; exact jms_cell _ _ _ _ (by omega)) (by rw [eμ2]; exact jms_cell _ _ _ _ (by omega))) (fun x hx => by
        rw [eμ2, jms_arr]
        by_cases hxq : x = q
        · rw [if_pos (by omega), show m.toNat = q by omega, (hMd.2.2 q (by omega)).1, (hMd.2.2 q (by omega)).2.1, hxq]
        · rw [if_neg (by omega)]; exact hsd x (by omega)) (fun k h1 h2 h3 h4 h5 => by rw [eμ2, jms_cell _ _ _ _ h5]; exact hfd k h1 h2 h3 h4 h5) (by omega)
        have hMe : MAok μa p f (mkf f (μ (14 + p) 2) (μ (14 + p) 3) bar 400) := by rw [mkf_end (y := y) (by omega) (by omega)]; exact hMa
        exact LP_75 _ 0 0 μa hRa rfl (Nat.zero_le _) hMe (fun x hx => absurd hx (Nat.not_lt_zero _)) (fun k h1 h2 h3 h4 h5 => hfa k h1 h2 h3 h4) (Nat.lt_succ_self _)
      · refine jx_iconst C dX2_find_15 ?_
        refine jx_istore (L' := [some (.inr (ad G (26 + p))), some (.inr (ad G (14 + p))), some (.inl bar), some (.inl j), some (.inl 0), none]) C dX2_find_16 (by decide) rfl ?_
        have LP_18 : ∀ (n : Nat) (x : Nat) (i : Int) (μb : Mem), (rng μb) → (i = (x : Int)) → ((x : Int) ≤ μ (14 + p) 2) → (MAok μb p f (mkf f (μ (14 + p) 2) (μ (14 + p) 3) bar (20 * y + x))) → (∀ k : Nat, k ≠ 26 + p → k ≠ 30 + p → k ≠ 34 + p → k ≠ 38 + p → μb k = μ k) → 21 - x < n → jX F G 6 0 0 (jE F G (jQv G (fun μ' => rng μ' ∧ MAok μ' p f (mkf f (μ (14 + p) 2) (μ (14 + p) 3) bar 400) ∧ (∀ m, m < (mkf f (μ (14 + p) 2) (μ (14 + p) 3) bar 400).1 → μ' (42 + p) m = sgn d (((mkf f (μ (14 + p) 2) (μ (14 + p) 3) bar 400).2 m % 20 : Nat) : Int) (((mkf f (μ (14 + p) 2) (μ (14 + p) 3) bar 400).2 m / 20 : Nat) : Int) 12) ∧ ∀ k : Nat, k ≠ 26 + p → k ≠ 30 + p → k ≠ 34 + p → k ≠ 38 + p → k ≠ 42 + p → μ' k = μ k))) 18 [some (.inr (ad G (26 + p))), some (.inr (ad G (14 + p))), some (.inl bar), some (.inl j), some (.inl i), none] [] μb := by
          intro n
          induction n with
          | zero =>
            intro x i μb hRb hi hx hMb hfb hms
            exact absurd hms (Nat.not_lt_zero _)
          | succ n ih =>
            intro x i μb hRb hi hx hMb hfb hms
            have ih_18 := ih
            clear ih
            have q_c : μb (14 + p) 3 = μ (14 + p) 3 := by rw [hfb _ (by omega) (by omega) (by omega) (by omega)]
            have q_d : μb (14 + p) 2 = μ (14 + p) 2 := by rw [hfb _ (by omega) (by omega) (by omega) (by omega)]
            have hf2 : f = kgt (μb (14 + p) 2) (μb (14 + p) 3) (μb (22 + p)) := by rw [hfb _ (by omega) (by omega) (by omega) (by omega), hfb _ (by omega) (by omega) (by omega) (by omega)]; exact hf
            refine jx_iload C dX2_find_18 rfl ?_
            refine jx_aload_n C dX2_find_20 rfl ?_
            refine jx_get (v := .inl (μb (14 + p) 2)) C 2 ft_X1 (jcl_DO G hp _) rfl (by decide) (by omega) wf_X2_33 dX2_find_21 ?_
            have r_21 := rg_DO_2 hRb (p := p) hp
            refine jx_icmp_ge C dX2_find_24 (by omega) (by omega) (fun c_24 => ?_) (fun c_24 => ?_)
            · refine jx_iinc (L' := [some (.inr (ad G (26 + p))), some (.inr (ad G (14 + p))), some (.inl bar), some (.inl (j + 1)), some (.inl i), none]) C dX2_find_67 rfl (by decide) rfl ?_
              refine jx_goto C dX2_find_70 ?_
              refine jx_fewer (L' := [some (.inr (ad G (26 + p))), some (.inr (ad G (14 + p))), some (.inl bar), some (.inl (j + 1)), none, none]) (fun i v h => ?_) ?_
              · exact jfew_ok (by simp [jfew]) h
              exact ih_7 (y + 1) (j + 1) μb hRb (by omega) (by omega) (by rw [mkf_row (x := x) (by omega) (by omega)]; exact hMb) hfb (by omega)
            · refine jx_aload_n C dX2_find_27 rfl ?_
              refine jx_iload C dX2_find_28 rfl ?_
              refine jx_iload_n C dX2_find_30 rfl ?_
              refine jx_cVi (as := [.inl i, .inl j]) (st := []) C Yy (c_X1_keptScore l G μb p (by omega) i j (by omega) (by omega) hRb) yb_X1_keptScore yv_X1_keptScore wm_X2_36 (jcl_DO G hp _) rfl (by omega) rfl rfl (Nat.le_of_ble_eq_true rfl) ⟨⟨rfl, rfl, Nat.le_of_ble_eq_true rfl, Nat.le_of_ble_eq_true rfl⟩, Nat.zero_le _, Nat.zero_le _⟩ dX2_find_31 ?_
              rintro _ _ ⟨rfl, rfl⟩
              have r_31 := kgt_rng (W := μb (14 + p) 2) (H := μb (14 + p) 3) (v := μb (22 + p)) (fun t => rg_sc hRb (p := p) (by omega) t) i j
              rw [← hf2] at r_31
              refine jx_top (b := f i j) (by rw [hf2]) ?_
              refine jx_istore (L' := [some (.inr (ad G (26 + p))), some (.inr (ad G (14 + p))), some (.inl bar), some (.inl j), some (.inl i), some (.inl (f i j))]) C dX2_find_34 (by decide) rfl ?_
              refine jx_iload C dX2_find_36 rfl ?_
              refine jx_iload_n C dX2_find_38 rfl ?_
              refine jx_icmp_lt C dX2_find_39 (by omega) (by omega) (fun c_39 => ?_) (fun c_39 => ?_)
              · refine jx_iinc (L' := [some (.inr (ad G (26 + p))), some (.inr (ad G (14 + p))), some (.inl bar), some (.inl j), some (.inl (i + 1)), some (.inl (f i j))]) C dX2_find_61 rfl (by decide) rfl ?_
                refine jx_goto C dX2_find_64 ?_
                refine jx_fewer (L' := [some (.inr (ad G (26 + p))), some (.inr (ad G (14 + p))), some (.inl bar), some (.inl j), some (.inl (i + 1)), none]) (fun i v h => ?_) ?_
                · exact jfew_ok (by simp [jfew]) h
                exact ih_18 (x + 1) (i + 1) μb hRb (by omega) (by omega) (by rw [← Nat.add_assoc, mkf_no (fun h => by have h2 := (isM_at (by omega) hi hj).mp h; first | exact c_46 h2.2.2.2 | omega)]; exact hMb) hfb (by omega)
              · refine jx_aload_n C dX2_find_42 rfl ?_
                refine jx_iload C dX2_find_43 rfl ?_
                refine jx_iload_n C dX2_find_45 rfl ?_
                refine jx_cVi (as := [.inl i, .inl j]) (st := []) C Yy (c_X1_isPeak l G μb p (by omega) f hf2 i j (by omega) (by omega) hRb) yb_X1_isPeak yv_X1_isPeak wm_X2_40 (jcl_DO G hp _) rfl (by omega) rfl rfl (Nat.le_of_ble_eq_true rfl) ⟨⟨rfl, rfl, Nat.le_of_ble_eq_true rfl, Nat.le_of_ble_eq_true rfl⟩, Nat.zero_le _, Nat.zero_le _⟩ dX2_find_46 ?_
                rintro _ _ ⟨rfl, ⟨rfl, c_46⟩ | ⟨rfl, c_46⟩⟩
                · refine jx_if_eq C dX2_find_49 (by decide) (fun q => absurd q (by decide)) (fun _ => ?_)
                  refine jx_aload_n C dX2_find_52 rfl ?_
                  refine jx_iload C dX2_find_53 rfl ?_
                  refine jx_iload_n C dX2_find_55 rfl ?_
                  refine jx_iload C dX2_find_56 rfl ?_
                  refine jx_cVv (as := [.inl i, .inl j, .inl (f i j)]) (st := []) C Yy (c_X2_insert l G μb p (by omega) f (mkf f (μ (14 + p) 2) (μ (14 + p) 3) bar (20 * y + x)) (20 * y + x) i j (f i j) hMb (by omega) (by omega) (by omega) ((fS_at (by omega) hi hj).symm) (by omega) hRb) yb_X2_insert yv_X2_insert wm_X2_44 (jcl_MA G hp _) rfl (by omega) rfl rfl (Nat.le_of_ble_eq_true rfl) ⟨⟨rfl, rfl, Nat.le_of_ble_eq_true rfl, Nat.le_of_ble_eq_true rfl⟩, Nat.zero_le _, Nat.zero_le _⟩ dX2_find_58 ?_
                  intro μ3 hμ3
                  have hR3 := hμ3.1
                  refine jx_iinc (L' := [some (.inr (ad G (26 + p))), some (.inr (ad G (14 + p))), some (.inl bar), some (.inl j), some (.inl (i + 1)), some (.inl (f i j))]) C dX2_find_61 rfl (by decide) rfl ?_
                  refine jx_goto C dX2_find_64 ?_
                  refine jx_fewer (L' := [some (.inr (ad G (26 + p))), some (.inr (ad G (14 + p))), some (.inl bar), some (.inl j), some (.inl (i + 1)), none]) (fun i v h => ?_) ?_
                  · exact jfew_ok (by simp [jfew]) h
                  exact ih_18 (x + 1) (i + 1) μ3 hR3 (by omega) (by omega) (by rw [← Nat.add_assoc, mkf_yes ((isM_at (by omega) hi hj).mpr ⟨by omega, by omega, by omega, c_46⟩)]; exact hμ3.2.1) (fun k h1 h2 h3 h4 => by rw [hμ3.2.2 k h1 h2 h3 h4]; exact hfb k h1 h2 h3 h4) (by omega)
                · refine jx_if_eq C dX2_find_49 (by decide) (fun _ => ?_) (fun q => absurd q (by decide))
                  refine jx_iinc (L' := [some (.inr (ad G (26 + p))), some (.inr (ad G (14 + p))), some (.inl bar), some (.inl j), some (.inl (i + 1)), some (.inl (f i j))]) C dX2_find_61 rfl (by decide) rfl ?_
                  refine jx_goto C dX2_find_64 ?_
                  refine jx_fewer (L' := [some (.inr (ad G (26 + p))), some (.inr (ad G (14 + p))), some (.inl bar), some (.inl j), some (.inl (i + 1)), none]) (fun i v h => ?_) ?_
                  · exact jfew_ok (by simp [jfew]) h
                  exact ih_18 (x + 1) (i + 1) μb hRb (by omega) (by omega) (by rw [← Nat.add_assoc, mkf_no (fun h => by have h2 := (isM_at (by omega) hi hj).mp h; first | exact c_46 h2.2.2.2 | omega)]; exact hMb) hfb (by omega)
        exact LP_18 _ 0 0 μa hRa rfl (by omega) hMa hfa (Nat.lt_succ_self _)
  exact LP_7 _ 0 0 μ1 hR1 rfl (by omega) ⟨Nat.zero_le _, by rw [eμ1]; exact jms_same _ _ _ _, fun m hm => absurd hm (Nat.not_lt_zero _)⟩ (fun k h1 _ _ _ => by rw [eμ1]; exact jms_cell _ _ _ _ h1) (Nat.lt_succ_self _)
set_option maxHeartbeats 4000000 in
set_option maxRecDepth 100000 in
theorem c_X2_nearestTo (l : Launch) (G : GT) (μ : Mem) (p : Nat) (hp : p < 4) (s : Int) (hs : 0 ≤ s ∧ s ≤ 4095) (hR : rng μ) : MI l yX2_nearestTo cX2_nearestTo 6 .int ({ frames := 1, cells := 0, slots := 0, locals := 20 } : Room) G [.inr (ad G (26 + p)), .inl s] μ (rdq μ (nrs (μ (42 + p)) s (μ (26 + p) 4).toNat)) := by
  refine MI.of (by decide +kernel) (Nat.le_of_ble_eq_true rfl) ?_
  intro F C Yy
  show jX F G 6 0 0 (jE F G (jQi G (rdq μ (nrs (μ (42 + p)) s (μ (26 + p) 4).toNat)))) 0 [some (.inr (ad G (26 + p))), some (.inl s), none, none, none, none] [] μ
  have r_a := rg_MA_4 hR hp
  refine jx_bipush C dX2_nearestTo_0 (by decide +kernel) ?_
  refine jx_istore_n (L' := [some (.inr (ad G (26 + p))), some (.inl s), some (.inl (-6)), none, none, none]) C dX2_nearestTo_2 (by decide) rfl ?_
  refine jx_bipush C dX2_nearestTo_3 (by decide +kernel) ?_
  refine jx_istore_n (L' := [some (.inr (ad G (26 + p))), some (.inl s), some (.inl (-6)), some (.inl 13), none, none]) C dX2_nearestTo_5 (by decide) rfl ?_
  refine jx_iconst C dX2_nearestTo_6 ?_
  refine jx_istore (L' := [some (.inr (ad G (26 + p))), some (.inl s), some (.inl (-6)), some (.inl 13), some (.inl 0), none]) C dX2_nearestTo_7 (by decide) rfl ?_
  have LP_9 : ∀ (n : Nat) (k : Nat) (m : Int) (lo : Int) (ne : Int), (m = (k : Int)) → ((k : Int) ≤ μ (26 + p) 4) → (lo = (nbr (μ (42 + p)) s k).2) → (ne = (nbr (μ (42 + p)) s k).1) → 17 - k < n → jX F G 6 0 0 (jE F G (jQi G (rdq μ (nrs (μ (42 + p)) s (μ (26 + p) 4).toNat)))) 9 [some (.inr (ad G (26 + p))), some (.inl s), some (.inl ne), some (.inl lo), some (.inl m), none] [] μ := by
    intro n
    induction n with
    | zero =>
      intro k m lo ne hm hk hlo hne hms
      exact absurd hms (Nat.not_lt_zero _)
    | succ n ih =>
      intro k m lo ne hm hk hlo hne hms
      have ih_9 := ih
      clear ih
      have hb := nbr_rng (μ (42 + p)) s k
      refine jx_iload C dX2_nearestTo_9 rfl ?_
      refine jx_aload_n C dX2_nearestTo_11 rfl ?_
      refine jx_get (v := .inl (μ (26 + p) 4)) C 4 ft_X2 (jcl_MA G hp _) rfl (by decide) (by omega) wf_X2_24 dX2_nearestTo_12 ?_
      have r_12 := rg_MA_4 hR (p := p) hp
      refine jx_icmp_ge C dX2_nearestTo_15 (by omega) (by omega) (fun c_15 => ?_) (fun c_15 => ?_)
      · refine jx_iload_n C dX2_nearestTo_50 rfl ?_
        exact jx_iret C dX2_nearestTo_51 ⟨by rw [hne, nrs, show (μ (26 + p) 4).toNat = k by omega], rfl⟩
      · refine jx_aload_n C dX2_nearestTo_18 rfl ?_
        refine jx_get (v := .inr (ad G (42 + p))) C 3 ft_X2 (jcl_MA G hp _) rfl (by decide) (by omega) wf_X2_21 dX2_nearestTo_19 ?_
        refine jx_iload C dX2_nearestTo_22 rfl ?_
        refine jx_iald C (jcl_si G hp _) (by omega) (by omega) (by omega) (by decide) dX2_nearestTo_24 ?_
        have r_24 := rg_si hR (p := p) hp m.toNat
        refine jx_top (b := μ (42 + p) k) (by rw [show m.toNat = k by omega]) ?_
        refine jx_iload_n C dX2_nearestTo_25 rfl ?_
        refine jx_ixor C dX2_nearestTo_26 ?_
        refine jx_cSi (as := [.inl (zxor (μ (42 + p) k) s)]) (st := []) C Yy (c_J6_bitCount_0f7a4 l G μ (zxor (μ (42 + p) k) s)) yb_J6_bitCount_0f7a4 ws_J6_bitCount_0f7a4 wm_X2_56 rfl rfl (Nat.le_of_ble_eq_true rfl) ⟨⟨rfl, rfl, Nat.le_of_ble_eq_true rfl, Nat.le_of_ble_eq_true rfl⟩, Nat.zero_le _, Nat.zero_le _⟩ dX2_nearestTo_27 ?_
        rintro _ _ ⟨rfl, rfl⟩
        have r_d := dst_rng (μ (42 + p) k) s
        refine jx_top (b := dst (μ (42 + p) k) s) (bcf_dst (rg_si hR hp k) hs) ?_
        refine jx_istore (L' := [some (.inr (ad G (26 + p))), some (.inl s), some (.inl ne), some (.inl lo), some (.inl m), some (.inl (dst (μ (42 + p) k) s))]) C dX2_nearestTo_30 (by decide) rfl ?_
        refine jx_iload C dX2_nearestTo_32 rfl ?_
        refine jx_iload_n C dX2_nearestTo_34 rfl ?_
        refine jx_icmp_ge C dX2_nearestTo_35 (by omega) (by omega) (fun c_35 => ?_) (fun c_35 => ?_)
        · refine jx_iinc (L' := [some (.inr (ad G (26 + p))), some (.inl s), some (.inl ne), some (.inl lo), some (.inl (m + 1)), some (.inl (dst (μ (42 + p) k) s))]) C dX2_nearestTo_44 rfl (by decide) rfl ?_
          refine jx_goto C dX2_nearestTo_47 ?_
          refine jx_fewer (L' := [some (.inr (ad G (26 + p))), some (.inl s), some (.inl ne), some (.inl lo), some (.inl (m + 1)), none]) (fun i v h => ?_) ?_
          · exact jfew_ok (by simp [jfew]) h
          exact ih_9 (k + 1) (m + 1) lo ne (by omega) (by omega) (by rw [nbr, if_neg (by omega)]; exact hlo) (by rw [nbr, if_neg (by omega)]; exact hne) (by omega)
        · refine jx_iload C dX2_nearestTo_38 rfl ?_
          refine jx_istore_n (L' := [some (.inr (ad G (26 + p))), some (.inl s), some (.inl ne), some (.inl (dst (μ (42 + p) k) s)), some (.inl m), some (.inl (dst (μ (42 + p) k) s))]) C dX2_nearestTo_40 (by decide) rfl ?_
          refine jx_iload C dX2_nearestTo_41 rfl ?_
          refine jx_istore_n (L' := [some (.inr (ad G (26 + p))), some (.inl s), some (.inl m), some (.inl (dst (μ (42 + p) k) s)), some (.inl m), some (.inl (dst (μ (42 + p) k) s))]) C dX2_nearestTo_43 (by decide) rfl ?_
          refine jx_iinc (L' := [some (.inr (ad G (26 + p))), some (.inl s), some (.inl m), some (.inl (dst (μ (42 + p) k) s)), some (.inl (m + 1)), some (.inl (dst (μ (42 + p) k) s))]) C dX2_nearestTo_44 rfl (by decide) rfl ?_
          refine jx_goto C dX2_nearestTo_47 ?_
          refine jx_fewer (L' := [some (.inr (ad G (26 + p))), some (.inl s), some (.inl m), some (.inl (dst (μ (42 + p) k) s)), some (.inl (m + 1)), none]) (fun i v h => ?_) ?_
          · exact jfew_ok (by simp [jfew]) h
          exact ih_9 (k + 1) (m + 1) (dst (μ (42 + p) k) s) m (by omega) (by omega) (by rw [nbr, if_pos (by omega)]) (by rw [nbr, if_pos (by omega)]; exact hm) (by omega)
  exact LP_9 _ 0 0 13 (-6) rfl (by omega) rfl rfl (Nat.lt_succ_self _)
