set_option maxHeartbeats 4000000 in
set_option maxRecDepth 100000 in
theorem c_X1_resize (l : Launch) (G : GT) (μ : Mem) (p : Nat) (hp : p < 4) (w h : Int) (hw : 0 ≤ w ∧ w ≤ 20) (hh : 0 ≤ h ∧ h ≤ 20) (hR : rng μ) : MV l yX1_resize cX1_resize 3 ({ frames := 1, cells := 0, slots := 0, locals := 21 } : Room) G [.inr (ad G (14 + p)), .inl w, .inl h] μ (fun μ' => rng μ' ∧ μ' = jms (jms (jms μ (14 + p) 2 w) (14 + p) 3 h) (14 + p) 4 1) := by
  refine MV.of (by decide +kernel) (Nat.le_of_ble_eq_true rfl) ?_
  intro F C Yy
  show jX F G 3 0 0 (jE F G (jQv G (fun μ' => rng μ' ∧ μ' = jms (jms (jms μ (14 + p) 2 w) (14 + p) 3 h) (14 + p) 4 1))) 0 [some (.inr (ad G (14 + p))), some (.inl w), some (.inl h)] [] μ
  refine jx_aload_n C dX1_resize_0 rfl ?_
  refine jx_iload_n C dX1_resize_1 rfl ?_
  refine jx_bipush C dX1_resize_2 (by decide +kernel) ?_
  refine jx_min C Yy (by omega) (by decide) wm_X1_18 ws_J9_min_7cf53 wi_Math wc_J9_min_7cf53 (Nat.le_of_ble_eq_true rfl) ⟨by decide, by decide, by decide, by decide⟩ dX1_resize_4 ?_
  refine jx_top (b := w) (by omega) ?_
  refine jx_put C 2 ft_X1 (jcl_DO G hp _) ((jcl_DO G hp _).trans rfl) (by decide) (by omega) rfl (Or.inl rfl) (by simp) wf_X1_24 dX1_resize_7 ?_
  obtain ⟨μ1, eμ1⟩ : ∃ y_ : Mem, y_ = jms μ (14 + p) 2 w := ⟨_, rfl⟩
  rw [← eμ1]
  have hR1 : rng μ1 := by rw [eμ1]; exact rs_DO_2 hR hp (by omega) (by omega)
  refine jx_aload_n C dX1_resize_10 rfl ?_
  refine jx_iload_n C dX1_resize_11 rfl ?_
  refine jx_bipush C dX1_resize_12 (by decide +kernel) ?_
  refine jx_min C Yy (by omega) (by decide) wm_X1_18 ws_J9_min_7cf53 wi_Math wc_J9_min_7cf53 (Nat.le_of_ble_eq_true rfl) ⟨by decide, by decide, by decide, by decide⟩ dX1_resize_14 ?_
  refine jx_top (b := h) (by omega) ?_
  refine jx_put C 3 ft_X1 (jcl_DO G hp _) ((jcl_DO G hp _).trans rfl) (by decide) (by omega) rfl (Or.inl rfl) (by simp) wf_X1_28 dX1_resize_17 ?_
  obtain ⟨μ2, eμ2⟩ : ∃ y_ : Mem, y_ = jms μ1 (14 + p) 3 h := ⟨_, rfl⟩
  rw [← eμ2]
  have hR2 : rng μ2 := by rw [eμ2]; exact rs_DO_3 hR1 hp (by omega) (by omega)
  refine jx_aload_n C dX1_resize_20 rfl ?_
  refine jx_iconst C dX1_resize_21 ?_
  refine jx_put C 4 ft_X1 (jcl_DO G hp _) ((jcl_DO G hp _).trans rfl) (by decide) (by omega) rfl (Or.inr ⟨rfl, Or.inr rfl⟩) (by simp) wf_X1_31 dX1_resize_22 ?_
  obtain ⟨μ3, eμ3⟩ : ∃ y_ : Mem, y_ = jms μ2 (14 + p) 4 1 := ⟨_, rfl⟩
  rw [← eμ3]
  have hR3 : rng μ3 := by rw [eμ3]; exact rs_DO_4 hR2 hp (by omega) (by omega)
  exact jx_vret C dX1_resize_25 ⟨hR3, by rw [eμ3, eμ2, eμ1]⟩
set_option maxHeartbeats 4000000 in
set_option maxRecDepth 100000 in
theorem c_X1_scoreAll (l : Launch) (G : GT) (μ : Mem) (p : Nat) (hp : p < 4) (d : Int → Int → Int) (hd : d = dgt (μ (14 + p) 2) (μ (14 + p) 3) (μ (18 + p))) (hv : μ (14 + p) 4 = 0 → ∀ x y : Int, 0 ≤ x → x < μ (14 + p) 2 → 0 ≤ y → y < μ (14 + p) 3 → μ (22 + p) (y * 20 + x).toNat = sco (μ (14 + p) 2) (μ (14 + p) 3) d x y) (hR : rng μ) : MV l yX1_scoreAll cX1_scoreAll 3 ({ frames := 4, cells := 0, slots := 0, locals := 98 } : Room) G [.inr (ad G (14 + p))] μ (fun μ' => rng μ' ∧ μ' (14 + p) 4 = 0 ∧ (∀ j : Nat, j ≠ 4 → μ' (14 + p) j = μ (14 + p) j) ∧ (∀ k : Nat, k ≠ 14 + p → k ≠ 22 + p → μ' k = μ k) ∧ ∀ x y : Int, 0 ≤ x → x < μ (14 + p) 2 → 0 ≤ y → y < μ (14 + p) 3 → μ' (22 + p) (y * 20 + x).toNat = sco (μ (14 + p) 2) (μ (14 + p) 3) d x y) := by
  refine MV.of (by decide +kernel) (Nat.le_of_ble_eq_true rfl) ?_
  intro F C Yy
  show jX F G 3 0 0 (jE F G (jQv G (fun μ' => rng μ' ∧ μ' (14 + p) 4 = 0 ∧ (∀ j : Nat, j ≠ 4 → μ' (14 + p) j = μ (14 + p) j) ∧ (∀ k : Nat, k ≠ 14 + p → k ≠ 22 + p → μ' k = μ k) ∧ ∀ x y : Int, 0 ≤ x → x < μ (14 + p) 2 → 0 ≤ y → y < μ (14 + p) 3 → μ' (22 + p) (y * 20 + x).toNat = sco (μ (14 + p) 2) (μ (14 + p) 3) d x y))) 0 [some (.inr (ad G (14 + p))), none, none] [] μ
  have r_a := rg_DO_2 hR hp
  have r_b := rg_DO_3 hR hp
  refine jx_aload_n C dX1_scoreAll_0 rfl ?_
  refine jx_get (v := .inl (μ (14 + p) 4)) C 4 ft_X1 (jcl_DO G hp _) rfl (by decide) (by omega) wf_X1_31 dX1_scoreAll_1 ?_
  have r_1 := rg_DO_4 hR (p := p) hp
  refine jx_if_ne C dX1_scoreAll_4 (by omega) (fun c_4 => ?_) (fun c_4 => ?_)
  · refine jx_iconst C dX1_scoreAll_8 ?_
    refine jx_istore_n (L' := [some (.inr (ad G (14 + p))), some (.inl 0), none]) C dX1_scoreAll_9 (by decide) rfl ?_
    have LP_10 : ∀ (n : Nat) (j : Int) (μa : Mem), (rng μa) → (0 ≤ j ∧ j ≤ μ (14 + p) 3) → (∀ k : Nat, k ≠ 22 + p → μa k = μ k) → (∀ x y : Int, 0 ≤ x → x < μ (14 + p) 2 → 0 ≤ y → y < μ (14 + p) 3 → y * 20 + x < j * 20 → μa (22 + p) (y * 20 + x).toNat = sco (μ (14 + p) 2) (μ (14 + p) 3) d x y) → 21 - j.toNat < n → jX F G 3 0 0 (jE F G (jQv G (fun μ' => rng μ' ∧ μ' (14 + p) 4 = 0 ∧ (∀ j : Nat, j ≠ 4 → μ' (14 + p) j = μ (14 + p) j) ∧ (∀ k : Nat, k ≠ 14 + p → k ≠ 22 + p → μ' k = μ k) ∧ ∀ x y : Int, 0 ≤ x → x < μ (14 + p) 2 → 0 ≤ y → y < μ (14 + p) 3 → μ' (22 + p) (y * 20 + x).toNat = sco (μ (14 + p) 2) (μ (14 + p) 3) d x y))) 10 [some (.inr (ad G (14 + p))), some (.inl j), none] [] μa := by
      intro n
      induction n with
      | zero =>
        intro j μa hRa hj hfa hsa hms
        exact absurd hms (Nat.not_lt_zero _)
      | succ n ih =>
        intro j μa hRa hj hfa hsa hms
        have ih_10 := ih
        clear ih
        have q_a : μa (14 + p) 3 = μ (14 + p) 3 := by rw [hfa _ (by omega)]
        have q_b : μa (14 + p) 2 = μ (14 + p) 2 := by rw [hfa _ (by omega)]
        refine jx_iload_n C dX1_scoreAll_10 rfl ?_
        refine jx_aload_n C dX1_scoreAll_11 rfl ?_
        refine jx_get (v := .inl (μa (14 + p) 3)) C 3 ft_X1 (jcl_DO G hp _) rfl (by decide) (by omega) wf_X1_28 dX1_scoreAll_12 ?_
        have r_12 := rg_DO_3 hRa (p := p) hp
        refine jx_icmp_ge C dX1_scoreAll_15 (by omega) (by omega) (fun c_15 => ?_) (fun c_15 => ?_)
        · refine jx_aload_n C dX1_scoreAll_57 rfl ?_
          refine jx_iconst C dX1_scoreAll_58 ?_
          refine jx_put C 4 ft_X1 (jcl_DO G hp _) ((jcl_DO G hp _).trans rfl) (by decide) (by omega) rfl (Or.inr ⟨rfl, Or.inl rfl⟩) (by simp) wf_X1_31 dX1_scoreAll_59 ?_
          obtain ⟨μ1, eμ1⟩ : ∃ y_ : Mem, y_ = jms μa (14 + p) 4 0 := ⟨_, rfl⟩
          rw [← eμ1]
          have hR1 : rng μ1 := by rw [eμ1]; exact rs_DO_4 hRa hp (by omega) (by omega)
          exact jx_vret C dX1_scoreAll_62 ⟨hR1, by rw [eμ1]; exact jms_same _ _ _ _, fun q hq => by rw [eμ1, jms_slot _ _ _ _ hq, hfa _ (by omega)], fun k h1 h2 => by rw [eμ1, jms_cell _ _ _ _ h1]; exact hfa k h2, fun x y h1 h2 h3 h4 => by rw [eμ1, jms_cell _ _ _ _ (by omega)]; exact hsa x y h1 h2 h3 h4 (by omega)⟩
        · refine jx_iconst C dX1_scoreAll_18 ?_
          refine jx_istore_n (L' := [some (.inr (ad G (14 + p))), some (.inl j), some (.inl 0)]) C dX1_scoreAll_19 (by decide) rfl ?_
          have LP_20 : ∀ (n : Nat) (i : Int) (μb : Mem), (rng μb) → (0 ≤ i ∧ i ≤ μ (14 + p) 2) → (∀ k : Nat, k ≠ 22 + p → μb k = μ k) → (∀ x y : Int, 0 ≤ x → x < μ (14 + p) 2 → 0 ≤ y → y < μ (14 + p) 3 → y * 20 + x < j * 20 + i → μb (22 + p) (y * 20 + x).toNat = sco (μ (14 + p) 2) (μ (14 + p) 3) d x y) → 21 - i.toNat < n → jX F G 3 0 0 (jE F G (jQv G (fun μ' => rng μ' ∧ μ' (14 + p) 4 = 0 ∧ (∀ j : Nat, j ≠ 4 → μ' (14 + p) j = μ (14 + p) j) ∧ (∀ k : Nat, k ≠ 14 + p → k ≠ 22 + p → μ' k = μ k) ∧ ∀ x y : Int, 0 ≤ x → x < μ (14 + p) 2 → 0 ≤ y → y < μ (14 + p) 3 → μ' (22 + p) (y * 20 + x).toNat = sco (μ (14 + p) 2) (μ (14 + p) 3) d x y))) 20 [some (.inr (ad G (14 + p))), some (.inl j), some (.inl i)] [] μb := by
            intro n
            induction n with
            | zero =>
              intro i μb hRb hi hfb hsb hms
              exact absurd hms (Nat.not_lt_zero _)
            | succ n ih =>
              intro i μb hRb hi hfb hsb hms
              have ih_20 := ih
              clear ih
              have q_c : μb (14 + p) 3 = μ (14 + p) 3 := by rw [hfb _ (by omega)]
              have q_d : μb (14 + p) 2 = μ (14 + p) 2 := by rw [hfb _ (by omega)]
              have hd2 : d = dgt (μb (14 + p) 2) (μb (14 + p) 3) (μb (18 + p)) := by rw [hfb _ (by omega), hfb _ (by omega)]; exact hd
              refine jx_iload_n C dX1_scoreAll_20 rfl ?_
              refine jx_aload_n C dX1_scoreAll_21 rfl ?_
              refine jx_get (v := .inl (μb (14 + p) 2)) C 2 ft_X1 (jcl_DO G hp _) rfl (by decide) (by omega) wf_X1_24 dX1_scoreAll_22 ?_
              have r_22 := rg_DO_2 hRb (p := p) hp
              refine jx_icmp_ge C dX1_scoreAll_25 (by omega) (by omega) (fun c_25 => ?_) (fun c_25 => ?_)
              · refine jx_iinc (L' := [some (.inr (ad G (14 + p))), some (.inl (j + 1)), some (.inl i)]) C dX1_scoreAll_51 rfl (by decide) rfl ?_
                refine jx_goto C dX1_scoreAll_54 ?_
                refine jx_fewer (L' := [some (.inr (ad G (14 + p))), some (.inl (j + 1)), none]) (fun i v h => ?_) ?_
                · exact jfew_ok (by simp [jfew]) h
                exact ih_10 (j + 1) μb hRb (by omega) hfb (fun x y h1 h2 h3 h4 h5 => hsb x y h1 h2 h3 h4 (by omega)) (by omega)
              · refine jx_aload_n C dX1_scoreAll_28 rfl ?_
                refine jx_get (v := .inr (ad G (22 + p))) C 1 ft_X1 (jcl_DO G hp _) rfl (by decide) (by omega) wf_X1_15 dX1_scoreAll_29 ?_
                refine jx_iload_n C dX1_scoreAll_32 rfl ?_
                refine jx_bipush C dX1_scoreAll_33 (by decide +kernel) ?_
                refine jx_imul C dX1_scoreAll_35 ?_
                refine jx_iload_n C dX1_scoreAll_36 rfl ?_
                refine jx_iadd C dX1_scoreAll_37 ?_
                refine jx_aload_n C dX1_scoreAll_38 rfl ?_
                refine jx_iload_n C dX1_scoreAll_39 rfl ?_
                refine jx_iload_n C dX1_scoreAll_40 rfl ?_
                refine jx_cVi (as := [.inl i, .inl j]) (st := [.inl (j * 20 + i), .inr (ad G (22 + p))]) C Yy (c_X1_scoreOf l G μb p (by omega) d hd2 i j (by omega) (by omega) hRb) yb_X1_scoreOf yv_X1_scoreOf wm_X1_57 (jcl_DO G hp _) rfl (by omega) rfl rfl (Nat.le_of_ble_eq_true rfl) ⟨⟨rfl, rfl, Nat.le_of_ble_eq_true rfl, Nat.le_of_ble_eq_true rfl⟩, Nat.zero_le _, Nat.zero_le _⟩ dX1_scoreAll_41 ?_
                rintro _ _ ⟨rfl, rfl⟩
                have r_41 := sco_rng (W := μb (14 + p) 2) (H := μb (14 + p) 3) (d := d) (fun x y => by rw [hd2]; exact dgt_rng (fun t => rg_va hRb (p := p) (by omega) t) x y) i j
                refine jx_iast C (jcl_sc G hp _) (jcl_sc G hp _) (by omega) (by omega) (by omega) (by decide) dX1_scoreAll_44 ?_
                obtain ⟨μ2, eμ2⟩ : ∃ y_ : Mem, y_ = jms μb (22 + p) ((j * 20 + i).toNat) (sco (μb (14 + p) 2) (μb (14 + p) 3) d i j) := ⟨_, rfl⟩
                rw [← eμ2]
                have hR2 : rng μ2 := by rw [eμ2]; exact rs_sc hRb hp ((j * 20 + i).toNat) (by omega) (by omega)
                refine jx_iinc (L' := [some (.inr (ad G (14 + p))), some (.inl j), some (.inl (i + 1))]) C dX1_scoreAll_45 rfl (by decide) rfl ?_
                refine jx_goto C dX1_scoreAll_48 ?_
                exact ih_20 (i + 1) μ2 hR2 (by omega) (fun k hk => by rw [eμ2, jms_cell _ _ _ _ hk]; exact hfb k hk) (fun x y h1 h2 h3 h4 h5 => by
          rw [eμ2, jms_arr]
          by_cases hx : (y * 20 + x).toNat = (j * 20 + i).toNat
          · have hy : y = j := by omega
            have hx2 : x = i := by omega
            rw [if_pos hx, hy, hx2, q_c, q_d]
          · rw [if_neg hx]
            exact hsb x y h1 h2 h3 h4 (by omega)) (by omega)
          exact LP_20 _ 0 μa hRa (by omega) hfa (fun x y h1 h2 h3 h4 h5 => hsa x y h1 h2 h3 h4 (by omega)) (Nat.lt_succ_self _)
    exact LP_10 _ 0 μ hR (by omega) (fun k hk => rfl) (fun x y h1 h2 h3 h4 h5 => by omega) (Nat.lt_succ_self _)
  · exact jx_vret C dX1_scoreAll_7 ⟨hR, by omega, fun j _ => rfl, fun k _ _ => rfl, fun x y h1 h2 h3 h4 => hv (by omega) x y h1 h2 h3 h4⟩
set_option maxHeartbeats 4000000 in
set_option maxRecDepth 100000 in
theorem c_X7_lightAt (l : Launch) (G : GT) (μ : Mem) (x y : Int) (hx : 0 ≤ x ∧ x ≤ 100000) (hy : 0 ≤ y ∧ y ≤ 100000) (hR : rng μ) : MI l yX7_lightAt cX7_lightAt 4 .int ({ frames := 0, cells := 0, slots := 0, locals := 0 } : Room) G [.inr (ad G 1), .inl x, .inl y] μ (rdq μ (lgt (μ 1 0) x y)) := by
  refine MI.of (by decide +kernel) (Nat.le_of_ble_eq_true rfl) ?_
  intro F C Yy
  show jX F G 4 0 0 (jE F G (jQi G (rdq μ (lgt (μ 1 0) x y)))) 0 [some (.inr (ad G 1)), some (.inl x), some (.inl y), none] [] μ
  refine jx_iload_n C dX7_lightAt_0 rfl ?_
  refine jx_iconst C dX7_lightAt_1 ?_
  refine jx_idiv (z := x / 3) C dX7_lightAt_2 (by omega) (by decide) (by decide) (jtd (by omega)) ?_
  refine jx_ldc C dX7_lightAt_3 wk_X7_9 (z := 73856093) (by decide +kernel) ?_
  refine jx_imul C dX7_lightAt_5 ?_
  refine jx_iload_n C dX7_lightAt_6 rfl ?_
  refine jx_iconst C dX7_lightAt_7 ?_
  refine jx_idiv (z := y / 3) C dX7_lightAt_8 (by omega) (by decide) (by decide) (jtd (by omega)) ?_
  refine jx_ldc C dX7_lightAt_9 wk_X7_10 (z := 19349663) (by decide +kernel) ?_
  refine jx_imul C dX7_lightAt_11 ?_
  refine jx_iadd C dX7_lightAt_12 ?_
  refine jx_aload_n C dX7_lightAt_13 rfl ?_
  refine jx_get (v := .inl (μ 1 0)) C 0 ft_X7 (jcl_WO G _) rfl (by decide) (by decide) wf_X7_11 dX7_lightAt_14 ?_
  have r_14 := rg_WO_0 hR
  refine jx_ldc C dX7_lightAt_17 wk_X7_17 (z := 83492791) (by decide +kernel) ?_
  refine jx_imul C dX7_lightAt_19 ?_
  refine jx_iadd C dX7_lightAt_20 ?_
  refine jx_top (b := lg0 (μ 1 0) x y) rfl ?_
  refine jx_istore_n (L' := [some (.inr (ad G 1)), some (.inl x), some (.inl y), some (.inl (lg0 (μ 1 0) x y))]) C dX7_lightAt_21 (by decide) rfl ?_
  refine jx_iload_n C dX7_lightAt_22 rfl ?_
  refine jx_iload_n C dX7_lightAt_23 rfl ?_
  refine jx_bipush C dX7_lightAt_24 (by decide +kernel) ?_
  refine jx_iushr C dX7_lightAt_26 ?_
  refine jx_ixor C dX7_lightAt_27 ?_
  refine jx_ldc C dX7_lightAt_28 wk_X7_18 (z := 739982445) (by decide +kernel) ?_
  refine jx_imul C dX7_lightAt_30 ?_
  refine jx_top (b := lgm (lg0 (μ 1 0) x y)) rfl ?_
  refine jx_istore_n (L' := [some (.inr (ad G 1)), some (.inl x), some (.inl y), some (.inl (lgm (lg0 (μ 1 0) x y)))]) C dX7_lightAt_31 (by decide) rfl ?_
  refine jx_iload_n C dX7_lightAt_32 rfl ?_
  refine jx_iload_n C dX7_lightAt_33 rfl ?_
  refine jx_bipush C dX7_lightAt_34 (by decide +kernel) ?_
  refine jx_iushr C dX7_lightAt_36 ?_
  refine jx_ixor C dX7_lightAt_37 ?_
  refine jx_ldc C dX7_lightAt_38 wk_X7_18 (z := 739982445) (by decide +kernel) ?_
  refine jx_imul C dX7_lightAt_40 ?_
  refine jx_top (b := lgm (lgm (lg0 (μ 1 0) x y))) rfl ?_
  refine jx_istore_n (L' := [some (.inr (ad G 1)), some (.inl x), some (.inl y), some (.inl (lgm (lgm (lg0 (μ 1 0) x y))))]) C dX7_lightAt_41 (by decide) rfl ?_
  refine jx_iload_n C dX7_lightAt_42 rfl ?_
  refine jx_bipush C dX7_lightAt_43 (by decide +kernel) ?_
  refine jx_iushr C dX7_lightAt_45 ?_
  refine jx_sipush C dX7_lightAt_46 (by decide +kernel) ?_
  refine jx_iand C dX7_lightAt_49 ?_
  exact jx_iret C dX7_lightAt_50 ⟨by rfl, rfl⟩
set_option maxHeartbeats 4000000 in
set_option maxRecDepth 100000 in
theorem c_X7_shootInto (l : Launch) (G : GT) (μ : Mem) (p : Nat) (hp : p < 4) (x y g : Int) (hx : 0 ≤ x ∧ x ≤ 1900) (hy : 0 ≤ y ∧ y ≤ 1900) (hg : 1 ≤ g ∧ g ≤ 64) (hch : μ (14 + p) 4 = 1) (hR : rng μ) : MV l yX7_shootInto cX7_shootInto 7 ({ frames := 2, cells := 0, slots := 0, locals := 45 } : Room) G [.inr (ad G 1), .inr (ad G (14 + p)), .inl x, .inl y, .inl g] μ (fun μ' => rng μ' ∧ (∀ k : Nat, k ≠ 18 + p → μ' k = μ k) ∧ ∀ i j : Int, 0 ≤ i → i < μ (14 + p) 2 → 0 ≤ j → j < μ (14 + p) 3 → μ' (18 + p) (j * 20 + i).toNat = shv (μ 1 0) x y g i j) := by
  refine MV.of (by decide +kernel) (Nat.le_of_ble_eq_true rfl) ?_
  intro F C Yy
  show jX F G 7 0 0 (jE F G (jQv G (fun μ' => rng μ' ∧ (∀ k : Nat, k ≠ 18 + p → μ' k = μ k) ∧ ∀ i j : Int, 0 ≤ i → i < μ (14 + p) 2 → 0 ≤ j → j < μ (14 + p) 3 → μ' (18 + p) (j * 20 + i).toNat = shv (μ 1 0) x y g i j))) 0 [some (.inr (ad G 1)), some (.inr (ad G (14 + p))), some (.inl x), some (.inl y), some (.inl g), none, none] [] μ
  have r_a := rg_DO_2 hR hp
  have r_b := rg_DO_3 hR hp
  refine jx_iconst C dX7_shootInto_0 ?_
  refine jx_istore (L' := [some (.inr (ad G 1)), some (.inr (ad G (14 + p))), some (.inl x), some (.inl y), some (.inl g), some (.inl 0), none]) C dX7_shootInto_1 (by decide) rfl ?_
  have LP_3 : ∀ (n : Nat) (j : Int) (μa : Mem), (rng μa) → (0 ≤ j ∧ j ≤ μ (14 + p) 3) → (∀ k : Nat, k ≠ 18 + p → μa k = μ k) → (∀ a b : Int, 0 ≤ a → a < μ (14 + p) 2 → 0 ≤ b → b < μ (14 + p) 3 → b * 20 + a < j * 20 → μa (18 + p) (b * 20 + a).toNat = shv (μ 1 0) x y g a b) → 21 - j.toNat < n → jX F G 7 0 0 (jE F G (jQv G (fun μ' => rng μ' ∧ (∀ k : Nat, k ≠ 18 + p → μ' k = μ k) ∧ ∀ i j : Int, 0 ≤ i → i < μ (14 + p) 2 → 0 ≤ j → j < μ (14 + p) 3 → μ' (18 + p) (j * 20 + i).toNat = shv (μ 1 0) x y g i j))) 3 [some (.inr (ad G 1)), some (.inr (ad G (14 + p))), some (.inl x), some (.inl y), some (.inl g), some (.inl j), none] [] μa := by
    intro n
    induction n with
    | zero =>
      intro j μa hRa hj hfa hsa hms
      exact absurd hms (Nat.not_lt_zero _)
    | succ n ih =>
      intro j μa hRa hj hfa hsa hms
      have ih_3 := ih
      clear ih
      have q_a : μa (14 + p) 3 = μ (14 + p) 3 := by rw [hfa _ (by omega)]
      have q_b : μa (14 + p) 2 = μ (14 + p) 2 := by rw [hfa _ (by omega)]
      refine jx_iload C dX7_shootInto_3 rfl ?_
      refine jx_aload_n C dX7_shootInto_5 rfl ?_
      refine jx_get (v := .inl (μa (14 + p) 3)) C 3 ft_X1 (jcl_DO G hp _) rfl (by decide) (by omega) wf_X7_19 dX7_shootInto_6 ?_
      have r_6 := rg_DO_3 hRa (p := p) hp
      refine jx_icmp_ge C dX7_shootInto_9 (by omega) (by omega) (fun c_9 => ?_) (fun c_9 => ?_)
      · exact jx_vret C dX7_shootInto_68 ⟨hRa, hfa, fun a b h1 h2 h3 h4 => hsa a b h1 h2 h3 h4 (by omega)⟩
      · refine jx_iconst C dX7_shootInto_12 ?_
        refine jx_istore (L' := [some (.inr (ad G 1)), some (.inr (ad G (14 + p))), some (.inl x), some (.inl y), some (.inl g), some (.inl j), some (.inl 0)]) C dX7_shootInto_13 (by decide) rfl ?_
        have LP_15 : ∀ (n : Nat) (i : Int) (μb : Mem), (rng μb) → (0 ≤ i ∧ i ≤ μ (14 + p) 2) → (∀ k : Nat, k ≠ 18 + p → μb k = μ k) → (∀ a b : Int, 0 ≤ a → a < μ (14 + p) 2 → 0 ≤ b → b < μ (14 + p) 3 → b * 20 + a < j * 20 + i → μb (18 + p) (b * 20 + a).toNat = shv (μ 1 0) x y g a b) → 21 - i.toNat < n → jX F G 7 0 0 (jE F G (jQv G (fun μ' => rng μ' ∧ (∀ k : Nat, k ≠ 18 + p → μ' k = μ k) ∧ ∀ i j : Int, 0 ≤ i → i < μ (14 + p) 2 → 0 ≤ j → j < μ (14 + p) 3 → μ' (18 + p) (j * 20 + i).toNat = shv (μ 1 0) x y g i j))) 15 [some (.inr (ad G 1)), some (.inr (ad G (14 + p))), some (.inl x), some (.inl y), some (.inl g), some (.inl j), some (.inl i)] [] μb := by
          intro n
          induction n with
          | zero =>
            intro i μb hRb hi hfb hsb hms
            exact absurd hms (Nat.not_lt_zero _)
          | succ n ih =>
            intro i μb hRb hi hfb hsb hms
            have ih_15 := ih
            clear ih
            have q_c : μb (14 + p) 3 = μ (14 + p) 3 := by rw [hfb _ (by omega)]
            have q_d : μb (14 + p) 2 = μ (14 + p) 2 := by rw [hfb _ (by omega)]
            have q_e : μb (14 + p) 4 = 1 := by rw [hfb _ (by omega)]; exact hch
            refine jx_iload C dX7_shootInto_15 rfl ?_
            refine jx_aload_n C dX7_shootInto_17 rfl ?_
            refine jx_get (v := .inl (μb (14 + p) 2)) C 2 ft_X1 (jcl_DO G hp _) rfl (by decide) (by omega) wf_X7_24 dX7_shootInto_18 ?_
            have r_18 := rg_DO_2 hRb (p := p) hp
            refine jx_icmp_ge C dX7_shootInto_21 (by omega) (by omega) (fun c_21 => ?_) (fun c_21 => ?_)
            · refine jx_iinc (L' := [some (.inr (ad G 1)), some (.inr (ad G (14 + p))), some (.inl x), some (.inl y), some (.inl g), some (.inl (j + 1)), some (.inl i)]) C dX7_shootInto_62 rfl (by decide) rfl ?_
              refine jx_goto C dX7_shootInto_65 ?_
              refine jx_fewer (L' := [some (.inr (ad G 1)), some (.inr (ad G (14 + p))), some (.inl x), some (.inl y), some (.inl g), some (.inl (j + 1)), none]) (fun i v h => ?_) ?_
              · exact jfew_ok (by simp [jfew]) h
              exact ih_3 (j + 1) μb hRb (by omega) hfb (fun a b h1 h2 h3 h4 h5 => hsb a b h1 h2 h3 h4 (by omega)) (by omega)
            · refine jx_aload_n C dX7_shootInto_24 rfl ?_
              refine jx_iload C dX7_shootInto_25 rfl ?_
              refine jx_iload C dX7_shootInto_27 rfl ?_
              refine jx_sipush C dX7_shootInto_29 (by decide +kernel) ?_
              refine jx_iload C dX7_shootInto_32 rfl ?_
              refine jx_aload_n C dX7_shootInto_34 rfl ?_
              refine jx_iload_n C dX7_shootInto_35 rfl ?_
              refine jx_iload C dX7_shootInto_36 rfl ?_
              refine jx_iadd C dX7_shootInto_38 ?_
              refine jx_iload_n C dX7_shootInto_39 rfl ?_
              refine jx_iload C dX7_shootInto_40 rfl ?_
              refine jx_iadd C dX7_shootInto_42 ?_
              refine jx_cVi (as := [.inl (x + i), .inl (y + j)]) (st := [.inl g, .inl 255, .inl j, .inl i, .inr (ad G (14 + p))]) C Yy (c_X7_lightAt l G μb (x + i) (y + j) (by omega) (by omega) hRb) yb_X7_lightAt yv_X7_lightAt wm_X7_27 (jcl_WO G _) rfl (by decide) rfl rfl (Nat.le_of_ble_eq_true rfl) ⟨⟨rfl, rfl, Nat.le_of_ble_eq_true rfl, Nat.le_of_ble_eq_true rfl⟩, Nat.zero_le _, Nat.zero_le _⟩ dX7_shootInto_43 ?_
              rintro _ _ ⟨rfl, rfl⟩
              have r_43 := lgt_rng (μb 1 0) (x + i) (y + j)
              refine jx_top (b := lgt (μ 1 0) (x + i) (y + j)) (by rw [hfb 1 (by omega)]) ?_
              refine jx_imul C dX7_shootInto_46 ?_
              refine jx_bipush C dX7_shootInto_47 (by decide +kernel) ?_
              refine jx_idiv (z := g * lgt (μ 1 0) (x + i) (y + j) / 16) C dX7_shootInto_49 (by have := gl_rng hg (lgt_rng (μ 1 0) (x + i) (y + j)); omega) (by decide) (by decide) (jtd (by have := gl_rng hg (lgt_rng (μ 1 0) (x + i) (y + j)); omega)) ?_
              refine jx_min C Yy (by decide) (by have := gl_rng hg (lgt_rng (μ 1 0) (x + i) (y + j)); omega) wm_X7_31 ws_J9_min_7cf53 wi_Math wc_J9_min_7cf53 (Nat.le_of_ble_eq_true rfl) ⟨by decide, by decide, by decide, by decide⟩ dX7_shootInto_50 ?_
              refine jx_top (b := shv (μ 1 0) x y g i j) rfl ?_
              have r_v := shv_rng (s := μ 1 0) (x := x) (y := y) (i := i) (j := j) hg
              refine jx_cVv (as := [.inl i, .inl j, .inl (shv (μ 1 0) x y g i j)]) (st := []) C Yy (c_X1_put l G μb p (by omega) i j (shv (μ 1 0) x y g i j) (by omega) (by omega) (by omega) (by omega) hRb) yb_X1_put yv_X1_put wm_X7_36 (jcl_DO G hp _) rfl (by omega) rfl rfl (Nat.le_of_ble_eq_true rfl) ⟨⟨rfl, rfl, Nat.le_of_ble_eq_true rfl, Nat.le_of_ble_eq_true rfl⟩, Nat.zero_le _, Nat.zero_le _⟩ dX7_shootInto_53 ?_
              intro μ1 hμ1
              have hR1 := hμ1.1
              refine jx_iinc (L' := [some (.inr (ad G 1)), some (.inr (ad G (14 + p))), some (.inl x), some (.inl y), some (.inl g), some (.inl j), some (.inl (i + 1))]) C dX7_shootInto_56 rfl (by decide) rfl ?_
              refine jx_goto C dX7_shootInto_59 ?_
              exact ih_15 (i + 1) μ1 hμ1.1 (by omega) (fun k hk => by
          rw [hμ1.2]
          by_cases hk2 : k = 14 + p
          · subst hk2
            funext t
            by_cases ht : t = 4
            · subst ht; rw [jms_same, ← hfb (14 + p) (by omega)]; exact q_e.symm
            · rw [jms_slot _ _ _ _ ht, jms_cell _ _ _ _ hk, hfb _ hk]
          · rw [jms_cell _ _ _ _ hk2, jms_cell _ _ _ _ hk, hfb _ hk]) (fun a b h1 h2 h3 h4 h5 => by
          rw [hμ1.2, jms_cell _ _ _ _ (by omega), jms_arr]
          by_cases hx : (b * 20 + a).toNat = (j * 20 + i).toNat
          · have hy : b = j := by omega
            have hx2 : a = i := by omega
            rw [if_pos hx, hy, hx2]
          · rw [if_neg hx]
            exact hsb a b h1 h2 h3 h4 (by omega)) (by omega)
        exact LP_15 _ 0 μa hRa (by omega) hfa (fun a b h1 h2 h3 h4 h5 => hsa a b h1 h2 h3 h4 (by omega)) (Nat.lt_succ_self _)
  exact LP_3 _ 0 μ hR (by omega) (fun k hk => rfl) (fun a b h1 h2 h3 h4 h5 => by omega) (Nat.lt_succ_self _)
set_option maxHeartbeats 4000000 in
set_option maxRecDepth 100000 in
theorem c_J6_bitCount_0f7a4 (l : Launch) (G : GT) (μ : Mem) (z : Int) : MI l yJ6_bitCount_0f7a4 cJ6_bitCount_0f7a4 1 .int ({ frames := 0, cells := 0, slots := 0, locals := 0 } : Room) G [.inl z] μ (rdq μ (bcf z)) := by
  refine MI.of (by decide +kernel) (Nat.le_of_ble_eq_true rfl) ?_
  intro F C Yy
  show jX F G 1 0 0 (jE F G (jQi G (rdq μ (bcf z)))) 0 [some (.inl z)] [] μ
  refine jx_iload_n C dJ6_bitCount_0f7a4_0 rfl ?_
  refine jx_iload_n C dJ6_bitCount_0f7a4_1 rfl ?_
  refine jx_iconst C dJ6_bitCount_0f7a4_2 ?_
  refine jx_iushr C dJ6_bitCount_0f7a4_3 ?_
  refine jx_ldcw C dJ6_bitCount_0f7a4_4 wk_J6_265 (z := 1431655765) (by decide +kernel) ?_
  refine jx_iand C dJ6_bitCount_0f7a4_7 ?_
  refine jx_isub C dJ6_bitCount_0f7a4_8 ?_
  refine jx_top (b := bc1 z) rfl ?_
  refine jx_istore_n (L' := [some (.inl (bc1 z))]) C dJ6_bitCount_0f7a4_9 (by decide) rfl ?_
  refine jx_iload_n C dJ6_bitCount_0f7a4_10 rfl ?_
  refine jx_ldcw C dJ6_bitCount_0f7a4_11 wk_J6_266 (z := 858993459) (by decide +kernel) ?_
  refine jx_iand C dJ6_bitCount_0f7a4_14 ?_
  refine jx_iload_n C dJ6_bitCount_0f7a4_15 rfl ?_
  refine jx_iconst C dJ6_bitCount_0f7a4_16 ?_
  refine jx_iushr C dJ6_bitCount_0f7a4_17 ?_
  refine jx_ldcw C dJ6_bitCount_0f7a4_18 wk_J6_266 (z := 858993459) (by decide +kernel) ?_
  refine jx_iand C dJ6_bitCount_0f7a4_21 ?_
  refine jx_iadd C dJ6_bitCount_0f7a4_22 ?_
  refine jx_top (b := bc2 (bc1 z)) rfl ?_
  refine jx_istore_n (L' := [some (.inl (bc2 (bc1 z)))]) C dJ6_bitCount_0f7a4_23 (by decide) rfl ?_
  refine jx_iload_n C dJ6_bitCount_0f7a4_24 rfl ?_
  refine jx_iload_n C dJ6_bitCount_0f7a4_25 rfl ?_
  refine jx_iconst C dJ6_bitCount_0f7a4_26 ?_
  refine jx_iushr C dJ6_bitCount_0f7a4_27 ?_
  refine jx_iadd C dJ6_bitCount_0f7a4_28 ?_
  refine jx_ldcw C dJ6_bitCount_0f7a4_29 wk_J6_267 (z := 252645135) (by decide +kernel) ?_
  refine jx_iand C dJ6_bitCount_0f7a4_32 ?_
  refine jx_top (b := bc3 (bc2 (bc1 z))) rfl ?_
  refine jx_istore_n (L' := [some (.inl (bc3 (bc2 (bc1 z))))]) C dJ6_bitCount_0f7a4_33 (by decide) rfl ?_
  refine jx_iload_n C dJ6_bitCount_0f7a4_34 rfl ?_
  refine jx_iload_n C dJ6_bitCount_0f7a4_35 rfl ?_
  refine jx_bipush C dJ6_bitCount_0f7a4_36 (by decide +kernel) ?_
  refine jx_iushr C dJ6_bitCount_0f7a4_38 ?_
  refine jx_iadd C dJ6_bitCount_0f7a4_39 ?_
  refine jx_top (b := bc4 (bc3 (bc2 (bc1 z)))) rfl ?_
  refine jx_istore_n (L' := [some (.inl (bc4 (bc3 (bc2 (bc1 z)))))]) C dJ6_bitCount_0f7a4_40 (by decide) rfl ?_
  refine jx_iload_n C dJ6_bitCount_0f7a4_41 rfl ?_
  refine jx_iload_n C dJ6_bitCount_0f7a4_42 rfl ?_
  refine jx_bipush C dJ6_bitCount_0f7a4_43 (by decide +kernel) ?_
  refine jx_iushr C dJ6_bitCount_0f7a4_45 ?_
  refine jx_iadd C dJ6_bitCount_0f7a4_46 ?_
  refine jx_top (b := bc5 (bc4 (bc3 (bc2 (bc1 z))))) rfl ?_
  refine jx_istore_n (L' := [some (.inl (bc5 (bc4 (bc3 (bc2 (bc1 z))))))]) C dJ6_bitCount_0f7a4_47 (by decide) rfl ?_
  refine jx_iload_n C dJ6_bitCount_0f7a4_48 rfl ?_
  refine jx_bipush C dJ6_bitCount_0f7a4_49 (by decide +kernel) ?_
  refine jx_iand C dJ6_bitCount_0f7a4_51 ?_
  exact jx_iret C dJ6_bitCount_0f7a4_52 ⟨by rfl, rfl⟩
