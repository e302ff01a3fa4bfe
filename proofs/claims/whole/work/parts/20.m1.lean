set_option maxHeartbeats 4000000 in
set_option maxRecDepth 100000 in
theorem c_X8_within (l : Launch) (G : GT) (μ : Mem) (a b c : Int) (ha : InR a) (hb : InR b) (hc : InR c) : MI l yX8_within cX8_within 3 .boolean ({ frames := 0, cells := 0, slots := 0, locals := 0 } : Room) G [.inl a, .inl b, .inl c] μ (rdc μ (b ≤ a ∧ a ≤ c)) := by
  refine MI.of (by decide +kernel) (Nat.le_of_ble_eq_true rfl) ?_
  intro F C Yy
  show jX F G 3 0 0 (jE F G (jQi G (rdc μ (b ≤ a ∧ a ≤ c)))) 0 [some (.inl a), some (.inl b), some (.inl c)] [] μ
  refine jx_iload_n C dX8_within_0 rfl ?_
  refine jx_iload_n C dX8_within_1 rfl ?_
  refine jx_icmp_lt C dX8_within_2 (by omega) (by omega) (fun c_2 => ?_) (fun c_2 => ?_)
  · refine jx_iconst C dX8_within_14 ?_
    exact jx_zret C dX8_within_15 (Or.inl rfl) ⟨rfl, Or.inr ⟨rfl, by omega⟩⟩
  · refine jx_iload_n C dX8_within_5 rfl ?_
    refine jx_iload_n C dX8_within_6 rfl ?_
    refine jx_icmp_gt C dX8_within_7 (by omega) (by omega) (fun c_7 => ?_) (fun c_7 => ?_)
    · refine jx_iconst C dX8_within_14 ?_
      exact jx_zret C dX8_within_15 (Or.inl rfl) ⟨rfl, Or.inr ⟨rfl, by omega⟩⟩
    · refine jx_iconst C dX8_within_10 ?_
      refine jx_goto C dX8_within_11 ?_
      exact jx_zret C dX8_within_15 (Or.inr rfl) ⟨rfl, Or.inl ⟨rfl, by omega⟩⟩
set_option maxHeartbeats 4000000 in
set_option maxRecDepth 100000 in
theorem c_X1_has (l : Launch) (G : GT) (μ : Mem) (p : Nat) (hp : p < 4) (i j : Int) (hi : InR i) (hj : InR j) (hR : rng μ) : MI l yX1_has cX1_has 3 .boolean ({ frames := 0, cells := 0, slots := 0, locals := 0 } : Room) G [.inr (ad G (14 + p)), .inl i, .inl j] μ (rdc μ (0 ≤ i ∧ i < μ (14 + p) 2 ∧ 0 ≤ j ∧ j < μ (14 + p) 3)) := by
  refine MI.of (by decide +kernel) (Nat.le_of_ble_eq_true rfl) ?_
  intro F C Yy
  show jX F G 3 0 0 (jE F G (jQi G (rdc μ (0 ≤ i ∧ i < μ (14 + p) 2 ∧ 0 ≤ j ∧ j < μ (14 + p) 3)))) 0 [some (.inr (ad G (14 + p))), some (.inl i), some (.inl j)] [] μ
  refine jx_iload_n C dX1_has_0 rfl ?_
  refine jx_if_lt C dX1_has_1 (by omega) (fun c_1 => ?_) (fun c_1 => ?_)
  · refine jx_iconst C dX1_has_28 ?_
    exact jx_zret C dX1_has_29 (Or.inl rfl) ⟨rfl, Or.inr ⟨rfl, by omega⟩⟩
  · refine jx_iload_n C dX1_has_4 rfl ?_
    refine jx_aload_n C dX1_has_5 rfl ?_
    refine jx_get (v := .inl (μ (14 + p) 2)) C 2 ft_X1 (jcl_DO G hp _) rfl (by decide) (by omega) wf_X1_24 dX1_has_6 ?_
    have r_6 := rg_DO_2 hR (p := p) hp
    refine jx_icmp_ge C dX1_has_9 (by omega) (by omega) (fun c_9 => ?_) (fun c_9 => ?_)
    · refine jx_iconst C dX1_has_28 ?_
      exact jx_zret C dX1_has_29 (Or.inl rfl) ⟨rfl, Or.inr ⟨rfl, by omega⟩⟩
    · refine jx_iload_n C dX1_has_12 rfl ?_
      refine jx_if_lt C dX1_has_13 (by omega) (fun c_13 => ?_) (fun c_13 => ?_)
      · refine jx_iconst C dX1_has_28 ?_
        exact jx_zret C dX1_has_29 (Or.inl rfl) ⟨rfl, Or.inr ⟨rfl, by omega⟩⟩
      · refine jx_iload_n C dX1_has_16 rfl ?_
        refine jx_aload_n C dX1_has_17 rfl ?_
        refine jx_get (v := .inl (μ (14 + p) 3)) C 3 ft_X1 (jcl_DO G hp _) rfl (by decide) (by omega) wf_X1_28 dX1_has_18 ?_
        have r_18 := rg_DO_3 hR (p := p) hp
        refine jx_icmp_ge C dX1_has_21 (by omega) (by omega) (fun c_21 => ?_) (fun c_21 => ?_)
        · refine jx_iconst C dX1_has_28 ?_
          exact jx_zret C dX1_has_29 (Or.inl rfl) ⟨rfl, Or.inr ⟨rfl, by omega⟩⟩
        · refine jx_iconst C dX1_has_24 ?_
          refine jx_goto C dX1_has_25 ?_
          exact jx_zret C dX1_has_29 (Or.inr rfl) ⟨rfl, Or.inl ⟨rfl, by omega⟩⟩
set_option maxHeartbeats 4000000 in
set_option maxRecDepth 100000 in
theorem c_X1_get (l : Launch) (G : GT) (μ : Mem) (p : Nat) (hp : p < 4) (i j : Int) (hi : InR i) (hj : InR j) (hR : rng μ) : MI l yX1_get cX1_get 3 .int ({ frames := 1, cells := 0, slots := 0, locals := 22 } : Room) G [.inr (ad G (14 + p)), .inl i, .inl j] μ (rdq μ (dgt (μ (14 + p) 2) (μ (14 + p) 3) (μ (18 + p)) i j)) := by
  refine MI.of (by decide +kernel) (Nat.le_of_ble_eq_true rfl) ?_
  intro F C Yy
  show jX F G 3 0 0 (jE F G (jQi G (rdq μ (dgt (μ (14 + p) 2) (μ (14 + p) 3) (μ (18 + p)) i j)))) 0 [some (.inr (ad G (14 + p))), some (.inl i), some (.inl j)] [] μ
  have r_a := rg_DO_2 hR hp
  have r_b := rg_DO_3 hR hp
  refine jx_aload_n C dX1_get_0 rfl ?_
  refine jx_iload_n C dX1_get_1 rfl ?_
  refine jx_iload_n C dX1_get_2 rfl ?_
  refine jx_cVi (as := [.inl i, .inl j]) (st := []) C Yy (c_X1_has l G μ p (by omega) i j (by omega) (by omega) hR) yb_X1_has yv_X1_has wm_X1_35 (jcl_DO G hp _) rfl (by omega) rfl rfl (Nat.le_of_ble_eq_true rfl) ⟨⟨rfl, rfl, Nat.le_of_ble_eq_true rfl, Nat.le_of_ble_eq_true rfl⟩, Nat.zero_le _, Nat.zero_le _⟩ dX1_get_3 ?_
  rintro _ _ ⟨rfl, ⟨rfl, c_3⟩ | ⟨rfl, c_3⟩⟩
  · refine jx_if_eq C dX1_get_6 (by decide) (fun q => absurd q (by decide)) (fun _ => ?_)
    refine jx_aload_n C dX1_get_9 rfl ?_
    refine jx_get (v := .inr (ad G (18 + p))) C 0 ft_X1 (jcl_DO G hp _) rfl (by decide) (by omega) wf_X1_9 dX1_get_10 ?_
    refine jx_iload_n C dX1_get_13 rfl ?_
    refine jx_bipush C dX1_get_14 (by decide +kernel) ?_
    refine jx_imul C dX1_get_16 ?_
    refine jx_iload_n C dX1_get_17 rfl ?_
    refine jx_iadd C dX1_get_18 ?_
    refine jx_iald C (jcl_va G hp _) (by omega) (by omega) (by omega) (by decide) dX1_get_19 ?_
    have r_19 := rg_va hR (p := p) hp ((j * 20 + i).toNat)
    refine jx_goto C dX1_get_20 ?_
    exact jx_iret C dX1_get_24 ⟨dgt_in c_3, rfl⟩
  · refine jx_if_eq C dX1_get_6 (by decide) (fun _ => ?_) (fun q => absurd q (by decide))
    refine jx_iconst C dX1_get_23 ?_
    exact jx_iret C dX1_get_24 ⟨dgt_out c_3, rfl⟩
set_option maxHeartbeats 4000000 in
set_option maxRecDepth 100000 in
theorem c_X1_put (l : Launch) (G : GT) (μ : Mem) (p : Nat) (hp : p < 4) (i j v : Int) (hi : InR i) (hj : InR j) (hv : -1 ≤ v ∧ v ≤ 255) (hin : 0 ≤ i ∧ i < μ (14 + p) 2 ∧ 0 ≤ j ∧ j < μ (14 + p) 3) (hR : rng μ) : MV l yX1_put cX1_put 4 ({ frames := 1, cells := 0, slots := 0, locals := 22 } : Room) G [.inr (ad G (14 + p)), .inl i, .inl j, .inl v] μ (fun μ' => rng μ' ∧ μ' = jms (jms μ (18 + p) (j * 20 + i).toNat v) (14 + p) 4 1) := by
  refine MV.of (by decide +kernel) (Nat.le_of_ble_eq_true rfl) ?_
  intro F C Yy
  show jX F G 4 0 0 (jE F G (jQv G (fun μ' => rng μ' ∧ μ' = jms (jms μ (18 + p) (j * 20 + i).toNat v) (14 + p) 4 1))) 0 [some (.inr (ad G (14 + p))), some (.inl i), some (.inl j), some (.inl v)] [] μ
  have r_a := rg_DO_2 hR hp
  have r_b := rg_DO_3 hR hp
  refine jx_aload_n C dX1_put_0 rfl ?_
  refine jx_iload_n C dX1_put_1 rfl ?_
  refine jx_iload_n C dX1_put_2 rfl ?_
  refine jx_cVi (as := [.inl i, .inl j]) (st := []) C Yy (c_X1_has l G μ p (by omega) i j (by omega) (by omega) hR) yb_X1_has yv_X1_has wm_X1_35 (jcl_DO G hp _) rfl (by omega) rfl rfl (Nat.le_of_ble_eq_true rfl) ⟨⟨rfl, rfl, Nat.le_of_ble_eq_true rfl, Nat.le_of_ble_eq_true rfl⟩, Nat.zero_le _, Nat.zero_le _⟩ dX1_put_3 ?_
  rintro _ _ ⟨rfl, ⟨rfl, c_3⟩ | ⟨rfl, c_3⟩⟩
  · refine jx_if_eq C dX1_put_6 (by decide) (fun q => absurd q (by decide)) (fun _ => ?_)
    refine jx_aload_n C dX1_put_9 rfl ?_
    refine jx_get (v := .inr (ad G (18 + p))) C 0 ft_X1 (jcl_DO G hp _) rfl (by decide) (by omega) wf_X1_9 dX1_put_10 ?_
    refine jx_iload_n C dX1_put_13 rfl ?_
    refine jx_bipush C dX1_put_14 (by decide +kernel) ?_
    refine jx_imul C dX1_put_16 ?_
    refine jx_iload_n C dX1_put_17 rfl ?_
    refine jx_iadd C dX1_put_18 ?_
    refine jx_iload_n C dX1_put_19 rfl ?_
    refine jx_iast C (jcl_va G hp _) (jcl_va G hp _) (by omega) (by omega) (by omega) (by decide) dX1_put_20 ?_
    obtain ⟨μ1, eμ1⟩ : ∃ y_ : Mem, y_ = jms μ (18 + p) ((j * 20 + i).toNat) v := ⟨_, rfl⟩
    rw [← eμ1]
    have hR1 : rng μ1 := by rw [eμ1]; exact rs_va hR hp ((j * 20 + i).toNat) (by omega) (by omega)
    refine jx_aload_n C dX1_put_21 rfl ?_
    refine jx_iconst C dX1_put_22 ?_
    refine jx_put C 4 ft_X1 (jcl_DO G hp _) ((jcl_DO G hp _).trans rfl) (by decide) (by omega) rfl (Or.inr ⟨rfl, Or.inr rfl⟩) (by simp) wf_X1_31 dX1_put_23 ?_
    obtain ⟨μ2, eμ2⟩ : ∃ y_ : Mem, y_ = jms μ1 (14 + p) 4 1 := ⟨_, rfl⟩
    rw [← eμ2]
    have hR2 : rng μ2 := by rw [eμ2]; exact rs_DO_4 hR1 hp (by omega) (by omega)
    exact jx_vret C dX1_put_26 ⟨hR2, by rw [eμ2, eμ1]⟩
  · exact absurd hin c_3
set_option maxHeartbeats 4000000 in
set_option maxRecDepth 100000 in
theorem c_X1_changeAbout (l : Launch) (G : GT) (μ : Mem) (p : Nat) (hp : p < 4) (d : Int → Int → Int) (hd : d = dgt (μ (14 + p) 2) (μ (14 + p) 3) (μ (18 + p))) (i j wx wy : Int) (hi : 0 ≤ i ∧ i ≤ 1000) (hj : 0 ≤ j ∧ j ≤ 1000) (hwx : -1 ≤ wx ∧ wx ≤ 1) (hwy : -1 ≤ wy ∧ wy ≤ 1) (hR : rng μ) : MI l yX1_changeAbout cX1_changeAbout 10 .int ({ frames := 2, cells := 0, slots := 0, locals := 44 } : Room) G [.inr (ad G (14 + p)), .inl i, .inl j, .inl wx, .inl wy] μ (rdq μ (chs d i j wx wy 9)) := by
  refine MI.of (by decide +kernel) (Nat.le_of_ble_eq_true rfl) ?_
  intro F C Yy
  show jX F G 10 0 0 (jE F G (jQi G (rdq μ (chs d i j wx wy 9)))) 0 [some (.inr (ad G (14 + p))), some (.inl i), some (.inl j), some (.inl wx), some (.inl wy), none, none, none, none, none] [] μ
  have hdr : ∀ x y, -1 ≤ d x y ∧ d x y ≤ 255 := by rw [hd]; exact dgt_rng (fun t => rg_va hR hp t)
  refine jx_iconst C dX1_changeAbout_0 ?_
  refine jx_istore (L' := [some (.inr (ad G (14 + p))), some (.inl i), some (.inl j), some (.inl wx), some (.inl wy), some (.inl 0), none, none, none, none]) C dX1_changeAbout_1 (by decide) rfl ?_
  refine jx_iload_n C dX1_changeAbout_3 rfl ?_
  refine jx_iconst C dX1_changeAbout_4 ?_
  refine jx_isub C dX1_changeAbout_5 ?_
  refine jx_istore (L' := [some (.inr (ad G (14 + p))), some (.inl i), some (.inl j), some (.inl wx), some (.inl wy), some (.inl 0), some (.inl (j - 1)), none, none, none]) C dX1_changeAbout_6 (by decide) rfl ?_
  have LP_8 : ∀ (n : Nat) (r : Nat) (row : Int) (sum : Int), (r ≤ 3) → (row = j - 1 + (r : Int)) → (sum = chs d i j wx wy (3 * r)) → (chs d i j wx wy (3 * r) ≠ -1) → 4 - r < n → jX F G 10 0 0 (jE F G (jQi G (rdq μ (chs d i j wx wy 9)))) 8 [some (.inr (ad G (14 + p))), some (.inl i), some (.inl j), some (.inl wx), some (.inl wy), some (.inl sum), some (.inl row), none, none, none] [] μ := by
    intro n
    induction n with
    | zero =>
      intro r row sum hr hrow hsum hne hms
      exact absurd hms (Nat.not_lt_zero _)
    | succ n ih =>
      intro r row sum hr hrow hsum hne hms
      have ih_8 := ih
      clear ih
      refine jx_iload C dX1_changeAbout_8 rfl ?_
      refine jx_iload_n C dX1_changeAbout_10 rfl ?_
      refine jx_iconst C dX1_changeAbout_11 ?_
      refine jx_iadd C dX1_changeAbout_12 ?_
      refine jx_icmp_gt C dX1_changeAbout_13 (by omega) (by omega) (fun c_13 => ?_) (fun c_13 => ?_)
      · refine jx_iload C dX1_changeAbout_96 rfl ?_
        exact jx_iret C dX1_changeAbout_98 ⟨by rw [hsum, show 3 * r = 9 by omega], rfl⟩
      · refine jx_iload_n C dX1_changeAbout_16 rfl ?_
        refine jx_iconst C dX1_changeAbout_17 ?_
        refine jx_isub C dX1_changeAbout_18 ?_
        refine jx_istore (L' := [some (.inr (ad G (14 + p))), some (.inl i), some (.inl j), some (.inl wx), some (.inl wy), some (.inl sum), some (.inl row), some (.inl (i - 1)), none, none]) C dX1_changeAbout_19 (by decide) rfl ?_
        have LP_21 : ∀ (n : Nat) (cc : Nat) (col : Int) (s2 : Int), (cc ≤ 3) → (col = i - 1 + (cc : Int)) → (s2 = chs d i j wx wy (3 * r + cc)) → (chs d i j wx wy (3 * r + cc) ≠ -1) → 4 - cc < n → jX F G 10 0 0 (jE F G (jQi G (rdq μ (chs d i j wx wy 9)))) 21 [some (.inr (ad G (14 + p))), some (.inl i), some (.inl j), some (.inl wx), some (.inl wy), some (.inl s2), some (.inl row), some (.inl col), none, none] [] μ := by
          intro n
          induction n with
          | zero =>
            intro cc col s2 hcc hcol hs2 hne2 hms
            exact absurd hms (Nat.not_lt_zero _)
          | succ n ih =>
            intro cc col s2 hcc hcol hs2 hne2 hms
            have ih_21 := ih
            clear ih
            refine jx_iload C dX1_changeAbout_21 rfl ?_
            refine jx_iload_n C dX1_changeAbout_23 rfl ?_
            refine jx_iconst C dX1_changeAbout_24 ?_
            refine jx_iadd C dX1_changeAbout_25 ?_
            refine jx_icmp_gt C dX1_changeAbout_26 (by omega) (by omega) (fun c_26 => ?_) (fun c_26 => ?_)
            · refine jx_iinc (L' := [some (.inr (ad G (14 + p))), some (.inl i), some (.inl j), some (.inl wx), some (.inl wy), some (.inl s2), some (.inl (row + 1)), some (.inl col), none, none]) C dX1_changeAbout_90 rfl (by decide) rfl ?_
              refine jx_goto C dX1_changeAbout_93 ?_
              refine jx_fewer (L' := [some (.inr (ad G (14 + p))), some (.inl i), some (.inl j), some (.inl wx), some (.inl wy), some (.inl s2), some (.inl (row + 1)), none, none, none]) (fun i v h => ?_) ?_
              · exact jfew_ok (by simp [jfew]) h
              exact ih_8 (r + 1) (row + 1) s2 (by omega) (by omega) (by rw [hs2, show 3 * (r + 1) = 3 * r + cc by omega]) (by rw [show 3 * (r + 1) = 3 * r + cc by omega]; exact hne2) (by omega)
            · refine jx_aload_n C dX1_changeAbout_29 rfl ?_
              refine jx_iload C dX1_changeAbout_30 rfl ?_
              refine jx_iload C dX1_changeAbout_32 rfl ?_
              refine jx_cVi (as := [.inl col, .inl row]) (st := []) C Yy (c_X1_get l G μ p (by omega) col row (by omega) (by omega) hR) yb_X1_get yv_X1_get wm_X1_54 (jcl_DO G hp _) rfl (by omega) rfl rfl (Nat.le_of_ble_eq_true rfl) ⟨⟨rfl, rfl, Nat.le_of_ble_eq_true rfl, Nat.le_of_ble_eq_true rfl⟩, Nat.zero_le _, Nat.zero_le _⟩ dX1_changeAbout_34 ?_
              rintro _ _ ⟨rfl, rfl⟩
              have r_34 := dgt_rng (W := μ (14 + p) 2) (H := μ (14 + p) 3) (v := μ (18 + p)) (fun t => rg_va hR (p := p) (by omega) t) col row
              rw [← hd] at r_34
              refine jx_top (b := d col row) (by rw [hd]) ?_
              refine jx_istore (L' := [some (.inr (ad G (14 + p))), some (.inl i), some (.inl j), some (.inl wx), some (.inl wy), some (.inl s2), some (.inl row), some (.inl col), some (.inl (d col row)), none]) C dX1_changeAbout_37 (by decide) rfl ?_
              refine jx_aload_n C dX1_changeAbout_39 rfl ?_
              refine jx_iload C dX1_changeAbout_40 rfl ?_
              refine jx_iload_n C dX1_changeAbout_42 rfl ?_
              refine jx_iadd C dX1_changeAbout_43 ?_
              refine jx_iload C dX1_changeAbout_44 rfl ?_
              refine jx_iload C dX1_changeAbout_46 rfl ?_
              refine jx_iadd C dX1_changeAbout_48 ?_
              refine jx_cVi (as := [.inl (col + wx), .inl (row + wy)]) (st := []) C Yy (c_X1_get l G μ p (by omega) (col + wx) (row + wy) (by omega) (by omega) hR) yb_X1_get yv_X1_get wm_X1_54 (jcl_DO G hp _) rfl (by omega) rfl rfl (Nat.le_of_ble_eq_true rfl) ⟨⟨rfl, rfl, Nat.le_of_ble_eq_true rfl, Nat.le_of_ble_eq_true rfl⟩, Nat.zero_le _, Nat.zero_le _⟩ dX1_changeAbout_49 ?_
              rintro _ _ ⟨rfl, rfl⟩
              have r_49 := dgt_rng (W := μ (14 + p) 2) (H := μ (14 + p) 3) (v := μ (18 + p)) (fun t => rg_va hR (p := p) (by omega) t) (col + wx) (row + wy)
              rw [← hd] at r_49
              refine jx_top (b := d (col + wx) (row + wy)) (by rw [hd]) ?_
              refine jx_istore (L' := [some (.inr (ad G (14 + p))), some (.inl i), some (.inl j), some (.inl wx), some (.inl wy), some (.inl s2), some (.inl row), some (.inl col), some (.inl (d col row)), some (.inl (d (col + wx) (row + wy)))]) C dX1_changeAbout_52 (by decide) rfl ?_
              refine jx_iload C dX1_changeAbout_54 rfl ?_
              refine jx_iconst C dX1_changeAbout_56 ?_
              refine jx_icmp_eq C dX1_changeAbout_57 (by omega) (by decide) (fun c_57 => ?_) (fun c_57 => ?_)
              · refine jx_iconst C dX1_changeAbout_66 ?_
                exact jx_iret C dX1_changeAbout_67 ⟨chs_lostat hcol hrow (by omega) (by omega) (by first | exact Or.inl c_57 | exact Or.inr c_63), rfl⟩
              · refine jx_iload C dX1_changeAbout_60 rfl ?_
                refine jx_iconst C dX1_changeAbout_62 ?_
                refine jx_icmp_ne C dX1_changeAbout_63 (by omega) (by decide) (fun c_63 => ?_) (fun c_63 => ?_)
                · refine jx_iload C dX1_changeAbout_68 rfl ?_
                  refine jx_iload C dX1_changeAbout_70 rfl ?_
                  refine jx_iload C dX1_changeAbout_72 rfl ?_
                  refine jx_isub C dX1_changeAbout_74 ?_
                  refine jx_iload C dX1_changeAbout_75 rfl ?_
                  refine jx_iload C dX1_changeAbout_77 rfl ?_
                  refine jx_isub C dX1_changeAbout_79 ?_
                  refine jx_imul C dX1_changeAbout_80 ?_
                  refine jx_iadd C dX1_changeAbout_81 ?_
                  refine jx_istore (L' := [some (.inr (ad G (14 + p))), some (.inl i), some (.inl j), some (.inl wx), some (.inl wy), some (.inl (s2 + ((d col row - (d (col + wx) (row + wy))) * (d col row - (d (col + wx) (row + wy)))))), some (.inl row), some (.inl col), some (.inl (d col row)), some (.inl (d (col + wx) (row + wy)))]) C dX1_changeAbout_82 (by decide) rfl ?_
                  refine jx_iinc (L' := [some (.inr (ad G (14 + p))), some (.inl i), some (.inl j), some (.inl wx), some (.inl wy), some (.inl (s2 + ((d col row - (d (col + wx) (row + wy))) * (d col row - (d (col + wx) (row + wy)))))), some (.inl row), some (.inl (col + 1)), some (.inl (d col row)), some (.inl (d (col + wx) (row + wy)))]) C dX1_changeAbout_84 rfl (by decide) rfl ?_
                  refine jx_goto C dX1_changeAbout_87 ?_
                  have hnx := chs_next hdr hne2 hcol hrow (by omega) c_57 c_63
                  refine jx_fewer (L' := [some (.inr (ad G (14 + p))), some (.inl i), some (.inl j), some (.inl wx), some (.inl wy), some (.inl (s2 + ((d col row - (d (col + wx) (row + wy))) * (d col row - (d (col + wx) (row + wy)))))), some (.inl row), some (.inl (col + 1)), none, none]) (fun i v h => ?_) ?_
                  · exact jfew_ok (by simp [jfew]) h
                  exact ih_21 (cc + 1) (col + 1) (s2 + ((d col row - (d (col + wx) (row + wy))) * (d col row - (d (col + wx) (row + wy))))) (by omega) (by omega) (by rw [hnx.1, hs2]) hnx.2 (by omega)
                · refine jx_iconst C dX1_changeAbout_66 ?_
                  exact jx_iret C dX1_changeAbout_67 ⟨chs_lostat hcol hrow (by omega) (by omega) (by first | exact Or.inl c_57 | exact Or.inr c_63), rfl⟩
        exact LP_21 _ 0 (i - 1) sum (by omega) (by omega) hsum hne (Nat.lt_succ_self _)
  exact LP_8 _ 0 (j - 1) 0 (by omega) (by omega) rfl (chs_0 d i j wx wy) (Nat.lt_succ_self _)
set_option maxHeartbeats 4000000 in
set_option maxRecDepth 100000 in
theorem c_X1_scoreOf (l : Launch) (G : GT) (μ : Mem) (p : Nat) (hp : p < 4) (d : Int → Int → Int) (hd : d = dgt (μ (14 + p) 2) (μ (14 + p) 3) (μ (18 + p))) (i j : Int) (hi : InR i) (hj : InR j) (hR : rng μ) : MI l yX1_scoreOf cX1_scoreOf 6 .int ({ frames := 3, cells := 0, slots := 0, locals := 73 } : Room) G [.inr (ad G (14 + p)), .inl i, .inl j] μ (rdq μ (sco (μ (14 + p) 2) (μ (14 + p) 3) d i j)) := by
  refine MI.of (by decide +kernel) (Nat.le_of_ble_eq_true rfl) ?_
  intro F C Yy
  show jX F G 6 0 0 (jE F G (jQi G (rdq μ (sco (μ (14 + p) 2) (μ (14 + p) 3) d i j)))) 0 [some (.inr (ad G (14 + p))), some (.inl i), some (.inl j), none, none, none] [] μ
  have hdr : ∀ x y, -1 ≤ d x y ∧ d x y ≤ 255 := by rw [hd]; exact dgt_rng (fun t => rg_va hR hp t)
  have v_0 := chv_rng hdr i j 0
  have v_1 := chv_rng hdr i j 1
  have v_2 := chv_rng hdr i j 2
  have v_3 := chv_rng hdr i j 3
  refine jx_iload_n C dX1_scoreOf_0 rfl ?_
  refine jx_iconst C dX1_scoreOf_1 ?_
  refine jx_aload_n C dX1_scoreOf_2 rfl ?_
  refine jx_get (v := .inl (μ (14 + p) 2)) C 2 ft_X1 (jcl_DO G hp _) rfl (by decide) (by omega) wf_X1_24 dX1_scoreOf_3 ?_
  have r_3 := rg_DO_2 hR (p := p) hp
  refine jx_iconst C dX1_scoreOf_6 ?_
  refine jx_isub C dX1_scoreOf_7 ?_
  refine jx_iconst C dX1_scoreOf_8 ?_
  refine jx_isub C dX1_scoreOf_9 ?_
  refine jx_cWi (as := [.inl i, .inl 3, .inl (μ (14 + p) 2 - 1 - 3)]) (st := []) C Yy (c_X8_within l G μ i 3 (μ (14 + p) 2 - 1 - 3) (by omega) (by omega) (by omega)) yb_X8_within ws_X8_within rfl rfl (Nat.le_of_ble_eq_true rfl) ⟨⟨rfl, rfl, Nat.le_of_ble_eq_true rfl, Nat.le_of_ble_eq_true rfl⟩, Nat.zero_le _, Nat.zero_le _⟩ dX1_scoreOf_10 ?_
  rintro _ _ ⟨rfl, ⟨rfl, c_10⟩ | ⟨rfl, c_10⟩⟩
  · refine jx_if_eq C dX1_scoreOf_13 (by decide) (fun q => absurd q (by decide)) (fun _ => ?_)
    refine jx_iload_n C dX1_scoreOf_16 rfl ?_
    refine jx_iconst C dX1_scoreOf_17 ?_
    refine jx_aload_n C dX1_scoreOf_18 rfl ?_
    refine jx_get (v := .inl (μ (14 + p) 3)) C 3 ft_X1 (jcl_DO G hp _) rfl (by decide) (by omega) wf_X1_28 dX1_scoreOf_19 ?_
    have r_19 := rg_DO_3 hR (p := p) hp
    refine jx_iconst C dX1_scoreOf_22 ?_
    refine jx_isub C dX1_scoreOf_23 ?_
    refine jx_iconst C dX1_scoreOf_24 ?_
    refine jx_isub C dX1_scoreOf_25 ?_
    refine jx_cWi (as := [.inl j, .inl 3, .inl (μ (14 + p) 3 - 1 - 3)]) (st := []) C Yy (c_X8_within l G μ j 3 (μ (14 + p) 3 - 1 - 3) (by omega) (by omega) (by omega)) yb_X8_within ws_X8_within rfl rfl (Nat.le_of_ble_eq_true rfl) ⟨⟨rfl, rfl, Nat.le_of_ble_eq_true rfl, Nat.le_of_ble_eq_true rfl⟩, Nat.zero_le _, Nat.zero_le _⟩ dX1_scoreOf_26 ?_
    rintro _ _ ⟨rfl, ⟨rfl, c_26⟩ | ⟨rfl, c_26⟩⟩
    · refine jx_if_ne C dX1_scoreOf_29 (by decide) (fun _ => ?_) (fun q => absurd q (by decide))
      refine jx_ldc C dX1_scoreOf_34 wk_X1_43 (z := 585225) (by decide +kernel) ?_
      refine jx_istore_n (L' := [some (.inr (ad G (14 + p))), some (.inl i), some (.inl j), some (.inl 585225), none, none]) C dX1_scoreOf_36 (by decide) rfl ?_
      refine jx_iconst C dX1_scoreOf_37 ?_
      refine jx_istore (L' := [some (.inr (ad G (14 + p))), some (.inl i), some (.inl j), some (.inl 585225), some (.inl 0), none]) C dX1_scoreOf_38 (by decide) rfl ?_
      refine jx_iload C dX1_scoreOf_40 rfl ?_
      refine jx_gsx C wf_X1_44 dX1_scoreOf_42 ?_
      refine jx_tlen C true dX1_scoreOf_45 ?_
      refine jx_icmp_ge C dX1_scoreOf_46 (by decide) (by decide) (fun q => absurd q (by decide)) (fun _ => ?_)
      refine jx_iload C dX1_scoreOf_49 rfl ?_
      refine jx_gsy C wf_X1_47 dX1_scoreOf_51 ?_
      refine jx_tlen C false dX1_scoreOf_54 ?_
      refine jx_icmp_ge C dX1_scoreOf_55 (by decide) (by decide) (fun q => absurd q (by decide)) (fun _ => ?_)
      refine jx_aload_n C dX1_scoreOf_58 rfl ?_
      refine jx_iload_n C dX1_scoreOf_59 rfl ?_
      refine jx_iload_n C dX1_scoreOf_60 rfl ?_
      refine jx_gsx C wf_X1_44 dX1_scoreOf_61 ?_
      refine jx_iload C dX1_scoreOf_64 rfl ?_
      refine jx_tx C (by omega) (by omega) dX1_scoreOf_66 ?_
      refine jx_top (b := wayx 0) rfl ?_
      refine jx_gsy C wf_X1_47 dX1_scoreOf_67 ?_
      refine jx_iload C dX1_scoreOf_70 rfl ?_
      refine jx_ty C (by omega) (by omega) dX1_scoreOf_72 ?_
      refine jx_top (b := wayy 0) rfl ?_
      refine jx_cVi (as := [.inl i, .inl j, .inl (wayx 0), .inl (wayy 0)]) (st := []) C Yy (c_X1_changeAbout l G μ p (by omega) d hd i j (wayx 0) (wayy 0) (by omega) (by omega) ⟨by decide, by decide⟩ ⟨by decide, by decide⟩ hR) yb_X1_changeAbout yv_X1_changeAbout wm_X1_50 (jcl_DO G hp _) rfl (by omega) rfl rfl (Nat.le_of_ble_eq_true rfl) ⟨⟨rfl, rfl, Nat.le_of_ble_eq_true rfl, Nat.le_of_ble_eq_true rfl⟩, Nat.zero_le _, Nat.zero_le _⟩ dX1_scoreOf_73 ?_
      rintro _ _ ⟨rfl, rfl⟩
      refine jx_top (b := chv d i j 0) rfl ?_
      refine jx_istore (L' := [some (.inr (ad G (14 + p))), some (.inl i), some (.inl j), some (.inl 585225), some (.inl 0), some (.inl (chv d i j 0))]) C dX1_scoreOf_76 (by decide) rfl ?_
      refine jx_iload C dX1_scoreOf_78 rfl ?_
      refine jx_iconst C dX1_scoreOf_80 ?_
      refine jx_icmp_ne C dX1_scoreOf_81 (by omega) (by decide) (fun c_81 => ?_) (fun c_81 => ?_)
      · refine jx_iload_n C dX1_scoreOf_86 rfl ?_
        refine jx_iload C dX1_scoreOf_87 rfl ?_
        refine jx_min C Yy (by decide) (by omega) wm_X1_18 ws_J9_min_7cf53 wi_Math wc_J9_min_7cf53 (Nat.le_of_ble_eq_true rfl) ⟨by decide, by decide, by decide, by decide⟩ dX1_scoreOf_89 ?_
        refine jx_istore_n (L' := [some (.inr (ad G (14 + p))), some (.inl i), some (.inl j), some (.inl (min 585225 (chv d i j 0))), some (.inl 0), some (.inl (chv d i j 0))]) C dX1_scoreOf_92 (by decide) rfl ?_
        refine jx_iinc (L' := [some (.inr (ad G (14 + p))), some (.inl i), some (.inl j), some (.inl (min 585225 (chv d i j 0))), some (.inl 1), some (.inl (chv d i j 0))]) C dX1_scoreOf_93 rfl (by decide) rfl ?_
        refine jx_goto C dX1_scoreOf_96 ?_
        refine jx_iload C dX1_scoreOf_40 rfl ?_
        refine jx_gsx C wf_X1_44 dX1_scoreOf_42 ?_
        refine jx_tlen C true dX1_scoreOf_45 ?_
        refine jx_icmp_ge C dX1_scoreOf_46 (by decide) (by decide) (fun q => absurd q (by decide)) (fun _ => ?_)
        refine jx_iload C dX1_scoreOf_49 rfl ?_
        refine jx_gsy C wf_X1_47 dX1_scoreOf_51 ?_
        refine jx_tlen C false dX1_scoreOf_54 ?_
        refine jx_icmp_ge C dX1_scoreOf_55 (by decide) (by decide) (fun q => absurd q (by decide)) (fun _ => ?_)
        refine jx_aload_n C dX1_scoreOf_58 rfl ?_
        refine jx_iload_n C dX1_scoreOf_59 rfl ?_
        refine jx_iload_n C dX1_scoreOf_60 rfl ?_
        refine jx_gsx C wf_X1_44 dX1_scoreOf_61 ?_
        refine jx_iload C dX1_scoreOf_64 rfl ?_
        refine jx_tx C (by omega) (by omega) dX1_scoreOf_66 ?_
        refine jx_top (b := wayx 1) rfl ?_
        refine jx_gsy C wf_X1_47 dX1_scoreOf_67 ?_
        refine jx_iload C dX1_scoreOf_70 rfl ?_
        refine jx_ty C (by omega) (by omega) dX1_scoreOf_72 ?_
        refine jx_top (b := wayy 1) rfl ?_
        refine jx_cVi (as := [.inl i, .inl j, .inl (wayx 1), .inl (wayy 1)]) (st := []) C Yy (c_X1_changeAbout l G μ p (by omega) d hd i j (wayx 1) (wayy 1) (by omega) (by omega) ⟨by decide, by decide⟩ ⟨by decide, by decide⟩ hR) yb_X1_changeAbout yv_X1_changeAbout wm_X1_50 (jcl_DO G hp _) rfl (by omega) rfl rfl (Nat.le_of_ble_eq_true rfl) ⟨⟨rfl, rfl, Nat.le_of_ble_eq_true rfl, Nat.le_of_ble_eq_true rfl⟩, Nat.zero_le _, Nat.zero_le _⟩ dX1_scoreOf_73 ?_
        rintro _ _ ⟨rfl, rfl⟩
        refine jx_top (b := chv d i j 1) rfl ?_
        refine jx_istore (L' := [some (.inr (ad G (14 + p))), some (.inl i), some (.inl j), some (.inl (min 585225 (chv d i j 0))), some (.inl 1), some (.inl (chv d i j 1))]) C dX1_scoreOf_76 (by decide) rfl ?_
        refine jx_iload C dX1_scoreOf_78 rfl ?_
        refine jx_iconst C dX1_scoreOf_80 ?_
        refine jx_icmp_ne C dX1_scoreOf_81 (by omega) (by decide) (fun c_81 => ?_) (fun c_81 => ?_)
        · refine jx_iload_n C dX1_scoreOf_86 rfl ?_
          refine jx_iload C dX1_scoreOf_87 rfl ?_
          refine jx_min C Yy (by omega) (by omega) wm_X1_18 ws_J9_min_7cf53 wi_Math wc_J9_min_7cf53 (Nat.le_of_ble_eq_true rfl) ⟨by decide, by decide, by decide, by decide⟩ dX1_scoreOf_89 ?_
          refine jx_istore_n (L' := [some (.inr (ad G (14 + p))), some (.inl i), some (.inl j), some (.inl (min (min 585225 (chv d i j 0)) (chv d i j 1))), some (.inl 1), some (.inl (chv d i j 1))]) C dX1_scoreOf_92 (by decide) rfl ?_
          refine jx_iinc (L' := [some (.inr (ad G (14 + p))), some (.inl i), some (.inl j), some (.inl (min (min 585225 (chv d i j 0)) (chv d i j 1))), some (.inl 2), some (.inl (chv d i j 1))]) C dX1_scoreOf_93 rfl (by decide) rfl ?_
          refine jx_goto C dX1_scoreOf_96 ?_
          refine jx_iload C dX1_scoreOf_40 rfl ?_
          refine jx_gsx C wf_X1_44 dX1_scoreOf_42 ?_
          refine jx_tlen C true dX1_scoreOf_45 ?_
          refine jx_icmp_ge C dX1_scoreOf_46 (by decide) (by decide) (fun q => absurd q (by decide)) (fun _ => ?_)
          refine jx_iload C dX1_scoreOf_49 rfl ?_
          refine jx_gsy C wf_X1_47 dX1_scoreOf_51 ?_
          refine jx_tlen C false dX1_scoreOf_54 ?_
          refine jx_icmp_ge C dX1_scoreOf_55 (by decide) (by decide) (fun q => absurd q (by decide)) (fun _ => ?_)
          refine jx_aload_n C dX1_scoreOf_58 rfl ?_
          refine jx_iload_n C dX1_scoreOf_59 rfl ?_
          refine jx_iload_n C dX1_scoreOf_60 rfl ?_
          refine jx_gsx C wf_X1_44 dX1_scoreOf_61 ?_
          refine jx_iload C dX1_scoreOf_64 rfl ?_
          refine jx_tx C (by omega) (by omega) dX1_scoreOf_66 ?_
          refine jx_top (b := wayx 2) rfl ?_
          refine jx_gsy C wf_X1_47 dX1_scoreOf_67 ?_
          refine jx_iload C dX1_scoreOf_70 rfl ?_
          refine jx_ty C (by omega) (by omega) dX1_scoreOf_72 ?_
          refine jx_top (b := wayy 2) rfl ?_
          refine jx_cVi (as := [.inl i, .inl j, .inl (wayx 2), .inl (wayy 2)]) (st := []) C Yy (c_X1_changeAbout l G μ p (by omega) d hd i j (wayx 2) (wayy 2) (by omega) (by omega) ⟨by decide, by decide⟩ ⟨by decide, by decide⟩ hR) yb_X1_changeAbout yv_X1_changeAbout wm_X1_50 (jcl_DO G hp _) rfl (by omega) rfl rfl (Nat.le_of_ble_eq_true rfl) ⟨⟨rfl, rfl, Nat.le_of_ble_eq_true rfl, Nat.le_of_ble_eq_true rfl⟩, Nat.zero_le _, Nat.zero_le _⟩ dX1_scoreOf_73 ?_
          rintro _ _ ⟨rfl, rfl⟩
          refine jx_top (b := chv d i j 2) rfl ?_
          refine jx_istore (L' := [some (.inr (ad G (14 + p))), some (.inl i), some (.inl j), some (.inl (min (min 585225 (chv d i j 0)) (chv d i j 1))), some (.inl 2), some (.inl (chv d i j 2))]) C dX1_scoreOf_76 (by decide) rfl ?_
          refine jx_iload C dX1_scoreOf_78 rfl ?_
          refine jx_iconst C dX1_scoreOf_80 ?_
          refine jx_icmp_ne C dX1_scoreOf_81 (by omega) (by decide) (fun c_81 => ?_) (fun c_81 => ?_)
          · refine jx_iload_n C dX1_scoreOf_86 rfl ?_
            refine jx_iload C dX1_scoreOf_87 rfl ?_
            refine jx_min C Yy (by omega) (by omega) wm_X1_18 ws_J9_min_7cf53 wi_Math wc_J9_min_7cf53 (Nat.le_of_ble_eq_true rfl) ⟨by decide, by decide, by decide, by decide⟩ dX1_scoreOf_89 ?_
            refine jx_istore_n (L' := [some (.inr (ad G (14 + p))), some (.inl i), some (.inl j), some (.inl (min (min (min 585225 (chv d i j 0)) (chv d i j 1)) (chv d i j 2))), some (.inl 2), some (.inl (chv d i j 2))]) C dX1_scoreOf_92 (by decide) rfl ?_
            refine jx_iinc (L' := [some (.inr (ad G (14 + p))), some (.inl i), some (.inl j), some (.inl (min (min (min 585225 (chv d i j 0)) (chv d i j 1)) (chv d i j 2))), some (.inl 3), some (.inl (chv d i j 2))]) C dX1_scoreOf_93 rfl (by decide) rfl ?_
            refine jx_goto C dX1_scoreOf_96 ?_
            refine jx_iload C dX1_scoreOf_40 rfl ?_
            refine jx_gsx C wf_X1_44 dX1_scoreOf_42 ?_
            refine jx_tlen C true dX1_scoreOf_45 ?_
            refine jx_icmp_ge C dX1_scoreOf_46 (by decide) (by decide) (fun q => absurd q (by decide)) (fun _ => ?_)
            refine jx_iload C dX1_scoreOf_49 rfl ?_
            refine jx_gsy C wf_X1_47 dX1_scoreOf_51 ?_
            refine jx_tlen C false dX1_scoreOf_54 ?_
            refine jx_icmp_ge C dX1_scoreOf_55 (by decide) (by decide) (fun q => absurd q (by decide)) (fun _ => ?_)
            refine jx_aload_n C dX1_scoreOf_58 rfl ?_
            refine jx_iload_n C dX1_scoreOf_59 rfl ?_
            refine jx_iload_n C dX1_scoreOf_60 rfl ?_
            refine jx_gsx C wf_X1_44 dX1_scoreOf_61 ?_
            refine jx_iload C dX1_scoreOf_64 rfl ?_
            refine jx_tx C (by omega) (by omega) dX1_scoreOf_66 ?_
            refine jx_top (b := wayx 3) rfl ?_
            refine jx_gsy C wf_X1_47 dX1_scoreOf_67 ?_
            refine jx_iload C dX1_scoreOf_70 rfl ?_
            refine jx_ty C (by omega) (by omega) dX1_scoreOf_72 ?_
            refine jx_top (b := wayy 3) rfl ?_
            refine jx_cVi (as := [.inl i, .inl j, .inl (wayx 3), .inl (wayy 3)]) (st := []) C Yy (c_X1_changeAbout l G μ p (by omega) d hd i j (wayx 3) (wayy 3) (by omega) (by omega) ⟨by decide, by decide⟩ ⟨by decide, by decide⟩ hR) yb_X1_changeAbout yv_X1_changeAbout wm_X1_50 (jcl_DO G hp _) rfl (by omega) rfl rfl (Nat.le_of_ble_eq_true rfl) ⟨⟨rfl, rfl, Nat.le_of_ble_eq_true rfl, Nat.le_of_ble_eq_true rfl⟩, Nat.zero_le _, Nat.zero_le _⟩ dX1_scoreOf_73 ?_
            rintro _ _ ⟨rfl, rfl⟩
            refine jx_top (b := chv d i j 3) rfl ?_
            refine jx_istore (L' := [some (.inr (ad G (14 + p))), some (.inl i), some (.inl j), some (.inl (min (min (min 585225 (chv d i j 0)) (chv d i j 1)) (chv d i j 2))), some (.inl 3), some (.inl (chv d i j 3))]) C dX1_scoreOf_76 (by decide) rfl ?_
            refine jx_iload C dX1_scoreOf_78 rfl ?_
            refine jx_iconst C dX1_scoreOf_80 ?_
            refine jx_icmp_ne C dX1_scoreOf_81 (by omega) (by decide) (fun c_81 => ?_) (fun c_81 => ?_)
            · refine jx_iload_n C dX1_scoreOf_86 rfl ?_
              refine jx_iload C dX1_scoreOf_87 rfl ?_
              refine jx_min C Yy (by omega) (by omega) wm_X1_18 ws_J9_min_7cf53 wi_Math wc_J9_min_7cf53 (Nat.le_of_ble_eq_true rfl) ⟨by decide, by decide, by decide, by decide⟩ dX1_scoreOf_89 ?_
              refine jx_istore_n (L' := [some (.inr (ad G (14 + p))), some (.inl i), some (.inl j), some (.inl (min (min (min (min 585225 (chv d i j 0)) (chv d i j 1)) (chv d i j 2)) (chv d i j 3))), some (.inl 3), some (.inl (chv d i j 3))]) C dX1_scoreOf_92 (by decide) rfl ?_
              refine jx_iinc (L' := [some (.inr (ad G (14 + p))), some (.inl i), some (.inl j), some (.inl (min (min (min (min 585225 (chv d i j 0)) (chv d i j 1)) (chv d i j 2)) (chv d i j 3))), some (.inl 4), some (.inl (chv d i j 3))]) C dX1_scoreOf_93 rfl (by decide) rfl ?_
              refine jx_goto C dX1_scoreOf_96 ?_
              refine jx_iload C dX1_scoreOf_40 rfl ?_
              refine jx_gsx C wf_X1_44 dX1_scoreOf_42 ?_
              refine jx_tlen C true dX1_scoreOf_45 ?_
              refine jx_icmp_ge C dX1_scoreOf_46 (by decide) (by decide) (fun _ => ?_) (fun q => absurd q (by decide))
              refine jx_iload_n C dX1_scoreOf_99 rfl ?_
              exact jx_iret C dX1_scoreOf_100 ⟨by rw [sco, if_pos (by omega), scv, if_neg (by omega)]; omega, rfl⟩
            · refine jx_iconst C dX1_scoreOf_84 ?_
              exact jx_iret C dX1_scoreOf_85 ⟨by rw [sco, if_pos (by omega), scv, if_pos (by omega)], rfl⟩
          · refine jx_iconst C dX1_scoreOf_84 ?_
            exact jx_iret C dX1_scoreOf_85 ⟨by rw [sco, if_pos (by omega), scv, if_pos (by omega)], rfl⟩
        · refine jx_iconst C dX1_scoreOf_84 ?_
          exact jx_iret C dX1_scoreOf_85 ⟨by rw [sco, if_pos (by omega), scv, if_pos (by omega)], rfl⟩
      · refine jx_iconst C dX1_scoreOf_84 ?_
        exact jx_iret C dX1_scoreOf_85 ⟨by rw [sco, if_pos (by omega), scv, if_pos (by omega)], rfl⟩
    · refine jx_if_ne C dX1_scoreOf_29 (by decide) (fun q => absurd q (by decide)) (fun _ => ?_)
      refine jx_iconst C dX1_scoreOf_32 ?_
      exact jx_iret C dX1_scoreOf_33 ⟨by rw [sco, if_neg (by omega)], rfl⟩
  · refine jx_if_eq C dX1_scoreOf_13 (by decide) (fun _ => ?_) (fun q => absurd q (by decide))
    refine jx_iconst C dX1_scoreOf_32 ?_
    exact jx_iret C dX1_scoreOf_33 ⟨by rw [sco, if_neg (by omega)], rfl⟩
set_option maxHeartbeats 4000000 in
set_option maxRecDepth 100000 in
theorem c_X1_keptScore (l : Launch) (G : GT) (μ : Mem) (p : Nat) (hp : p < 4) (i j : Int) (hi : InR i) (hj : InR j) (hR : rng μ) : MI l yX1_keptScore cX1_keptScore 3 .int ({ frames := 1, cells := 0, slots := 0, locals := 22 } : Room) G [.inr (ad G (14 + p)), .inl i, .inl j] μ (rdq μ (kgt (μ (14 + p) 2) (μ (14 + p) 3) (μ (22 + p)) i j)) := by
  refine MI.of (by decide +kernel) (Nat.le_of_ble_eq_true rfl) ?_
  intro F C Yy
  show jX F G 3 0 0 (jE F G (jQi G (rdq μ (kgt (μ (14 + p) 2) (μ (14 + p) 3) (μ (22 + p)) i j)))) 0 [some (.inr (ad G (14 + p))), some (.inl i), some (.inl j)] [] μ
  have r_a := rg_DO_2 hR hp
  have r_b := rg_DO_3 hR hp
  refine jx_aload_n C dX1_keptScore_0 rfl ?_
  refine jx_iload_n C dX1_keptScore_1 rfl ?_
  refine jx_iload_n C dX1_keptScore_2 rfl ?_
  refine jx_cVi (as := [.inl i, .inl j]) (st := []) C Yy (c_X1_has l G μ p (by omega) i j (by omega) (by omega) hR) yb_X1_has yv_X1_has wm_X1_35 (jcl_DO G hp _) rfl (by omega) rfl rfl (Nat.le_of_ble_eq_true rfl) ⟨⟨rfl, rfl, Nat.le_of_ble_eq_true rfl, Nat.le_of_ble_eq_true rfl⟩, Nat.zero_le _, Nat.zero_le _⟩ dX1_keptScore_3 ?_
  rintro _ _ ⟨rfl, ⟨rfl, c_3⟩ | ⟨rfl, c_3⟩⟩
  · refine jx_if_eq C dX1_keptScore_6 (by decide) (fun q => absurd q (by decide)) (fun _ => ?_)
    refine jx_aload_n C dX1_keptScore_9 rfl ?_
    refine jx_get (v := .inr (ad G (22 + p))) C 1 ft_X1 (jcl_DO G hp _) rfl (by decide) (by omega) wf_X1_15 dX1_keptScore_10 ?_
    refine jx_iload_n C dX1_keptScore_13 rfl ?_
    refine jx_bipush C dX1_keptScore_14 (by decide +kernel) ?_
    refine jx_imul C dX1_keptScore_16 ?_
    refine jx_iload_n C dX1_keptScore_17 rfl ?_
    refine jx_iadd C dX1_keptScore_18 ?_
    refine jx_iald C (jcl_sc G hp _) (by omega) (by omega) (by omega) (by decide) dX1_keptScore_19 ?_
    have r_19 := rg_sc hR (p := p) hp ((j * 20 + i).toNat)
    refine jx_goto C dX1_keptScore_20 ?_
    exact jx_iret C dX1_keptScore_24 ⟨kgt_in c_3, rfl⟩
  · refine jx_if_eq C dX1_keptScore_6 (by decide) (fun _ => ?_) (fun q => absurd q (by decide))
    refine jx_iconst C dX1_keptScore_23 ?_
    exact jx_iret C dX1_keptScore_24 ⟨kgt_out c_3, rfl⟩
set_option maxHeartbeats 4000000 in
set_option maxRecDepth 100000 in
theorem c_X1_isPeak (l : Launch) (G : GT) (μ : Mem) (p : Nat) (hp : p < 4) (f : Int → Int → Int) (hf : f = kgt (μ (14 + p) 2) (μ (14 + p) 3) (μ (22 + p))) (i j : Int) (hi : 0 ≤ i ∧ i ≤ 1000) (hj : 0 ≤ j ∧ j ≤ 1000) (hR : rng μ) : MI l yX1_isPeak cX1_isPeak 8 .boolean ({ frames := 2, cells := 0, slots := 0, locals := 44 } : Room) G [.inr (ad G (14 + p)), .inl i, .inl j] μ (rdc μ (pk f i j)) := by
  refine MI.of (by decide +kernel) (Nat.le_of_ble_eq_true rfl) ?_
  intro F C Yy
  show jX F G 8 0 0 (jE F G (jQi G (rdc μ (pk f i j)))) 0 [some (.inr (ad G (14 + p))), some (.inl i), some (.inl j), none, none, none, none, none] [] μ
  refine jx_aload_n C dX1_isPeak_0 rfl ?_
  refine jx_iload_n C dX1_isPeak_1 rfl ?_
  refine jx_iload_n C dX1_isPeak_2 rfl ?_
  refine jx_cVi (as := [.inl i, .inl j]) (st := []) C Yy (c_X1_keptScore l G μ p (by omega) i j (by omega) (by omega) hR) yb_X1_keptScore yv_X1_keptScore wm_X1_60 (jcl_DO G hp _) rfl (by omega) rfl rfl (Nat.le_of_ble_eq_true rfl) ⟨⟨rfl, rfl, Nat.le_of_ble_eq_true rfl, Nat.le_of_ble_eq_true rfl⟩, Nat.zero_le _, Nat.zero_le _⟩ dX1_isPeak_3 ?_
  rintro _ _ ⟨rfl, rfl⟩
  have r_3 := kgt_rng (W := μ (14 + p) 2) (H := μ (14 + p) 3) (v := μ (22 + p)) (fun t => rg_sc hR (p := p) (by omega) t) i j
  rw [← hf] at r_3
  refine jx_top (b := f i j) (by rw [hf]) ?_
  refine jx_istore_n (L' := [some (.inr (ad G (14 + p))), some (.inl i), some (.inl j), some (.inl (f i j)), none, none, none, none]) C dX1_isPeak_6 (by decide) rfl ?_
  refine jx_iload_n C dX1_isPeak_7 rfl ?_
  refine jx_iconst C dX1_isPeak_8 ?_
  refine jx_isub C dX1_isPeak_9 ?_
  refine jx_istore (L' := [some (.inr (ad G (14 + p))), some (.inl i), some (.inl j), some (.inl (f i j)), some (.inl (j - 2)), none, none, none]) C dX1_isPeak_10 (by decide) rfl ?_
  have LP_12 : ∀ (n : Nat) (r : Nat) (row : Int), (r ≤ 5) → (row = j - 2 + (r : Int)) → (∀ k : Nat, k < 5 * r → pkt f i j k) → 6 - r < n → jX F G 8 0 0 (jE F G (jQi G (rdc μ (pk f i j)))) 12 [some (.inr (ad G (14 + p))), some (.inl i), some (.inl j), some (.inl (f i j)), some (.inl row), none, none, none] [] μ := by
    intro n
    induction n with
    | zero =>
      intro r row hr hrow hpk hms
      exact absurd hms (Nat.not_lt_zero _)
    | succ n ih =>
      intro r row hr hrow hpk hms
      have ih_12 := ih
      clear ih
      refine jx_iload C dX1_isPeak_12 rfl ?_
      refine jx_iload_n C dX1_isPeak_14 rfl ?_
      refine jx_iconst C dX1_isPeak_15 ?_
      refine jx_iadd C dX1_isPeak_16 ?_
      refine jx_icmp_gt C dX1_isPeak_17 (by omega) (by omega) (fun c_17 => ?_) (fun c_17 => ?_)
      · refine jx_iconst C dX1_isPeak_99 ?_
        exact jx_zret C dX1_isPeak_100 (Or.inr rfl) ⟨rfl, Or.inl ⟨rfl, by unfold pk; rw [show 25 = 5 * r by omega]; exact hpk⟩⟩
      · refine jx_iload_n C dX1_isPeak_20 rfl ?_
        refine jx_iconst C dX1_isPeak_21 ?_
        refine jx_isub C dX1_isPeak_22 ?_
        refine jx_istore (L' := [some (.inr (ad G (14 + p))), some (.inl i), some (.inl j), some (.inl (f i j)), some (.inl row), some (.inl (i - 2)), none, none]) C dX1_isPeak_23 (by decide) rfl ?_
        have LP_25 : ∀ (n : Nat) (cc : Nat) (col : Int), (cc ≤ 5) → (col = i - 2 + (cc : Int)) → (∀ k : Nat, k < 5 * r + cc → pkt f i j k) → 6 - cc < n → jX F G 8 0 0 (jE F G (jQi G (rdc μ (pk f i j)))) 25 [some (.inr (ad G (14 + p))), some (.inl i), some (.inl j), some (.inl (f i j)), some (.inl row), some (.inl col), none, none] [] μ := by
          intro n
          induction n with
          | zero =>
            intro cc col hcc hcol hpk2 hms
            exact absurd hms (Nat.not_lt_zero _)
          | succ n ih =>
            intro cc col hcc hcol hpk2 hms
            have ih_25 := ih
            clear ih
            refine jx_iload C dX1_isPeak_25 rfl ?_
            refine jx_iload_n C dX1_isPeak_27 rfl ?_
            refine jx_iconst C dX1_isPeak_28 ?_
            refine jx_iadd C dX1_isPeak_29 ?_
            refine jx_icmp_gt C dX1_isPeak_30 (by omega) (by omega) (fun c_30 => ?_) (fun c_30 => ?_)
            · refine jx_iinc (L' := [some (.inr (ad G (14 + p))), some (.inl i), some (.inl j), some (.inl (f i j)), some (.inl (row + 1)), some (.inl col), none, none]) C dX1_isPeak_93 rfl (by decide) rfl ?_
              refine jx_goto C dX1_isPeak_96 ?_
              refine jx_fewer (L' := [some (.inr (ad G (14 + p))), some (.inl i), some (.inl j), some (.inl (f i j)), some (.inl (row + 1)), none, none, none]) (fun i v h => ?_) ?_
              · exact jfew_ok (by simp [jfew]) h
              exact ih_12 (r + 1) (row + 1) (by omega) (by omega) (by rw [show 5 * (r + 1) = 5 * r + cc by omega]; exact hpk2) (by omega)
            · refine jx_aload_n C dX1_isPeak_33 rfl ?_
              refine jx_iload C dX1_isPeak_34 rfl ?_
              refine jx_iload C dX1_isPeak_36 rfl ?_
              refine jx_cVi (as := [.inl col, .inl row]) (st := []) C Yy (c_X1_keptScore l G μ p (by omega) col row (by omega) (by omega) hR) yb_X1_keptScore yv_X1_keptScore wm_X1_60 (jcl_DO G hp _) rfl (by omega) rfl rfl (Nat.le_of_ble_eq_true rfl) ⟨⟨rfl, rfl, Nat.le_of_ble_eq_true rfl, Nat.le_of_ble_eq_true rfl⟩, Nat.zero_le _, Nat.zero_le _⟩ dX1_isPeak_38 ?_
              rintro _ _ ⟨rfl, rfl⟩
              have r_38 := kgt_rng (W := μ (14 + p) 2) (H := μ (14 + p) 3) (v := μ (22 + p)) (fun t => rg_sc hR (p := p) (by omega) t) col row
              rw [← hf] at r_38
              refine jx_top (b := f col row) (by rw [hf]) ?_
              refine jx_istore (L' := [some (.inr (ad G (14 + p))), some (.inl i), some (.inl j), some (.inl (f i j)), some (.inl row), some (.inl col), some (.inl (f col row)), none]) C dX1_isPeak_41 (by decide) rfl ?_
              refine jx_iload C dX1_isPeak_43 rfl ?_
              refine jx_iload_n C dX1_isPeak_45 rfl ?_
              refine jx_icmp_lt C dX1_isPeak_46 (by omega) (by omega) (fun c_46 => ?_) (fun c_46 => ?_)
              · refine jx_iconst C dX1_isPeak_61 ?_
                refine jx_goto C dX1_isPeak_62 ?_
                refine jx_istore (L' := [some (.inr (ad G (14 + p))), some (.inl i), some (.inl j), some (.inl (f i j)), some (.inl row), some (.inl col), some (.inl (f col row)), some (.inl 1)]) C dX1_isPeak_66 (by decide) rfl ?_
                refine jx_iload C dX1_isPeak_68 rfl ?_
                refine jx_iload_n C dX1_isPeak_70 rfl ?_
                refine jx_icmp_gt C dX1_isPeak_71 (by omega) (by omega) (fun c_71 => ?_) (fun c_71 => ?_)
                · refine jx_iconst C dX1_isPeak_85 ?_
                  exact jx_zret C dX1_isPeak_86 (Or.inl rfl) ⟨rfl, Or.inr ⟨rfl, fun g => by
          have g1 := (pkt_at (f := f) hcol hrow (by omega)).mp (g (5 * r + cc) (by omega))
          have g2 := g1.2
          omega⟩⟩
                · refine jx_iload C dX1_isPeak_74 rfl ?_
                  refine jx_if_eq C dX1_isPeak_76 (by decide) (fun q => absurd q (by decide)) (fun _ => ?_)
                  refine jx_iload C dX1_isPeak_79 rfl ?_
                  refine jx_iload_n C dX1_isPeak_81 rfl ?_
                  refine jx_icmp_ne C dX1_isPeak_82 (by omega) (by omega) (fun c_82 => ?_) (fun c_82 => ?_)
                  · refine jx_iinc (L' := [some (.inr (ad G (14 + p))), some (.inl i), some (.inl j), some (.inl (f i j)), some (.inl row), some (.inl (col + 1)), some (.inl (f col row)), some (.inl 1)]) C dX1_isPeak_87 rfl (by decide) rfl ?_
                    refine jx_goto C dX1_isPeak_90 ?_
                    refine jx_fewer (L' := [some (.inr (ad G (14 + p))), some (.inl i), some (.inl j), some (.inl (f i j)), some (.inl row), some (.inl (col + 1)), none, none]) (fun i v h => ?_) ?_
                    · exact jfew_ok (by simp [jfew]) h
                    exact ih_25 (cc + 1) (col + 1) (by omega) (by omega) (jlt_s hpk2 ((pkt_at hcol hrow (by omega)).mpr ⟨by omega, fun g => by omega⟩)) (by omega)
                  · refine jx_iconst C dX1_isPeak_85 ?_
                    exact jx_zret C dX1_isPeak_86 (Or.inl rfl) ⟨rfl, Or.inr ⟨rfl, fun g => by
          have g1 := (pkt_at (f := f) hcol hrow (by omega)).mp (g (5 * r + cc) (by omega))
          have g2 := g1.2
          omega⟩⟩
              · refine jx_iload C dX1_isPeak_49 rfl ?_
                refine jx_iload_n C dX1_isPeak_51 rfl ?_
                refine jx_icmp_ne C dX1_isPeak_52 (by omega) (by omega) (fun c_52 => ?_) (fun c_52 => ?_)
                · refine jx_iconst C dX1_isPeak_65 ?_
                  refine jx_istore (L' := [some (.inr (ad G (14 + p))), some (.inl i), some (.inl j), some (.inl (f i j)), some (.inl row), some (.inl col), some (.inl (f col row)), some (.inl 0)]) C dX1_isPeak_66 (by decide) rfl ?_
                  refine jx_iload C dX1_isPeak_68 rfl ?_
                  refine jx_iload_n C dX1_isPeak_70 rfl ?_
                  refine jx_icmp_gt C dX1_isPeak_71 (by omega) (by omega) (fun c_71 => ?_) (fun c_71 => ?_)
                  · refine jx_iconst C dX1_isPeak_85 ?_
                    exact jx_zret C dX1_isPeak_86 (Or.inl rfl) ⟨rfl, Or.inr ⟨rfl, fun g => by
          have g1 := (pkt_at (f := f) hcol hrow (by omega)).mp (g (5 * r + cc) (by omega))
          have g2 := g1.2
          omega⟩⟩
                  · refine jx_iload C dX1_isPeak_74 rfl ?_
                    refine jx_if_eq C dX1_isPeak_76 (by decide) (fun _ => ?_) (fun q => absurd q (by decide))
                    refine jx_iinc (L' := [some (.inr (ad G (14 + p))), some (.inl i), some (.inl j), some (.inl (f i j)), some (.inl row), some (.inl (col + 1)), some (.inl (f col row)), some (.inl 0)]) C dX1_isPeak_87 rfl (by decide) rfl ?_
                    refine jx_goto C dX1_isPeak_90 ?_
                    refine jx_fewer (L' := [some (.inr (ad G (14 + p))), some (.inl i), some (.inl j), some (.inl (f i j)), some (.inl row), some (.inl (col + 1)), none, none]) (fun i v h => ?_) ?_
                    · exact jfew_ok (by simp [jfew]) h
                    exact ih_25 (cc + 1) (col + 1) (by omega) (by omega) (jlt_s hpk2 ((pkt_at hcol hrow (by omega)).mpr ⟨by omega, fun g => by omega⟩)) (by omega)
                · refine jx_iload C dX1_isPeak_55 rfl ?_
                  refine jx_iload_n C dX1_isPeak_57 rfl ?_
                  refine jx_icmp_ge C dX1_isPeak_58 (by omega) (by omega) (fun c_58 => ?_) (fun c_58 => ?_)
                  · refine jx_iconst C dX1_isPeak_65 ?_
                    refine jx_istore (L' := [some (.inr (ad G (14 + p))), some (.inl i), some (.inl j), some (.inl (f i j)), some (.inl row), some (.inl col), some (.inl (f col row)), some (.inl 0)]) C dX1_isPeak_66 (by decide) rfl ?_
                    refine jx_iload C dX1_isPeak_68 rfl ?_
                    refine jx_iload_n C dX1_isPeak_70 rfl ?_
                    refine jx_icmp_gt C dX1_isPeak_71 (by omega) (by omega) (fun c_71 => ?_) (fun c_71 => ?_)
                    · refine jx_iconst C dX1_isPeak_85 ?_
                      exact jx_zret C dX1_isPeak_86 (Or.inl rfl) ⟨rfl, Or.inr ⟨rfl, fun g => by
          have g1 := (pkt_at (f := f) hcol hrow (by omega)).mp (g (5 * r + cc) (by omega))
          have g2 := g1.2
          omega⟩⟩
                    · refine jx_iload C dX1_isPeak_74 rfl ?_
                      refine jx_if_eq C dX1_isPeak_76 (by decide) (fun _ => ?_) (fun q => absurd q (by decide))
                      refine jx_iinc (L' := [some (.inr (ad G (14 + p))), some (.inl i), some (.inl j), some (.inl (f i j)), some (.inl row), some (.inl (col + 1)), some (.inl (f col row)), some (.inl 0)]) C dX1_isPeak_87 rfl (by decide) rfl ?_
                      refine jx_goto C dX1_isPeak_90 ?_
                      refine jx_fewer (L' := [some (.inr (ad G (14 + p))), some (.inl i), some (.inl j), some (.inl (f i j)), some (.inl row), some (.inl (col + 1)), none, none]) (fun i v h => ?_) ?_
                      · exact jfew_ok (by simp [jfew]) h
                      exact ih_25 (cc + 1) (col + 1) (by omega) (by omega) (jlt_s hpk2 ((pkt_at hcol hrow (by omega)).mpr ⟨by omega, fun g => by omega⟩)) (by omega)
                  · refine jx_iconst C dX1_isPeak_61 ?_
                    refine jx_goto C dX1_isPeak_62 ?_
                    refine jx_istore (L' := [some (.inr (ad G (14 + p))), some (.inl i), some (.inl j), some (.inl (f i j)), some (.inl row), some (.inl col), some (.inl (f col row)), some (.inl 1)]) C dX1_isPeak_66 (by decide) rfl ?_
                    refine jx_iload C dX1_isPeak_68 rfl ?_
                    refine jx_iload_n C dX1_isPeak_70 rfl ?_
                    refine jx_icmp_gt C dX1_isPeak_71 (by omega) (by omega) (fun c_71 => ?_) (fun c_71 => ?_)
                    · refine jx_iconst C dX1_isPeak_85 ?_
                      exact jx_zret C dX1_isPeak_86 (Or.inl rfl) ⟨rfl, Or.inr ⟨rfl, fun g => by
          have g1 := (pkt_at (f := f) hcol hrow (by omega)).mp (g (5 * r + cc) (by omega))
          have g2 := g1.2
          omega⟩⟩
                    · refine jx_iload C dX1_isPeak_74 rfl ?_
                      refine jx_if_eq C dX1_isPeak_76 (by decide) (fun q => absurd q (by decide)) (fun _ => ?_)
                      refine jx_iload C dX1_isPeak_79 rfl ?_
                      refine jx_iload_n C dX1_isPeak_81 rfl ?_
                      refine jx_icmp_ne C dX1_isPeak_82 (by omega) (by omega) (fun c_82 => ?_) (fun c_82 => ?_)
                      · refine jx_iinc (L' := [some (.inr (ad G (14 + p))), some (.inl i), some (.inl j), some (.inl (f i j)), some (.inl row), some (.inl (col + 1)), some (.inl (f col row)), some (.inl 1)]) C dX1_isPeak_87 rfl (by decide) rfl ?_
                        refine jx_goto C dX1_isPeak_90 ?_
                        refine jx_fewer (L' := [some (.inr (ad G (14 + p))), some (.inl i), some (.inl j), some (.inl (f i j)), some (.inl row), some (.inl (col + 1)), none, none]) (fun i v h => ?_) ?_
                        · exact jfew_ok (by simp [jfew]) h
                        exact ih_25 (cc + 1) (col + 1) (by omega) (by omega) (jlt_s hpk2 ((pkt_at hcol hrow (by omega)).mpr ⟨by omega, fun g => by omega⟩)) (by omega)
                      · refine jx_iconst C dX1_isPeak_85 ?_
                        exact jx_zret C dX1_isPeak_86 (Or.inl rfl) ⟨rfl, Or.inr ⟨rfl, fun g => by
          have g1 := (pkt_at (f := f) hcol hrow (by omega)).mp (g (5 * r + cc) (by omega))
          have g2 := g1.2
          omega⟩⟩
        exact LP_25 _ 0 (i - 2) (by omega) (by omega) hpk (Nat.lt_succ_self _)
  exact LP_12 _ 0 (j - 2) (by omega) (by omega) (fun k hk => by omega) (Nat.lt_succ_self _)
set_option maxHeartbeats 4000000 in
set_option maxRecDepth 100000 in
theorem c_X1_signOf (l : Launch) (G : GT) (μ : Mem) (p : Nat) (hp : p < 4) (d : Int → Int → Int) (hd : d = dgt (μ (14 + p) 2) (μ (14 + p) 3) (μ (18 + p))) (i j : Int) (hi : 0 ≤ i ∧ i ≤ 1000) (hj : 0 ≤ j ∧ j ≤ 1000) (hR : rng μ) : MI l yX1_signOf cX1_signOf 7 .int ({ frames := 2, cells := 0, slots := 0, locals := 44 } : Room) G [.inr (ad G (14 + p)), .inl i, .inl j] μ (rdq μ (sgn d i j 12)) := by
  refine MI.of (by decide +kernel) (Nat.le_of_ble_eq_true rfl) ?_
  intro F C Yy
  show jX F G 7 0 0 (jE F G (jQi G (rdq μ (sgn d i j 12)))) 0 [some (.inr (ad G (14 + p))), some (.inl i), some (.inl j), none, none, none, none] [] μ
  refine jx_iconst C dX1_signOf_0 ?_
  refine jx_istore_n (L' := [some (.inr (ad G (14 + p))), some (.inl i), some (.inl j), some (.inl 0), none, none, none]) C dX1_signOf_1 (by decide) rfl ?_
  refine jx_iconst C dX1_signOf_2 ?_
  refine jx_istore (L' := [some (.inr (ad G (14 + p))), some (.inl i), some (.inl j), some (.inl 0), some (.inl 0), none, none]) C dX1_signOf_3 (by decide) rfl ?_
  have LP_5 : ∀ (n : Nat) (m : Nat) (k : Int) (b : Int), (m ≤ 12) → (k = (m : Int)) → (b = sgn d i j m) → 13 - m < n → jX F G 7 0 0 (jE F G (jQi G (rdq μ (sgn d i j 12)))) 5 [some (.inr (ad G (14 + p))), some (.inl i), some (.inl j), some (.inl b), some (.inl k), none, none] [] μ := by
    intro n
    induction n with
    | zero =>
      intro m k b hm hk hb hms
      exact absurd hms (Nat.not_lt_zero _)
    | succ n ih =>
      intro m k b hm hk hb hms
      have ih_5 := ih
      clear ih
      refine jx_iload C dX1_signOf_5 rfl ?_
      refine jx_bipush C dX1_signOf_7 (by decide +kernel) ?_
      refine jx_icmp_ge C dX1_signOf_9 (by omega) (by decide) (fun c_9 => ?_) (fun c_9 => ?_)
      · refine jx_iload_n C dX1_signOf_76 rfl ?_
        exact jx_iret C dX1_signOf_77 ⟨by rw [hb, show m = 12 by omega], rfl⟩
      · refine jx_aload_n C dX1_signOf_12 rfl ?_
        refine jx_iload_n C dX1_signOf_13 rfl ?_
        refine jx_iload C dX1_signOf_14 rfl ?_
        refine jx_iconst C dX1_signOf_16 ?_
        refine jx_irem (z := k % 5) C dX1_signOf_17 (by omega) (by decide) (by decide) (jtm (by omega)) ?_
        refine jx_iadd C dX1_signOf_18 ?_
        refine jx_iconst C dX1_signOf_19 ?_
        refine jx_isub C dX1_signOf_20 ?_
        refine jx_iload_n C dX1_signOf_21 rfl ?_
        refine jx_iload C dX1_signOf_22 rfl ?_
        refine jx_iconst C dX1_signOf_24 ?_
        refine jx_irem (z := k % 3) C dX1_signOf_25 (by omega) (by decide) (by decide) (jtm (by omega)) ?_
        refine jx_iadd C dX1_signOf_26 ?_
        refine jx_iconst C dX1_signOf_27 ?_
        refine jx_isub C dX1_signOf_28 ?_
        refine jx_cVi (as := [.inl (i + k % 5 - 2), .inl (j + k % 3 - 1)]) (st := []) C Yy (c_X1_get l G μ p (by omega) (i + k % 5 - 2) (j + k % 3 - 1) (by omega) (by omega) hR) yb_X1_get yv_X1_get wm_X1_54 (jcl_DO G hp _) rfl (by omega) rfl rfl (Nat.le_of_ble_eq_true rfl) ⟨⟨rfl, rfl, Nat.le_of_ble_eq_true rfl, Nat.le_of_ble_eq_true rfl⟩, Nat.zero_le _, Nat.zero_le _⟩ dX1_signOf_29 ?_
        rintro _ _ ⟨rfl, rfl⟩
        have r_29 := dgt_rng (W := μ (14 + p) 2) (H := μ (14 + p) 3) (v := μ (18 + p)) (fun t => rg_va hR (p := p) (by omega) t) (i + k % 5 - 2) (j + k % 3 - 1)
        rw [← hd] at r_29
        refine jx_top (b := d (i + k % 5 - 2) (j + k % 3 - 1)) (by rw [hd]) ?_
        refine jx_istore (L' := [some (.inr (ad G (14 + p))), some (.inl i), some (.inl j), some (.inl b), some (.inl k), some (.inl (d (i + k % 5 - 2) (j + k % 3 - 1))), none]) C dX1_signOf_32 (by decide) rfl ?_
        refine jx_aload_n C dX1_signOf_34 rfl ?_
        refine jx_iload_n C dX1_signOf_35 rfl ?_
        refine jx_iconst C dX1_signOf_36 ?_
        refine jx_iadd C dX1_signOf_37 ?_
        refine jx_iload C dX1_signOf_38 rfl ?_
        refine jx_iconst C dX1_signOf_40 ?_
        refine jx_irem (z := k % 4) C dX1_signOf_41 (by omega) (by decide) (by decide) (jtm (by omega)) ?_
        refine jx_isub C dX1_signOf_42 ?_
        refine jx_iload_n C dX1_signOf_43 rfl ?_
        refine jx_iload C dX1_signOf_44 rfl ?_
        refine jx_iconst C dX1_signOf_46 ?_
        refine jx_irem (z := k % 5) C dX1_signOf_47 (by omega) (by decide) (by decide) (jtm (by omega)) ?_
        refine jx_iadd C dX1_signOf_48 ?_
        refine jx_iconst C dX1_signOf_49 ?_
        refine jx_isub C dX1_signOf_50 ?_
        refine jx_cVi (as := [.inl (i + 2 - (k % 4)), .inl (j + k % 5 - 2)]) (st := []) C Yy (c_X1_get l G μ p (by omega) (i + 2 - (k % 4)) (j + k % 5 - 2) (by omega) (by omega) hR) yb_X1_get yv_X1_get wm_X1_54 (jcl_DO G hp _) rfl (by omega) rfl rfl (Nat.le_of_ble_eq_true rfl) ⟨⟨rfl, rfl, Nat.le_of_ble_eq_true rfl, Nat.le_of_ble_eq_true rfl⟩, Nat.zero_le _, Nat.zero_le _⟩ dX1_signOf_51 ?_
        rintro _ _ ⟨rfl, rfl⟩
        have r_51 := dgt_rng (W := μ (14 + p) 2) (H := μ (14 + p) 3) (v := μ (18 + p)) (fun t => rg_va hR (p := p) (by omega) t) (i + 2 - (k % 4)) (j + k % 5 - 2)
        rw [← hd] at r_51
        refine jx_top (b := d (i + 2 - k % 4) (j + k % 5 - 2)) (by rw [hd]) ?_
        refine jx_istore (L' := [some (.inr (ad G (14 + p))), some (.inl i), some (.inl j), some (.inl b), some (.inl k), some (.inl (d (i + k % 5 - 2) (j + k % 3 - 1))), some (.inl (d (i + 2 - k % 4) (j + k % 5 - 2)))]) C dX1_signOf_54 (by decide) rfl ?_
        refine jx_iload C dX1_signOf_56 rfl ?_
        refine jx_iload C dX1_signOf_58 rfl ?_
        refine jx_icmp_ge C dX1_signOf_60 (by omega) (by omega) (fun c_60 => ?_) (fun c_60 => ?_)
        · refine jx_iinc (L' := [some (.inr (ad G (14 + p))), some (.inl i), some (.inl j), some (.inl b), some (.inl (k + 1)), some (.inl (d (i + k % 5 - 2) (j + k % 3 - 1))), some (.inl (d (i + 2 - k % 4) (j + k % 5 - 2)))]) C dX1_signOf_70 rfl (by decide) rfl ?_
          refine jx_goto C dX1_signOf_73 ?_
          refine jx_fewer (L' := [some (.inr (ad G (14 + p))), some (.inl i), some (.inl j), some (.inl b), some (.inl (k + 1)), none, none]) (fun i v h => ?_) ?_
          · exact jfew_ok (by simp [jfew]) h
          exact ih_5 (m + 1) (k + 1) b (by omega) (by omega) (by subst hk; rw [sgn, if_neg (by omega), hb]) (by omega)
        · refine jx_iload_n C dX1_signOf_63 rfl ?_
          refine jx_iconst C dX1_signOf_64 ?_
          refine jx_iload C dX1_signOf_65 rfl ?_
          refine jx_ishl C dX1_signOf_67 ?_
          refine jx_ior C dX1_signOf_68 ?_
          refine jx_istore_n (L' := [some (.inr (ad G (14 + p))), some (.inl i), some (.inl j), some (.inl (zor b (zshl 1 k))), some (.inl k), some (.inl (d (i + k % 5 - 2) (j + k % 3 - 1))), some (.inl (d (i + 2 - k % 4) (j + k % 5 - 2)))]) C dX1_signOf_69 (by decide) rfl ?_
          refine jx_iinc (L' := [some (.inr (ad G (14 + p))), some (.inl i), some (.inl j), some (.inl (zor b (zshl 1 k))), some (.inl (k + 1)), some (.inl (d (i + k % 5 - 2) (j + k % 3 - 1))), some (.inl (d (i + 2 - k % 4) (j + k % 5 - 2)))]) C dX1_signOf_70 rfl (by decide) rfl ?_
          refine jx_goto C dX1_signOf_73 ?_
          refine jx_fewer (L' := [some (.inr (ad G (14 + p))), some (.inl i), some (.inl j), some (.inl (zor b (zshl 1 k))), some (.inl (k + 1)), none, none]) (fun i v h => ?_) ?_
          · exact jfew_ok (by simp [jfew]) h
          exact ih_5 (m + 1) (k + 1) (zor b (zshl 1 k)) (by omega) (by omega) (by subst hk; rw [sgn, if_pos (by omega), hb]) (by omega)
  exact LP_5 _ 0 0 0 (by omega) (by omega) rfl (Nat.lt_succ_self _)
