set_option maxHeartbeats 4000000 in
set_option maxRecDepth 100000 in
theorem c_X8_within (l : Launch) (G : GT) (μ : Mem) (a b c : Int) (ha : InR a) (hb : InR b) (hc : InR c) : MI l yX8_within cX8_within 3 .boolean ({ frames := 0, cells := 0, slots := 0, locals := 0 } : Room) G [.inl a, .inl b, .inl c] μ (rdb μ (b ≤ a ∧ a ≤ c)) := by
  refine MI.of (by decide +kernel) (Nat.le_of_ble_eq_true rfl) ?_
  intro F C Y
  show jX F G 3 0 0 (jE F G (jQi G (rdb μ (b ≤ a ∧ a ≤ c)))) 0 [some (.inl a), some (.inl b), some (.inl c)] [] μ
  refine jx_iload_n C dX8_within_0 rfl ?_
  refine jx_iload_n C dX8_within_1 rfl ?_
  refine jx_icmp_lt C dX8_within_2 (by omega) (by omega) (fun c_2 => ?_) (fun c_2 => ?_)
  · refine jx_iconst C dX8_within_14 ?_
    exact jx_zret C dX8_within_15 (Or.inl rfl) ⟨rfl, Or.inr ⟨rfl, by omega⟩⟩
  · refine jx_iload_n C dX8_within_5 rfl ?_
    refine jx_iload_n C dX8_within_6 rfl ?_
    refine jx_icmp_gt C dX8_within_7 (by omega) (by omega) (fun c_7 => ?_) (fun c_7 => ?_)
    · refine jx_iconst C dX8_within_14 ?_
      exact jx_zret C dX8_within_15 (Or.inl rfl) ⟨rfl, Or.inr ⟨rfl, by omega⟩⟩
    · refine jx_iconst C dX8_within_10 ?_
      refine jx_goto C dX8_within_11 ?_
      exact jx_zret C dX8_within_15 (Or.inr rfl) ⟨rfl, Or.inl ⟨rfl, by omega⟩⟩
set_option maxHeartbeats 4000000 in
set_option maxRecDepth 100000 in
theorem c_X1_has (l : Launch) (G : GT) (μ : Mem) (p : Nat) (hp : p < 4) (i j : Int) (hi : InR i) (hj : InR j) (hR : rng μ) : MI l yX1_has cX1_has 3 .boolean ({ frames := 0, cells := 0, slots := 0, locals := 0 } : Room) G [.inr (ad G (14 + p)), .inl i, .inl j] μ (rdb μ (0 ≤ i ∧ i < μ (14 + p) 2 ∧ 0 ≤ j ∧ j < μ (14 + p) 3)) := by
  refine MI.of (by decide +kernel) (Nat.le_of_ble_eq_true rfl) ?_
  intro F C Y
  show jX F G 3 0 0 (jE F G (jQi G (rdb μ (0 ≤ i ∧ i < μ (14 + p) 2 ∧ 0 ≤ j ∧ j < μ (14 + p) 3)))) 0 [some (.inr (ad G (14 + p))), some (.inl i), some (.inl j)] [] μ
  refine jx_iload_n C dX1_has_0 rfl ?_
  refine jx_if_lt C dX1_has_1 (by omega) (fun c_1 => ?_) (fun c_1 => ?_)
  · refine jx_iconst C dX1_has_28 ?_
    exact jx_zret C dX1_has_29 (Or.inl rfl) ⟨rfl, Or.inr ⟨rfl, by omega⟩⟩
  · refine jx_iload_n C dX1_has_4 rfl ?_
    refine jx_aload_n C dX1_has_5 rfl ?_
    refine jx_get (v := .inl (μ (14 + p) 2)) C 2 ft_X1 (jcl_DO G hp _) rfl (by decide) (by omega) wf_X1_24 dX1_has_6 ?_
    have r_6 := rg_DO_2 hR hp
    refine jx_icmp_ge C dX1_has_9 (by omega) (by omega) (fun c_9 => ?_) (fun c_9 => ?_)
    · refine jx_iconst C dX1_has_28 ?_
      exact jx_zret C dX1_has_29 (Or.inl rfl) ⟨rfl, Or.inr ⟨rfl, by omega⟩⟩
    · refine jx_iload_n C dX1_has_12 rfl ?_
      refine jx_if_lt C dX1_has_13 (by omega) (fun c_13 => ?_) (fun c_13 => ?_)
      · refine jx_iconst C dX1_has_28 ?_
        exact jx_zret C dX1_has_29 (Or.inl rfl) ⟨rfl, Or.inr ⟨rfl, by omega⟩⟩
      · refine jx_iload_n C dX1_has_16 rfl ?_
        refine jx_aload_n C dX1_has_17 rfl ?_
        refine jx_get (v := .inl (μ (14 + p) 3)) C 3 ft_X1 (jcl_DO G hp _) rfl (by decide) (by omega) wf_X1_28 dX1_has_18 ?_
        have r_18 := rg_DO_3 hR hp
        refine jx_icmp_ge C dX1_has_21 (by omega) (by omega) (fun c_21 => ?_) (fun c_21 => ?_)
        · refine jx_iconst C dX1_has_28 ?_
          exact jx_zret C dX1_has_29 (Or.inl rfl) ⟨rfl, Or.inr ⟨rfl, by omega⟩⟩
        · refine jx_iconst C dX1_has_24 ?_
          refine jx_goto C dX1_has_25 ?_
          exact jx_zret C dX1_has_29 (Or.inr rfl) ⟨rfl, Or.inl ⟨rfl, by omega⟩⟩
set_option maxHeartbeats 4000000 in
set_option maxRecDepth 100000 in
theorem c_X1_get (l : Launch) (G : GT) (μ : Mem) (p : Nat) (hp : p < 4) (i j : Int) (hi : InR i) (hj : InR j) (hR : rng μ) : MI l yX1_get cX1_get 3 .int ({ frames := 1, cells := 0, slots := 0, locals := 22 } : Room) G [.inr (ad G (14 + p)), .inl i, .inl j] μ (rdr μ (dgt (μ (14 + p) 2) (μ (14 + p) 3) (μ (18 + p)) i j)) := by
  refine MI.of (by decide +kernel) (Nat.le_of_ble_eq_true rfl) ?_
  intro F C Y
  show jX F G 3 0 0 (jE F G (jQi G (rdr μ (dgt (μ (14 + p) 2) (μ (14 + p) 3) (μ (18 + p)) i j)))) 0 [some (.inr (ad G (14 + p))), some (.inl i), some (.inl j)] [] μ
  have r_a := rg_DO_2 hR hp
  have r_b := rg_DO_3 hR hp
  refine jx_aload_n C dX1_get_0 rfl ?_
  refine jx_iload_n C dX1_get_1 rfl ?_
  refine jx_iload_n C dX1_get_2 rfl ?_
  refine jx_cVi (as := [.inl i, .inl j]) (st := []) C Y (c_X1_has l G μ p (by omega) i j (by omega) (by omega) hR) yb_X1_has yv_X1_has wm_X1_35 (jcl_DO G hp _) rfl (by omega) rfl rfl (Nat.le_of_ble_eq_true rfl) ⟨⟨rfl, rfl, Nat.le_of_ble_eq_true rfl, Nat.le_of_ble_eq_true rfl⟩, Nat.zero_le _, Nat.zero_le _⟩ dX1_get_3 ?_
  rintro _ _ ⟨rfl, ⟨rfl, c_3⟩ | ⟨rfl, c_3⟩⟩
  · refine jx_if_eq C dX1_get_6 (by decide) (fun q => absurd q (by decide)) (fun _ => ?_)
    refine jx_aload_n C dX1_get_9 rfl ?_
    refine jx_get (v := .inr (ad G (18 + p))) C 0 ft_X1 (jcl_DO G hp _) rfl (by decide) (by omega) wf_X1_9 dX1_get_10 ?_
    refine jx_iload_n C dX1_get_13 rfl ?_
    refine jx_bipush C dX1_get_14 (by decide +kernel) ?_
    refine jx_imul C dX1_get_16 ?_
    refine jx_iload_n C dX1_get_17 rfl ?_
    refine jx_iadd C dX1_get_18 ?_
    refine jx_iald C (jcl_va G hp _) (by omega) (by omega) (by omega) (by decide) dX1_get_19 ?_
    have r_19 := rg_va hR hp ((j * 20 + i).toNat)
    refine jx_goto C dX1_get_20 ?_
    exact jx_iret C dX1_get_24 ⟨(dgt_in c_3).symm, rfl⟩
  · refine jx_if_eq C dX1_get_6 (by decide) (fun _ => ?_) (fun q => absurd q (by decide))
    refine jx_iconst C dX1_get_23 ?_
    exact jx_iret C dX1_get_24 ⟨(dgt_out c_3).symm, rfl⟩
