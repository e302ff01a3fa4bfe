set_option maxHeartbeats 4000000 in
set_option maxRecDepth 100000 in
theorem c_X9_in (l : Launch) (G : GT) (μ : Mem) (a b c : Int) (ha : InR a) (hb : InR b) (hc : InR c) : MI l yX9_in cX9_in 3 .boolean ({ frames := 0, cells := 0, slots := 0, locals := 0 } : Room) G [.inl a, .inl b, .inl c] μ (rdc μ (b ≤ a ∧ a ≤ c)) := by
  refine MI.of (by decide +kernel) (Nat.le_of_ble_eq_true rfl) ?_
  intro F C Yy
  show jX F G 3 0 0 (jE F G (jQi G (rdc μ (b ≤ a ∧ a ≤ c)))) 0 [some (.inl a), some (.inl b), some (.inl c)] [] μ
  refine jx_iload_n C dX9_in_0 rfl ?_
  refine jx_iload_n C dX9_in_1 rfl ?_
  refine jx_icmp_lt C dX9_in_2 (by omega) (by omega) (fun c_2 => ?_) (fun c_2 => ?_)
  · refine jx_iconst C dX9_in_14 ?_
    exact jx_zret C dX9_in_15 (Or.inl rfl) ⟨rfl, Or.inr ⟨rfl, by omega⟩⟩
  · refine jx_iload_n C dX9_in_5 rfl ?_
    refine jx_iload_n C dX9_in_6 rfl ?_
    refine jx_icmp_gt C dX9_in_7 (by omega) (by omega) (fun c_7 => ?_) (fun c_7 => ?_)
    · refine jx_iconst C dX9_in_14 ?_
      exact jx_zret C dX9_in_15 (Or.inl rfl) ⟨rfl, Or.inr ⟨rfl, by omega⟩⟩
    · refine jx_iconst C dX9_in_10 ?_
      refine jx_goto C dX9_in_11 ?_
      exact jx_zret C dX9_in_15 (Or.inr rfl) ⟨rfl, Or.inl ⟨rfl, by omega⟩⟩
set_option maxHeartbeats 4000000 in
set_option maxRecDepth 100000 in
theorem c_X9_lightAt (l : Launch) (G : GT) (μ : Mem) (x y : Int) (hx : 0 ≤ x ∧ x ≤ 100000) (hy : 0 ≤ y ∧ y ≤ 100000) (hR : rng μ) : MI l yX9_lightAt cX9_lightAt 4 .int ({ frames := 0, cells := 0, slots := 0, locals := 0 } : Room) G [.inr (ad G 78), .inl x, .inl y] μ (rdq μ (lgt (μ 78 0) x y)) := by
  refine MI.of (by decide +kernel) (Nat.le_of_ble_eq_true rfl) ?_
  intro F C Yy
  show jX F G 4 0 0 (jE F G (jQi G (rdq μ (lgt (μ 78 0) x y)))) 0 [some (.inr (ad G 78)), some (.inl x), some (.inl y), none] [] μ
  refine jx_iload_n C dX9_lightAt_0 rfl ?_
  refine jx_iconst C dX9_lightAt_1 ?_
  refine jx_idiv (z := x / 3) C dX9_lightAt_2 (by omega) (by decide) (by decide) (jtd (by omega)) ?_
  refine jx_ldc C dX9_lightAt_3 wk_X9_78 (z := 73856093) (by decide +kernel) ?_
  refine jx_imul C dX9_lightAt_5 ?_
  refine jx_iload_n C dX9_lightAt_6 rfl ?_
  refine jx_iconst C dX9_lightAt_7 ?_
  refine jx_idiv (z := y / 3) C dX9_lightAt_8 (by omega) (by decide) (by decide) (jtd (by omega)) ?_
  refine jx_ldc C dX9_lightAt_9 wk_X9_79 (z := 19349663) (by decide +kernel) ?_
  refine jx_imul C dX9_lightAt_11 ?_
  refine jx_iadd C dX9_lightAt_12 ?_
  refine jx_aload_n C dX9_lightAt_13 rfl ?_
  refine jx_get (v := .inl (μ 78 0)) C 0 ft_X9 (jcl_MO G _) rfl (by decide) (by decide) wf_X9_75 dX9_lightAt_14 ?_
  have r_14 := rg_MO_0 hR
  refine jx_ldc C dX9_lightAt_17 wk_X9_80 (z := 83492791) (by decide +kernel) ?_
  refine jx_imul C dX9_lightAt_19 ?_
  refine jx_iadd C dX9_lightAt_20 ?_
  refine jx_top (b := lg0 (μ 78 0) x y) rfl ?_
  refine jx_istore_n (L' := [some (.inr (ad G 78)), some (.inl x), some (.inl y), some (.inl (lg0 (μ 78 0) x y))]) C dX9_lightAt_21 (by decide) rfl ?_
  refine jx_iload_n C dX9_lightAt_22 rfl ?_
  refine jx_iload_n C dX9_lightAt_23 rfl ?_
  refine jx_bipush C dX9_lightAt_24 (by decide +kernel) ?_
  refine jx_iushr C dX9_lightAt_26 ?_
  refine jx_ixor C dX9_lightAt_27 ?_
  refine jx_ldc C dX9_lightAt_28 wk_X9_81 (z := 739982445) (by decide +kernel) ?_
  refine jx_imul C dX9_lightAt_30 ?_
  refine jx_top (b := lgm (lg0 (μ 78 0) x y)) rfl ?_
  refine jx_istore_n (L' := [some (.inr (ad G 78)), some (.inl x), some (.inl y), some (.inl (lgm (lg0 (μ 78 0) x y)))]) C dX9_lightAt_31 (by decide) rfl ?_
  refine jx_iload_n C dX9_lightAt_32 rfl ?_
  refine jx_iload_n C dX9_lightAt_33 rfl ?_
  refine jx_bipush C dX9_lightAt_34 (by decide +kernel) ?_
  refine jx_iushr C dX9_lightAt_36 ?_
  refine jx_ixor C dX9_lightAt_37 ?_
  refine jx_ldc C dX9_lightAt_38 wk_X9_81 (z := 739982445) (by decide +kernel) ?_
  refine jx_imul C dX9_lightAt_40 ?_
  refine jx_top (b := lgm (lgm (lg0 (μ 78 0) x y))) rfl ?_
  refine jx_istore_n (L' := [some (.inr (ad G 78)), some (.inl x), some (.inl y), some (.inl (lgm (lgm (lg0 (μ 78 0) x y))))]) C dX9_lightAt_41 (by decide) rfl ?_
  refine jx_iload_n C dX9_lightAt_42 rfl ?_
  refine jx_bipush C dX9_lightAt_43 (by decide +kernel) ?_
  refine jx_iushr C dX9_lightAt_45 ?_
  refine jx_sipush C dX9_lightAt_46 (by decide +kernel) ?_
  refine jx_iand C dX9_lightAt_49 ?_
  exact jx_iret C dX9_lightAt_50 ⟨by rfl, rfl⟩
set_option maxHeartbeats 4000000 in
set_option maxRecDepth 100000 in
theorem c_X9_dotAt (l : Launch) (G : GT) (μ : Mem) (pi i j : Int) (hix : 0 ≤ 400 * pi + 20 * j + i ∧ 400 * pi + 20 * j + i < 1600) (hR : rng μ) : MI l yX9_dotAt cX9_dotAt 4 .int ({ frames := 0, cells := 0, slots := 0, locals := 0 } : Room) G [.inr (ad G 78), .inl pi, .inl i, .inl j] μ (rdq μ (μ 81 (400 * pi + 20 * j + i).toNat)) := by
  refine MI.of (by decide +kernel) (Nat.le_of_ble_eq_true rfl) ?_
  intro F C Yy
  show jX F G 4 0 0 (jE F G (jQi G (rdq μ (μ 81 (400 * pi + 20 * j + i).toNat)))) 0 [some (.inr (ad G 78)), some (.inl pi), some (.inl i), some (.inl j)] [] μ
  refine jx_aload_n C dX9_dotAt_0 rfl ?_
  refine jx_get (v := .inr (ad G 81)) C 4 ft_X9 (jcl_MO G _) rfl (by decide) (by decide) wf_X9_16 dX9_dotAt_1 ?_
  refine jx_sipush C dX9_dotAt_4 (by decide +kernel) ?_
  refine jx_iload_n C dX9_dotAt_7 rfl ?_
  refine jx_imul C dX9_dotAt_8 ?_
  refine jx_bipush C dX9_dotAt_9 (by decide +kernel) ?_
  refine jx_iload_n C dX9_dotAt_11 rfl ?_
  refine jx_imul C dX9_dotAt_12 ?_
  refine jx_iadd C dX9_dotAt_13 ?_
  refine jx_iload_n C dX9_dotAt_14 rfl ?_
  refine jx_iadd C dX9_dotAt_15 ?_
  refine jx_iald C (jcl_81 G _) (by decide) (by omega) (by omega) (by decide) dX9_dotAt_16 ?_
  have r_16 := rg_81 hR ((400 * pi + 20 * j + i).toNat)
  exact jx_iret C dX9_dotAt_17 ⟨by rfl, rfl⟩
set_option maxHeartbeats 4000000 in
set_option maxRecDepth 100000 in
theorem c_X9_scoreOf (l : Launch) (G : GT) (μ : Mem) (p : Nat) (hp : p < 4) (pi : Int) (hpi : pi = (p : Int)) (d : Int → Int → Int) (hd : d = dgt (μ 79 p) (μ 80 p) (mvv μ p)) (i j : Int) (hi : InR i) (hj : InR j) (hR : rng μ) : MI l yX9_scoreOf cX9_scoreOf 14 .int ({ frames := 1, cells := 0, slots := 0, locals := 23 } : Room) G [.inr (ad G 78), .inl pi, .inl i, .inl j] μ (rdq μ (sco (μ 79 p) (μ 80 p) d i j)) := by
  refine MI.of (by decide +kernel) (Nat.le_of_ble_eq_true rfl) ?_
  intro F C Yy
  show jX F G 14 0 0 (jE F G (jQi G (rdq μ (sco (μ 79 p) (μ 80 p) d i j)))) 0 [some (.inr (ad G 78)), some (.inl pi), some (.inl i), some (.inl j), none, none, none, none, none, none, none, none, none, none] [] μ
  have hpt : pi.toNat = p := by omega
  have r_w := rg_79 hR p
  have r_h := rg_80 hR p
  have hdr : ∀ x y, -1 ≤ d x y ∧ d x y ≤ 255 := fun x y => by rw [hd]; exact md_rng hR p x y
  have v_0 := chv_rng hdr i j 0
  have v_1 := chv_rng hdr i j 1
  have v_2 := chv_rng hdr i j 2
  have v_3 := chv_rng hdr i j 3
  refine jx_iload_n C dX9_scoreOf_0 rfl ?_
  refine jx_iconst C dX9_scoreOf_1 ?_
  refine jx_aload_n C dX9_scoreOf_2 rfl ?_
  refine jx_get (v := .inr (ad G 79)) C 2 ft_X9 (jcl_MO G _) rfl (by decide) (by decide) wf_X9_7 dX9_scoreOf_3 ?_
  refine jx_iload_n C dX9_scoreOf_6 rfl ?_
  refine jx_iald C (jcl_79 G _) (by decide) (by omega) (by omega) (by decide) dX9_scoreOf_7 ?_
  have r_7 := rg_79 hR pi.toNat
  refine jx_top (b := μ 79 p) (by rw [hpt]) ?_
  refine jx_iconst C dX9_scoreOf_8 ?_
  refine jx_isub C dX9_scoreOf_9 ?_
  refine jx_cSi (as := [.inl i, .inl 3, .inl (μ 79 p - 4)]) (st := []) C Yy (c_X9_in l G μ i 3 (μ 79 p - 4) (by omega) (by omega) (by omega)) yb_X9_in ws_X9_in wm_X9_71 rfl rfl (Nat.le_of_ble_eq_true rfl) ⟨⟨rfl, rfl, Nat.le_of_ble_eq_true rfl, Nat.le_of_ble_eq_true rfl⟩, Nat.zero_le _, Nat.zero_le _⟩ dX9_scoreOf_10 ?_
  rintro _ _ ⟨rfl, ⟨rfl, c_10⟩ | ⟨rfl, c_10⟩⟩
  · refine jx_if_eq C dX9_scoreOf_13 (by decide) (fun q => absurd q (by decide)) (fun _ => ?_)
    refine jx_iload_n C dX9_scoreOf_16 rfl ?_
    refine jx_iconst C dX9_scoreOf_17 ?_
    refine jx_aload_n C dX9_scoreOf_18 rfl ?_
    refine jx_get (v := .inr (ad G 80)) C 3 ft_X9 (jcl_MO G _) rfl (by decide) (by decide) wf_X9_13 dX9_scoreOf_19 ?_
    refine jx_iload_n C dX9_scoreOf_22 rfl ?_
    refine jx_iald C (jcl_80 G _) (by decide) (by omega) (by omega) (by decide) dX9_scoreOf_23 ?_
    have r_23 := rg_80 hR pi.toNat
    refine jx_top (b := μ 80 p) (by rw [hpt]) ?_
    refine jx_iconst C dX9_scoreOf_24 ?_
    refine jx_isub C dX9_scoreOf_25 ?_
    refine jx_cSi (as := [.inl j, .inl 3, .inl (μ 80 p - 4)]) (st := []) C Yy (c_X9_in l G μ j 3 (μ 80 p - 4) (by omega) (by omega) (by omega)) yb_X9_in ws_X9_in wm_X9_71 rfl rfl (Nat.le_of_ble_eq_true rfl) ⟨⟨rfl, rfl, Nat.le_of_ble_eq_true rfl, Nat.le_of_ble_eq_true rfl⟩, Nat.zero_le _, Nat.zero_le _⟩ dX9_scoreOf_26 ?_
    rintro _ _ ⟨rfl, ⟨rfl, c_26⟩ | ⟨rfl, c_26⟩⟩
    · refine jx_if_ne C dX9_scoreOf_29 (by decide) (fun _ => ?_) (fun q => absurd q (by decide))
      refine jx_iconst C dX9_scoreOf_34 ?_
      refine jx_istore (L' := [some (.inr (ad G 78)), some (.inl pi), some (.inl i), some (.inl j), some (.inl (-1)), none, none, none, none, none, none, none, none, none]) C dX9_scoreOf_35 (by decide) rfl ?_
      refine jx_iconst C dX9_scoreOf_37 ?_
      refine jx_istore (L' := [some (.inr (ad G 78)), some (.inl pi), some (.inl i), some (.inl j), some (.inl (-1)), some (.inl 0), none, none, none, none, none, none, none, none]) C dX9_scoreOf_38 (by decide) rfl ?_
      refine jx_iload C dX9_scoreOf_40 rfl ?_
      refine jx_iconst C dX9_scoreOf_42 ?_
      refine jx_icmp_ge C dX9_scoreOf_43 (by decide) (by decide) (fun q => absurd q (by decide)) (fun _ => ?_)
      refine jx_iload C dX9_scoreOf_46 rfl ?_
      refine jx_iconst C dX9_scoreOf_48 ?_
      refine jx_icmp_ne C dX9_scoreOf_49 (by decide) (by decide) (fun _ => ?_) (fun q => absurd q (by decide))
      refine jx_iconst C dX9_scoreOf_56 ?_
      refine jx_istore (L' := [some (.inr (ad G 78)), some (.inl pi), some (.inl i), some (.inl j), some (.inl (-1)), some (.inl 0), some (.inl 1), none, none, none, none, none, none, none]) C dX9_scoreOf_57 (by decide) rfl ?_
      refine jx_iload C dX9_scoreOf_59 rfl ?_
      refine jx_if_ne C dX9_scoreOf_61 (by decide) (fun q => absurd q (by decide)) (fun _ => ?_)
      refine jx_iconst C dX9_scoreOf_64 ?_
      refine jx_goto C dX9_scoreOf_65 ?_
      refine jx_istore (L' := [some (.inr (ad G 78)), some (.inl pi), some (.inl i), some (.inl j), some (.inl (-1)), some (.inl 0), some (.inl 1), some (.inl 0), none, none, none, none, none, none]) C dX9_scoreOf_79 (by decide) rfl ?_
      refine jx_lo (L' := [some (.inr (ad G 78)), some (.inl pi), some (.inl i), some (.inl j), some (.inl (-1)), some (.inl 0), some (.inl (wayx 0)), some (.inl (wayy 0)), none, none, none, none, none, none]) rfl ?_
      refine jx_iconst C dX9_scoreOf_81 ?_
      refine jx_istore (L' := [some (.inr (ad G 78)), some (.inl pi), some (.inl i), some (.inl j), some (.inl (-1)), some (.inl 0), some (.inl (wayx 0)), some (.inl (wayy 0)), some (.inl 0), none, none, none, none, none]) C dX9_scoreOf_82 (by decide) rfl ?_
      refine jx_iconst C dX9_scoreOf_84 ?_
      refine jx_istore (L' := [some (.inr (ad G 78)), some (.inl pi), some (.inl i), some (.inl j), some (.inl (-1)), some (.inl 0), some (.inl (wayx 0)), some (.inl (wayy 0)), some (.inl 0), some (.inl 0), none, none, none, none]) C dX9_scoreOf_85 (by decide) rfl ?_
      have LP_87 : ∀ (n : Nat) (k : Nat) (k9 : Int) (s8 : Int), (k9 = (k : Int)) → (k ≤ 9) → (s8 = chs d i j (wayx 0) (wayy 0) k) → (chs d i j (wayx 0) (wayy 0) k ≠ -1) → 10 - k < n → jX F G 14 0 0 (jE F G (jQi G (rdq μ (sco (μ 79 p) (μ 80 p) d i j)))) 87 [some (.inr (ad G 78)), some (.inl pi), some (.inl i), some (.inl j), some (.inl (-1)), some (.inl 0), some (.inl (wayx 0)), some (.inl (wayy 0)), some (.inl s8), some (.inl k9), none, none, none, none] [] μ := by
        intro n
        induction n with
        | zero =>
          intro k k9 s8 hk9 hk hs8 hne8 hms
          exact absurd hms (Nat.not_lt_zero _)
        | succ n ih =>
          intro k k9 s8 hk9 hk hs8 hne8 hms
          have ih_87 := ih
          clear ih
          have hcr := chs_rng hdr i j (wayx 0) (wayy 0) k
          refine jx_iload C dX9_scoreOf_87 rfl ?_
          refine jx_bipush C dX9_scoreOf_89 (by decide +kernel) ?_
          refine jx_icmp_ge C dX9_scoreOf_91 (by omega) (by decide) (fun c_91 => ?_) (fun c_91 => ?_)
          · have hs9 : s8 = chv d i j 0 := by rw [hs8, show k = 9 by omega]; rfl
            have hn9 : chv d i j 0 ≠ -1 := by rw [show k = 9 by omega] at hne8; exact hne8
            refine jx_lo (L' := [some (.inr (ad G 78)), some (.inl pi), some (.inl i), some (.inl j), some (.inl (-1)), some (.inl 0), some (.inl (wayx 0)), some (.inl (wayy 0)), some (.inl (chv d i j 0)), some (.inl k9), none, none, none, none]) (by rw [hs9]) ?_
            refine jx_iload C dX9_scoreOf_176 rfl ?_
            refine jx_if_lt C dX9_scoreOf_178 (by decide) (fun _ => ?_) (fun q => absurd q (by decide))
            refine jx_iload C dX9_scoreOf_188 rfl ?_
            refine jx_goto C dX9_scoreOf_190 ?_
            refine jx_istore (L' := [some (.inr (ad G 78)), some (.inl pi), some (.inl i), some (.inl j), some (.inl (chv d i j 0)), some (.inl 0), some (.inl (wayx 0)), some (.inl (wayy 0)), some (.inl (chv d i j 0)), some (.inl k9), none, none, none, none]) C dX9_scoreOf_195 (by decide) rfl ?_
            refine jx_iinc (L' := [some (.inr (ad G 78)), some (.inl pi), some (.inl i), some (.inl j), some (.inl (chv d i j 0)), some (.inl 1), some (.inl (wayx 0)), some (.inl (wayy 0)), some (.inl (chv d i j 0)), some (.inl k9), none, none, none, none]) C dX9_scoreOf_197 rfl (by decide) rfl ?_
            refine jx_goto C dX9_scoreOf_200 ?_
            refine jx_iload C dX9_scoreOf_40 rfl ?_
            refine jx_iconst C dX9_scoreOf_42 ?_
            refine jx_icmp_ge C dX9_scoreOf_43 (by decide) (by decide) (fun q => absurd q (by decide)) (fun _ => ?_)
            refine jx_iload C dX9_scoreOf_46 rfl ?_
            refine jx_iconst C dX9_scoreOf_48 ?_
            refine jx_icmp_ne C dX9_scoreOf_49 (by decide) (by decide) (fun q => absurd q (by decide)) (fun _ => ?_)
            refine jx_iconst C dX9_scoreOf_52 ?_
            refine jx_goto C dX9_scoreOf_53 ?_
            refine jx_istore (L' := [some (.inr (ad G 78)), some (.inl pi), some (.inl i), some (.inl j), some (.inl (chv d i j 0)), some (.inl 1), some (.inl 0), some (.inl (wayy 0)), some (.inl (chv d i j 0)), some (.inl k9), none, none, none, none]) C dX9_scoreOf_57 (by decide) rfl ?_
            refine jx_iload C dX9_scoreOf_59 rfl ?_
            refine jx_if_ne C dX9_scoreOf_61 (by decide) (fun _ => ?_) (fun q => absurd q (by decide))
            refine jx_iload C dX9_scoreOf_68 rfl ?_
            refine jx_iconst C dX9_scoreOf_70 ?_
            refine jx_icmp_ne C dX9_scoreOf_71 (by decide) (by decide) (fun _ => ?_) (fun q => absurd q (by decide))
            refine jx_iconst C dX9_scoreOf_78 ?_
            refine jx_istore (L' := [some (.inr (ad G 78)), some (.inl pi), some (.inl i), some (.inl j), some (.inl (chv d i j 0)), some (.inl 1), some (.inl 0), some (.inl 1), some (.inl (chv d i j 0)), some (.inl k9), none, none, none, none]) C dX9_scoreOf_79 (by decide) rfl ?_
            refine jx_lo (L' := [some (.inr (ad G 78)), some (.inl pi), some (.inl i), some (.inl j), some (.inl (chv d i j 0)), some (.inl 1), some (.inl (wayx 1)), some (.inl (wayy 1)), some (.inl (chv d i j 0)), some (.inl k9), none, none, none, none]) rfl ?_
            refine jx_iconst C dX9_scoreOf_81 ?_
            refine jx_istore (L' := [some (.inr (ad G 78)), some (.inl pi), some (.inl i), some (.inl j), some (.inl (chv d i j 0)), some (.inl 1), some (.inl (wayx 1)), some (.inl (wayy 1)), some (.inl 0), some (.inl k9), none, none, none, none]) C dX9_scoreOf_82 (by decide) rfl ?_
            refine jx_iconst C dX9_scoreOf_84 ?_
            refine jx_istore (L' := [some (.inr (ad G 78)), some (.inl pi), some (.inl i), some (.inl j), some (.inl (chv d i j 0)), some (.inl 1), some (.inl (wayx 1)), some (.inl (wayy 1)), some (.inl 0), some (.inl 0), none, none, none, none]) C dX9_scoreOf_85 (by decide) rfl ?_
            have LP_87 : ∀ (n : Nat) (k : Nat) (k9 : Int) (s8 : Int), (k9 = (k : Int)) → (k ≤ 9) → (s8 = chs d i j (wayx 1) (wayy 1) k) → (chs d i j (wayx 1) (wayy 1) k ≠ -1) → 10 - k < n → jX F G 14 0 0 (jE F G (jQi G (rdq μ (sco (μ 79 p) (μ 80 p) d i j)))) 87 [some (.inr (ad G 78)), some (.inl pi), some (.inl i), some (.inl j), some (.inl (chv d i j 0)), some (.inl 1), some (.inl (wayx 1)), some (.inl (wayy 1)), some (.inl s8), some (.inl k9), none, none, none, none] [] μ := by
              intro n
              induction n with
              | zero =>
                intro k k9 s8 hk9 hk hs8 hne8 hms
                exact absurd hms (Nat.not_lt_zero _)
              | succ n ih =>
                intro k k9 s8 hk9 hk hs8 hne8 hms
                have ih_87 := ih
                clear ih
                have hcr := chs_rng hdr i j (wayx 1) (wayy 1) k
                refine jx_iload C dX9_scoreOf_87 rfl ?_
                refine jx_bipush C dX9_scoreOf_89 (by decide +kernel) ?_
                refine jx_icmp_ge C dX9_scoreOf_91 (by omega) (by decide) (fun c_91 => ?_) (fun c_91 => ?_)
                · have hs9 : s8 = chv d i j 1 := by rw [hs8, show k = 9 by omega]; rfl
                  have hn9 : chv d i j 1 ≠ -1 := by rw [show k = 9 by omega] at hne8; exact hne8
                  refine jx_lo (L' := [some (.inr (ad G 78)), some (.inl pi), some (.inl i), some (.inl j), some (.inl (chv d i j 0)), some (.inl 1), some (.inl (wayx 1)), some (.inl (wayy 1)), some (.inl (chv d i j 1)), some (.inl k9), none, none, none, none]) (by rw [hs9]) ?_
                  refine jx_iload C dX9_scoreOf_176 rfl ?_
                  refine jx_if_lt C dX9_scoreOf_178 (by omega) (fun c_178 => absurd c_178 (by omega)) (fun c_178 => ?_)
                  refine jx_iload C dX9_scoreOf_181 rfl ?_
                  refine jx_iload C dX9_scoreOf_183 rfl ?_
                  refine jx_icmp_ge C dX9_scoreOf_185 (by omega) (by omega) (fun c_185 => ?_) (fun c_185 => ?_)
                  · refine jx_iload C dX9_scoreOf_193 rfl ?_
                    refine jx_istore (L' := [some (.inr (ad G 78)), some (.inl pi), some (.inl i), some (.inl j), some (.inl (chv d i j 0)), some (.inl 1), some (.inl (wayx 1)), some (.inl (wayy 1)), some (.inl (chv d i j 1)), some (.inl k9), none, none, none, none]) C dX9_scoreOf_195 (by decide) rfl ?_
                    refine jx_iinc (L' := [some (.inr (ad G 78)), some (.inl pi), some (.inl i), some (.inl j), some (.inl (chv d i j 0)), some (.inl 2), some (.inl (wayx 1)), some (.inl (wayy 1)), some (.inl (chv d i j 1)), some (.inl k9), none, none, none, none]) C dX9_scoreOf_197 rfl (by decide) rfl ?_
                    refine jx_goto C dX9_scoreOf_200 ?_
                    refine jx_iload C dX9_scoreOf_40 rfl ?_
                    refine jx_iconst C dX9_scoreOf_42 ?_
                    refine jx_icmp_ge C dX9_scoreOf_43 (by decide) (by decide) (fun q => absurd q (by decide)) (fun _ => ?_)
                    refine jx_iload C dX9_scoreOf_46 rfl ?_
                    refine jx_iconst C dX9_scoreOf_48 ?_
                    refine jx_icmp_ne C dX9_scoreOf_49 (by decide) (by decide) (fun _ => ?_) (fun q => absurd q (by decide))
                    refine jx_iconst C dX9_scoreOf_56 ?_
                    refine jx_istore (L' := [some (.inr (ad G 78)), some (.inl pi), some (.inl i), some (.inl j), some (.inl (chv d i j 0)), some (.inl 2), some (.inl 1), some (.inl (wayy 1)), some (.inl (chv d i j 1)), some (.inl k9), none, none, none, none]) C dX9_scoreOf_57 (by decide) rfl ?_
                    refine jx_iload C dX9_scoreOf_59 rfl ?_
                    refine jx_if_ne C dX9_scoreOf_61 (by decide) (fun _ => ?_) (fun q => absurd q (by decide))
                    refine jx_iload C dX9_scoreOf_68 rfl ?_
                    refine jx_iconst C dX9_scoreOf_70 ?_
                    refine jx_icmp_ne C dX9_scoreOf_71 (by decide) (by decide) (fun _ => ?_) (fun q => absurd q (by decide))
                    refine jx_iconst C dX9_scoreOf_78 ?_
                    refine jx_istore (L' := [some (.inr (ad G 78)), some (.inl pi), some (.inl i), some (.inl j), some (.inl (chv d i j 0)), some (.inl 2), some (.inl 1), some (.inl 1), some (.inl (chv d i j 1)), some (.inl k9), none, none, none, none]) C dX9_scoreOf_79 (by decide) rfl ?_
                    refine jx_lo (L' := [some (.inr (ad G 78)), some (.inl pi), some (.inl i), some (.inl j), some (.inl (chv d i j 0)), some (.inl 2), some (.inl (wayx 2)), some (.inl (wayy 2)), some (.inl (chv d i j 1)), some (.inl k9), none, none, none, none]) rfl ?_
                    refine jx_iconst C dX9_scoreOf_81 ?_
                    refine jx_istore (L' := [some (.inr (ad G 78)), some (.inl pi), some (.inl i), some (.inl j), some (.inl (chv d i j 0)), some (.inl 2), some (.inl (wayx 2)), some (.inl (wayy 2)), some (.inl 0), some (.inl k9), none, none, none, none]) C dX9_scoreOf_82 (by decide) rfl ?_
                    refine jx_iconst C dX9_scoreOf_84 ?_
                    refine jx_istore (L' := [some (.inr (ad G 78)), some (.inl pi), some (.inl i), some (.inl j), some (.inl (chv d i j 0)), some (.inl 2), some (.inl (wayx 2)), some (.inl (wayy 2)), some (.inl 0), some (.inl 0), none, none, none, none]) C dX9_scoreOf_85 (by decide) rfl ?_
                    have LP_87 : ∀ (n : Nat) (k : Nat) (k9 : Int) (s8 : Int), (k9 = (k : Int)) → (k ≤ 9) → (s8 = chs d i j (wayx 2) (wayy 2) k) → (chs d i j (wayx 2) (wayy 2) k ≠ -1) → 10 - k < n → jX F G 14 0 0 (jE F G (jQi G (rdq μ (sco (μ 79 p) (μ 80 p) d i j)))) 87 [some (.inr (ad G 78)), some (.inl pi), some (.inl i), some (.inl j), some (.inl (chv d i j 0)), some (.inl 2), some (.inl (wayx 2)), some (.inl (wayy 2)), some (.inl s8), some (.inl k9), none, none, none, none] [] μ := by
                      intro n
                      induction n with
                      | zero =>
                        intro k k9 s8 hk9 hk hs8 hne8 hms
                        exact absurd hms (Nat.not_lt_zero _)
                      | succ n ih =>
                        intro k k9 s8 hk9 hk hs8 hne8 hms
                        have ih_87 := ih
                        clear ih
                        have hcr := chs_rng hdr i j (wayx 2) (wayy 2) k
                        refine jx_iload C dX9_scoreOf_87 rfl ?_
                        refine jx_bipush C dX9_scoreOf_89 (by decide +kernel) ?_
                        refine jx_icmp_ge C dX9_scoreOf_91 (by omega) (by decide) (fun c_91 => ?_) (fun c_91 => ?_)
                        · have hs9 : s8 = chv d i j 2 := by rw [hs8, show k = 9 by omega]; rfl
                          have hn9 : chv d i j 2 ≠ -1 := by rw [show k = 9 by omega] at hne8; exact hne8
                          refine jx_lo (L' := [some (.inr (ad G 78)), some (.inl pi), some (.inl i), some (.inl j), some (.inl (chv d i j 0)), some (.inl 2), some (.inl (wayx 2)), some (.inl (wayy 2)), some (.inl (chv d i j 2)), some (.inl k9), none, none, none, none]) (by rw [hs9]) ?_
                          refine jx_iload C dX9_scoreOf_176 rfl ?_
                          refine jx_if_lt C dX9_scoreOf_178 (by omega) (fun c_178 => absurd c_178 (by omega)) (fun c_178 => ?_)
                          refine jx_iload C dX9_scoreOf_181 rfl ?_
                          refine jx_iload C dX9_scoreOf_183 rfl ?_
                          refine jx_icmp_ge C dX9_scoreOf_185 (by omega) (by omega) (fun c_185 => ?_) (fun c_185 => ?_)
                          · refine jx_iload C dX9_scoreOf_193 rfl ?_
                            refine jx_istore (L' := [some (.inr (ad G 78)), some (.inl pi), some (.inl i), some (.inl j), some (.inl (chv d i j 0)), some (.inl 2), some (.inl (wayx 2)), some (.inl (wayy 2)), some (.inl (chv d i j 2)), some (.inl k9), none, none, none, none]) C dX9_scoreOf_195 (by decide) rfl ?_
                            refine jx_iinc (L' := [some (.inr (ad G 78)), some (.inl pi), some (.inl i), some (.inl j), some (.inl (chv d i j 0)), some (.inl 3), some (.inl (wayx 2)), some (.inl (wayy 2)), some (.inl (chv d i j 2)), some (.inl k9), none, none, none, none]) C dX9_scoreOf_197 rfl (by decide) rfl ?_
                            refine jx_goto C dX9_scoreOf_200 ?_
                            refine jx_iload C dX9_scoreOf_40 rfl ?_
                            refine jx_iconst C dX9_scoreOf_42 ?_
                            refine jx_icmp_ge C dX9_scoreOf_43 (by decide) (by decide) (fun q => absurd q (by decide)) (fun _ => ?_)
                            refine jx_iload C dX9_scoreOf_46 rfl ?_
                            refine jx_iconst C dX9_scoreOf_48 ?_
                            refine jx_icmp_ne C dX9_scoreOf_49 (by decide) (by decide) (fun _ => ?_) (fun q => absurd q (by decide))
                            refine jx_iconst C dX9_scoreOf_56 ?_
                            refine jx_istore (L' := [some (.inr (ad G 78)), some (.inl pi), some (.inl i), some (.inl j), some (.inl (chv d i j 0)), some (.inl 3), some (.inl 1), some (.inl (wayy 2)), some (.inl (chv d i j 2)), some (.inl k9), none, none, none, none]) C dX9_scoreOf_57 (by decide) rfl ?_
                            refine jx_iload C dX9_scoreOf_59 rfl ?_
                            refine jx_if_ne C dX9_scoreOf_61 (by decide) (fun _ => ?_) (fun q => absurd q (by decide))
                            refine jx_iload C dX9_scoreOf_68 rfl ?_
                            refine jx_iconst C dX9_scoreOf_70 ?_
                            refine jx_icmp_ne C dX9_scoreOf_71 (by decide) (by decide) (fun q => absurd q (by decide)) (fun _ => ?_)
                            refine jx_iconst C dX9_scoreOf_74 ?_
                            refine jx_goto C dX9_scoreOf_75 ?_
                            refine jx_istore (L' := [some (.inr (ad G 78)), some (.inl pi), some (.inl i), some (.inl j), some (.inl (chv d i j 0)), some (.inl 3), some (.inl 1), some (.inl (-1)), some (.inl (chv d i j 2)), some (.inl k9), none, none, none, none]) C dX9_scoreOf_79 (by decide) rfl ?_
                            refine jx_lo (L' := [some (.inr (ad G 78)), some (.inl pi), some (.inl i), some (.inl j), some (.inl (chv d i j 0)), some (.inl 3), some (.inl (wayx 3)), some (.inl (wayy 3)), some (.inl (chv d i j 2)), some (.inl k9), none, none, none, none]) rfl ?_
                            refine jx_iconst C dX9_scoreOf_81 ?_
                            refine jx_istore (L' := [some (.inr (ad G 78)), some (.inl pi), some (.inl i), some (.inl j), some (.inl (chv d i j 0)), some (.inl 3), some (.inl (wayx 3)), some (.inl (wayy 3)), some (.inl 0), some (.inl k9), none, none, none, none]) C dX9_scoreOf_82 (by decide) rfl ?_
                            refine jx_iconst C dX9_scoreOf_84 ?_
                            refine jx_istore (L' := [some (.inr (ad G 78)), some (.inl pi), some (.inl i), some (.inl j), some (.inl (chv d i j 0)), some (.inl 3), some (.inl (wayx 3)), some (.inl (wayy 3)), some (.inl 0), some (.inl 0), none, none, none, none]) C dX9_scoreOf_85 (by decide) rfl ?_
                            have LP_87 : ∀ (n : Nat) (k : Nat) (k9 : Int) (s8 : Int), (k9 = (k : Int)) → (k ≤ 9) → (s8 = chs d i j (wayx 3) (wayy 3) k) → (chs d i j (wayx 3) (wayy 3) k ≠ -1) → 10 - k < n → jX F G 14 0 0 (jE F G (jQi G (rdq μ (sco (μ 79 p) (μ 80 p) d i j)))) 87 [some (.inr (ad G 78)), some (.inl pi), some (.inl i), some (.inl j), some (.inl (chv d i j 0)), some (.inl 3), some (.inl (wayx 3)), some (.inl (wayy 3)), some (.inl s8), some (.inl k9), none, none, none, none] [] μ := by
                              intro n
                              induction n with
                              | zero =>
                                intro k k9 s8 hk9 hk hs8 hne8 hms
                                exact absurd hms (Nat.not_lt_zero _)
                              | succ n ih =>
                                intro k k9 s8 hk9 hk hs8 hne8 hms
                                have ih_87 := ih
                                clear ih
                                have hcr := chs_rng hdr i j (wayx 3) (wayy 3) k
                                refine jx_iload C dX9_scoreOf_87 rfl ?_
                                refine jx_bipush C dX9_scoreOf_89 (by decide +kernel) ?_
                                refine jx_icmp_ge C dX9_scoreOf_91 (by omega) (by decide) (fun c_91 => ?_) (fun c_91 => ?_)
                                · have hs9 : s8 = chv d i j 3 := by rw [hs8, show k = 9 by omega]; rfl
                                  have hn9 : chv d i j 3 ≠ -1 := by rw [show k = 9 by omega] at hne8; exact hne8
                                  refine jx_lo (L' := [some (.inr (ad G 78)), some (.inl pi), some (.inl i), some (.inl j), some (.inl (chv d i j 0)), some (.inl 3), some (.inl (wayx 3)), some (.inl (wayy 3)), some (.inl (chv d i j 3)), some (.inl k9), none, none, none, none]) (by rw [hs9]) ?_
                                  refine jx_iload C dX9_scoreOf_176 rfl ?_
                                  refine jx_if_lt C dX9_scoreOf_178 (by omega) (fun c_178 => absurd c_178 (by omega)) (fun c_178 => ?_)
                                  refine jx_iload C dX9_scoreOf_181 rfl ?_
                                  refine jx_iload C dX9_scoreOf_183 rfl ?_
                                  refine jx_icmp_ge C dX9_scoreOf_185 (by omega) (by omega) (fun c_185 => ?_) (fun c_185 => ?_)
                                  · refine jx_iload C dX9_scoreOf_193 rfl ?_
                                    refine jx_istore (L' := [some (.inr (ad G 78)), some (.inl pi), some (.inl i), some (.inl j), some (.inl (chv d i j 0)), some (.inl 3), some (.inl (wayx 3)), some (.inl (wayy 3)), some (.inl (chv d i j 3)), some (.inl k9), none, none, none, none]) C dX9_scoreOf_195 (by decide) rfl ?_
                                    refine jx_iinc (L' := [some (.inr (ad G 78)), some (.inl pi), some (.inl i), some (.inl j), some (.inl (chv d i j 0)), some (.inl 4), some (.inl (wayx 3)), some (.inl (wayy 3)), some (.inl (chv d i j 3)), some (.inl k9), none, none, none, none]) C dX9_scoreOf_197 rfl (by decide) rfl ?_
                                    refine jx_goto C dX9_scoreOf_200 ?_
                                    refine jx_iload C dX9_scoreOf_40 rfl ?_
                                    refine jx_iconst C dX9_scoreOf_42 ?_
                                    refine jx_icmp_ge C dX9_scoreOf_43 (by decide) (by decide) (fun _ => ?_) (fun q => absurd q (by decide))
                                    refine jx_iload C dX9_scoreOf_203 rfl ?_
                                    exact jx_iret C dX9_scoreOf_205 ⟨by rw [sco, if_pos (by omega), scv, if_neg (by omega)]; omega, rfl⟩
                                  · refine jx_iload C dX9_scoreOf_188 rfl ?_
                                    refine jx_goto C dX9_scoreOf_190 ?_
                                    refine jx_istore (L' := [some (.inr (ad G 78)), some (.inl pi), some (.inl i), some (.inl j), some (.inl (chv d i j 3)), some (.inl 3), some (.inl (wayx 3)), some (.inl (wayy 3)), some (.inl (chv d i j 3)), some (.inl k9), none, none, none, none]) C dX9_scoreOf_195 (by decide) rfl ?_
                                    refine jx_iinc (L' := [some (.inr (ad G 78)), some (.inl pi), some (.inl i), some (.inl j), some (.inl (chv d i j 3)), some (.inl 4), some (.inl (wayx 3)), some (.inl (wayy 3)), some (.inl (chv d i j 3)), some (.inl k9), none, none, none, none]) C dX9_scoreOf_197 rfl (by decide) rfl ?_
                                    refine jx_goto C dX9_scoreOf_200 ?_
                                    refine jx_iload C dX9_scoreOf_40 rfl ?_
                                    refine jx_iconst C dX9_scoreOf_42 ?_
                                    refine jx_icmp_ge C dX9_scoreOf_43 (by decide) (by decide) (fun _ => ?_) (fun q => absurd q (by decide))
                                    refine jx_iload C dX9_scoreOf_203 rfl ?_
                                    exact jx_iret C dX9_scoreOf_205 ⟨by rw [sco, if_pos (by omega), scv, if_neg (by omega)]; omega, rfl⟩
                                · refine jx_iload_n C dX9_scoreOf_94 rfl ?_
                                  refine jx_iload C dX9_scoreOf_95 rfl ?_
                                  refine jx_iconst C dX9_scoreOf_97 ?_
                                  refine jx_irem (z := k9 % 3) C dX9_scoreOf_98 (by omega) (by decide) (by decide) (jtm (by omega)) ?_
                                  refine jx_iadd C dX9_scoreOf_99 ?_
                                  refine jx_iconst C dX9_scoreOf_100 ?_
                                  refine jx_isub C dX9_scoreOf_101 ?_
                                  refine jx_istore (L' := [some (.inr (ad G 78)), some (.inl pi), some (.inl i), some (.inl j), some (.inl (chv d i j 0)), some (.inl 3), some (.inl (wayx 3)), some (.inl (wayy 3)), some (.inl s8), some (.inl k9), some (.inl (i + k9 % 3 - 1)), none, none, none]) C dX9_scoreOf_102 (by decide) rfl ?_
                                  refine jx_iload_n C dX9_scoreOf_104 rfl ?_
                                  refine jx_iload C dX9_scoreOf_105 rfl ?_
                                  refine jx_iconst C dX9_scoreOf_107 ?_
                                  refine jx_idiv (z := k9 / 3) C dX9_scoreOf_108 (by omega) (by decide) (by decide) (jtd (by omega)) ?_
                                  refine jx_iadd C dX9_scoreOf_109 ?_
                                  refine jx_iconst C dX9_scoreOf_110 ?_
                                  refine jx_isub C dX9_scoreOf_111 ?_
                                  refine jx_istore (L' := [some (.inr (ad G 78)), some (.inl pi), some (.inl i), some (.inl j), some (.inl (chv d i j 0)), some (.inl 3), some (.inl (wayx 3)), some (.inl (wayy 3)), some (.inl s8), some (.inl k9), some (.inl (i + k9 % 3 - 1)), some (.inl (j + k9 / 3 - 1)), none, none]) C dX9_scoreOf_112 (by decide) rfl ?_
                                  have hx10 : i + k9 % 3 - 1 = i - 1 + ((k % 3 : Nat) : Int) := by omega
                                  have hy11 : j + k9 / 3 - 1 = j - 1 + ((k / 3 : Nat) : Int) := by omega
                                  have hwb : -1 ≤ wayx 3 ∧ wayx 3 ≤ 1 ∧ -1 ≤ wayy 3 ∧ wayy 3 ≤ 1 := by decide
                                  refine jx_aload_n C dX9_scoreOf_114 rfl ?_
                                  refine jx_iload_n C dX9_scoreOf_115 rfl ?_
                                  refine jx_iload C dX9_scoreOf_116 rfl ?_
                                  refine jx_iload C dX9_scoreOf_118 rfl ?_
                                  refine jx_cVi (as := [.inl pi, .inl (i + k9 % 3 - 1), .inl (j + k9 / 3 - 1)]) (st := []) C Yy (c_X9_dotAt l G μ pi (i + k9 % 3 - 1) (j + k9 / 3 - 1) (by omega) hR) yb_X9_dotAt yv_X9_dotAt wm_X9_99 (jcl_MO G _) rfl (by decide) rfl rfl (Nat.le_of_ble_eq_true rfl) ⟨⟨rfl, rfl, Nat.le_of_ble_eq_true rfl, Nat.le_of_ble_eq_true rfl⟩, Nat.zero_le _, Nat.zero_le _⟩ dX9_scoreOf_120 ?_
                                  rintro _ _ ⟨rfl, rfl⟩
                                  have r_120 := rg_81 hR (400 * pi + 20 * (j + k9 / 3 - 1) + (i + k9 % 3 - 1)).toNat
                                  rw [show μ 81 (400 * pi + 20 * (j + k9 / 3 - 1) + (i + k9 % 3 - 1)).toNat = d (i + k9 % 3 - 1) (j + k9 / 3 - 1) from by rw [hd]; exact md_in hR hpi (by omega)] at r_120
                                  refine jx_top (b := d (i + k9 % 3 - 1) (j + k9 / 3 - 1)) (by rw [hd]; exact md_in hR hpi (by omega)) ?_
                                  refine jx_istore (L' := [some (.inr (ad G 78)), some (.inl pi), some (.inl i), some (.inl j), some (.inl (chv d i j 0)), some (.inl 3), some (.inl (wayx 3)), some (.inl (wayy 3)), some (.inl s8), some (.inl k9), some (.inl (i + k9 % 3 - 1)), some (.inl (j + k9 / 3 - 1)), some (.inl (d (i + k9 % 3 - 1) (j + k9 / 3 - 1))), none]) C dX9_scoreOf_123 (by decide) rfl ?_
                                  refine jx_aload_n C dX9_scoreOf_125 rfl ?_
                                  refine jx_iload_n C dX9_scoreOf_126 rfl ?_
                                  refine jx_iload C dX9_scoreOf_127 rfl ?_
                                  refine jx_iload C dX9_scoreOf_129 rfl ?_
                                  refine jx_iadd C dX9_scoreOf_131 ?_
                                  refine jx_iload C dX9_scoreOf_132 rfl ?_
                                  refine jx_iload C dX9_scoreOf_134 rfl ?_
                                  refine jx_iadd C dX9_scoreOf_136 ?_
                                  refine jx_cVi (as := [.inl pi, .inl (i + k9 % 3 - 1 + wayx 3), .inl (j + k9 / 3 - 1 + wayy 3)]) (st := []) C Yy (c_X9_dotAt l G μ pi (i + k9 % 3 - 1 + wayx 3) (j + k9 / 3 - 1 + wayy 3) (by omega) hR) yb_X9_dotAt yv_X9_dotAt wm_X9_99 (jcl_MO G _) rfl (by decide) rfl rfl (Nat.le_of_ble_eq_true rfl) ⟨⟨rfl, rfl, Nat.le_of_ble_eq_true rfl, Nat.le_of_ble_eq_true rfl⟩, Nat.zero_le _, Nat.zero_le _⟩ dX9_scoreOf_137 ?_
                                  rintro _ _ ⟨rfl, rfl⟩
                                  have r_137 := rg_81 hR (400 * pi + 20 * (j + k9 / 3 - 1 + wayy 3) + (i + k9 % 3 - 1 + wayx 3)).toNat
                                  rw [show μ 81 (400 * pi + 20 * (j + k9 / 3 - 1 + wayy 3) + (i + k9 % 3 - 1 + wayx 3)).toNat = d (i + k9 % 3 - 1 + wayx 3) (j + k9 / 3 - 1 + wayy 3) from by rw [hd]; exact md_in hR hpi (by omega)] at r_137
                                  refine jx_top (b := d (i + k9 % 3 - 1 + wayx 3) (j + k9 / 3 - 1 + wayy 3)) (by rw [hd]; exact md_in hR hpi (by omega)) ?_
                                  refine jx_istore (L' := [some (.inr (ad G 78)), some (.inl pi), some (.inl i), some (.inl j), some (.inl (chv d i j 0)), some (.inl 3), some (.inl (wayx 3)), some (.inl (wayy 3)), some (.inl s8), some (.inl k9), some (.inl (i + k9 % 3 - 1)), some (.inl (j + k9 / 3 - 1)), some (.inl (d (i + k9 % 3 - 1) (j + k9 / 3 - 1))), some (.inl (d (i + k9 % 3 - 1 + wayx 3) (j + k9 / 3 - 1 + wayy 3)))]) C dX9_scoreOf_140 (by decide) rfl ?_
                                  refine jx_iload C dX9_scoreOf_142 rfl ?_
                                  refine jx_if_lt C dX9_scoreOf_144 (by omega) (fun c_144 => ?_) (fun c_144 => ?_)
                                  · refine jx_iconst C dX9_scoreOf_152 ?_
                                    exact jx_iret C dX9_scoreOf_153 ⟨by have hl : chv d i j 3 = -1 := chs_lostk (wx := wayx 3) (wy := wayy 3) (by omega) hx10 hy11 (by first | exact Or.inl (by omega) | exact Or.inr (by omega)); rw [sco, if_pos (by omega), scv, if_pos (by omega)], rfl⟩
                                  · refine jx_iload C dX9_scoreOf_147 rfl ?_
                                    refine jx_if_ge C dX9_scoreOf_149 (by omega) (fun c_149 => ?_) (fun c_149 => ?_)
                                    · refine jx_iload C dX9_scoreOf_154 rfl ?_
                                      refine jx_iload C dX9_scoreOf_156 rfl ?_
                                      refine jx_iload C dX9_scoreOf_158 rfl ?_
                                      refine jx_isub C dX9_scoreOf_160 ?_
                                      refine jx_iload C dX9_scoreOf_161 rfl ?_
                                      refine jx_iload C dX9_scoreOf_163 rfl ?_
                                      refine jx_isub C dX9_scoreOf_165 ?_
                                      refine jx_imul C dX9_scoreOf_166 ?_
                                      refine jx_iadd C dX9_scoreOf_167 ?_
                                      refine jx_istore (L' := [some (.inr (ad G 78)), some (.inl pi), some (.inl i), some (.inl j), some (.inl (chv d i j 0)), some (.inl 3), some (.inl (wayx 3)), some (.inl (wayy 3)), some (.inl (s8 + ((d (i + k9 % 3 - 1) (j + k9 / 3 - 1) - (d (i + k9 % 3 - 1 + wayx 3) (j + k9 / 3 - 1 + wayy 3))) * (d (i + k9 % 3 - 1) (j + k9 / 3 - 1) - (d (i + k9 % 3 - 1 + wayx 3) (j + k9 / 3 - 1 + wayy 3)))))), some (.inl k9), some (.inl (i + k9 % 3 - 1)), some (.inl (j + k9 / 3 - 1)), some (.inl (d (i + k9 % 3 - 1) (j + k9 / 3 - 1))), some (.inl (d (i + k9 % 3 - 1 + wayx 3) (j + k9 / 3 - 1 + wayy 3)))]) C dX9_scoreOf_168 (by decide) rfl ?_
                                      refine jx_iinc (L' := [some (.inr (ad G 78)), some (.inl pi), some (.inl i), some (.inl j), some (.inl (chv d i j 0)), some (.inl 3), some (.inl (wayx 3)), some (.inl (wayy 3)), some (.inl (s8 + ((d (i + k9 % 3 - 1) (j + k9 / 3 - 1) - (d (i + k9 % 3 - 1 + wayx 3) (j + k9 / 3 - 1 + wayy 3))) * (d (i + k9 % 3 - 1) (j + k9 / 3 - 1) - (d (i + k9 % 3 - 1 + wayx 3) (j + k9 / 3 - 1 + wayy 3)))))), some (.inl (k9 + 1)), some (.inl (i + k9 % 3 - 1)), some (.inl (j + k9 / 3 - 1)), some (.inl (d (i + k9 % 3 - 1) (j + k9 / 3 - 1))), some (.inl (d (i + k9 % 3 - 1 + wayx 3) (j + k9 / 3 - 1 + wayy 3)))]) C dX9_scoreOf_170 rfl (by decide) rfl ?_
                                      refine jx_goto C dX9_scoreOf_173 ?_
                                      have hnx := chs_nextk (wx := wayx 3) (wy := wayy 3) hdr hne8 hx10 hy11 (by omega) (by omega)
                                      refine jx_fewer (L' := [some (.inr (ad G 78)), some (.inl pi), some (.inl i), some (.inl j), some (.inl (chv d i j 0)), some (.inl 3), some (.inl (wayx 3)), some (.inl (wayy 3)), some (.inl (s8 + ((d (i + k9 % 3 - 1) (j + k9 / 3 - 1) - (d (i + k9 % 3 - 1 + wayx 3) (j + k9 / 3 - 1 + wayy 3))) * (d (i + k9 % 3 - 1) (j + k9 / 3 - 1) - (d (i + k9 % 3 - 1 + wayx 3) (j + k9 / 3 - 1 + wayy 3)))))), some (.inl (k9 + 1)), none, none, none, none]) (fun i v h => ?_) ?_
                                      · exact jfew_ok (by simp [jfew]) h
                                      exact ih_87 (k + 1) (k9 + 1) (s8 + ((d (i + k9 % 3 - 1) (j + k9 / 3 - 1) - (d (i + k9 % 3 - 1 + wayx 3) (j + k9 / 3 - 1 + wayy 3))) * (d (i + k9 % 3 - 1) (j + k9 / 3 - 1) - (d (i + k9 % 3 - 1 + wayx 3) (j + k9 / 3 - 1 + wayy 3))))) (by omega) (by omega) (by rw [hnx.1, hs8]) hnx.2 (by omega)
                                    · refine jx_iconst C dX9_scoreOf_152 ?_
                                      exact jx_iret C dX9_scoreOf_153 ⟨by have hl : chv d i j 3 = -1 := chs_lostk (wx := wayx 3) (wy := wayy 3) (by omega) hx10 hy11 (by first | exact Or.inl (by omega) | exact Or.inr (by omega)); rw [sco, if_pos (by omega), scv, if_pos (by omega)], rfl⟩
                            exact LP_87 _ 0 0 0 rfl (Nat.zero_le _) rfl (chs_0 d i j _ _) (Nat.lt_succ_self _)
                          · refine jx_iload C dX9_scoreOf_188 rfl ?_
                            refine jx_goto C dX9_scoreOf_190 ?_
                            refine jx_istore (L' := [some (.inr (ad G 78)), some (.inl pi), some (.inl i), some (.inl j), some (.inl (chv d i j 2)), some (.inl 2), some (.inl (wayx 2)), some (.inl (wayy 2)), some (.inl (chv d i j 2)), some (.inl k9), none, none, none, none]) C dX9_scoreOf_195 (by decide) rfl ?_
                            refine jx_iinc (L' := [some (.inr (ad G 78)), some (.inl pi), some (.inl i), some (.inl j), some (.inl (chv d i j 2)), some (.inl 3), some (.inl (wayx 2)), some (.inl (wayy 2)), some (.inl (chv d i j 2)), some (.inl k9), none, none, none, none]) C dX9_scoreOf_197 rfl (by decide) rfl ?_
                            refine jx_goto C dX9_scoreOf_200 ?_
                            refine jx_iload C dX9_scoreOf_40 rfl ?_
                            refine jx_iconst C dX9_scoreOf_42 ?_
                            refine jx_icmp_ge C dX9_scoreOf_43 (by decide) (by decide) (fun q => absurd q (by decide)) (fun _ => ?_)
                            refine jx_iload C dX9_scoreOf_46 rfl ?_
                            refine jx_iconst C dX9_scoreOf_48 ?_
                            refine jx_icmp_ne C dX9_scoreOf_49 (by decide) (by decide) (fun _ => ?_) (fun q => absurd q (by decide))
                            refine jx_iconst C dX9_scoreOf_56 ?_
                            refine jx_istore (L' := [some (.inr (ad G 78)), some (.inl pi), some (.inl i), some (.inl j), some (.inl (chv d i j 2)), some (.inl 3), some (.inl 1), some (.inl (wayy 2)), some (.inl (chv d i j 2)), some (.inl k9), none, none, none, none]) C dX9_scoreOf_57 (by decide) rfl ?_
                            refine jx_iload C dX9_scoreOf_59 rfl ?_
                            refine jx_if_ne C dX9_scoreOf_61 (by decide) (fun _ => ?_) (fun q => absurd q (by decide))
                            refine jx_iload C dX9_scoreOf_68 rfl ?_
                            refine jx_iconst C dX9_scoreOf_70 ?_
                            refine jx_icmp_ne C dX9_scoreOf_71 (by decide) (by decide) (fun q => absurd q (by decide)) (fun _ => ?_)
                            refine jx_iconst C dX9_scoreOf_74 ?_
                            refine jx_goto C dX9_scoreOf_75 ?_
                            refine jx_istore (L' := [some (.inr (ad G 78)), some (.inl pi), some (.inl i), some (.inl j), some (.inl (chv d i j 2)), some (.inl 3), some (.inl 1), some (.inl (-1)), some (.inl (chv d i j 2)), some (.inl k9), none, none, none, none]) C dX9_scoreOf_79 (by decide) rfl ?_
                            refine jx_lo (L' := [some (.inr (ad G 78)), some (.inl pi), some (.inl i), some (.inl j), some (.inl (chv d i j 2)), some (.inl 3), some (.inl (wayx 3)), some (.inl (wayy 3)), some (.inl (chv d i j 2)), some (.inl k9), none, none, none, none]) rfl ?_
                            refine jx_iconst C dX9_scoreOf_81 ?_
                            refine jx_istore (L' := [some (.inr (ad G 78)), some (.inl pi), some (.inl i), some (.inl j), some (.inl (chv d i j 2)), some (.inl 3), some (.inl (wayx 3)), some (.inl (wayy 3)), some (.inl 0), some (.inl k9), none, none, none, none]) C dX9_scoreOf_82 (by decide) rfl ?_
                            refine jx_iconst C dX9_scoreOf_84 ?_
                            refine jx_istore (L' := [some (.inr (ad G 78)), some (.inl pi), some (.inl i), some (.inl j), some (.inl (chv d i j 2)), some (.inl 3), some (.inl (wayx 3)), some (.inl (wayy 3)), some (.inl 0), some (.inl 0), none, none, none, none]) C dX9_scoreOf_85 (by decide) rfl ?_
                            have LP_87 : ∀ (n : Nat) (k : Nat) (k9 : Int) (s8 : Int), (k9 = (k : Int)) → (k ≤ 9) → (s8 = chs d i j (wayx 3) (wayy 3) k) → (chs d i j (wayx 3) (wayy 3) k ≠ -1) → 10 - k < n → jX F G 14 0 0 (jE F G (jQi G (rdq μ (sco (μ 79 p) (μ 80 p) d i j)))) 87 [some (.inr (ad G 78)), some (.inl pi), some (.inl i), some (.inl j), some (.inl (chv d i j 2)), some (.inl 3), some (.inl (wayx 3)), some (.inl (wayy 3)), some (.inl s8), some (.inl k9), none, none, none, none] [] μ := by
                              intro n
                              induction n with
                              | zero =>
                                intro k k9 s8 hk9 hk hs8 hne8 hms
                                exact absurd hms (Nat.not_lt_zero _)
                              | succ n ih =>
                                intro k k9 s8 hk9 hk hs8 hne8 hms
                                have ih_87 := ih
                                clear ih
                                have hcr := chs_rng hdr i j (wayx 3) (wayy 3) k
                                refine jx_iload C dX9_scoreOf_87 rfl ?_
                                refine jx_bipush C dX9_scoreOf_89 (by decide +kernel) ?_
                                refine jx_icmp_ge C dX9_scoreOf_91 (by omega) (by decide) (fun c_91 => ?_) (fun c_91 => ?_)
                                · have hs9 : s8 = chv d i j 3 := by rw [hs8, show k = 9 by omega]; rfl
                                  have hn9 : chv d i j 3 ≠ -1 := by rw [show k = 9 by omega] at hne8; exact hne8
                                  refine jx_lo (L' := [some (.inr (ad G 78)), some (.inl pi), some (.inl i), some (.inl j), some (.inl (chv d i j 2)), some (.inl 3), some (.inl (wayx 3)), some (.inl (wayy 3)), some (.inl (chv d i j 3)), some (.inl k9), none, none, none, none]) (by rw [hs9]) ?_
                                  refine jx_iload C dX9_scoreOf_176 rfl ?_
                                  refine jx_if_lt C dX9_scoreOf_178 (by omega) (fun c_178 => absurd c_178 (by omega)) (fun c_178 => ?_)
                                  refine jx_iload C dX9_scoreOf_181 rfl ?_
                                  refine jx_iload C dX9_scoreOf_183 rfl ?_
                                  refine jx_icmp_ge C dX9_scoreOf_185 (by omega) (by omega) (fun c_185 => ?_) (fun c_185 => ?_)
                                  · refine jx_iload C dX9_scoreOf_193 rfl ?_
                                    refine jx_istore (L' := [some (.inr (ad G 78)), some (.inl pi), some (.inl i), some (.inl j), some (.inl (chv d i j 2)), some (.inl 3), some (.inl (wayx 3)), some (.inl (wayy 3)), some (.inl (chv d i j 3)), some (.inl k9), none, none, none, none]) C dX9_scoreOf_195 (by decide) rfl ?_
                                    refine jx_iinc (L' := [some (.inr (ad G 78)), some (.inl pi), some (.inl i), some (.inl j), some (.inl (chv d i j 2)), some (.inl 4), some (.inl (wayx 3)), some (.inl (wayy 3)), some (.inl (chv d i j 3)), some (.inl k9), none, none, none, none]) C dX9_scoreOf_197 rfl (by decide) rfl ?_
                                    refine jx_goto C dX9_scoreOf_200 ?_
                                    refine jx_iload C dX9_scoreOf_40 rfl ?_
                                    refine jx_iconst C dX9_scoreOf_42 ?_
                                    refine jx_icmp_ge C dX9_scoreOf_43 (by decide) (by decide) (fun _ => ?_) (fun q => absurd q (by decide))
                                    refine jx_iload C dX9_scoreOf_203 rfl ?_
                                    exact jx_iret C dX9_scoreOf_205 ⟨by rw [sco, if_pos (by omega), scv, if_neg (by omega)]; omega, rfl⟩
                                  · refine jx_iload C dX9_scoreOf_188 rfl ?_
                                    refine jx_goto C dX9_scoreOf_190 ?_
                                    refine jx_istore (L' := [some (.inr (ad G 78)), some (.inl pi), some (.inl i), some (.inl j), some (.inl (chv d i j 3)), some (.inl 3), some (.inl (wayx 3)), some (.inl (wayy 3)), some (.inl (chv d i j 3)), some (.inl k9), none, none, none, none]) C dX9_scoreOf_195 (by decide) rfl ?_
                                    refine jx_iinc (L' := [some (.inr (ad G 78)), some (.inl pi), some (.inl i), some (.inl j), some (.inl (chv d i j 3)), some (.inl 4), some (.inl (wayx 3)), some (.inl (wayy 3)), some (.inl (chv d i j 3)), some (.inl k9), none, none, none, none]) C dX9_scoreOf_197 rfl (by decide) rfl ?_
                                    refine jx_goto C dX9_scoreOf_200 ?_
                                    refine jx_iload C dX9_scoreOf_40 rfl ?_
                                    refine jx_iconst C dX9_scoreOf_42 ?_
                                    refine jx_icmp_ge C dX9_scoreOf_43 (by decide) (by decide) (fun _ => ?_) (fun q => absurd q (by decide))
                                    refine jx_iload C dX9_scoreOf_203 rfl ?_
                                    exact jx_iret C dX9_scoreOf_205 ⟨by rw [sco, if_pos (by omega), scv, if_neg (by omega)]; omega, rfl⟩
                                · refine jx_iload_n C dX9_scoreOf_94 rfl ?_
                                  refine jx_iload C dX9_scoreOf_95 rfl ?_
                                  refine jx_iconst C dX9_scoreOf_97 ?_
                                  refine jx_irem (z := k9 % 3) C dX9_scoreOf_98 (by omega) (by decide) (by decide) (jtm (by omega)) ?_
                                  refine jx_iadd C dX9_scoreOf_99 ?_
                                  refine jx_iconst C dX9_scoreOf_100 ?_
                                  refine jx_isub C dX9_scoreOf_101 ?_
                                  refine jx_istore (L' := [some (.inr (ad G 78)), some (.inl pi), some (.inl i), some (.inl j), some (.inl (chv d i j 2)), some (.inl 3), some (.inl (wayx 3)), some (.inl (wayy 3)), some (.inl s8), some (.inl k9), some (.inl (i + k9 % 3 - 1)), none, none, none]) C dX9_scoreOf_102 (by decide) rfl ?_
                                  refine jx_iload_n C dX9_scoreOf_104 rfl ?_
                                  refine jx_iload C dX9_scoreOf_105 rfl ?_
                                  refine jx_iconst C dX9_scoreOf_107 ?_
                                  refine jx_idiv (z := k9 / 3) C dX9_scoreOf_108 (by omega) (by decide) (by decide) (jtd (by omega)) ?_
                                  refine jx_iadd C dX9_scoreOf_109 ?_
                                  refine jx_iconst C dX9_scoreOf_110 ?_
                                  refine jx_isub C dX9_scoreOf_111 ?_
                                  refine jx_istore (L' := [some (.inr (ad G 78)), some (.inl pi), some (.inl i), some (.inl j), some (.inl (chv d i j 2)), some (.inl 3), some (.inl (wayx 3)), some (.inl (wayy 3)), some (.inl s8), some (.inl k9), some (.inl (i + k9 % 3 - 1)), some (.inl (j + k9 / 3 - 1)), none, none]) C dX9_scoreOf_112 (by decide) rfl ?_
                                  have hx10 : i + k9 % 3 - 1 = i - 1 + ((k % 3 : Nat) : Int) := by omega
                                  have hy11 : j + k9 / 3 - 1 = j - 1 + ((k / 3 : Nat) : Int) := by omega
                                  have hwb : -1 ≤ wayx 3 ∧ wayx 3 ≤ 1 ∧ -1 ≤ wayy 3 ∧ wayy 3 ≤ 1 := by decide
                                  refine jx_aload_n C dX9_scoreOf_114 rfl ?_
                                  refine jx_iload_n C dX9_scoreOf_115 rfl ?_
                                  refine jx_iload C dX9_scoreOf_116 rfl ?_
                                  refine jx_iload C dX9_scoreOf_118 rfl ?_
                                  refine jx_cVi (as := [.inl pi, .inl (i + k9 % 3 - 1), .inl (j + k9 / 3 - 1)]) (st := []) C Yy (c_X9_dotAt l G μ pi (i + k9 % 3 - 1) (j + k9 / 3 - 1) (by omega) hR) yb_X9_dotAt yv_X9_dotAt wm_X9_99 (jcl_MO G _) rfl (by decide) rfl rfl (Nat.le_of_ble_eq_true rfl) ⟨⟨rfl, rfl, Nat.le_of_ble_eq_true rfl, Nat.le_of_ble_eq_true rfl⟩, Nat.zero_le _, Nat.zero_le _⟩ dX9_scoreOf_120 ?_
                                  rintro _ _ ⟨rfl, rfl⟩
                                  have r_120 := rg_81 hR (400 * pi + 20 * (j + k9 / 3 - 1) + (i + k9 % 3 - 1)).toNat
                                  rw [show μ 81 (400 * pi + 20 * (j + k9 / 3 - 1) + (i + k9 % 3 - 1)).toNat = d (i + k9 % 3 - 1) (j + k9 / 3 - 1) from by rw [hd]; exact md_in hR hpi (by omega)] at r_120
                                  refine jx_top (b := d (i + k9 % 3 - 1) (j + k9 / 3 - 1)) (by rw [hd]; exact md_in hR hpi (by omega)) ?_
                                  refine jx_istore (L' := [some (.inr (ad G 78)), some (.inl pi), some (.inl i), some (.inl j), some (.inl (chv d i j 2)), some (.inl 3), some (.inl (wayx 3)), some (.inl (wayy 3)), some (.inl s8), some (.inl k9), some (.inl (i + k9 % 3 - 1)), some (.inl (j + k9 / 3 - 1)), some (.inl (d (i + k9 % 3 - 1) (j + k9 / 3 - 1))), none]) C dX9_scoreOf_123 (by decide) rfl ?_
                                  refine jx_aload_n C dX9_scoreOf_125 rfl ?_
                                  refine jx_iload_n C dX9_scoreOf_126 rfl ?_
                                  refine jx_iload C dX9_scoreOf_127 rfl ?_
                                  refine jx_iload C dX9_scoreOf_129 rfl ?_
                                  refine jx_iadd C dX9_scoreOf_131 ?_
                                  refine jx_iload C dX9_scoreOf_132 rfl ?_
                                  refine jx_iload C dX9_scoreOf_134 rfl ?_
                                  refine jx_iadd C dX9_scoreOf_136 ?_
                                  refine jx_cVi (as := [.inl pi, .inl (i + k9 % 3 - 1 + wayx 3), .inl (j + k9 / 3 - 1 + wayy 3)]) (st := []) C Yy (c_X9_dotAt l G μ pi (i + k9 % 3 - 1 + wayx 3) (j + k9 / 3 - 1 + wayy 3) (by omega) hR) yb_X9_dotAt yv_X9_dotAt wm_X9_99 (jcl_MO G _) rfl (by decide) rfl rfl (Nat.le_of_ble_eq_true rfl) ⟨⟨rfl, rfl, Nat.le_of_ble_eq_true rfl, Nat.le_of_ble_eq_true rfl⟩, Nat.zero_le _, Nat.zero_le _⟩ dX9_scoreOf_137 ?_
                                  rintro _ _ ⟨rfl, rfl⟩
                                  have r_137 := rg_81 hR (400 * pi + 20 * (j + k9 / 3 - 1 + wayy 3) + (i + k9 % 3 - 1 + wayx 3)).toNat
                                  rw [show μ 81 (400 * pi + 20 * (j + k9 / 3 - 1 + wayy 3) + (i + k9 % 3 - 1 + wayx 3)).toNat = d (i + k9 % 3 - 1 + wayx 3) (j + k9 / 3 - 1 + wayy 3) from by rw [hd]; exact md_in hR hpi (by omega)] at r_137
                                  refine jx_top (b := d (i + k9 % 3 - 1 + wayx 3) (j + k9 / 3 - 1 + wayy 3)) (by rw [hd]; exact md_in hR hpi (by omega)) ?_
                                  refine jx_istore (L' := [some (.inr (ad G 78)), some (.inl pi), some (.inl i), some (.inl j), some (.inl (chv d i j 2)), some (.inl 3), some (.inl (wayx 3)), some (.inl (wayy 3)), some (.inl s8), some (.inl k9), some (.inl (i + k9 % 3 - 1)), some (.inl (j + k9 / 3 - 1)), some (.inl (d (i + k9 % 3 - 1) (j + k9 / 3 - 1))), some (.inl (d (i + k9 % 3 - 1 + wayx 3) (j + k9 / 3 - 1 + wayy 3)))]) C dX9_scoreOf_140 (by decide) rfl ?_
                                  refine jx_iload C dX9_scoreOf_142 rfl ?_
                                  refine jx_if_lt C dX9_scoreOf_144 (by omega) (fun c_144 => ?_) (fun c_144 => ?_)
                                  · refine jx_iconst C dX9_scoreOf_152 ?_
                                    exact jx_iret C dX9_scoreOf_153 ⟨by have hl : chv d i j 3 = -1 := chs_lostk (wx := wayx 3) (wy := wayy 3) (by omega) hx10 hy11 (by first | exact Or.inl (by omega) | exact Or.inr (by omega)); rw [sco, if_pos (by omega), scv, if_pos (by omega)], rfl⟩
                                  · refine jx_iload C dX9_scoreOf_147 rfl ?_
                                    refine jx_if_ge C dX9_scoreOf_149 (by omega) (fun c_149 => ?_) (fun c_149 => ?_)
                                    · refine jx_iload C dX9_scoreOf_154 rfl ?_
                                      refine jx_iload C dX9_scoreOf_156 rfl ?_
                                      refine jx_iload C dX9_scoreOf_158 rfl ?_
                                      refine jx_isub C dX9_scoreOf_160 ?_
                                      refine jx_iload C dX9_scoreOf_161 rfl ?_
                                      refine jx_iload C dX9_scoreOf_163 rfl ?_
                                      refine jx_isub C dX9_scoreOf_165 ?_
                                      refine jx_imul C dX9_scoreOf_166 ?_
                                      refine jx_iadd C dX9_scoreOf_167 ?_
                                      refine jx_istore (L' := [some (.inr (ad G 78)), some (.inl pi), some (.inl i), some (.inl j), some (.inl (chv d i j 2)), some (.inl 3), some (.inl (wayx 3)), some (.inl (wayy 3)), some (.inl (s8 + ((d (i + k9 % 3 - 1) (j + k9 / 3 - 1) - (d (i + k9 % 3 - 1 + wayx 3) (j + k9 / 3 - 1 + wayy 3))) * (d (i + k9 % 3 - 1) (j + k9 / 3 - 1) - (d (i + k9 % 3 - 1 + wayx 3) (j + k9 / 3 - 1 + wayy 3)))))), some (.inl k9), some (.inl (i + k9 % 3 - 1)), some (.inl (j + k9 / 3 - 1)), some (.inl (d (i + k9 % 3 - 1) (j + k9 / 3 - 1))), some (.inl (d (i + k9 % 3 - 1 + wayx 3) (j + k9 / 3 - 1 + wayy 3)))]) C dX9_scoreOf_168 (by decide) rfl ?_
                                      refine jx_iinc (L' := [some (.inr (ad G 78)), some (.inl pi), some (.inl i), some (.inl j), some (.inl (chv d i j 2)), some (.inl 3), some (.inl (wayx 3)), some (.inl (wayy 3)), some (.inl (s8 + ((d (i + k9 % 3 - 1) (j + k9 / 3 - 1) - (d (i + k9 % 3 - 1 + wayx 3) (j + k9 / 3 - 1 + wayy 3))) * (d (i + k9 % 3 - 1) (j + k9 / 3 - 1) - (d (i + k9 % 3 - 1 + wayx 3) (j + k9 / 3 - 1 + wayy 3)))))), some (.inl (k9 + 1)), some (.inl (i + k9 % 3 - 1)), some (.inl (j + k9 / 3 - 1)), some (.inl (d (i + k9 % 3 - 1) (j + k9 / 3 - 1))), some (.inl (d (i + k9 % 3 - 1 + wayx 3) (j + k9 / 3 - 1 + wayy 3)))]) C dX9_scoreOf_170 rfl (by decide) rfl ?_
                                      refine jx_goto C dX9_scoreOf_173 ?_
                                      have hnx := chs_nextk (wx := wayx 3) (wy := wayy 3) hdr hne8 hx10 hy11 (by omega) (by omega)
                                      refine jx_fewer (L' := [some (.inr (ad G 78)), some (.inl pi), some (.inl i), some (.inl j), some (.inl (chv d i j 2)), some (.inl 3), some (.inl (wayx 3)), some (.inl (wayy 3)), some (.inl (s8 + ((d (i + k9 % 3 - 1) (j + k9 / 3 - 1) - (d (i + k9 % 3 - 1 + wayx 3) (j + k9 / 3 - 1 + wayy 3))) * (d (i + k9 % 3 - 1) (j + k9 / 3 - 1) - (d (i + k9 % 3 - 1 + wayx 3) (j + k9 / 3 - 1 + wayy 3)))))), some (.inl (k9 + 1)), none, none, none, none]) (fun i v h => ?_) ?_
                                      · exact jfew_ok (by simp [jfew]) h
                                      exact ih_87 (k + 1) (k9 + 1) (s8 + ((d (i + k9 % 3 - 1) (j + k9 / 3 - 1) - (d (i + k9 % 3 - 1 + wayx 3) (j + k9 / 3 - 1 + wayy 3))) * (d (i + k9 % 3 - 1) (j + k9 / 3 - 1) - (d (i + k9 % 3 - 1 + wayx 3) (j + k9 / 3 - 1 + wayy 3))))) (by omega) (by omega) (by rw [hnx.1, hs8]) hnx.2 (by omega)
                                    · refine jx_iconst C dX9_scoreOf_152 ?_
                                      exact jx_iret C dX9_scoreOf_153 ⟨by have hl : chv d i j 3 = -1 := chs_lostk (wx := wayx 3) (wy := wayy 3) (by omega) hx10 hy11 (by first | exact Or.inl (by omega) | exact Or.inr (by omega)); rw [sco, if_pos (by omega), scv, if_pos (by omega)], rfl⟩
                            exact LP_87 _ 0 0 0 rfl (Nat.zero_le _) rfl (chs_0 d i j _ _) (Nat.lt_succ_self _)
                        · refine jx_iload_n C dX9_scoreOf_94 rfl ?_
                          refine jx_iload C dX9_scoreOf_95 rfl ?_
                          refine jx_iconst C dX9_scoreOf_97 ?_
                          refine jx_irem (z := k9 % 3) C dX9_scoreOf_98 (by omega) (by decide) (by decide) (jtm (by omega)) ?_
                          refine jx_iadd C dX9_scoreOf_99 ?_
                          refine jx_iconst C dX9_scoreOf_100 ?_
                          refine jx_isub C dX9_scoreOf_101 ?_
                          refine jx_istore (L' := [some (.inr (ad G 78)), some (.inl pi), some (.inl i), some (.inl j), some (.inl (chv d i j 0)), some (.inl 2), some (.inl (wayx 2)), some (.inl (wayy 2)), some (.inl s8), some (.inl k9), some (.inl (i + k9 % 3 - 1)), none, none, none]) C dX9_scoreOf_102 (by decide) rfl ?_
                          refine jx_iload_n C dX9_scoreOf_104 rfl ?_
                          refine jx_iload C dX9_scoreOf_105 rfl ?_
                          refine jx_iconst C dX9_scoreOf_107 ?_
                          refine jx_idiv (z := k9 / 3) C dX9_scoreOf_108 (by omega) (by decide) (by decide) (jtd (by omega)) ?_
                          refine jx_iadd C dX9_scoreOf_109 ?_
                          refine jx_iconst C dX9_scoreOf_110 ?_
                          refine jx_isub C dX9_scoreOf_111 ?_
                          refine jx_istore (L' := [some (.inr (ad G 78)), some (.inl pi), some (.inl i), some (.inl j), some (.inl (chv d i j 0)), some (.inl 2), some (.inl (wayx 2)), some (.inl (wayy 2)), some (.inl s8), some (.inl k9), some (.inl (i + k9 % 3 - 1)), some (.inl (j + k9 / 3 - 1)), none, none]) C dX9_scoreOf_112 (by decide) rfl ?_
                          have hx10 : i + k9 % 3 - 1 = i - 1 + ((k % 3 : Nat) : Int) := by omega
                          have hy11 : j + k9 / 3 - 1 = j - 1 + ((k / 3 : Nat) : Int) := by omega
                          have hwb : -1 ≤ wayx 2 ∧ wayx 2 ≤ 1 ∧ -1 ≤ wayy 2 ∧ wayy 2 ≤ 1 := by decide
                          refine jx_aload_n C dX9_scoreOf_114 rfl ?_
                          refine jx_iload_n C dX9_scoreOf_115 rfl ?_
                          refine jx_iload C dX9_scoreOf_116 rfl ?_
                          refine jx_iload C dX9_scoreOf_118 rfl ?_
                          refine jx_cVi (as := [.inl pi, .inl (i + k9 % 3 - 1), .inl (j + k9 / 3 - 1)]) (st := []) C Yy (c_X9_dotAt l G μ pi (i + k9 % 3 - 1) (j + k9 / 3 - 1) (by omega) hR) yb_X9_dotAt yv_X9_dotAt wm_X9_99 (jcl_MO G _) rfl (by decide) rfl rfl (Nat.le_of_ble_eq_true rfl) ⟨⟨rfl, rfl, Nat.le_of_ble_eq_true rfl, Nat.le_of_ble_eq_true rfl⟩, Nat.zero_le _, Nat.zero_le _⟩ dX9_scoreOf_120 ?_
                          rintro _ _ ⟨rfl, rfl⟩
                          have r_120 := rg_81 hR (400 * pi + 20 * (j + k9 / 3 - 1) + (i + k9 % 3 - 1)).toNat
                          rw [show μ 81 (400 * pi + 20 * (j + k9 / 3 - 1) + (i + k9 % 3 - 1)).toNat = d (i + k9 % 3 - 1) (j + k9 / 3 - 1) from by rw [hd]; exact md_in hR hpi (by omega)] at r_120
                          refine jx_top (b := d (i + k9 % 3 - 1) (j + k9 / 3 - 1)) (by rw [hd]; exact md_in hR hpi (by omega)) ?_
                          refine jx_istore (L' := [some (.inr (ad G 78)), some (.inl pi), some (.inl i), some (.inl j), some (.inl (chv d i j 0)), some (.inl 2), some (.inl (wayx 2)), some (.inl (wayy 2)), some (.inl s8), some (.inl k9), some (.inl (i + k9 % 3 - 1)), some (.inl (j + k9 / 3 - 1)), some (.inl (d (i + k9 % 3 - 1) (j + k9 / 3 - 1))), none]) C dX9_scoreOf_123 (by decide) rfl ?_
                          refine jx_aload_n C dX9_scoreOf_125 rfl ?_
                          refine jx_iload_n C dX9_scoreOf_126 rfl ?_
                          refine jx_iload C dX9_scoreOf_127 rfl ?_
                          refine jx_iload C dX9_scoreOf_129 rfl ?_
                          refine jx_iadd C dX9_scoreOf_131 ?_
                          refine jx_iload C dX9_scoreOf_132 rfl ?_
                          refine jx_iload C dX9_scoreOf_134 rfl ?_
                          refine jx_iadd C dX9_scoreOf_136 ?_
                          refine jx_cVi (as := [.inl pi, .inl (i + k9 % 3 - 1 + wayx 2), .inl (j + k9 / 3 - 1 + wayy 2)]) (st := []) C Yy (c_X9_dotAt l G μ pi (i + k9 % 3 - 1 + wayx 2) (j + k9 / 3 - 1 + wayy 2) (by omega) hR) yb_X9_dotAt yv_X9_dotAt wm_X9_99 (jcl_MO G _) rfl (by decide) rfl rfl (Nat.le_of_ble_eq_true rfl) ⟨⟨rfl, rfl, Nat.le_of_ble_eq_true rfl, Nat.le_of_ble_eq_true rfl⟩, Nat.zero_le _, Nat.zero_le _⟩ dX9_scoreOf_137 ?_
                          rintro _ _ ⟨rfl, rfl⟩
                          have r_137 := rg_81 hR (400 * pi + 20 * (j + k9 / 3 - 1 + wayy 2) + (i + k9 % 3 - 1 + wayx 2)).toNat
                          rw [show μ 81 (400 * pi + 20 * (j + k9 / 3 - 1 + wayy 2) + (i + k9 % 3 - 1 + wayx 2)).toNat = d (i + k9 % 3 - 1 + wayx 2) (j + k9 / 3 - 1 + wayy 2) from by rw [hd]; exact md_in hR hpi (by omega)] at r_137
                          refine jx_top (b := d (i + k9 % 3 - 1 + wayx 2) (j + k9 / 3 - 1 + wayy 2)) (by rw [hd]; exact md_in hR hpi (by omega)) ?_
                          refine jx_istore (L' := [some (.inr (ad G 78)), some (.inl pi), some (.inl i), some (.inl j), some (.inl (chv d i j 0)), some (.inl 2), some (.inl (wayx 2)), some (.inl (wayy 2)), some (.inl s8), some (.inl k9), some (.inl (i + k9 % 3 - 1)), some (.inl (j + k9 / 3 - 1)), some (.inl (d (i + k9 % 3 - 1) (j + k9 / 3 - 1))), some (.inl (d (i + k9 % 3 - 1 + wayx 2) (j + k9 / 3 - 1 + wayy 2)))]) C dX9_scoreOf_140 (by decide) rfl ?_
                          refine jx_iload C dX9_scoreOf_142 rfl ?_
                          refine jx_if_lt C dX9_scoreOf_144 (by omega) (fun c_144 => ?_) (fun c_144 => ?_)
                          · refine jx_iconst C dX9_scoreOf_152 ?_
                            exact jx_iret C dX9_scoreOf_153 ⟨by have hl : chv d i j 2 = -1 := chs_lostk (wx := wayx 2) (wy := wayy 2) (by omega) hx10 hy11 (by first | exact Or.inl (by omega) | exact Or.inr (by omega)); rw [sco, if_pos (by omega), scv, if_pos (by omega)], rfl⟩
                          · refine jx_iload C dX9_scoreOf_147 rfl ?_
                            refine jx_if_ge C dX9_scoreOf_149 (by omega) (fun c_149 => ?_) (fun c_149 => ?_)
                            · refine jx_iload C dX9_scoreOf_154 rfl ?_
                              refine jx_iload C dX9_scoreOf_156 rfl ?_
                              refine jx_iload C dX9_scoreOf_158 rfl ?_
                              refine jx_isub C dX9_scoreOf_160 ?_
                              refine jx_iload C dX9_scoreOf_161 rfl ?_
                              refine jx_iload C dX9_scoreOf_163 rfl ?_
                              refine jx_isub C dX9_scoreOf_165 ?_
                              refine jx_imul C dX9_scoreOf_166 ?_
                              refine jx_iadd C dX9_scoreOf_167 ?_
                              refine jx_istore (L' := [some (.inr (ad G 78)), some (.inl pi), some (.inl i), some (.inl j), some (.inl (chv d i j 0)), some (.inl 2), some (.inl (wayx 2)), some (.inl (wayy 2)), some (.inl (s8 + ((d (i + k9 % 3 - 1) (j + k9 / 3 - 1) - (d (i + k9 % 3 - 1 + wayx 2) (j + k9 / 3 - 1 + wayy 2))) * (d (i + k9 % 3 - 1) (j + k9 / 3 - 1) - (d (i + k9 % 3 - 1 + wayx 2) (j + k9 / 3 - 1 + wayy 2)))))), some (.inl k9), some (.inl (i + k9 % 3 - 1)), some (.inl (j + k9 / 3 - 1)), some (.inl (d (i + k9 % 3 - 1) (j + k9 / 3 - 1))), some (.inl (d (i + k9 % 3 - 1 + wayx 2) (j + k9 / 3 - 1 + wayy 2)))]) C dX9_scoreOf_168 (by decide) rfl ?_
                              refine jx_iinc (L' := [some (.inr (ad G 78)), some (.inl pi), some (.inl i), some (.inl j), some (.inl (chv d i j 0)), some (.inl 2), some (.inl (wayx 2)), some (.inl (wayy 2)), some (.inl (s8 + ((d (i + k9 % 3 - 1) (j + k9 / 3 - 1) - (d (i + k9 % 3 - 1 + wayx 2) (j + k9 / 3 - 1 + wayy 2))) * (d (i + k9 % 3 - 1) (j + k9 / 3 - 1) - (d (i + k9 % 3 - 1 + wayx 2) (j + k9 / 3 - 1 + wayy 2)))))), some (.inl (k9 + 1)), some (.inl (i + k9 % 3 - 1)), some (.inl (j + k9 / 3 - 1)), some (.inl (d (i + k9 % 3 - 1) (j + k9 / 3 - 1))), some (.inl (d (i + k9 % 3 - 1 + wayx 2) (j + k9 / 3 - 1 + wayy 2)))]) C dX9_scoreOf_170 rfl (by decide) rfl ?_
                              refine jx_goto C dX9_scoreOf_173 ?_
                              have hnx := chs_nextk (wx := wayx 2) (wy := wayy 2) hdr hne8 hx10 hy11 (by omega) (by omega)
                              refine jx_fewer (L' := [some (.inr (ad G 78)), some (.inl pi), some (.inl i), some (.inl j), some (.inl (chv d i j 0)), some (.inl 2), some (.inl (wayx 2)), some (.inl (wayy 2)), some (.inl (s8 + ((d (i + k9 % 3 - 1) (j + k9 / 3 - 1) - (d (i + k9 % 3 - 1 + wayx 2) (j + k9 / 3 - 1 + wayy 2))) * (d (i + k9 % 3 - 1) (j + k9 / 3 - 1) - (d (i + k9 % 3 - 1 + wayx 2) (j + k9 / 3 - 1 + wayy 2)))))), some (.inl (k9 + 1)), none, none, none, none]) (fun i v h => ?_) ?_
                              · exact jfew_ok (by simp [jfew]) h
                              exact ih_87 (k + 1) (k9 + 1) (s8 + ((d (i + k9 % 3 - 1) (j + k9 / 3 - 1) - (d (i + k9 % 3 - 1 + wayx 2) (j + k9 / 3 - 1 + wayy 2))) * (d (i + k9 % 3 - 1) (j + k9 / 3 - 1) - (d (i + k9 % 3 - 1 + wayx 2) (j + k9 / 3 - 1 + wayy 2))))) (by omega) (by omega) (by rw [hnx.1, hs8]) hnx.2 (by omega)
                            · refine jx_iconst C dX9_scoreOf_152 ?_
                              exact jx_iret C dX9_scoreOf_153 ⟨by have hl : chv d i j 2 = -1 := chs_lostk (wx := wayx 2) (wy := wayy 2) (by omega) hx10 hy11 (by first | exact Or.inl (by omega) | exact Or.inr (by omega)); rw [sco, if_pos (by omega), scv, if_pos (by omega)], rfl⟩
                    exact LP_87 _ 0 0 0 rfl (Nat.zero_le _) rfl (chs_0 d i j _ _) (Nat.lt_succ_self _)
                  · refine jx_iload C dX9_scoreOf_188 rfl ?_
                    refine jx_goto C dX9_scoreOf_190 ?_
                    refine jx_istore (L' := [some (.inr (ad G 78)), some (.inl pi), some (.inl i), some (.inl j), some (.inl (chv d i j 1)), some (.inl 1), some (.inl (wayx 1)), some (.inl (wayy 1)), some (.inl (chv d i j 1)), some (.inl k9), none, none, none, none]) C dX9_scoreOf_195 (by decide) rfl ?_
                    refine jx_iinc (L' := [some (.inr (ad G 78)), some (.inl pi), some (.inl i), some (.inl j), some (.inl (chv d i j 1)), some (.inl 2), some (.inl (wayx 1)), some (.inl (wayy 1)), some (.inl (chv d i j 1)), some (.inl k9), none, none, none, none]) C dX9_scoreOf_197 rfl (by decide) rfl ?_
                    refine jx_goto C dX9_scoreOf_200 ?_
                    refine jx_iload C dX9_scoreOf_40 rfl ?_
                    refine jx_iconst C dX9_scoreOf_42 ?_
                    refine jx_icmp_ge C dX9_scoreOf_43 (by decide) (by decide) (fun q => absurd q (by decide)) (fun _ => ?_)
                    refine jx_iload C dX9_scoreOf_46 rfl ?_
                    refine jx_iconst C dX9_scoreOf_48 ?_
                    refine jx_icmp_ne C dX9_scoreOf_49 (by decide) (by decide) (fun _ => ?_) (fun q => absurd q (by decide))
                    refine jx_iconst C dX9_scoreOf_56 ?_
                    refine jx_istore (L' := [some (.inr (ad G 78)), some (.inl pi), some (.inl i), some (.inl j), some (.inl (chv d i j 1)), some (.inl 2), some (.inl 1), some (.inl (wayy 1)), some (.inl (chv d i j 1)), some (.inl k9), none, none, none, none]) C dX9_scoreOf_57 (by decide) rfl ?_
                    refine jx_iload C dX9_scoreOf_59 rfl ?_
                    refine jx_if_ne C dX9_scoreOf_61 (by decide) (fun _ => ?_) (fun q => absurd q (by decide))
                    refine jx_iload C dX9_scoreOf_68 rfl ?_
                    refine jx_iconst C dX9_scoreOf_70 ?_
                    refine jx_icmp_ne C dX9_scoreOf_71 (by decide) (by decide) (fun _ => ?_) (fun q => absurd q (by decide))
                    refine jx_iconst C dX9_scoreOf_78 ?_
                    refine jx_istore (L' := [some (.inr (ad G 78)), some (.inl pi), some (.inl i), some (.inl j), some (.inl (chv d i j 1)), some (.inl 2), some (.inl 1), some (.inl 1), some (.inl (chv d i j 1)), some (.inl k9), none, none, none, none]) C dX9_scoreOf_79 (by decide) rfl ?_
                    refine jx_lo (L' := [some (.inr (ad G 78)), some (.inl pi), some (.inl i), some (.inl j), some (.inl (chv d i j 1)), some (.inl 2), some (.inl (wayx 2)), some (.inl (wayy 2)), some (.inl (chv d i j 1)), some (.inl k9), none, none, none, none]) rfl ?_
                    refine jx_iconst C dX9_scoreOf_81 ?_
                    refine jx_istore (L' := [some (.inr (ad G 78)), some (.inl pi), some (.inl i), some (.inl j), some (.inl (chv d i j 1)), some (.inl 2), some (.inl (wayx 2)), some (.inl (wayy 2)), some (.inl 0), some (.inl k9), none, none, none, none]) C dX9_scoreOf_82 (by decide) rfl ?_
                    refine jx_iconst C dX9_scoreOf_84 ?_
                    refine jx_istore (L' := [some (.inr (ad G 78)), some (.inl pi), some (.inl i), some (.inl j), some (.inl (chv d i j 1)), some (.inl 2), some (.inl (wayx 2)), some (.inl (wayy 2)), some (.inl 0), some (.inl 0), none, none, none, none]) C dX9_scoreOf_85 (by decide) rfl ?_
                    have LP_87 : ∀ (n : Nat) (k : Nat) (k9 : Int) (s8 : Int), (k9 = (k : Int)) → (k ≤ 9) → (s8 = chs d i j (wayx 2) (wayy 2) k) → (chs d i j (wayx 2) (wayy 2) k ≠ -1) → 10 - k < n → jX F G 14 0 0 (jE F G (jQi G (rdq μ (sco (μ 79 p) (μ 80 p) d i j)))) 87 [some (.inr (ad G 78)), some (.inl pi), some (.inl i), some (.inl j), some (.inl (chv d i j 1)), some (.inl 2), some (.inl (wayx 2)), some (.inl (wayy 2)), some (.inl s8), some (.inl k9), none, none, none, none] [] μ := by
                      intro n
                      induction n with
                      | zero =>
                        intro k k9 s8 hk9 hk hs8 hne8 hms
                        exact absurd hms (Nat.not_lt_zero _)
                      | succ n ih =>
                        intro k k9 s8 hk9 hk hs8 hne8 hms
                        have ih_87 := ih
                        clear ih
                        have hcr := chs_rng hdr i j (wayx 2) (wayy 2) k
                        refine jx_iload C dX9_scoreOf_87 rfl ?_
                        refine jx_bipush C dX9_scoreOf_89 (by decide +kernel) ?_
                        refine jx_icmp_ge C dX9_scoreOf_91 (by omega) (by decide) (fun c_91 => ?_) (fun c_91 => ?_)
                        · have hs9 : s8 = chv d i j 2 := by rw [hs8, show k = 9 by omega]; rfl
                          have hn9 : chv d i j 2 ≠ -1 := by rw [show k = 9 by omega] at hne8; exact hne8
                          refine jx_lo (L' := [some (.inr (ad G 78)), some (.inl pi), some (.inl i), some (.inl j), some (.inl (chv d i j 1)), some (.inl 2), some (.inl (wayx 2)), some (.inl (wayy 2)), some (.inl (chv d i j 2)), some (.inl k9), none, none, none, none]) (by rw [hs9]) ?_
                          refine jx_iload C dX9_scoreOf_176 rfl ?_
                          refine jx_if_lt C dX9_scoreOf_178 (by omega) (fun c_178 => absurd c_178 (by omega)) (fun c_178 => ?_)
                          refine jx_iload C dX9_scoreOf_181 rfl ?_
                          refine jx_iload C dX9_scoreOf_183 rfl ?_
                          refine jx_icmp_ge C dX9_scoreOf_185 (by omega) (by omega) (fun c_185 => ?_) (fun c_185 => ?_)
                          · refine jx_iload C dX9_scoreOf_193 rfl ?_
                            refine jx_istore (L' := [some (.inr (ad G 78)), some (.inl pi), some (.inl i), some (.inl j), some (.inl (chv d i j 1)), some (.inl 2), some (.inl (wayx 2)), some (.inl (wayy 2)), some (.inl (chv d i j 2)), some (.inl k9), none, none, none, none]) C dX9_scoreOf_195 (by decide) rfl ?_
                            refine jx_iinc (L' := [some (.inr (ad G 78)), some (.inl pi), some (.inl i), some (.inl j), some (.inl (chv d i j 1)), some (.inl 3), some (.inl (wayx 2)), some (.inl (wayy 2)), some (.inl (chv d i j 2)), some (.inl k9), none, none, none, none]) C dX9_scoreOf_197 rfl (by decide) rfl ?_
                            refine jx_goto C dX9_scoreOf_200 ?_
                            refine jx_iload C dX9_scoreOf_40 rfl ?_
                            refine jx_iconst C dX9_scoreOf_42 ?_
                            refine jx_icmp_ge C dX9_scoreOf_43 (by decide) (by decide) (fun q => absurd q (by decide)) (fun _ => ?_)
                            refine jx_iload C dX9_scoreOf_46 rfl ?_
                            refine jx_iconst C dX9_scoreOf_48 ?_
                            refine jx_icmp_ne C dX9_scoreOf_49 (by decide) (by decide) (fun _ => ?_) (fun q => absurd q (by decide))
                            refine jx_iconst C dX9_scoreOf_56 ?_
                            refine jx_istore (L' := [some (.inr (ad G 78)), some (.inl pi), some (.inl i), some (.inl j), some (.inl (chv d i j 1)), some (.inl 3), some (.inl 1), some (.inl (wayy 2)), some (.inl (chv d i j 2)), some (.inl k9), none, none, none, none]) C dX9_scoreOf_57 (by decide) rfl ?_
                            refine jx_iload C dX9_scoreOf_59 rfl ?_
                            refine jx_if_ne C dX9_scoreOf_61 (by decide) (fun _ => ?_) (fun q => absurd q (by decide))
                            refine jx_iload C dX9_scoreOf_68 rfl ?_
                            refine jx_iconst C dX9_scoreOf_70 ?_
                            refine jx_icmp_ne C dX9_scoreOf_71 (by decide) (by decide) (fun q => absurd q (by decide)) (fun _ => ?_)
                            refine jx_iconst C dX9_scoreOf_74 ?_
                            refine jx_goto C dX9_scoreOf_75 ?_
                            refine jx_istore (L' := [some (.inr (ad G 78)), some (.inl pi), some (.inl i), some (.inl j), some (.inl (chv d i j 1)), some (.inl 3), some (.inl 1), some (.inl (-1)), some (.inl (chv d i j 2)), some (.inl k9), none, none, none, none]) C dX9_scoreOf_79 (by decide) rfl ?_
                            refine jx_lo (L' := [some (.inr (ad G 78)), some (.inl pi), some (.inl i), some (.inl j), some (.inl (chv d i j 1)), some (.inl 3), some (.inl (wayx 3)), some (.inl (wayy 3)), some (.inl (chv d i j 2)), some (.inl k9), none, none, none, none]) rfl ?_
                            refine jx_iconst C dX9_scoreOf_81 ?_
                            refine jx_istore (L' := [some (.inr (ad G 78)), some (.inl pi), some (.inl i), some (.inl j), some (.inl (chv d i j 1)), some (.inl 3), some (.inl (wayx 3)), some (.inl (wayy 3)), some (.inl 0), some (.inl k9), none, none, none, none]) C dX9_scoreOf_82 (by decide) rfl ?_
                            refine jx_iconst C dX9_scoreOf_84 ?_
                            refine jx_istore (L' := [some (.inr (ad G 78)), some (.inl pi), some (.inl i), some (.inl j), some (.inl (chv d i j 1)), some (.inl 3), some (.inl (wayx 3)), some (.inl (wayy 3)), some (.inl 0), some (.inl 0), none, none, none, none]) C dX9_scoreOf_85 (by decide) rfl ?_
                            have LP_87 : ∀ (n : Nat) (k : Nat) (k9 : Int) (s8 : Int), (k9 = (k : Int)) → (k ≤ 9) → (s8 = chs d i j (wayx 3) (wayy 3) k) → (chs d i j (wayx 3) (wayy 3) k ≠ -1) → 10 - k < n → jX F G 14 0 0 (jE F G (jQi G (rdq μ (sco (μ 79 p) (μ 80 p) d i j)))) 87 [some (.inr (ad G 78)), some (.inl pi), some (.inl i), some (.inl j), some (.inl (chv d i j 1)), some (.inl 3), some (.inl (wayx 3)), some (.inl (wayy 3)), some (.inl s8), some (.inl k9), none, none, none, none] [] μ := by
                              intro n
                              induction n with
                              | zero =>
                                intro k k9 s8 hk9 hk hs8 hne8 hms
                                exact absurd hms (Nat.not_lt_zero _)
                              | succ n ih =>
                                intro k k9 s8 hk9 hk hs8 hne8 hms
                                have ih_87 := ih
                                clear ih
                                have hcr := chs_rng hdr i j (wayx 3) (wayy 3) k
                                refine jx_iload C dX9_scoreOf_87 rfl ?_
                                refine jx_bipush C dX9_scoreOf_89 (by decide +kernel) ?_
                                refine jx_icmp_ge C dX9_scoreOf_91 (by omega) (by decide) (fun c_91 => ?_) (fun c_91 => ?_)
                                · have hs9 : s8 = chv d i j 3 := by rw [hs8, show k = 9 by omega]; rfl
                                  have hn9 : chv d i j 3 ≠ -1 := by rw [show k = 9 by omega] at hne8; exact hne8
                                  refine jx_lo (L' := [some (.inr (ad G 78)), some (.inl pi), some (.inl i), some (.inl j), some (.inl (chv d i j 1)), some (.inl 3), some (.inl (wayx 3)), some (.inl (wayy 3)), some (.inl (chv d i j 3)), some (.inl k9), none, none, none, none]) (by rw [hs9]) ?_
                                  refine jx_iload C dX9_scoreOf_176 rfl ?_
                                  refine jx_if_lt C dX9_scoreOf_178 (by omega) (fun c_178 => absurd c_178 (by omega)) (fun c_178 => ?_)
                                  refine jx_iload C dX9_scoreOf_181 rfl ?_
                                  refine jx_iload C dX9_scoreOf_183 rfl ?_
                                  refine jx_icmp_ge C dX9_scoreOf_185 (by omega) (by omega) (fun c_185 => ?_) (fun c_185 => ?_)
                                  · refine jx_iload C dX9_scoreOf_193 rfl ?_
                                    refine jx_istore (L' := [some (.inr (ad G 78)), some (.inl pi), some (.inl i), some (.inl j), some (.inl (chv d i j 1)), some (.inl 3), some (.inl (wayx 3)), some (.inl (wayy 3)), some (.inl (chv d i j 3)), some (.inl k9), none, none, none, none]) C dX9_scoreOf_195 (by decide) rfl ?_
                                    refine jx_iinc (L' := [some (.inr (ad G 78)), some (.inl pi), some (.inl i), some (.inl j), some (.inl (chv d i j 1)), some (.inl 4), some (.inl (wayx 3)), some (.inl (wayy 3)), some (.inl (chv d i j 3)), some (.inl k9), none, none, none, none]) C dX9_scoreOf_197 rfl (by decide) rfl ?_
                                    refine jx_goto C dX9_scoreOf_200 ?_
                                    refine jx_iload C dX9_scoreOf_40 rfl ?_
                                    refine jx_iconst C dX9_scoreOf_42 ?_
                                    refine jx_icmp_ge C dX9_scoreOf_43 (by decide) (by decide) (fun _ => ?_) (fun q => absurd q (by decide))
                                    refine jx_iload C dX9_scoreOf_203 rfl ?_
                                    exact jx_iret C dX9_scoreOf_205 ⟨by rw [sco, if_pos (by omega), scv, if_neg (by omega)]; omega, rfl⟩
                                  · refine jx_iload C dX9_scoreOf_188 rfl ?_
                                    refine jx_goto C dX9_scoreOf_190 ?_
                                    refine jx_istore (L' := [some (.inr (ad G 78)), some (.inl pi), some (.inl i), some (.inl j), some (.inl (chv d i j 3)), some (.inl 3), some (.inl (wayx 3)), some (.inl (wayy 3)), some (.inl (chv d i j 3)), some (.inl k9), none, none, none, none]) C dX9_scoreOf_195 (by decide) rfl ?_
                                    refine jx_iinc (L' := [some (.inr (ad G 78)), some (.inl pi), some (.inl i), some (.inl j), some (.inl (chv d i j 3)), some (.inl 4), some (.inl (wayx 3)), some (.inl (wayy 3)), some (.inl (chv d i j 3)), some (.inl k9), none, none, none, none]) C dX9_scoreOf_197 rfl (by decide) rfl ?_
                                    refine jx_goto C dX9_scoreOf_200 ?_
                                    refine jx_iload C dX9_scoreOf_40 rfl ?_
                                    refine jx_iconst C dX9_scoreOf_42 ?_
                                    refine jx_icmp_ge C dX9_scoreOf_43 (by decide) (by decide) (fun _ => ?_) (fun q => absurd q (by decide))
                                    refine jx_iload C dX9_scoreOf_203 rfl ?_
                                    exact jx_iret C dX9_scoreOf_205 ⟨by rw [sco, if_pos (by omega), scv, if_neg (by omega)]; omega, rfl⟩
                                · refine jx_iload_n C dX9_scoreOf_94 rfl ?_
                                  refine jx_iload C dX9_scoreOf_95 rfl ?_
                                  refine jx_iconst C dX9_scoreOf_97 ?_
                                  refine jx_irem (z := k9 % 3) C dX9_scoreOf_98 (by omega) (by decide) (by decide) (jtm (by omega)) ?_
                                  refine jx_iadd C dX9_scoreOf_99 ?_
                                  refine jx_iconst C dX9_scoreOf_100 ?_
                                  refine jx_isub C dX9_scoreOf_101 ?_
                                  refine jx_istore (L' := [some (.inr (ad G 78)), some (.inl pi), some (.inl i), some (.inl j), some (.inl (chv d i j 1)), some (.inl 3), some (.inl (wayx 3)), some (.inl (wayy 3)), some (.inl s8), some (.inl k9), some (.inl (i + k9 % 3 - 1)), none, none, none]) C dX9_scoreOf_102 (by decide) rfl ?_
                                  refine jx_iload_n C dX9_scoreOf_104 rfl ?_
                                  refine jx_iload C dX9_scoreOf_105 rfl ?_
                                  refine jx_iconst C dX9_scoreOf_107 ?_
                                  refine jx_idiv (z := k9 / 3) C dX9_scoreOf_108 (by omega) (by decide) (by decide) (jtd (by omega)) ?_
                                  refine jx_iadd C dX9_scoreOf_109 ?_
                                  refine jx_iconst C dX9_scoreOf_110 ?_
                                  refine jx_isub C dX9_scoreOf_111 ?_
                                  refine jx_istore (L' := [some (.inr (ad G 78)), some (.inl pi), some (.inl i), some (.inl j), some (.inl (chv d i j 1)), some (.inl 3), some (.inl (wayx 3)), some (.inl (wayy 3)), some (.inl s8), some (.inl k9), some (.inl (i + k9 % 3 - 1)), some (.inl (j + k9 / 3 - 1)), none, none]) C dX9_scoreOf_112 (by decide) rfl ?_
                                  have hx10 : i + k9 % 3 - 1 = i - 1 + ((k % 3 : Nat) : Int) := by omega
                                  have hy11 : j + k9 / 3 - 1 = j - 1 + ((k / 3 : Nat) : Int) := by omega
                                  have hwb : -1 ≤ wayx 3 ∧ wayx 3 ≤ 1 ∧ -1 ≤ wayy 3 ∧ wayy 3 ≤ 1 := by decide
                                  refine jx_aload_n C dX9_scoreOf_114 rfl ?_
                                  refine jx_iload_n C dX9_scoreOf_115 rfl ?_
                                  refine jx_iload C dX9_scoreOf_116 rfl ?_
                                  refine jx_iload C dX9_scoreOf_118 rfl ?_
                                  refine jx_cVi (as := [.inl pi, .inl (i + k9 % 3 - 1), .inl (j + k9 / 3 - 1)]) (st := []) C Yy (c_X9_dotAt l G μ pi (i + k9 % 3 - 1) (j + k9 / 3 - 1) (by omega) hR) yb_X9_dotAt yv_X9_dotAt wm_X9_99 (jcl_MO G _) rfl (by decide) rfl rfl (Nat.le_of_ble_eq_true rfl) ⟨⟨rfl, rfl, Nat.le_of_ble_eq_true rfl, Nat.le_of_ble_eq_true rfl⟩, Nat.zero_le _, Nat.zero_le _⟩ dX9_scoreOf_120 ?_
                                  rintro _ _ ⟨rfl, rfl⟩
                                  have r_120 := rg_81 hR (400 * pi + 20 * (j + k9 / 3 - 1) + (i + k9 % 3 - 1)).toNat
                                  rw [show μ 81 (400 * pi + 20 * (j + k9 / 3 - 1) + (i + k9 % 3 - 1)).toNat = d (i + k9 % 3 - 1) (j + k9 / 3 - 1) from by rw [hd]; exact md_in hR hpi (by omega)] at r_120
                                  refine jx_top (b := d (i + k9 % 3 - 1) (j + k9 / 3 - 1)) (by rw [hd]; exact md_in hR hpi (by omega)) ?_
                                  refine jx_istore (L' := [some (.inr (ad G 78)), some (.inl pi), some (.inl i), some (.inl j), some (.inl (chv d i j 1)), some (.inl 3), some (.inl (wayx 3)), some (.inl (wayy 3)), some (.inl s8), some (.inl k9), some (.inl (i + k9 % 3 - 1)), some (.inl (j + k9 / 3 - 1)), some (.inl (d (i + k9 % 3 - 1) (j + k9 / 3 - 1))), none]) C dX9_scoreOf_123 (by decide) rfl ?_
                                  refine jx_aload_n C dX9_scoreOf_125 rfl ?_
                                  refine jx_iload_n C dX9_scoreOf_126 rfl ?_
                                  refine jx_iload C dX9_scoreOf_127 rfl ?_
                                  refine jx_iload C dX9_scoreOf_129 rfl ?_
                                  refine jx_iadd C dX9_scoreOf_131 ?_
                                  refine jx_iload C dX9_scoreOf_132 rfl ?_
                                  refine jx_iload C dX9_scoreOf_134 rfl ?_
                                  refine jx_iadd C dX9_scoreOf_136 ?_
                                  refine jx_cVi (as := [.inl pi, .inl (i + k9 % 3 - 1 + wayx 3), .inl (j + k9 / 3 - 1 + wayy 3)]) (st := []) C Yy (c_X9_dotAt l G μ pi (i + k9 % 3 - 1 + wayx 3) (j + k9 / 3 - 1 + wayy 3) (by omega) hR) yb_X9_dotAt yv_X9_dotAt wm_X9_99 (jcl_MO G _) rfl (by decide) rfl rfl (Nat.le_of_ble_eq_true rfl) ⟨⟨rfl, rfl, Nat.le_of_ble_eq_true rfl, Nat.le_of_ble_eq_true rfl⟩, Nat.zero_le _, Nat.zero_le _⟩ dX9_scoreOf_137 ?_
                                  rintro _ _ ⟨rfl, rfl⟩
                                  have r_137 := rg_81 hR (400 * pi + 20 * (j + k9 / 3 - 1 + wayy 3) + (i + k9 % 3 - 1 + wayx 3)).toNat
                                  rw [show μ 81 (400 * pi + 20 * (j + k9 / 3 - 1 + wayy 3) + (i + k9 % 3 - 1 + wayx 3)).toNat = d (i + k9 % 3 - 1 + wayx 3) (j + k9 / 3 - 1 + wayy 3) from by rw [hd]; exact md_in hR hpi (by omega)] at r_137
                                  refine jx_top (b := d (i + k9 % 3 - 1 + wayx 3) (j + k9 / 3 - 1 + wayy 3)) (by rw [hd]; exact md_in hR hpi (by omega)) ?_
                                  refine jx_istore (L' := [some (.inr (ad G 78)), some (.inl pi), some (.inl i), some (.inl j), some (.inl (chv d i j 1)), some (.inl 3), some (.inl (wayx 3)), some (.inl (wayy 3)), some (.inl s8), some (.inl k9), some (.inl (i + k9 % 3 - 1)), some (.inl (j + k9 / 3 - 1)), some (.inl (d (i + k9 % 3 - 1) (j + k9 / 3 - 1))), some (.inl (d (i + k9 % 3 - 1 + wayx 3) (j + k9 / 3 - 1 + wayy 3)))]) C dX9_scoreOf_140 (by decide) rfl ?_
                                  refine jx_iload C dX9_scoreOf_142 rfl ?_
                                  refine jx_if_lt C dX9_scoreOf_144 (by omega) (fun c_144 => ?_) (fun c_144 => ?_)
                                  · refine jx_iconst C dX9_scoreOf_152 ?_
                                    exact jx_iret C dX9_scoreOf_153 ⟨by have hl : chv d i j 3 = -1 := chs_lostk (wx := wayx 3) (wy := wayy 3) (by omega) hx10 hy11 (by first | exact Or.inl (by omega) | exact Or.inr (by omega)); rw [sco, if_pos (by omega), scv, if_pos (by omega)], rfl⟩
                                  · refine jx_iload C dX9_scoreOf_147 rfl ?_
                                    refine jx_if_ge C dX9_scoreOf_149 (by omega) (fun c_149 => ?_) (fun c_149 => ?_)
                                    · refine jx_iload C dX9_scoreOf_154 rfl ?_
                                      refine jx_iload C dX9_scoreOf_156 rfl ?_
                                      refine jx_iload C dX9_scoreOf_158 rfl ?_
                                      refine jx_isub C dX9_scoreOf_160 ?_
                                      refine jx_iload C dX9_scoreOf_161 rfl ?_
                                      refine jx_iload C dX9_scoreOf_163 rfl ?_
                                      refine jx_isub C dX9_scoreOf_165 ?_
                                      refine jx_imul C dX9_scoreOf_166 ?_
                                      refine jx_iadd C dX9_scoreOf_167 ?_
                                      refine jx_istore (L' := [some (.inr (ad G 78)), some (.inl pi), some (.inl i), some (.inl j), some (.inl (chv d i j 1)), some (.inl 3), some (.inl (wayx 3)), some (.inl (wayy 3)), some (.inl (s8 + ((d (i + k9 % 3 - 1) (j + k9 / 3 - 1) - (d (i + k9 % 3 - 1 + wayx 3) (j + k9 / 3 - 1 + wayy 3))) * (d (i + k9 % 3 - 1) (j + k9 / 3 - 1) - (d (i + k9 % 3 - 1 + wayx 3) (j + k9 / 3 - 1 + wayy 3)))))), some (.inl k9), some (.inl (i + k9 % 3 - 1)), some (.inl (j + k9 / 3 - 1)), some (.inl (d (i + k9 % 3 - 1) (j + k9 / 3 - 1))), some (.inl (d (i + k9 % 3 - 1 + wayx 3) (j + k9 / 3 - 1 + wayy 3)))]) C dX9_scoreOf_168 (by decide) rfl ?_
                                      refine jx_iinc (L' := [some (.inr (ad G 78)), some (.inl pi), some (.inl i), some (.inl j), some (.inl (chv d i j 1)), some (.inl 3), some (.inl (wayx 3)), some (.inl (wayy 3)), some (.inl (s8 + ((d (i + k9 % 3 - 1) (j + k9 / 3 - 1) - (d (i + k9 % 3 - 1 + wayx 3) (j + k9 / 3 - 1 + wayy 3))) * (d (i + k9 % 3 - 1) (j + k9 / 3 - 1) - (d (i + k9 % 3 - 1 + wayx 3) (j + k9 / 3 - 1 + wayy 3)))))), some (.inl (k9 + 1)), some (.inl (i + k9 % 3 - 1)), some (.inl (j + k9 / 3 - 1)), some (.inl (d (i + k9 % 3 - 1) (j + k9 / 3 - 1))), some (.inl (d (i + k9 % 3 - 1 + wayx 3) (j + k9 / 3 - 1 + wayy 3)))]) C dX9_scoreOf_170 rfl (by decide) rfl ?_
                                      refine jx_goto C dX9_scoreOf_173 ?_
                                      have hnx := chs_nextk (wx := wayx 3) (wy := wayy 3) hdr hne8 hx10 hy11 (by omega) (by omega)
                                      refine jx_fewer (L' := [some (.inr (ad G 78)), some (.inl pi), some (.inl i), some (.inl j), some (.inl (chv d i j 1)), some (.inl 3), some (.inl (wayx 3)), some (.inl (wayy 3)), some (.inl (s8 + ((d (i + k9 % 3 - 1) (j + k9 / 3 - 1) - (d (i + k9 % 3 - 1 + wayx 3) (j + k9 / 3 - 1 + wayy 3))) * (d (i + k9 % 3 - 1) (j + k9 / 3 - 1) - (d (i + k9 % 3 - 1 + wayx 3) (j + k9 / 3 - 1 + wayy 3)))))), some (.inl (k9 + 1)), none, none, none, none]) (fun i v h => ?_) ?_
                                      · exact jfew_ok (by simp [jfew]) h
                                      exact ih_87 (k + 1) (k9 + 1) (s8 + ((d (i + k9 % 3 - 1) (j + k9 / 3 - 1) - (d (i + k9 % 3 - 1 + wayx 3) (j + k9 / 3 - 1 + wayy 3))) * (d (i + k9 % 3 - 1) (j + k9 / 3 - 1) - (d (i + k9 % 3 - 1 + wayx 3) (j + k9 / 3 - 1 + wayy 3))))) (by omega) (by omega) (by rw [hnx.1, hs8]) hnx.2 (by omega)
                                    · refine jx_iconst C dX9_scoreOf_152 ?_
                                      exact jx_iret C dX9_scoreOf_153 ⟨by have hl : chv d i j 3 = -1 := chs_lostk (wx := wayx 3) (wy := wayy 3) (by omega) hx10 hy11 (by first | exact Or.inl (by omega) | exact Or.inr (by omega)); rw [sco, if_pos (by omega), scv, if_pos (by omega)], rfl⟩
                            exact LP_87 _ 0 0 0 rfl (Nat.zero_le _) rfl (chs_0 d i j _ _) (Nat.lt_succ_self _)
                          · refine jx_iload C dX9_scoreOf_188 rfl ?_
                            refine jx_goto C dX9_scoreOf_190 ?_
                            refine jx_istore (L' := [some (.inr (ad G 78)), some (.inl pi), some (.inl i), some (.inl j), some (.inl (chv d i j 2)), some (.inl 2), some (.inl (wayx 2)), some (.inl (wayy 2)), some (.inl (chv d i j 2)), some (.inl k9), none, none, none, none]) C dX9_scoreOf_195 (by decide) rfl ?_
                            refine jx_iinc (L' := [some (.inr (ad G 78)), some (.inl pi), some (.inl i), some (.inl j), some (.inl (chv d i j 2)), some (.inl 3), some (.inl (wayx 2)), some (.inl (wayy 2)), some (.inl (chv d i j 2)), some (.inl k9), none, none, none, none]) C dX9_scoreOf_197 rfl (by decide) rfl ?_
                            refine jx_goto C dX9_scoreOf_200 ?_
                            refine jx_iload C dX9_scoreOf_40 rfl ?_
                            refine jx_iconst C dX9_scoreOf_42 ?_
                            refine jx_icmp_ge C dX9_scoreOf_43 (by decide) (by decide) (fun q => absurd q (by decide)) (fun _ => ?_)
                            refine jx_iload C dX9_scoreOf_46 rfl ?_
                            refine jx_iconst C dX9_scoreOf_48 ?_
                            refine jx_icmp_ne C dX9_scoreOf_49 (by decide) (by decide) (fun _ => ?_) (fun q => absurd q (by decide))
                            refine jx_iconst C dX9_scoreOf_56 ?_
                            refine jx_istore (L' := [some (.inr (ad G 78)), some (.inl pi), some (.inl i), some (.inl j), some (.inl (chv d i j 2)), some (.inl 3), some (.inl 1), some (.inl (wayy 2)), some (.inl (chv d i j 2)), some (.inl k9), none, none, none, none]) C dX9_scoreOf_57 (by decide) rfl ?_
                            refine jx_iload C dX9_scoreOf_59 rfl ?_
                            refine jx_if_ne C dX9_scoreOf_61 (by decide) (fun _ => ?_) (fun q => absurd q (by decide))
                            refine jx_iload C dX9_scoreOf_68 rfl ?_
                            refine jx_iconst C dX9_scoreOf_70 ?_
                            refine jx_icmp_ne C dX9_scoreOf_71 (by decide) (by decide) (fun q => absurd q (by decide)) (fun _ => ?_)
                            refine jx_iconst C dX9_scoreOf_74 ?_
                            refine jx_goto C dX9_scoreOf_75 ?_
                            refine jx_istore (L' := [some (.inr (ad G 78)), some (.inl pi), some (.inl i), some (.inl j), some (.inl (chv d i j 2)), some (.inl 3), some (.inl 1), some (.inl (-1)), some (.inl (chv d i j 2)), some (.inl k9), none, none, none, none]) C dX9_scoreOf_79 (by decide) rfl ?_
                            refine jx_lo (L' := [some (.inr (ad G 78)), some (.inl pi), some (.inl i), some (.inl j), some (.inl (chv d i j 2)), some (.inl 3), some (.inl (wayx 3)), some (.inl (wayy 3)), some (.inl (chv d i j 2)), some (.inl k9), none, none, none, none]) rfl ?_
                            refine jx_iconst C dX9_scoreOf_81 ?_
                            refine jx_istore (L' := [some (.inr (ad G 78)), some (.inl pi), some (.inl i), some (.inl j), some (.inl (chv d i j 2)), some (.inl 3), some (.inl (wayx 3)), some (.inl (wayy 3)), some (.inl 0), some (.inl k9), none, none, none, none]) C dX9_scoreOf_82 (by decide) rfl ?_
                            refine jx_iconst C dX9_scoreOf_84 ?_
                            refine jx_istore (L' := [some (.inr (ad G 78)), some (.inl pi), some (.inl i), some (.inl j), some (.inl (chv d i j 2)), some (.inl 3), some (.inl (wayx 3)), some (.inl (wayy 3)), some (.inl 0), some (.inl 0), none, none, none, none]) C dX9_scoreOf_85 (by decide) rfl ?_
                            have LP_87 : ∀ (n : Nat) (k : Nat) (k9 : Int) (s8 : Int), (k9 = (k : Int)) → (k ≤ 9) → (s8 = chs d i j (wayx 3) (wayy 3) k) → (chs d i j (wayx 3) (wayy 3) k ≠ -1) → 10 - k < n → jX F G 14 0 0 (jE F G (jQi G (rdq μ (sco (μ 79 p) (μ 80 p) d i j)))) 87 [some (.inr (ad G 78)), some (.inl pi), some (.inl i), some (.inl j), some (.inl (chv d i j 2)), some (.inl 3), some (.inl (wayx 3)), some (.inl (wayy 3)), some (.inl s8), some (.inl k9), none, none, none, none] [] μ := by
                              intro n
                              induction n with
                              | zero =>
                                intro k k9 s8 hk9 hk hs8 hne8 hms
                                exact absurd hms (Nat.not_lt_zero _)
                              | succ n ih =>
                                intro k k9 s8 hk9 hk hs8 hne8 hms
                                have ih_87 := ih
                                clear ih
                                have hcr := chs_rng hdr i j (wayx 3) (wayy 3) k
                                refine jx_iload C dX9_scoreOf_87 rfl ?_
                                refine jx_bipush C dX9_scoreOf_89 (by decide +kernel) ?_
                                refine jx_icmp_ge C dX9_scoreOf_91 (by omega) (by decide) (fun c_91 => ?_) (fun c_91 => ?_)
                                · have hs9 : s8 = chv d i j 3 := by rw [hs8, show k = 9 by omega]; rfl
                                  have hn9 : chv d i j 3 ≠ -1 := by rw [show k = 9 by omega] at hne8; exact hne8
                                  refine jx_lo (L' := [some (.inr (ad G 78)), some (.inl pi), some (.inl i), some (.inl j), some (.inl (chv d i j 2)), some (.inl 3), some (.inl (wayx 3)), some (.inl (wayy 3)), some (.inl (chv d i j 3)), some (.inl k9), none, none, none, none]) (by rw [hs9]) ?_
                                  refine jx_iload C dX9_scoreOf_176 rfl ?_
                                  refine jx_if_lt C dX9_scoreOf_178 (by omega) (fun c_178 => absurd c_178 (by omega)) (fun c_178 => ?_)
                                  refine jx_iload C dX9_scoreOf_181 rfl ?_
                                  refine jx_iload C dX9_scoreOf_183 rfl ?_
                                  refine jx_icmp_ge C dX9_scoreOf_185 (by omega) (by omega) (fun c_185 => ?_) (fun c_185 => ?_)
                                  · refine jx_iload C dX9_scoreOf_193 rfl ?_
                                    refine jx_istore (L' := [some (.inr (ad G 78)), some (.inl pi), some (.inl i), some (.inl j), some (.inl (chv d i j 2)), some (.inl 3), some (.inl (wayx 3)), some (.inl (wayy 3)), some (.inl (chv d i j 3)), some (.inl k9), none, none, none, none]) C dX9_scoreOf_195 (by decide) rfl ?_
                                    refine jx_iinc (L' := [some (.inr (ad G 78)), some (.inl pi), some (.inl i), some (.inl j), some (.inl (chv d i j 2)), some (.inl 4), some (.inl (wayx 3)), some (.inl (wayy 3)), some (.inl (chv d i j 3)), some (.inl k9), none, none, none, none]) C dX9_scoreOf_197 rfl (by decide) rfl ?_
                                    refine jx_goto C dX9_scoreOf_200 ?_
                                    refine jx_iload C dX9_scoreOf_40 rfl ?_
                                    refine jx_iconst C dX9_scoreOf_42 ?_
                                    refine jx_icmp_ge C dX9_scoreOf_43 (by decide) (by decide) (fun _ => ?_) (fun q => absurd q (by decide))
                                    refine jx_iload C dX9_scoreOf_203 rfl ?_
                                    exact jx_iret C dX9_scoreOf_205 ⟨by rw [sco, if_pos (by omega), scv, if_neg (by omega)]; omega, rfl⟩
                                  · refine jx_iload C dX9_scoreOf_188 rfl ?_
                                    refine jx_goto C dX9_scoreOf_190 ?_
                                    refine jx_istore (L' := [some (.inr (ad G 78)), some (.inl pi), some (.inl i), some (.inl j), some (.inl (chv d i j 3)), some (.inl 3), some (.inl (wayx 3)), some (.inl (wayy 3)), some (.inl (chv d i j 3)), some (.inl k9), none, none, none, none]) C dX9_scoreOf_195 (by decide) rfl ?_
                                    refine jx_iinc (L' := [some (.inr (ad G 78)), some (.inl pi), some (.inl i), some (.inl j), some (.inl (chv d i j 3)), some (.inl 4), some (.inl (wayx 3)), some (.inl (wayy 3)), some (.inl (chv d i j 3)), some (.inl k9), none, none, none, none]) C dX9_scoreOf_197 rfl (by decide) rfl ?_
                                    refine jx_goto C dX9_scoreOf_200 ?_
                                    refine jx_iload C dX9_scoreOf_40 rfl ?_
                                    refine jx_iconst C dX9_scoreOf_42 ?_
                                    refine jx_icmp_ge C dX9_scoreOf_43 (by decide) (by decide) (fun _ => ?_) (fun q => absurd q (by decide))
                                    refine jx_iload C dX9_scoreOf_203 rfl ?_
                                    exact jx_iret C dX9_scoreOf_205 ⟨by rw [sco, if_pos (by omega), scv, if_neg (by omega)]; omega, rfl⟩
                                · refine jx_iload_n C dX9_scoreOf_94 rfl ?_
                                  refine jx_iload C dX9_scoreOf_95 rfl ?_
                                  refine jx_iconst C dX9_scoreOf_97 ?_
                                  refine jx_irem (z := k9 % 3) C dX9_scoreOf_98 (by omega) (by decide) (by decide) (jtm (by omega)) ?_
                                  refine jx_iadd C dX9_scoreOf_99 ?_
                                  refine jx_iconst C dX9_scoreOf_100 ?_
                                  refine jx_isub C dX9_scoreOf_101 ?_
                                  refine jx_istore (L' := [some (.inr (ad G 78)), some (.inl pi), some (.inl i), some (.inl j), some (.inl (chv d i j 2)), some (.inl 3), some (.inl (wayx 3)), some (.inl (wayy 3)), some (.inl s8), some (.inl k9), some (.inl (i + k9 % 3 - 1)), none, none, none]) C dX9_scoreOf_102 (by decide) rfl ?_
                                  refine jx_iload_n C dX9_scoreOf_104 rfl ?_
                                  refine jx_iload C dX9_scoreOf_105 rfl ?_
                                  refine jx_iconst C dX9_scoreOf_107 ?_
                                  refine jx_idiv (z := k9 / 3) C dX9_scoreOf_108 (by omega) (by decide) (by decide) (jtd (by omega)) ?_
                                  refine jx_iadd C dX9_scoreOf_109 ?_
                                  refine jx_iconst C dX9_scoreOf_110 ?_
                                  refine jx_isub C dX9_scoreOf_111 ?_
                                  refine jx_istore (L' := [some (.inr (ad G 78)), some (.inl pi), some (.inl i), some (.inl j), some (.inl (chv d i j 2)), some (.inl 3), some (.inl (wayx 3)), some (.inl (wayy 3)), some (.inl s8), some (.inl k9), some (.inl (i + k9 % 3 - 1)), some (.inl (j + k9 / 3 - 1)), none, none]) C dX9_scoreOf_112 (by decide) rfl ?_
                                  have hx10 : i + k9 % 3 - 1 = i - 1 + ((k % 3 : Nat) : Int) := by omega
                                  have hy11 : j + k9 / 3 - 1 = j - 1 + ((k / 3 : Nat) : Int) := by omega
                                  have hwb : -1 ≤ wayx 3 ∧ wayx 3 ≤ 1 ∧ -1 ≤ wayy 3 ∧ wayy 3 ≤ 1 := by decide
                                  refine jx_aload_n C dX9_scoreOf_114 rfl ?_
                                  refine jx_iload_n C dX9_scoreOf_115 rfl ?_
                                  refine jx_iload C dX9_scoreOf_116 rfl ?_
                                  refine jx_iload C dX9_scoreOf_118 rfl ?_
                                  refine jx_cVi (as := [.inl pi, .inl (i + k9 % 3 - 1), .inl (j + k9 / 3 - 1)]) (st := []) C Yy (c_X9_dotAt l G μ pi (i + k9 % 3 - 1) (j + k9 / 3 - 1) (by omega) hR) yb_X9_dotAt yv_X9_dotAt wm_X9_99 (jcl_MO G _) rfl (by decide) rfl rfl (Nat.le_of_ble_eq_true rfl) ⟨⟨rfl, rfl, Nat.le_of_ble_eq_true rfl, Nat.le_of_ble_eq_true rfl⟩, Nat.zero_le _, Nat.zero_le _⟩ dX9_scoreOf_120 ?_
                                  rintro _ _ ⟨rfl, rfl⟩
                                  have r_120 := rg_81 hR (400 * pi + 20 * (j + k9 / 3 - 1) + (i + k9 % 3 - 1)).toNat
                                  rw [show μ 81 (400 * pi + 20 * (j + k9 / 3 - 1) + (i + k9 % 3 - 1)).toNat = d (i + k9 % 3 - 1) (j + k9 / 3 - 1) from by rw [hd]; exact md_in hR hpi (by omega)] at r_120
                                  refine jx_top (b := d (i + k9 % 3 - 1) (j + k9 / 3 - 1)) (by rw [hd]; exact md_in hR hpi (by omega)) ?_
                                  refine jx_istore (L' := [some (.inr (ad G 78)), some (.inl pi), some (.inl i), some (.inl j), some (.inl (chv d i j 2)), some (.inl 3), some (.inl (wayx 3)), some (.inl (wayy 3)), some (.inl s8), some (.inl k9), some (.inl (i + k9 % 3 - 1)), some (.inl (j + k9 / 3 - 1)), some (.inl (d (i + k9 % 3 - 1) (j + k9 / 3 - 1))), none]) C dX9_scoreOf_123 (by decide) rfl ?_
                                  refine jx_aload_n C dX9_scoreOf_125 rfl ?_
                                  refine jx_iload_n C dX9_scoreOf_126 rfl ?_
                                  refine jx_iload C dX9_scoreOf_127 rfl ?_
                                  refine jx_iload C dX9_scoreOf_129 rfl ?_
                                  refine jx_iadd C dX9_scoreOf_131 ?_
                                  refine jx_iload C dX9_scoreOf_132 rfl ?_
                                  refine jx_iload C dX9_scoreOf_134 rfl ?_
                                  refine jx_iadd C dX9_scoreOf_136 ?_
                                  refine jx_cVi (as := [.inl pi, .inl (i + k9 % 3 - 1 + wayx 3), .inl (j + k9 / 3 - 1 + wayy 3)]) (st := []) C Yy (c_X9_dotAt l G μ pi (i + k9 % 3 - 1 + wayx 3) (j + k9 / 3 - 1 + wayy 3) (by omega) hR) yb_X9_dotAt yv_X9_dotAt wm_X9_99 (jcl_MO G _) rfl (by decide) rfl rfl (Nat.le_of_ble_eq_true rfl) ⟨⟨rfl, rfl, Nat.le_of_ble_eq_true rfl, Nat.le_of_ble_eq_true rfl⟩, Nat.zero_le _, Nat.zero_le _⟩ dX9_scoreOf_137 ?_
                                  rintro _ _ ⟨rfl, rfl⟩
                                  have r_137 := rg_81 hR (400 * pi + 20 * (j + k9 / 3 - 1 + wayy 3) + (i + k9 % 3 - 1 + wayx 3)).toNat
                                  rw [show μ 81 (400 * pi + 20 * (j + k9 / 3 - 1 + wayy 3) + (i + k9 % 3 - 1 + wayx 3)).toNat = d (i + k9 % 3 - 1 + wayx 3) (j + k9 / 3 - 1 + wayy 3) from by rw [hd]; exact md_in hR hpi (by omega)] at r_137
                                  refine jx_top (b := d (i + k9 % 3 - 1 + wayx 3) (j + k9 / 3 - 1 + wayy 3)) (by rw [hd]; exact md_in hR hpi (by omega)) ?_
                                  refine jx_istore (L' := [some (.inr (ad G 78)), some (.inl pi), some (.inl i), some (.inl j), some (.inl (chv d i j 2)), some (.inl 3), some (.inl (wayx 3)), some (.inl (wayy 3)), some (.inl s8), some (.inl k9), some (.inl (i + k9 % 3 - 1)), some (.inl (j + k9 / 3 - 1)), some (.inl (d (i + k9 % 3 - 1) (j + k9 / 3 - 1))), some (.inl (d (i + k9 % 3 - 1 + wayx 3) (j + k9 / 3 - 1 + wayy 3)))]) C dX9_scoreOf_140 (by decide) rfl ?_
                                  refine jx_iload C dX9_scoreOf_142 rfl ?_
                                  refine jx_if_lt C dX9_scoreOf_144 (by omega) (fun c_144 => ?_) (fun c_144 => ?_)
                                  · refine jx_iconst C dX9_scoreOf_152 ?_
                                    exact jx_iret C dX9_scoreOf_153 ⟨by have hl : chv d i j 3 = -1 := chs_lostk (wx := wayx 3) (wy := wayy 3) (by omega) hx10 hy11 (by first | exact Or.inl (by omega) | exact Or.inr (by omega)); rw [sco, if_pos (by omega), scv, if_pos (by omega)], rfl⟩
                                  · refine jx_iload C dX9_scoreOf_147 rfl ?_
                                    refine jx_if_ge C dX9_scoreOf_149 (by omega) (fun c_149 => ?_) (fun c_149 => ?_)
                                    · refine jx_iload C dX9_scoreOf_154 rfl ?_
                                      refine jx_iload C dX9_scoreOf_156 rfl ?_
                                      refine jx_iload C dX9_scoreOf_158 rfl ?_
                                      refine jx_isub C dX9_scoreOf_160 ?_
                                      refine jx_iload C dX9_scoreOf_161 rfl ?_
                                      refine jx_iload C dX9_scoreOf_163 rfl ?_
                                      refine jx_isub C dX9_scoreOf_165 ?_
                                      refine jx_imul C dX9_scoreOf_166 ?_
                                      refine jx_iadd C dX9_scoreOf_167 ?_
                                      refine jx_istore (L' := [some (.inr (ad G 78)), some (.inl pi), some (.inl i), some (.inl j), some (.inl (chv d i j 2)), some (.inl 3), some (.inl (wayx 3)), some (.inl (wayy 3)), some (.inl (s8 + ((d (i + k9 % 3 - 1) (j + k9 / 3 - 1) - (d (i + k9 % 3 - 1 + wayx 3) (j + k9 / 3 - 1 + wayy 3))) * (d (i + k9 % 3 - 1) (j + k9 / 3 - 1) - (d (i + k9 % 3 - 1 + wayx 3) (j + k9 / 3 - 1 + wayy 3)))))), some (.inl k9), some (.inl (i + k9 % 3 - 1)), some (.inl (j + k9 / 3 - 1)), some (.inl (d (i + k9 % 3 - 1) (j + k9 / 3 - 1))), some (.inl (d (i + k9 % 3 - 1 + wayx 3) (j + k9 / 3 - 1 + wayy 3)))]) C dX9_scoreOf_168 (by decide) rfl ?_
                                      refine jx_iinc (L' := [some (.inr (ad G 78)), some (.inl pi), some (.inl i), some (.inl j), some (.inl (chv d i j 2)), some (.inl 3), some (.inl (wayx 3)), some (.inl (wayy 3)), some (.inl (s8 + ((d (i + k9 % 3 - 1) (j + k9 / 3 - 1) - (d (i + k9 % 3 - 1 + wayx 3) (j + k9 / 3 - 1 + wayy 3))) * (d (i + k9 % 3 - 1) (j + k9 / 3 - 1) - (d (i + k9 % 3 - 1 + wayx 3) (j + k9 / 3 - 1 + wayy 3)))))), some (.inl (k9 + 1)), some (.inl (i + k9 % 3 - 1)), some (.inl (j + k9 / 3 - 1)), some (.inl (d (i + k9 % 3 - 1) (j + k9 / 3 - 1))), some (.inl (d (i + k9 % 3 - 1 + wayx 3) (j + k9 / 3 - 1 + wayy 3)))]) C dX9_scoreOf_170 rfl (by decide) rfl ?_
                                      refine jx_goto C dX9_scoreOf_173 ?_
                                      have hnx := chs_nextk (wx := wayx 3) (wy := wayy 3) hdr hne8 hx10 hy11 (by omega) (by omega)
                                      refine jx_fewer (L' := [some (.inr (ad G 78)), some (.inl pi), some (.inl i), some (.inl j), some (.inl (chv d i j 2)), some (.inl 3), some (.inl (wayx 3)), some (.inl (wayy 3)), some (.inl (s8 + ((d (i + k9 % 3 - 1) (j + k9 / 3 - 1) - (d (i + k9 % 3 - 1 + wayx 3) (j + k9 / 3 - 1 + wayy 3))) * (d (i + k9 % 3 - 1) (j + k9 / 3 - 1) - (d (i + k9 % 3 - 1 + wayx 3) (j + k9 / 3 - 1 + wayy 3)))))), some (.inl (k9 + 1)), none, none, none, none]) (fun i v h => ?_) ?_
                                      · exact jfew_ok (by simp [jfew]) h
                                      exact ih_87 (k + 1) (k9 + 1) (s8 + ((d (i + k9 % 3 - 1) (j + k9 / 3 - 1) - (d (i + k9 % 3 - 1 + wayx 3) (j + k9 / 3 - 1 + wayy 3))) * (d (i + k9 % 3 - 1) (j + k9 / 3 - 1) - (d (i + k9 % 3 - 1 + wayx 3) (j + k9 / 3 - 1 + wayy 3))))) (by omega) (by omega) (by rw [hnx.1, hs8]) hnx.2 (by omega)
                                    · refine jx_iconst C dX9_scoreOf_152 ?_
                                      exact jx_iret C dX9_scoreOf_153 ⟨by have hl : chv d i j 3 = -1 := chs_lostk (wx := wayx 3) (wy := wayy 3) (by omega) hx10 hy11 (by first | exact Or.inl (by omega) | exact Or.inr (by omega)); rw [sco, if_pos (by omega), scv, if_pos (by omega)], rfl⟩
                            exact LP_87 _ 0 0 0 rfl (Nat.zero_le _) rfl (chs_0 d i j _ _) (Nat.lt_succ_self _)
                        · refine jx_iload_n C dX9_scoreOf_94 rfl ?_
                          refine jx_iload C dX9_scoreOf_95 rfl ?_
                          refine jx_iconst C dX9_scoreOf_97 ?_
                          refine jx_irem (z := k9 % 3) C dX9_scoreOf_98 (by omega) (by decide) (by decide) (jtm (by omega)) ?_
                          refine jx_iadd C dX9_scoreOf_99 ?_
                          refine jx_iconst C dX9_scoreOf_100 ?_
                          refine jx_isub C dX9_scoreOf_101 ?_
                          refine jx_istore (L' := [some (.inr (ad G 78)), some (.inl pi), some (.inl i), some (.inl j), some (.inl (chv d i j 1)), some (.inl 2), some (.inl (wayx 2)), some (.inl (wayy 2)), some (.inl s8), some (.inl k9), some (.inl (i + k9 % 3 - 1)), none, none, none]) C dX9_scoreOf_102 (by decide) rfl ?_
                          refine jx_iload_n C dX9_scoreOf_104 rfl ?_
                          refine jx_iload C dX9_scoreOf_105 rfl ?_
                          refine jx_iconst C dX9_scoreOf_107 ?_
                          refine jx_idiv (z := k9 / 3) C dX9_scoreOf_108 (by omega) (by decide) (by decide) (jtd (by omega)) ?_
                          refine jx_iadd C dX9_scoreOf_109 ?_
                          refine jx_iconst C dX9_scoreOf_110 ?_
                          refine jx_isub C dX9_scoreOf_111 ?_
                          refine jx_istore (L' := [some (.inr (ad G 78)), some (.inl pi), some (.inl i), some (.inl j), some (.inl (chv d i j 1)), some (.inl 2), some (.inl (wayx 2)), some (.inl (wayy 2)), some (.inl s8), some (.inl k9), some (.inl (i + k9 % 3 - 1)), some (.inl (j + k9 / 3 - 1)), none, none]) C dX9_scoreOf_112 (by decide) rfl ?_
                          have hx10 : i + k9 % 3 - 1 = i - 1 + ((k % 3 : Nat) : Int) := by omega
                          have hy11 : j + k9 / 3 - 1 = j - 1 + ((k / 3 : Nat) : Int) := by omega
                          have hwb : -1 ≤ wayx 2 ∧ wayx 2 ≤ 1 ∧ -1 ≤ wayy 2 ∧ wayy 2 ≤ 1 := by decide
                          refine jx_aload_n C dX9_scoreOf_114 rfl ?_
                          refine jx_iload_n C dX9_scoreOf_115 rfl ?_
                          refine jx_iload C dX9_scoreOf_116 rfl ?_
                          refine jx_iload C dX9_scoreOf_118 rfl ?_
                          refine jx_cVi (as := [.inl pi, .inl (i + k9 % 3 - 1), .inl (j + k9 / 3 - 1)]) (st := []) C Yy (c_X9_dotAt l G μ pi (i + k9 % 3 - 1) (j + k9 / 3 - 1) (by omega) hR) yb_X9_dotAt yv_X9_dotAt wm_X9_99 (jcl_MO G _) rfl (by decide) rfl rfl (Nat.le_of_ble_eq_true rfl) ⟨⟨rfl, rfl, Nat.le_of_ble_eq_true rfl, Nat.le_of_ble_eq_true rfl⟩, Nat.zero_le _, Nat.zero_le _⟩ dX9_scoreOf_120 ?_
                          rintro _ _ ⟨rfl, rfl⟩
                          have r_120 := rg_81 hR (400 * pi + 20 * (j + k9 / 3 - 1) + (i + k9 % 3 - 1)).toNat
                          rw [show μ 81 (400 * pi + 20 * (j + k9 / 3 - 1) + (i + k9 % 3 - 1)).toNat = d (i + k9 % 3 - 1) (j + k9 / 3 - 1) from by rw [hd]; exact md_in hR hpi (by omega)] at r_120
                          refine jx_top (b := d (i + k9 % 3 - 1) (j + k9 / 3 - 1)) (by rw [hd]; exact md_in hR hpi (by omega)) ?_
                          refine jx_istore (L' := [some (.inr (ad G 78)), some (.inl pi), some (.inl i), some (.inl j), some (.inl (chv d i j 1)), some (.inl 2), some (.inl (wayx 2)), some (.inl (wayy 2)), some (.inl s8), some (.inl k9), some (.inl (i + k9 % 3 - 1)), some (.inl (j + k9 / 3 - 1)), some (.inl (d (i + k9 % 3 - 1) (j + k9 / 3 - 1))), none]) C dX9_scoreOf_123 (by decide) rfl ?_
                          refine jx_aload_n C dX9_scoreOf_125 rfl ?_
                          refine jx_iload_n C dX9_scoreOf_126 rfl ?_
                          refine jx_iload C dX9_scoreOf_127 rfl ?_
                          refine jx_iload C dX9_scoreOf_129 rfl ?_
                          refine jx_iadd C dX9_scoreOf_131 ?_
                          refine jx_iload C dX9_scoreOf_132 rfl ?_
                          refine jx_iload C dX9_scoreOf_134 rfl ?_
                          refine jx_iadd C dX9_scoreOf_136 ?_
                          refine jx_cVi (as := [.inl pi, .inl (i + k9 % 3 - 1 + wayx 2), .inl (j + k9 / 3 - 1 + wayy 2)]) (st := []) C Yy (c_X9_dotAt l G μ pi (i + k9 % 3 - 1 + wayx 2) (j + k9 / 3 - 1 + wayy 2) (by omega) hR) yb_X9_dotAt yv_X9_dotAt wm_X9_99 (jcl_MO G _) rfl (by decide) rfl rfl (Nat.le_of_ble_eq_true rfl) ⟨⟨rfl, rfl, Nat.le_of_ble_eq_true rfl, Nat.le_of_ble_eq_true rfl⟩, Nat.zero_le _, Nat.zero_le _⟩ dX9_scoreOf_137 ?_
                          rintro _ _ ⟨rfl, rfl⟩
                          have r_137 := rg_81 hR (400 * pi + 20 * (j + k9 / 3 - 1 + wayy 2) + (i + k9 % 3 - 1 + wayx 2)).toNat
                          rw [show μ 81 (400 * pi + 20 * (j + k9 / 3 - 1 + wayy 2) + (i + k9 % 3 - 1 + wayx 2)).toNat = d (i + k9 % 3 - 1 + wayx 2) (j + k9 / 3 - 1 + wayy 2) from by rw [hd]; exact md_in hR hpi (by omega)] at r_137
                          refine jx_top (b := d (i + k9 % 3 - 1 + wayx 2) (j + k9 / 3 - 1 + wayy 2)) (by rw [hd]; exact md_in hR hpi (by omega)) ?_
                          refine jx_istore (L' := [some (.inr (ad G 78)), some (.inl pi), some (.inl i), some (.inl j), some (.inl (chv d i j 1)), some (.inl 2), some (.inl (wayx 2)), some (.inl (wayy 2)), some (.inl s8), some (.inl k9), some (.inl (i + k9 % 3 - 1)), some (.inl (j + k9 / 3 - 1)), some (.inl (d (i + k9 % 3 - 1) (j + k9 / 3 - 1))), some (.inl (d (i + k9 % 3 - 1 + wayx 2) (j + k9 / 3 - 1 + wayy 2)))]) C dX9_scoreOf_140 (by decide) rfl ?_
                          refine jx_iload C dX9_scoreOf_142 rfl ?_
                          refine jx_if_lt C dX9_scoreOf_144 (by omega) (fun c_144 => ?_) (fun c_144 => ?_)
                          · refine jx_iconst C dX9_scoreOf_152 ?_
                            exact jx_iret C dX9_scoreOf_153 ⟨by have hl : chv d i j 2 = -1 := chs_lostk (wx := wayx 2) (wy := wayy 2) (by omega) hx10 hy11 (by first | exact Or.inl (by omega) | exact Or.inr (by omega)); rw [sco, if_pos (by omega), scv, if_pos (by omega)], rfl⟩
                          · refine jx_iload C dX9_scoreOf_147 rfl ?_
                            refine jx_if_ge C dX9_scoreOf_149 (by omega) (fun c_149 => ?_) (fun c_149 => ?_)
                            · refine jx_iload C dX9_scoreOf_154 rfl ?_
                              refine jx_iload C dX9_scoreOf_156 rfl ?_
                              refine jx_iload C dX9_scoreOf_158 rfl ?_
                              refine jx_isub C dX9_scoreOf_160 ?_
                              refine jx_iload C dX9_scoreOf_161 rfl ?_
                              refine jx_iload C dX9_scoreOf_163 rfl ?_
                              refine jx_isub C dX9_scoreOf_165 ?_
                              refine jx_imul C dX9_scoreOf_166 ?_
                              refine jx_iadd C dX9_scoreOf_167 ?_
                              refine jx_istore (L' := [some (.inr (ad G 78)), some (.inl pi), some (.inl i), some (.inl j), some (.inl (chv d i j 1)), some (.inl 2), some (.inl (wayx 2)), some (.inl (wayy 2)), some (.inl (s8 + ((d (i + k9 % 3 - 1) (j + k9 / 3 - 1) - (d (i + k9 % 3 - 1 + wayx 2) (j + k9 / 3 - 1 + wayy 2))) * (d (i + k9 % 3 - 1) (j + k9 / 3 - 1) - (d (i + k9 % 3 - 1 + wayx 2) (j + k9 / 3 - 1 + wayy 2)))))), some (.inl k9), some (.inl (i + k9 % 3 - 1)), some (.inl (j + k9 / 3 - 1)), some (.inl (d (i + k9 % 3 - 1) (j + k9 / 3 - 1))), some (.inl (d (i + k9 % 3 - 1 + wayx 2) (j + k9 / 3 - 1 + wayy 2)))]) C dX9_scoreOf_168 (by decide) rfl ?_
                              refine jx_iinc (L' := [some (.inr (ad G 78)), some (.inl pi), some (.inl i), some (.inl j), some (.inl (chv d i j 1)), some (.inl 2), some (.inl (wayx 2)), some (.inl (wayy 2)), some (.inl (s8 + ((d (i + k9 % 3 - 1) (j + k9 / 3 - 1) - (d (i + k9 % 3 - 1 + wayx 2) (j + k9 / 3 - 1 + wayy 2))) * (d (i + k9 % 3 - 1) (j + k9 / 3 - 1) - (d (i + k9 % 3 - 1 + wayx 2) (j + k9 / 3 - 1 + wayy 2)))))), some (.inl (k9 + 1)), some (.inl (i + k9 % 3 - 1)), some (.inl (j + k9 / 3 - 1)), some (.inl (d (i + k9 % 3 - 1) (j + k9 / 3 - 1))), some (.inl (d (i + k9 % 3 - 1 + wayx 2) (j + k9 / 3 - 1 + wayy 2)))]) C dX9_scoreOf_170 rfl (by decide) rfl ?_
                              refine jx_goto C dX9_scoreOf_173 ?_
                              have hnx := chs_nextk (wx := wayx 2) (wy := wayy 2) hdr hne8 hx10 hy11 (by omega) (by omega)
                              refine jx_fewer (L' := [some (.inr (ad G 78)), some (.inl pi), some (.inl i), some (.inl j), some (.inl (chv d i j 1)), some (.inl 2), some (.inl (wayx 2)), some (.inl (wayy 2)), some (.inl (s8 + ((d (i + k9 % 3 - 1) (j + k9 / 3 - 1) - (d (i + k9 % 3 - 1 + wayx 2) (j + k9 / 3 - 1 + wayy 2))) * (d (i + k9 % 3 - 1) (j + k9 / 3 - 1) - (d (i + k9 % 3 - 1 + wayx 2) (j + k9 / 3 - 1 + wayy 2)))))), some (.inl (k9 + 1)), none, none, none, none]) (fun i v h => ?_) ?_
                              · exact jfew_ok (by simp [jfew]) h
                              exact ih_87 (k + 1) (k9 + 1) (s8 + ((d (i + k9 % 3 - 1) (j + k9 / 3 - 1) - (d (i + k9 % 3 - 1 + wayx 2) (j + k9 / 3 - 1 + wayy 2))) * (d (i + k9 % 3 - 1) (j + k9 / 3 - 1) - (d (i + k9 % 3 - 1 + wayx 2) (j + k9 / 3 - 1 + wayy 2))))) (by omega) (by omega) (by rw [hnx.1, hs8]) hnx.2 (by omega)
                            · refine jx_iconst C dX9_scoreOf_152 ?_
                              exact jx_iret C dX9_scoreOf_153 ⟨by have hl : chv d i j 2 = -1 := chs_lostk (wx := wayx 2) (wy := wayy 2) (by omega) hx10 hy11 (by first | exact Or.inl (by omega) | exact Or.inr (by omega)); rw [sco, if_pos (by omega), scv, if_pos (by omega)], rfl⟩
                    exact LP_87 _ 0 0 0 rfl (Nat.zero_le _) rfl (chs_0 d i j _ _) (Nat.lt_succ_self _)
                · refine jx_iload_n C dX9_scoreOf_94 rfl ?_
                  refine jx_iload C dX9_scoreOf_95 rfl ?_
                  refine jx_iconst C dX9_scoreOf_97 ?_
                  refine jx_irem (z := k9 % 3) C dX9_scoreOf_98 (by omega) (by decide) (by decide) (jtm (by omega)) ?_
                  refine jx_iadd C dX9_scoreOf_99 ?_
                  refine jx_iconst C dX9_scoreOf_100 ?_
                  refine jx_isub C dX9_scoreOf_101 ?_
                  refine jx_istore (L' := [some (.inr (ad G 78)), some (.inl pi), some (.inl i), some (.inl j), some (.inl (chv d i j 0)), some (.inl 1), some (.inl (wayx 1)), some (.inl (wayy 1)), some (.inl s8), some (.inl k9), some (.inl (i + k9 % 3 - 1)), none, none, none]) C dX9_scoreOf_102 (by decide) rfl ?_
                  refine jx_iload_n C dX9_scoreOf_104 rfl ?_
                  refine jx_iload C dX9_scoreOf_105 rfl ?_
                  refine jx_iconst C dX9_scoreOf_107 ?_
                  refine jx_idiv (z := k9 / 3) C dX9_scoreOf_108 (by omega) (by decide) (by decide) (jtd (by omega)) ?_
                  refine jx_iadd C dX9_scoreOf_109 ?_
                  refine jx_iconst C dX9_scoreOf_110 ?_
                  refine jx_isub C dX9_scoreOf_111 ?_
                  refine jx_istore (L' := [some (.inr (ad G 78)), some (.inl pi), some (.inl i), some (.inl j), some (.inl (chv d i j 0)), some (.inl 1), some (.inl (wayx 1)), some (.inl (wayy 1)), some (.inl s8), some (.inl k9), some (.inl (i + k9 % 3 - 1)), some (.inl (j + k9 / 3 - 1)), none, none]) C dX9_scoreOf_112 (by decide) rfl ?_
                  have hx10 : i + k9 % 3 - 1 = i - 1 + ((k % 3 : Nat) : Int) := by omega
                  have hy11 : j + k9 / 3 - 1 = j - 1 + ((k / 3 : Nat) : Int) := by omega
                  have hwb : -1 ≤ wayx 1 ∧ wayx 1 ≤ 1 ∧ -1 ≤ wayy 1 ∧ wayy 1 ≤ 1 := by decide
                  refine jx_aload_n C dX9_scoreOf_114 rfl ?_
                  refine jx_iload_n C dX9_scoreOf_115 rfl ?_
                  refine jx_iload C dX9_scoreOf_116 rfl ?_
                  refine jx_iload C dX9_scoreOf_118 rfl ?_
                  refine jx_cVi (as := [.inl pi, .inl (i + k9 % 3 - 1), .inl (j + k9 / 3 - 1)]) (st := []) C Yy (c_X9_dotAt l G μ pi (i + k9 % 3 - 1) (j + k9 / 3 - 1) (by omega) hR) yb_X9_dotAt yv_X9_dotAt wm_X9_99 (jcl_MO G _) rfl (by decide) rfl rfl (Nat.le_of_ble_eq_true rfl) ⟨⟨rfl, rfl, Nat.le_of_ble_eq_true rfl, Nat.le_of_ble_eq_true rfl⟩, Nat.zero_le _, Nat.zero_le _⟩ dX9_scoreOf_120 ?_
                  rintro _ _ ⟨rfl, rfl⟩
                  have r_120 := rg_81 hR (400 * pi + 20 * (j + k9 / 3 - 1) + (i + k9 % 3 - 1)).toNat
                  rw [show μ 81 (400 * pi + 20 * (j + k9 / 3 - 1) + (i + k9 % 3 - 1)).toNat = d (i + k9 % 3 - 1) (j + k9 / 3 - 1) from by rw [hd]; exact md_in hR hpi (by omega)] at r_120
                  refine jx_top (b := d (i + k9 % 3 - 1) (j + k9 / 3 - 1)) (by rw [hd]; exact md_in hR hpi (by omega)) ?_
                  refine jx_istore (L' := [some (.inr (ad G 78)), some (.inl pi), some (.inl i), some (.inl j), some (.inl (chv d i j 0)), some (.inl 1), some (.inl (wayx 1)), some (.inl (wayy 1)), some (.inl s8), some (.inl k9), some (.inl (i + k9 % 3 - 1)), some (.inl (j + k9 / 3 - 1)), some (.inl (d (i + k9 % 3 - 1) (j + k9 / 3 - 1))), none]) C dX9_scoreOf_123 (by decide) rfl ?_
                  refine jx_aload_n C dX9_scoreOf_125 rfl ?_
                  refine jx_iload_n C dX9_scoreOf_126 rfl ?_
                  refine jx_iload C dX9_scoreOf_127 rfl ?_
                  refine jx_iload C dX9_scoreOf_129 rfl ?_
                  refine jx_iadd C dX9_scoreOf_131 ?_
                  refine jx_iload C dX9_scoreOf_132 rfl ?_
                  refine jx_iload C dX9_scoreOf_134 rfl ?_
                  refine jx_iadd C dX9_scoreOf_136 ?_
                  refine jx_cVi (as := [.inl pi, .inl (i + k9 % 3 - 1 + wayx 1), .inl (j + k9 / 3 - 1 + wayy 1)]) (st := []) C Yy (c_X9_dotAt l G μ pi (i + k9 % 3 - 1 + wayx 1) (j + k9 / 3 - 1 + wayy 1) (by omega) hR) yb_X9_dotAt yv_X9_dotAt wm_X9_99 (jcl_MO G _) rfl (by decide) rfl rfl (Nat.le_of_ble_eq_true rfl) ⟨⟨rfl, rfl, Nat.le_of_ble_eq_true rfl, Nat.le_of_ble_eq_true rfl⟩, Nat.zero_le _, Nat.zero_le _⟩ dX9_scoreOf_137 ?_
                  rintro _ _ ⟨rfl, rfl⟩
                  have r_137 := rg_81 hR (400 * pi + 20 * (j + k9 / 3 - 1 + wayy 1) + (i + k9 % 3 - 1 + wayx 1)).toNat
                  rw [show μ 81 (400 * pi + 20 * (j + k9 / 3 - 1 + wayy 1) + (i + k9 % 3 - 1 + wayx 1)).toNat = d (i + k9 % 3 - 1 + wayx 1) (j + k9 / 3 - 1 + wayy 1) from by rw [hd]; exact md_in hR hpi (by omega)] at r_137
                  refine jx_top (b := d (i + k9 % 3 - 1 + wayx 1) (j + k9 / 3 - 1 + wayy 1)) (by rw [hd]; exact md_in hR hpi (by omega)) ?_
                  refine jx_istore (L' := [some (.inr (ad G 78)), some (.inl pi), some (.inl i), some (.inl j), some (.inl (chv d i j 0)), some (.inl 1), some (.inl (wayx 1)), some (.inl (wayy 1)), some (.inl s8), some (.inl k9), some (.inl (i + k9 % 3 - 1)), some (.inl (j + k9 / 3 - 1)), some (.inl (d (i + k9 % 3 - 1) (j + k9 / 3 - 1))), some (.inl (d (i + k9 % 3 - 1 + wayx 1) (j + k9 / 3 - 1 + wayy 1)))]) C dX9_scoreOf_140 (by decide) rfl ?_
                  refine jx_iload C dX9_scoreOf_142 rfl ?_
                  refine jx_if_lt C dX9_scoreOf_144 (by omega) (fun c_144 => ?_) (fun c_144 => ?_)
                  · refine jx_iconst C dX9_scoreOf_152 ?_
                    exact jx_iret C dX9_scoreOf_153 ⟨by have hl : chv d i j 1 = -1 := chs_lostk (wx := wayx 1) (wy := wayy 1) (by omega) hx10 hy11 (by first | exact Or.inl (by omega) | exact Or.inr (by omega)); rw [sco, if_pos (by omega), scv, if_pos (by omega)], rfl⟩
                  · refine jx_iload C dX9_scoreOf_147 rfl ?_
                    refine jx_if_ge C dX9_scoreOf_149 (by omega) (fun c_149 => ?_) (fun c_149 => ?_)
                    · refine jx_iload C dX9_scoreOf_154 rfl ?_
                      refine jx_iload C dX9_scoreOf_156 rfl ?_
                      refine jx_iload C dX9_scoreOf_158 rfl ?_
                      refine jx_isub C dX9_scoreOf_160 ?_
                      refine jx_iload C dX9_scoreOf_161 rfl ?_
                      refine jx_iload C dX9_scoreOf_163 rfl ?_
                      refine jx_isub C dX9_scoreOf_165 ?_
                      refine jx_imul C dX9_scoreOf_166 ?_
                      refine jx_iadd C dX9_scoreOf_167 ?_
                      refine jx_istore (L' := [some (.inr (ad G 78)), some (.inl pi), some (.inl i), some (.inl j), some (.inl (chv d i j 0)), some (.inl 1), some (.inl (wayx 1)), some (.inl (wayy 1)), some (.inl (s8 + ((d (i + k9 % 3 - 1) (j + k9 / 3 - 1) - (d (i + k9 % 3 - 1 + wayx 1) (j + k9 / 3 - 1 + wayy 1))) * (d (i + k9 % 3 - 1) (j + k9 / 3 - 1) - (d (i + k9 % 3 - 1 + wayx 1) (j + k9 / 3 - 1 + wayy 1)))))), some (.inl k9), some (.inl (i + k9 % 3 - 1)), some (.inl (j + k9 / 3 - 1)), some (.inl (d (i + k9 % 3 - 1) (j + k9 / 3 - 1))), some (.inl (d (i + k9 % 3 - 1 + wayx 1) (j + k9 / 3 - 1 + wayy 1)))]) C dX9_scoreOf_168 (by decide) rfl ?_
                      refine jx_iinc (L' := [some (.inr (ad G 78)), some (.inl pi), some (.inl i), some (.inl j), some (.inl (chv d i j 0)), some (.inl 1), some (.inl (wayx 1)), some (.inl (wayy 1)), some (.inl (s8 + ((d (i + k9 % 3 - 1) (j + k9 / 3 - 1) - (d (i + k9 % 3 - 1 + wayx 1) (j + k9 / 3 - 1 + wayy 1))) * (d (i + k9 % 3 - 1) (j + k9 / 3 - 1) - (d (i + k9 % 3 - 1 + wayx 1) (j + k9 / 3 - 1 + wayy 1)))))), some (.inl (k9 + 1)), some (.inl (i + k9 % 3 - 1)), some (.inl (j + k9 / 3 - 1)), some (.inl (d (i + k9 % 3 - 1) (j + k9 / 3 - 1))), some (.inl (d (i + k9 % 3 - 1 + wayx 1) (j + k9 / 3 - 1 + wayy 1)))]) C dX9_scoreOf_170 rfl (by decide) rfl ?_
                      refine jx_goto C dX9_scoreOf_173 ?_
                      have hnx := chs_nextk (wx := wayx 1) (wy := wayy 1) hdr hne8 hx10 hy11 (by omega) (by omega)
                      refine jx_fewer (L' := [some (.inr (ad G 78)), some (.inl pi), some (.inl i), some (.inl j), some (.inl (chv d i j 0)), some (.inl 1), some (.inl (wayx 1)), some (.inl (wayy 1)), some (.inl (s8 + ((d (i + k9 % 3 - 1) (j + k9 / 3 - 1) - (d (i + k9 % 3 - 1 + wayx 1) (j + k9 / 3 - 1 + wayy 1))) * (d (i + k9 % 3 - 1) (j + k9 / 3 - 1) - (d (i + k9 % 3 - 1 + wayx 1) (j + k9 / 3 - 1 + wayy 1)))))), some (.inl (k9 + 1)), none, none, none, none]) (fun i v h => ?_) ?_
                      · exact jfew_ok (by simp [jfew]) h
                      exact ih_87 (k + 1) (k9 + 1) (s8 + ((d (i + k9 % 3 - 1) (j + k9 / 3 - 1) - (d (i + k9 % 3 - 1 + wayx 1) (j + k9 / 3 - 1 + wayy 1))) * (d (i + k9 % 3 - 1) (j + k9 / 3 - 1) - (d (i + k9 % 3 - 1 + wayx 1) (j + k9 / 3 - 1 + wayy 1))))) (by omega) (by omega) (by rw [hnx.1, hs8]) hnx.2 (by omega)
                    · refine jx_iconst C dX9_scoreOf_152 ?_
                      exact jx_iret C dX9_scoreOf_153 ⟨by have hl : chv d i j 1 = -1 := chs_lostk (wx := wayx 1) (wy := wayy 1) (by omega) hx10 hy11 (by first | exact Or.inl (by omega) | exact Or.inr (by omega)); rw [sco, if_pos (by omega), scv, if_pos (by omega)], rfl⟩
            exact LP_87 _ 0 0 0 rfl (Nat.zero_le _) rfl (chs_0 d i j _ _) (Nat.lt_succ_self _)
          · refine jx_iload_n C dX9_scoreOf_94 rfl ?_
            refine jx_iload C dX9_scoreOf_95 rfl ?_
            refine jx_iconst C dX9_scoreOf_97 ?_
            refine jx_irem (z := k9 % 3) C dX9_scoreOf_98 (by omega) (by decide) (by decide) (jtm (by omega)) ?_
            refine jx_iadd C dX9_scoreOf_99 ?_
            refine jx_iconst C dX9_scoreOf_100 ?_
            refine jx_isub C dX9_scoreOf_101 ?_
            refine jx_istore (L' := [some (.inr (ad G 78)), some (.inl pi), some (.inl i), some (.inl j), some (.inl (-1)), some (.inl 0), some (.inl (wayx 0)), some (.inl (wayy 0)), some (.inl s8), some (.inl k9), some (.inl (i + k9 % 3 - 1)), none, none, none]) C dX9_scoreOf_102 (by decide) rfl ?_
            refine jx_iload_n C dX9_scoreOf_104 rfl ?_
            refine jx_iload C dX9_scoreOf_105 rfl ?_
            refine jx_iconst C dX9_scoreOf_107 ?_
            refine jx_idiv (z := k9 / 3) C dX9_scoreOf_108 (by omega) (by decide) (by decide) (jtd (by omega)) ?_
            refine jx_iadd C dX9_scoreOf_109 ?_
            refine jx_iconst C dX9_scoreOf_110 ?_
            refine jx_isub C dX9_scoreOf_111 ?_
            refine jx_istore (L' := [some (.inr (ad G 78)), some (.inl pi), some (.inl i), some (.inl j), some (.inl (-1)), some (.inl 0), some (.inl (wayx 0)), some (.inl (wayy 0)), some (.inl s8), some (.inl k9), some (.inl (i + k9 % 3 - 1)), some (.inl (j + k9 / 3 - 1)), none, none]) C dX9_scoreOf_112 (by decide) rfl ?_
            have hx10 : i + k9 % 3 - 1 = i - 1 + ((k % 3 : Nat) : Int) := by omega
            have hy11 : j + k9 / 3 - 1 = j - 1 + ((k / 3 : Nat) : Int) := by omega
            have hwb : -1 ≤ wayx 0 ∧ wayx 0 ≤ 1 ∧ -1 ≤ wayy 0 ∧ wayy 0 ≤ 1 := by decide
            refine jx_aload_n C dX9_scoreOf_114 rfl ?_
            refine jx_iload_n C dX9_scoreOf_115 rfl ?_
            refine jx_iload C dX9_scoreOf_116 rfl ?_
            refine jx_iload C dX9_scoreOf_118 rfl ?_
            refine jx_cVi (as := [.inl pi, .inl (i + k9 % 3 - 1), .inl (j + k9 / 3 - 1)]) (st := []) C Yy (c_X9_dotAt l G μ pi (i + k9 % 3 - 1) (j + k9 / 3 - 1) (by omega) hR) yb_X9_dotAt yv_X9_dotAt wm_X9_99 (jcl_MO G _) rfl (by decide) rfl rfl (Nat.le_of_ble_eq_true rfl) ⟨⟨rfl, rfl, Nat.le_of_ble_eq_true rfl, Nat.le_of_ble_eq_true rfl⟩, Nat.zero_le _, Nat.zero_le _⟩ dX9_scoreOf_120 ?_
            rintro _ _ ⟨rfl, rfl⟩
            have r_120 := rg_81 hR (400 * pi + 20 * (j + k9 / 3 - 1) + (i + k9 % 3 - 1)).toNat
            rw [show μ 81 (400 * pi + 20 * (j + k9 / 3 - 1) + (i + k9 % 3 - 1)).toNat = d (i + k9 % 3 - 1) (j + k9 / 3 - 1) from by rw [hd]; exact md_in hR hpi (by omega)] at r_120
            refine jx_top (b := d (i + k9 % 3 - 1) (j + k9 / 3 - 1)) (by rw [hd]; exact md_in hR hpi (by omega)) ?_
            refine jx_istore (L' := [some (.inr (ad G 78)), some (.inl pi), some (.inl i), some (.inl j), some (.inl (-1)), some (.inl 0), some (.inl (wayx 0)), some (.inl (wayy 0)), some (.inl s8), some (.inl k9), some (.inl (i + k9 % 3 - 1)), some (.inl (j + k9 / 3 - 1)), some (.inl (d (i + k9 % 3 - 1) (j + k9 / 3 - 1))), none]) C dX9_scoreOf_123 (by decide) rfl ?_
            refine jx_aload_n C dX9_scoreOf_125 rfl ?_
            refine jx_iload_n C dX9_scoreOf_126 rfl ?_
            refine jx_iload C dX9_scoreOf_127 rfl ?_
            refine jx_iload C dX9_scoreOf_129 rfl ?_
            refine jx_iadd C dX9_scoreOf_131 ?_
            refine jx_iload C dX9_scoreOf_132 rfl ?_
            refine jx_iload C dX9_scoreOf_134 rfl ?_
            refine jx_iadd C dX9_scoreOf_136 ?_
            refine jx_cVi (as := [.inl pi, .inl (i + k9 % 3 - 1 + wayx 0), .inl (j + k9 / 3 - 1 + wayy 0)]) (st := []) C Yy (c_X9_dotAt l G μ pi (i + k9 % 3 - 1 + wayx 0) (j + k9 / 3 - 1 + wayy 0) (by omega) hR) yb_X9_dotAt yv_X9_dotAt wm_X9_99 (jcl_MO G _) rfl (by decide) rfl rfl (Nat.le_of_ble_eq_true rfl) ⟨⟨rfl, rfl, Nat.le_of_ble_eq_true rfl, Nat.le_of_ble_eq_true rfl⟩, Nat.zero_le _, Nat.zero_le _⟩ dX9_scoreOf_137 ?_
            rintro _ _ ⟨rfl, rfl⟩
            have r_137 := rg_81 hR (400 * pi + 20 * (j + k9 / 3 - 1 + wayy 0) + (i + k9 % 3 - 1 + wayx 0)).toNat
            rw [show μ 81 (400 * pi + 20 * (j + k9 / 3 - 1 + wayy 0) + (i + k9 % 3 - 1 + wayx 0)).toNat = d (i + k9 % 3 - 1 + wayx 0) (j + k9 / 3 - 1 + wayy 0) from by rw [hd]; exact md_in hR hpi (by omega)] at r_137
            refine jx_top (b := d (i + k9 % 3 - 1 + wayx 0) (j + k9 / 3 - 1 + wayy 0)) (by rw [hd]; exact md_in hR hpi (by omega)) ?_
            refine jx_istore (L' := [some (.inr (ad G 78)), some (.inl pi), some (.inl i), some (.inl j), some (.inl (-1)), some (.inl 0), some (.inl (wayx 0)), some (.inl (wayy 0)), some (.inl s8), some (.inl k9), some (.inl (i + k9 % 3 - 1)), some (.inl (j + k9 / 3 - 1)), some (.inl (d (i + k9 % 3 - 1) (j + k9 / 3 - 1))), some (.inl (d (i + k9 % 3 - 1 + wayx 0) (j + k9 / 3 - 1 + wayy 0)))]) C dX9_scoreOf_140 (by decide) rfl ?_
            refine jx_iload C dX9_scoreOf_142 rfl ?_
            refine jx_if_lt C dX9_scoreOf_144 (by omega) (fun c_144 => ?_) (fun c_144 => ?_)
            · refine jx_iconst C dX9_scoreOf_152 ?_
              exact jx_iret C dX9_scoreOf_153 ⟨by have hl : chv d i j 0 = -1 := chs_lostk (wx := wayx 0) (wy := wayy 0) (by omega) hx10 hy11 (by first | exact Or.inl (by omega) | exact Or.inr (by omega)); rw [sco, if_pos (by omega), scv, if_pos (by omega)], rfl⟩
            · refine jx_iload C dX9_scoreOf_147 rfl ?_
              refine jx_if_ge C dX9_scoreOf_149 (by omega) (fun c_149 => ?_) (fun c_149 => ?_)
              · refine jx_iload C dX9_scoreOf_154 rfl ?_
                refine jx_iload C dX9_scoreOf_156 rfl ?_
                refine jx_iload C dX9_scoreOf_158 rfl ?_
                refine jx_isub C dX9_scoreOf_160 ?_
                refine jx_iload C dX9_scoreOf_161 rfl ?_
                refine jx_iload C dX9_scoreOf_163 rfl ?_
                refine jx_isub C dX9_scoreOf_165 ?_
                refine jx_imul C dX9_scoreOf_166 ?_
                refine jx_iadd C dX9_scoreOf_167 ?_
                refine jx_istore (L' := [some (.inr (ad G 78)), some (.inl pi), some (.inl i), some (.inl j), some (.inl (-1)), some (.inl 0), some (.inl (wayx 0)), some (.inl (wayy 0)), some (.inl (s8 + ((d (i + k9 % 3 - 1) (j + k9 / 3 - 1) - (d (i + k9 % 3 - 1 + wayx 0) (j + k9 / 3 - 1 + wayy 0))) * (d (i + k9 % 3 - 1) (j + k9 / 3 - 1) - (d (i + k9 % 3 - 1 + wayx 0) (j + k9 / 3 - 1 + wayy 0)))))), some (.inl k9), some (.inl (i + k9 % 3 - 1)), some (.inl (j + k9 / 3 - 1)), some (.inl (d (i + k9 % 3 - 1) (j + k9 / 3 - 1))), some (.inl (d (i + k9 % 3 - 1 + wayx 0) (j + k9 / 3 - 1 + wayy 0)))]) C dX9_scoreOf_168 (by decide) rfl ?_
                refine jx_iinc (L' := [some (.inr (ad G 78)), some (.inl pi), some (.inl i), some (.inl j), some (.inl (-1)), some (.inl 0), some (.inl (wayx 0)), some (.inl (wayy 0)), some (.inl (s8 + ((d (i + k9 % 3 - 1) (j + k9 / 3 - 1) - (d (i + k9 % 3 - 1 + wayx 0) (j + k9 / 3 - 1 + wayy 0))) * (d (i + k9 % 3 - 1) (j + k9 / 3 - 1) - (d (i + k9 % 3 - 1 + wayx 0) (j + k9 / 3 - 1 + wayy 0)))))), some (.inl (k9 + 1)), some (.inl (i + k9 % 3 - 1)), some (.inl (j + k9 / 3 - 1)), some (.inl (d (i + k9 % 3 - 1) (j + k9 / 3 - 1))), some (.inl (d (i + k9 % 3 - 1 + wayx 0) (j + k9 / 3 - 1 + wayy 0)))]) C dX9_scoreOf_170 rfl (by decide) rfl ?_
                refine jx_goto C dX9_scoreOf_173 ?_
                have hnx := chs_nextk (wx := wayx 0) (wy := wayy 0) hdr hne8 hx10 hy11 (by omega) (by omega)
                refine jx_fewer (L' := [some (.inr (ad G 78)), some (.inl pi), some (.inl i), some (.inl j), some (.inl (-1)), some (.inl 0), some (.inl (wayx 0)), some (.inl (wayy 0)), some (.inl (s8 + ((d (i + k9 % 3 - 1) (j + k9 / 3 - 1) - (d (i + k9 % 3 - 1 + wayx 0) (j + k9 / 3 - 1 + wayy 0))) * (d (i + k9 % 3 - 1) (j + k9 / 3 - 1) - (d (i + k9 % 3 - 1 + wayx 0) (j + k9 / 3 - 1 + wayy 0)))))), some (.inl (k9 + 1)), none, none, none, none]) (fun i v h => ?_) ?_
                · exact jfew_ok (by simp [jfew]) h
                exact ih_87 (k + 1) (k9 + 1) (s8 + ((d (i + k9 % 3 - 1) (j + k9 / 3 - 1) - (d (i + k9 % 3 - 1 + wayx 0) (j + k9 / 3 - 1 + wayy 0))) * (d (i + k9 % 3 - 1) (j + k9 / 3 - 1) - (d (i + k9 % 3 - 1 + wayx 0) (j + k9 / 3 - 1 + wayy 0))))) (by omega) (by omega) (by rw [hnx.1, hs8]) hnx.2 (by omega)
              · refine jx_iconst C dX9_scoreOf_152 ?_
                exact jx_iret C dX9_scoreOf_153 ⟨by have hl : chv d i j 0 = -1 := chs_lostk (wx := wayx 0) (wy := wayy 0) (by omega) hx10 hy11 (by first | exact Or.inl (by omega) | exact Or.inr (by omega)); rw [sco, if_pos (by omega), scv, if_pos (by omega)], rfl⟩
      exact LP_87 _ 0 0 0 rfl (Nat.zero_le _) rfl (chs_0 d i j _ _) (Nat.lt_succ_self _)
    · refine jx_if_ne C dX9_scoreOf_29 (by decide) (fun q => absurd q (by decide)) (fun _ => ?_)
      refine jx_iconst C dX9_scoreOf_32 ?_
      exact jx_iret C dX9_scoreOf_33 ⟨by rw [sco, if_neg (by omega)], rfl⟩
  · refine jx_if_eq C dX9_scoreOf_13 (by decide) (fun _ => ?_) (fun q => absurd q (by decide))
    refine jx_iconst C dX9_scoreOf_32 ?_
    exact jx_iret C dX9_scoreOf_33 ⟨by rw [sco, if_neg (by omega)], rfl⟩
set_option maxHeartbeats 4000000 in
set_option maxRecDepth 100000 in
theorem c_X9_signOf (l : Launch) (G : GT) (μ : Mem) (p : Nat) (hp : p < 4) (pi : Int) (hpi : pi = (p : Int)) (d : Int → Int → Int) (hd : d = dgt (μ 79 p) (μ 80 p) (mvv μ p)) (i j : Int) (hi : 3 ≤ i ∧ i ≤ μ 79 p - 4) (hj : 3 ≤ j ∧ j ≤ μ 80 p - 4) (hR : rng μ) : MI l yX9_signOf cX9_signOf 8 .int ({ frames := 1, cells := 0, slots := 0, locals := 23 } : Room) G [.inr (ad G 78), .inl pi, .inl i, .inl j] μ (rdq μ (sgn d i j 12)) := by
  refine MI.of (by decide +kernel) (Nat.le_of_ble_eq_true rfl) ?_
  intro F C Yy
  show jX F G 8 0 0 (jE F G (jQi G (rdq μ (sgn d i j 12)))) 0 [some (.inr (ad G 78)), some (.inl pi), some (.inl i), some (.inl j), none, none, none, none] [] μ
  have hpt : pi.toNat = p := by omega
  have r_w := rg_79 hR p
  have r_h := rg_80 hR p
  refine jx_iconst C dX9_signOf_0 ?_
  refine jx_istore (L' := [some (.inr (ad G 78)), some (.inl pi), some (.inl i), some (.inl j), some (.inl 0), none, none, none]) C dX9_signOf_1 (by decide) rfl ?_
  refine jx_iconst C dX9_signOf_3 ?_
  refine jx_istore (L' := [some (.inr (ad G 78)), some (.inl pi), some (.inl i), some (.inl j), some (.inl 0), some (.inl 0), none, none]) C dX9_signOf_4 (by decide) rfl ?_
  have LP_6 : ∀ (n : Nat) (m : Nat) (k : Int) (b : Int), (m ≤ 12) → (k = (m : Int)) → (b = sgn d i j m) → 13 - m < n → jX F G 8 0 0 (jE F G (jQi G (rdq μ (sgn d i j 12)))) 6 [some (.inr (ad G 78)), some (.inl pi), some (.inl i), some (.inl j), some (.inl b), some (.inl k), none, none] [] μ := by
    intro n
    induction n with
    | zero =>
      intro m k b hm hk hb hms
      exact absurd hms (Nat.not_lt_zero _)
    | succ n ih =>
      intro m k b hm hk hb hms
      have ih_6 := ih
      clear ih
      obtain ⟨bm, ebm, hbm⟩ := sgn_rng d i j m (by omega)
      have hb12 : 2 ^ m ≤ 2 ^ 12 := Nat.pow_le_pow_right (by decide) hm
      refine jx_iload C dX9_signOf_6 rfl ?_
      refine jx_bipush C dX9_signOf_8 (by decide +kernel) ?_
      refine jx_icmp_ge C dX9_signOf_10 (by omega) (by decide) (fun c_10 => ?_) (fun c_10 => ?_)
      · refine jx_iload C dX9_signOf_85 rfl ?_
        exact jx_iret C dX9_signOf_87 ⟨by rw [hb, show m = 12 by omega], rfl⟩
      · refine jx_aload_n C dX9_signOf_13 rfl ?_
        refine jx_iload_n C dX9_signOf_14 rfl ?_
        refine jx_iload_n C dX9_signOf_15 rfl ?_
        refine jx_iload C dX9_signOf_16 rfl ?_
        refine jx_iconst C dX9_signOf_18 ?_
        refine jx_irem (z := k % 5) C dX9_signOf_19 (by omega) (by decide) (by decide) (jtm (by omega)) ?_
        refine jx_iadd C dX9_signOf_20 ?_
        refine jx_iconst C dX9_signOf_21 ?_
        refine jx_isub C dX9_signOf_22 ?_
        refine jx_iload_n C dX9_signOf_23 rfl ?_
        refine jx_iload C dX9_signOf_24 rfl ?_
        refine jx_iconst C dX9_signOf_26 ?_
        refine jx_irem (z := k % 3) C dX9_signOf_27 (by omega) (by decide) (by decide) (jtm (by omega)) ?_
        refine jx_iadd C dX9_signOf_28 ?_
        refine jx_iconst C dX9_signOf_29 ?_
        refine jx_isub C dX9_signOf_30 ?_
        refine jx_cVi (as := [.inl pi, .inl (i + k % 5 - 2), .inl (j + k % 3 - 1)]) (st := []) C Yy (c_X9_dotAt l G μ pi (i + k % 5 - 2) (j + k % 3 - 1) (by omega) hR) yb_X9_dotAt yv_X9_dotAt wm_X9_99 (jcl_MO G _) rfl (by decide) rfl rfl (Nat.le_of_ble_eq_true rfl) ⟨⟨rfl, rfl, Nat.le_of_ble_eq_true rfl, Nat.le_of_ble_eq_true rfl⟩, Nat.zero_le _, Nat.zero_le _⟩ dX9_signOf_31 ?_
        rintro _ _ ⟨rfl, rfl⟩
        have r_31 := rg_81 hR (400 * pi + 20 * (j + k % 3 - 1) + (i + k % 5 - 2)).toNat
        rw [show μ 81 (400 * pi + 20 * (j + k % 3 - 1) + (i + k % 5 - 2)).toNat = d (i + k % 5 - 2) (j + k % 3 - 1) from by rw [hd]; exact md_in hR hpi (by omega)] at r_31
        refine jx_top (b := d (i + k % 5 - 2) (j + k % 3 - 1)) (by rw [hd]; exact md_in hR hpi (by omega)) ?_
        refine jx_istore (L' := [some (.inr (ad G 78)), some (.inl pi), some (.inl i), some (.inl j), some (.inl b), some (.inl k), some (.inl (d (i + k % 5 - 2) (j + k % 3 - 1))), none]) C dX9_signOf_34 (by decide) rfl ?_
        refine jx_aload_n C dX9_signOf_36 rfl ?_
        refine jx_iload_n C dX9_signOf_37 rfl ?_
        refine jx_iload_n C dX9_signOf_38 rfl ?_
        refine jx_iconst C dX9_signOf_39 ?_
        refine jx_iadd C dX9_signOf_40 ?_
        refine jx_iload C dX9_signOf_41 rfl ?_
        refine jx_iconst C dX9_signOf_43 ?_
        refine jx_irem (z := k % 4) C dX9_signOf_44 (by omega) (by decide) (by decide) (jtm (by omega)) ?_
        refine jx_isub C dX9_signOf_45 ?_
        refine jx_iload_n C dX9_signOf_46 rfl ?_
        refine jx_iload C dX9_signOf_47 rfl ?_
        refine jx_iconst C dX9_signOf_49 ?_
        refine jx_irem (z := k % 5) C dX9_signOf_50 (by omega) (by decide) (by decide) (jtm (by omega)) ?_
        refine jx_iadd C dX9_signOf_51 ?_
        refine jx_iconst C dX9_signOf_52 ?_
        refine jx_isub C dX9_signOf_53 ?_
        refine jx_cVi (as := [.inl pi, .inl (i + 2 - (k % 4)), .inl (j + k % 5 - 2)]) (st := []) C Yy (c_X9_dotAt l G μ pi (i + 2 - (k % 4)) (j + k % 5 - 2) (by omega) hR) yb_X9_dotAt yv_X9_dotAt wm_X9_99 (jcl_MO G _) rfl (by decide) rfl rfl (Nat.le_of_ble_eq_true rfl) ⟨⟨rfl, rfl, Nat.le_of_ble_eq_true rfl, Nat.le_of_ble_eq_true rfl⟩, Nat.zero_le _, Nat.zero_le _⟩ dX9_signOf_54 ?_
        rintro _ _ ⟨rfl, rfl⟩
        have r_54 := rg_81 hR (400 * pi + 20 * (j + k % 5 - 2) + (i + 2 - (k % 4))).toNat
        rw [show μ 81 (400 * pi + 20 * (j + k % 5 - 2) + (i + 2 - (k % 4))).toNat = d (i + 2 - (k % 4)) (j + k % 5 - 2) from by rw [hd]; exact md_in hR hpi (by omega)] at r_54
        refine jx_top (b := d (i + 2 - (k % 4)) (j + k % 5 - 2)) (by rw [hd]; exact md_in hR hpi (by omega)) ?_
        refine jx_istore (L' := [some (.inr (ad G 78)), some (.inl pi), some (.inl i), some (.inl j), some (.inl b), some (.inl k), some (.inl (d (i + k % 5 - 2) (j + k % 3 - 1))), some (.inl (d (i + 2 - (k % 4)) (j + k % 5 - 2)))]) C dX9_signOf_57 (by decide) rfl ?_
        refine jx_iload C dX9_signOf_59 rfl ?_
        refine jx_iload C dX9_signOf_61 rfl ?_
        refine jx_iload C dX9_signOf_63 rfl ?_
        refine jx_icmp_ge C dX9_signOf_65 (by omega) (by omega) (fun c_65 => ?_) (fun c_65 => ?_)
        · refine jx_iconst C dX9_signOf_75 ?_
          refine jx_ior C dX9_signOf_76 ?_
          refine jx_istore (L' := [some (.inr (ad G 78)), some (.inl pi), some (.inl i), some (.inl j), some (.inl (zor b 0)), some (.inl k), some (.inl (d (i + k % 5 - 2) (j + k % 3 - 1))), some (.inl (d (i + 2 - (k % 4)) (j + k % 5 - 2)))]) C dX9_signOf_77 (by decide) rfl ?_
          refine jx_iinc (L' := [some (.inr (ad G 78)), some (.inl pi), some (.inl i), some (.inl j), some (.inl (zor b 0)), some (.inl (k + 1)), some (.inl (d (i + k % 5 - 2) (j + k % 3 - 1))), some (.inl (d (i + 2 - (k % 4)) (j + k % 5 - 2)))]) C dX9_signOf_79 rfl (by decide) rfl ?_
          refine jx_goto C dX9_signOf_82 ?_
          refine jx_fewer (L' := [some (.inr (ad G 78)), some (.inl pi), some (.inl i), some (.inl j), some (.inl (zor b 0)), some (.inl (k + 1)), none, none]) (fun i v h => ?_) ?_
          · exact jfew_ok (by simp [jfew]) h
          exact ih_6 (m + 1) (k + 1) (zor b 0) (by omega) (by omega) (by subst hk; rw [sgn, if_neg (by omega), hb, zor_0 (by omega)]) (by omega)
        · refine jx_iconst C dX9_signOf_68 ?_
          refine jx_iload C dX9_signOf_69 rfl ?_
          refine jx_ishl C dX9_signOf_71 ?_
          refine jx_goto C dX9_signOf_72 ?_
          refine jx_ior C dX9_signOf_76 ?_
          refine jx_istore (L' := [some (.inr (ad G 78)), some (.inl pi), some (.inl i), some (.inl j), some (.inl (zor b (zshl 1 k))), some (.inl k), some (.inl (d (i + k % 5 - 2) (j + k % 3 - 1))), some (.inl (d (i + 2 - (k % 4)) (j + k % 5 - 2)))]) C dX9_signOf_77 (by decide) rfl ?_
          refine jx_iinc (L' := [some (.inr (ad G 78)), some (.inl pi), some (.inl i), some (.inl j), some (.inl (zor b (zshl 1 k))), some (.inl (k + 1)), some (.inl (d (i + k % 5 - 2) (j + k % 3 - 1))), some (.inl (d (i + 2 - (k % 4)) (j + k % 5 - 2)))]) C dX9_signOf_79 rfl (by decide) rfl ?_
          refine jx_goto C dX9_signOf_82 ?_
          refine jx_fewer (L' := [some (.inr (ad G 78)), some (.inl pi), some (.inl i), some (.inl j), some (.inl (zor b (zshl 1 k))), some (.inl (k + 1)), none, none]) (fun i v h => ?_) ?_
          · exact jfew_ok (by simp [jfew]) h
          exact ih_6 (m + 1) (k + 1) (zor b (zshl 1 k)) (by omega) (by omega) (by subst hk; rw [sgn, if_pos (by omega), hb]) (by omega)
  exact LP_6 _ 0 0 0 (by omega) (by omega) rfl (Nat.lt_succ_self _)
