set_option maxHeartbeats 4000000 in
set_option maxRecDepth 100000 in
theorem c_X4_partnerOf (l : Launch) (G : GT) (μ : Mem) (a b : Nat) (ha : a < 4) (hb : b < 4) (m near : Int) (hm : 0 ≤ m ∧ m < 16) (hn : 0 ≤ near ∧ near ≤ 12) (hR : rng μ) : MI l yX4_partnerOf cX4_partnerOf 5 .int ({ frames := 2, cells := 0, slots := 0, locals := 45 } : Room) G [.inr (ad G (26 + a)), .inl m, .inr (ad G (26 + b)), .inl near] μ (rdq μ (ptn (μ (42 + a)) (μ (26 + a) 4).toNat (μ (42 + b)) (μ (26 + b) 4).toNat near m.toNat)) := by
  refine MI.of (by decide +kernel) (Nat.le_of_ble_eq_true rfl) ?_
  intro F C Yy
  show jX F G 5 0 0 (jE F G (jQi G (rdq μ (ptn (μ (42 + a)) (μ (26 + a) 4).toNat (μ (42 + b)) (μ (26 + b) 4).toNat near m.toNat)))) 0 [some (.inr (ad G (26 + a))), some (.inl m), some (.inr (ad G (26 + b))), some (.inl near), none] [] μ
  have r_a := rg_MA_4 hR ha
  have r_b := rg_MA_4 hR hb
  have r_n := nrs_rng (μ (42 + b)) (μ (42 + a) m.toNat) (μ (26 + b) 4).toNat
  refine jx_aload_n C dX4_partnerOf_0 rfl ?_
  refine jx_aload_n C dX4_partnerOf_1 rfl ?_
  refine jx_get (v := .inr (ad G (42 + a))) C 3 ft_X2 (jcl_MA G ha _) rfl (by decide) (by omega) wf_X4_42 dX4_partnerOf_2 ?_
  refine jx_iload_n C dX4_partnerOf_5 rfl ?_
  refine jx_iald C (jcl_si G ha _) (by omega) (by omega) (by omega) (by decide) dX4_partnerOf_6 ?_
  have r_6 := rg_si hR (p := a) ha m.toNat
  refine jx_cVi (as := [.inl (μ (42 + a) m.toNat)]) (st := []) C Yy (c_X2_nearestTo l G μ b (by omega) (μ (42 + a) m.toNat) (by omega) hR) yb_X2_nearestTo yv_X2_nearestTo wm_X4_45 (jcl_MA G hb _) rfl (by omega) rfl rfl (Nat.le_of_ble_eq_true rfl) ⟨⟨rfl, rfl, Nat.le_of_ble_eq_true rfl, Nat.le_of_ble_eq_true rfl⟩, Nat.zero_le _, Nat.zero_le _⟩ dX4_partnerOf_7 ?_
  rintro _ _ ⟨rfl, rfl⟩
  have r_7 := nrs_rng (μ (42 + b)) (μ (42 + a) m.toNat) (μ (26 + b) 4).toNat
  refine jx_istore (L' := [some (.inr (ad G (26 + a))), some (.inl m), some (.inr (ad G (26 + b))), some (.inl near), some (.inl (nrs (μ (42 + b)) (μ (42 + a) m.toNat) (μ (26 + b) 4).toNat))]) C dX4_partnerOf_10 (by decide) rfl ?_
  refine jx_iload C dX4_partnerOf_12 rfl ?_
  refine jx_bipush C dX4_partnerOf_14 (by decide +kernel) ?_
  refine jx_icmp_eq C dX4_partnerOf_16 (by omega) (by decide) (fun c_16 => ?_) (fun c_16 => ?_)
  · refine jx_bipush C dX4_partnerOf_34 (by decide +kernel) ?_
    exact jx_iret C dX4_partnerOf_36 ⟨by (unfold ptn; first | rw [if_pos (by omega)] | rw [if_neg (by omega), if_pos (by omega)] | rw [if_neg (by omega), if_neg (by omega)]), rfl⟩
  · refine jx_aload_n C dX4_partnerOf_19 rfl ?_
    refine jx_aload_n C dX4_partnerOf_20 rfl ?_
    refine jx_get (v := .inr (ad G (42 + b))) C 3 ft_X2 (jcl_MA G hb _) rfl (by decide) (by omega) wf_X4_42 dX4_partnerOf_21 ?_
    refine jx_iload C dX4_partnerOf_24 rfl ?_
    refine jx_iald C (jcl_si G hb _) (by omega) (by omega) (by omega) (by decide) dX4_partnerOf_26 ?_
    have r_26 := rg_si hR (p := b) hb ((nrs (μ (42 + b)) (μ (42 + a) m.toNat) (μ (26 + b) 4).toNat).toNat)
    refine jx_cVi (as := [.inl (μ (42 + b) (nrs (μ (42 + b)) (μ (42 + a) m.toNat) (μ (26 + b) 4).toNat).toNat)]) (st := []) C Yy (c_X2_nearestTo l G μ a (by omega) (μ (42 + b) (nrs (μ (42 + b)) (μ (42 + a) m.toNat) (μ (26 + b) 4).toNat).toNat) (by omega) hR) yb_X2_nearestTo yv_X2_nearestTo wm_X4_45 (jcl_MA G ha _) rfl (by omega) rfl rfl (Nat.le_of_ble_eq_true rfl) ⟨⟨rfl, rfl, Nat.le_of_ble_eq_true rfl, Nat.le_of_ble_eq_true rfl⟩, Nat.zero_le _, Nat.zero_le _⟩ dX4_partnerOf_27 ?_
    rintro _ _ ⟨rfl, rfl⟩
    have r_27 := nrs_rng (μ (42 + a)) (μ (42 + b) (nrs (μ (42 + b)) (μ (42 + a) m.toNat) (μ (26 + b) 4).toNat).toNat) (μ (26 + a) 4).toNat
    refine jx_iload_n C dX4_partnerOf_30 rfl ?_
    refine jx_icmp_eq C dX4_partnerOf_31 (by omega) (by omega) (fun c_31 => ?_) (fun c_31 => ?_)
    · refine jx_aload_n C dX4_partnerOf_37 rfl ?_
      refine jx_get (v := .inr (ad G (42 + a))) C 3 ft_X2 (jcl_MA G ha _) rfl (by decide) (by omega) wf_X4_42 dX4_partnerOf_38 ?_
      refine jx_iload_n C dX4_partnerOf_41 rfl ?_
      refine jx_iald C (jcl_si G ha _) (by omega) (by omega) (by omega) (by decide) dX4_partnerOf_42 ?_
      have r_42 := rg_si hR (p := a) ha m.toNat
      refine jx_aload_n C dX4_partnerOf_43 rfl ?_
      refine jx_get (v := .inr (ad G (42 + b))) C 3 ft_X2 (jcl_MA G hb _) rfl (by decide) (by omega) wf_X4_42 dX4_partnerOf_44 ?_
      refine jx_iload C dX4_partnerOf_47 rfl ?_
      refine jx_iald C (jcl_si G hb _) (by omega) (by omega) (by omega) (by decide) dX4_partnerOf_49 ?_
      have r_49 := rg_si hR (p := b) hb ((nrs (μ (42 + b)) (μ (42 + a) m.toNat) (μ (26 + b) 4).toNat).toNat)
      refine jx_ixor C dX4_partnerOf_50 ?_
      refine jx_cSi (as := [.inl (zxor (μ (42 + a) m.toNat) (μ (42 + b) (nrs (μ (42 + b)) (μ (42 + a) m.toNat) (μ (26 + b) 4).toNat).toNat))]) (st := []) C Yy (c_J6_bitCount_0f7a4 l G μ (zxor (μ (42 + a) m.toNat) (μ (42 + b) (nrs (μ (42 + b)) (μ (42 + a) m.toNat) (μ (26 + b) 4).toNat).toNat))) yb_J6_bitCount_0f7a4 ws_J6_bitCount_0f7a4 wm_X4_49 rfl rfl (Nat.le_of_ble_eq_true rfl) ⟨⟨rfl, rfl, Nat.le_of_ble_eq_true rfl, Nat.le_of_ble_eq_true rfl⟩, Nat.zero_le _, Nat.zero_le _⟩ dX4_partnerOf_51 ?_
      rintro _ _ ⟨rfl, rfl⟩
      have r_d := dst_rng (μ (42 + a) m.toNat) (μ (42 + b) (nrs (μ (42 + b)) (μ (42 + a) m.toNat) (μ (26 + b) 4).toNat).toNat)
      refine jx_top (b := dst (μ (42 + a) m.toNat) (μ (42 + b) (nrs (μ (42 + b)) (μ (42 + a) m.toNat) (μ (26 + b) 4).toNat).toNat)) (bcf_dst (rg_si hR ha _) (rg_si hR hb _)) ?_
      refine jx_iload_n C dX4_partnerOf_54 rfl ?_
      refine jx_icmp_gt C dX4_partnerOf_55 (by omega) (by omega) (fun c_55 => ?_) (fun c_55 => ?_)
      · refine jx_bipush C dX4_partnerOf_63 (by decide +kernel) ?_
        exact jx_iret C dX4_partnerOf_65 ⟨by (unfold ptn; first | rw [if_pos (by omega)] | rw [if_neg (by omega), if_pos (by omega)] | rw [if_neg (by omega), if_neg (by omega)]), rfl⟩
      · refine jx_iload C dX4_partnerOf_58 rfl ?_
        refine jx_goto C dX4_partnerOf_60 ?_
        exact jx_iret C dX4_partnerOf_65 ⟨by (unfold ptn; first | rw [if_pos (by omega)] | rw [if_neg (by omega), if_pos (by omega)] | rw [if_neg (by omega), if_neg (by omega)]), rfl⟩
    · refine jx_bipush C dX4_partnerOf_34 (by decide +kernel) ?_
      exact jx_iret C dX4_partnerOf_36 ⟨by (unfold ptn; first | rw [if_pos (by omega)] | rw [if_neg (by omega), if_pos (by omega)] | rw [if_neg (by omega), if_neg (by omega)]), rfl⟩
set_option maxHeartbeats 4000000 in
set_option maxRecDepth 100000 in
theorem c_X4_shiftX (l : Launch) (G : GT) (μ : Mem) (p : Nat) (hp : p < 16) (a b : Nat) (ha : a < 4) (hb : b < 4) (m : Int) (hm : 0 ≤ m ∧ m < 16) (hP : 0 ≤ μ (62 + p) m.toNat ∧ μ (62 + p) m.toNat < 16) (hR : rng μ) : MI l yX4_shiftX cX4_shiftX 4 .int ({ frames := 0, cells := 0, slots := 0, locals := 0 } : Room) G [.inr (ad G (46 + p)), .inr (ad G (26 + a)), .inl m, .inr (ad G (26 + b))] μ (rdq μ (μ (30 + a) m.toNat - μ (30 + b) (μ (62 + p) m.toNat).toNat)) := by
  refine MI.of (by decide +kernel) (Nat.le_of_ble_eq_true rfl) ?_
  intro F C Yy
  show jX F G 4 0 0 (jE F G (jQi G (rdq μ (μ (30 + a) m.toNat - μ (30 + b) (μ (62 + p) m.toNat).toNat)))) 0 [some (.inr (ad G (46 + p))), some (.inr (ad G (26 + a))), some (.inl m), some (.inr (ad G (26 + b)))] [] μ
  refine jx_aload_n C dX4_shiftX_0 rfl ?_
  refine jx_get (v := .inr (ad G (30 + a))) C 0 ft_X2 (jcl_MA G ha _) rfl (by decide) (by omega) wf_X4_54 dX4_shiftX_1 ?_
  refine jx_iload_n C dX4_shiftX_4 rfl ?_
  refine jx_iald C (jcl_co G ha _) (by omega) (by omega) (by omega) (by decide) dX4_shiftX_5 ?_
  have r_5 := rg_co hR (p := a) ha m.toNat
  refine jx_aload_n C dX4_shiftX_6 rfl ?_
  refine jx_get (v := .inr (ad G (30 + b))) C 0 ft_X2 (jcl_MA G hb _) rfl (by decide) (by omega) wf_X4_54 dX4_shiftX_7 ?_
  refine jx_aload_n C dX4_shiftX_10 rfl ?_
  refine jx_get (v := .inr (ad G (62 + p))) C 0 ft_X4 (jcl_PA G hp _) rfl (by decide) (by omega) wf_X4_9 dX4_shiftX_11 ?_
  refine jx_iload_n C dX4_shiftX_14 rfl ?_
  refine jx_iald C (jcl_pa G hp _) (by omega) (by omega) (by omega) (by decide) dX4_shiftX_15 ?_
  have r_15 := rg_pa hR (p := p) hp m.toNat
  refine jx_iald C (jcl_co G hb _) (by omega) (by omega) (by omega) (by decide) dX4_shiftX_16 ?_
  have r_16 := rg_co hR (p := b) hb ((μ (62 + p) m.toNat).toNat)
  refine jx_isub C dX4_shiftX_17 ?_
  exact jx_iret C dX4_shiftX_18 ⟨by rfl, rfl⟩
set_option maxHeartbeats 4000000 in
set_option maxRecDepth 100000 in
theorem c_X4_shiftY (l : Launch) (G : GT) (μ : Mem) (p : Nat) (hp : p < 16) (a b : Nat) (ha : a < 4) (hb : b < 4) (m : Int) (hm : 0 ≤ m ∧ m < 16) (hP : 0 ≤ μ (62 + p) m.toNat ∧ μ (62 + p) m.toNat < 16) (hR : rng μ) : MI l yX4_shiftY cX4_shiftY 4 .int ({ frames := 0, cells := 0, slots := 0, locals := 0 } : Room) G [.inr (ad G (46 + p)), .inr (ad G (26 + a)), .inl m, .inr (ad G (26 + b))] μ (rdq μ (μ (34 + a) m.toNat - μ (34 + b) (μ (62 + p) m.toNat).toNat)) := by
  refine MI.of (by decide +kernel) (Nat.le_of_ble_eq_true rfl) ?_
  intro F C Yy
  show jX F G 4 0 0 (jE F G (jQi G (rdq μ (μ (34 + a) m.toNat - μ (34 + b) (μ (62 + p) m.toNat).toNat)))) 0 [some (.inr (ad G (46 + p))), some (.inr (ad G (26 + a))), some (.inl m), some (.inr (ad G (26 + b)))] [] μ
  refine jx_aload_n C dX4_shiftY_0 rfl ?_
  refine jx_get (v := .inr (ad G (34 + a))) C 1 ft_X2 (jcl_MA G ha _) rfl (by decide) (by omega) wf_X4_57 dX4_shiftY_1 ?_
  refine jx_iload_n C dX4_shiftY_4 rfl ?_
  refine jx_iald C (jcl_ro G ha _) (by omega) (by omega) (by omega) (by decide) dX4_shiftY_5 ?_
  have r_5 := rg_ro hR (p := a) ha m.toNat
  refine jx_aload_n C dX4_shiftY_6 rfl ?_
  refine jx_get (v := .inr (ad G (34 + b))) C 1 ft_X2 (jcl_MA G hb _) rfl (by decide) (by omega) wf_X4_57 dX4_shiftY_7 ?_
  refine jx_aload_n C dX4_shiftY_10 rfl ?_
  refine jx_get (v := .inr (ad G (62 + p))) C 0 ft_X4 (jcl_PA G hp _) rfl (by decide) (by omega) wf_X4_9 dX4_shiftY_11 ?_
  refine jx_iload_n C dX4_shiftY_14 rfl ?_
  refine jx_iald C (jcl_pa G hp _) (by omega) (by omega) (by omega) (by decide) dX4_shiftY_15 ?_
  have r_15 := rg_pa hR (p := p) hp m.toNat
  refine jx_iald C (jcl_ro G hb _) (by omega) (by omega) (by omega) (by decide) dX4_shiftY_16 ?_
  have r_16 := rg_ro hR (p := b) hb ((μ (62 + p) m.toNat).toNat)
  refine jx_isub C dX4_shiftY_17 ?_
  exact jx_iret C dX4_shiftY_18 ⟨by rfl, rfl⟩
set_option maxHeartbeats 4000000 in
set_option maxRecDepth 100000 in
theorem c_X4_propose (l : Launch) (G : GT) (μ : Mem) (p : Nat) (hp : p < 16) (a b : Nat) (ha : a < 4) (hb : b < 4) (vx vy : Int) (hX : -20 ≤ vx ∧ vx ≤ 20) (hY : -20 ≤ vy ∧ vy ≤ 20) (hP : ∀ m : Nat, (m : Int) < μ (26 + a) 4 → μ (62 + p) m = -6 ∨ (0 ≤ μ (62 + p) m ∧ μ (62 + p) m < 16)) (hR : rng μ) : MV l yX4_propose cX4_propose 7 ({ frames := 1, cells := 0, slots := 0, locals := 23 } : Room) G [.inr (ad G (46 + p)), .inr (ad G (26 + a)), .inr (ad G (26 + b)), .inl vx, .inl vy] μ (fun μ' => rng μ' ∧ (μ' (46 + p) 2, μ' (46 + p) 3, μ' (46 + p) 4) = prq (vts (μ (62 + p)) (fun m => μ (30 + a) m - μ (30 + b) (μ (62 + p) m).toNat) (fun m => μ (34 + a) m - μ (34 + b) (μ (62 + p) m).toNat) vx vy (μ (26 + a) 4).toNat) vx vy (μ (46 + p) 2, μ (46 + p) 3, μ (46 + p) 4) ∧ (∀ j, j ≠ 2 → j ≠ 3 → j ≠ 4 → μ' (46 + p) j = μ (46 + p) j) ∧ ∀ k, k ≠ 46 + p → μ' k = μ k) := by
  refine MV.of (by decide +kernel) (Nat.le_of_ble_eq_true rfl) ?_
  intro F C Yy
  show jX F G 7 0 0 (jE F G (jQv G (fun μ' => rng μ' ∧ (μ' (46 + p) 2, μ' (46 + p) 3, μ' (46 + p) 4) = prq (vts (μ (62 + p)) (fun m => μ (30 + a) m - μ (30 + b) (μ (62 + p) m).toNat) (fun m => μ (34 + a) m - μ (34 + b) (μ (62 + p) m).toNat) vx vy (μ (26 + a) 4).toNat) vx vy (μ (46 + p) 2, μ (46 + p) 3, μ (46 + p) 4) ∧ (∀ j, j ≠ 2 → j ≠ 3 → j ≠ 4 → μ' (46 + p) j = μ (46 + p) j) ∧ ∀ k, k ≠ 46 + p → μ' k = μ k))) 0 [some (.inr (ad G (46 + p))), some (.inr (ad G (26 + a))), some (.inr (ad G (26 + b))), some (.inl vx), some (.inl vy), none, none] [] μ
  have r_a := rg_MA_4 hR ha
  have r_v := rg_PA_2 hR hp
  have r_x := rg_PA_3 hR hp
  have r_y := rg_PA_4 hR hp
  refine jx_iconst C dX4_propose_0 ?_
  refine jx_istore (L' := [some (.inr (ad G (46 + p))), some (.inr (ad G (26 + a))), some (.inr (ad G (26 + b))), some (.inl vx), some (.inl vy), some (.inl 0), none]) C dX4_propose_1 (by decide) rfl ?_
  refine jx_iconst C dX4_propose_3 ?_
  refine jx_istore (L' := [some (.inr (ad G (46 + p))), some (.inr (ad G (26 + a))), some (.inr (ad G (26 + b))), some (.inl vx), some (.inl vy), some (.inl 0), some (.inl 0)]) C dX4_propose_4 (by decide) rfl ?_
  have LP_6 : ∀ (n : Nat) (k : Nat) (m : Int) (n5 : Int), (m = (k : Int)) → ((k : Int) ≤ μ (26 + a) 4) → (n5 = vts (μ (62 + p)) (fun m => μ (30 + a) m - μ (30 + b) (μ (62 + p) m).toNat) (fun m => μ (34 + a) m - μ (34 + b) (μ (62 + p) m).toNat) vx vy k) → 17 - k < n → jX F G 7 0 0 (jE F G (jQv G (fun μ' => rng μ' ∧ (μ' (46 + p) 2, μ' (46 + p) 3, μ' (46 + p) 4) = prq (vts (μ (62 + p)) (fun m => μ (30 + a) m - μ (30 + b) (μ (62 + p) m).toNat) (fun m => μ (34 + a) m - μ (34 + b) (μ (62 + p) m).toNat) vx vy (μ (26 + a) 4).toNat) vx vy (μ (46 + p) 2, μ (46 + p) 3, μ (46 + p) 4) ∧ (∀ j, j ≠ 2 → j ≠ 3 → j ≠ 4 → μ' (46 + p) j = μ (46 + p) j) ∧ ∀ k, k ≠ 46 + p → μ' k = μ k))) 6 [some (.inr (ad G (46 + p))), some (.inr (ad G (26 + a))), some (.inr (ad G (26 + b))), some (.inl vx), some (.inl vy), some (.inl n5), some (.inl m)] [] μ := by
    intro n
    induction n with
    | zero =>
      intro k m n5 hm hk hn hms
      exact absurd hms (Nat.not_lt_zero _)
    | succ n ih =>
      intro k m n5 hm hk hn hms
      have ih_6 := ih
      clear ih
      have hv := vts_rng (μ (62 + p)) (fun m => μ (30 + a) m - μ (30 + b) (μ (62 + p) m).toNat) (fun m => μ (34 + a) m - μ (34 + b) (μ (62 + p) m).toNat) vx vy k
      have hPk := hP k
      have emk : m.toNat = k := by omega
      refine jx_iload C dX4_propose_6 rfl ?_
      refine jx_aload_n C dX4_propose_8 rfl ?_
      refine jx_get (v := .inl (μ (26 + a) 4)) C 4 ft_X2 (jcl_MA G ha _) rfl (by decide) (by omega) wf_X4_19 dX4_propose_9 ?_
      have r_9 := rg_MA_4 hR (p := a) ha
      refine jx_icmp_ge C dX4_propose_12 (by omega) (by omega) (fun c_12 => ?_) (fun c_12 => ?_)
      · refine jx_iload_n C dX4_propose_61 rfl ?_
        refine jx_aload_n C dX4_propose_62 rfl ?_
        refine jx_get (v := .inl (μ (46 + p) 3)) C 3 ft_X4 (jcl_PA G hp _) rfl (by decide) (by omega) wf_X4_60 dX4_propose_63 ?_
        have r_63 := rg_PA_3 hR (p := p) hp
        refine jx_icmp_lt C dX4_propose_66 (by omega) (by omega) (fun c_66 => ?_) (fun c_66 => ?_)
        · refine jx_iconst C dX4_propose_86 ?_
          refine jx_goto C dX4_propose_87 ?_
          refine jx_istore (L' := [some (.inr (ad G (46 + p))), some (.inr (ad G (26 + a))), some (.inr (ad G (26 + b))), some (.inl vx), some (.inl vy), some (.inl n5), some (.inl 1)]) C dX4_propose_91 (by decide) rfl ?_
          refine jx_iload C dX4_propose_93 rfl ?_
          refine jx_iconst C dX4_propose_95 ?_
          refine jx_icmp_lt C dX4_propose_96 (by omega) (by decide) (fun c_96 => ?_) (fun c_96 => ?_)
          · exact jx_vret C dX4_propose_139 ⟨hR, (by rw [prq, if_neg (by rw [show (μ (26 + a) 4).toNat = k by omega]; dsimp only; omega)]), fun j h1 h2 h3 => rfl, fun k hk => rfl⟩
          · refine jx_iload C dX4_propose_99 rfl ?_
            refine jx_aload_n C dX4_propose_101 rfl ?_
            refine jx_get (v := .inl (μ (46 + p) 2)) C 2 ft_X4 (jcl_PA G hp _) rfl (by decide) (by omega) wf_X4_28 dX4_propose_102 ?_
            have r_102 := rg_PA_2 hR (p := p) hp
            refine jx_icmp_gt C dX4_propose_105 (by omega) (by omega) (fun c_105 => ?_) (fun c_105 => ?_)
            · refine jx_aload_n C dX4_propose_122 rfl ?_
              refine jx_iload C dX4_propose_123 rfl ?_
              refine jx_put C 2 ft_X4 (jcl_PA G hp _) ((jcl_PA G hp _).trans rfl) (by decide) (by omega) rfl (Or.inl rfl) (by simp) wf_X4_28 dX4_propose_125 ?_
              obtain ⟨μ1, eμ1⟩ : ∃ y_ : Mem, y_ = jms μ (46 + p) 2 n5 := ⟨_, rfl⟩
              rw [← eμ1]
              have hR1 : rng μ1 := by rw [eμ1]; exact rs_PA_2 hR hp (by omega) (by omega)
              refine jx_aload_n C dX4_propose_128 rfl ?_
              refine jx_iload_n C dX4_propose_129 rfl ?_
              refine jx_put C 3 ft_X4 (jcl_PA G hp _) ((jcl_PA G hp _).trans rfl) (by decide) (by omega) rfl (Or.inl rfl) (by simp) wf_X4_60 dX4_propose_130 ?_
              obtain ⟨μ2, eμ2⟩ : ∃ y_ : Mem, y_ = jms μ1 (46 + p) 3 vx := ⟨_, rfl⟩
              rw [← eμ2]
              have hR2 : rng μ2 := by rw [eμ2]; exact rs_PA_3 hR1 hp (by omega) (by omega)
              refine jx_aload_n C dX4_propose_133 rfl ?_
              refine jx_iload C dX4_propose_134 rfl ?_
              refine jx_put C 4 ft_X4 (jcl_PA G hp _) ((jcl_PA G hp _).trans rfl) (by decide) (by omega) rfl (Or.inl rfl) (by simp) wf_X4_63 dX4_propose_136 ?_
              obtain ⟨μ3, eμ3⟩ : ∃ y_ : Mem, y_ = jms μ2 (46 + p) 4 vy := ⟨_, rfl⟩
              rw [← eμ3]
              have hR3 : rng μ3 := by rw [eμ3]; exact rs_PA_4 hR2 hp (by omega) (by omega)
              exact jx_vret C dX4_propose_139 ⟨hR3, (by rw [prq, if_pos (by rw [show (μ (26 + a) 4).toNat = k by omega]; dsimp only; omega)]; rw [eμ3, jms_same, jms_slot _ _ _ _ (by omega), jms_slot _ _ _ _ (by omega), eμ2, jms_same, jms_slot _ _ _ _ (by omega), eμ1, jms_same, hn, show (μ (26 + a) 4).toNat = k by omega]), fun j h1 h2 h3 => by rw [eμ3, jms_slot _ _ _ _ h3, eμ2, jms_slot _ _ _ _ h2, eμ1, jms_slot _ _ _ _ h1], fun k hk => by rw [eμ3, jms_cell _ _ _ _ hk, eμ2, jms_cell _ _ _ _ hk, eμ1, jms_cell _ _ _ _ hk]⟩
            · refine jx_iload C dX4_propose_108 rfl ?_
              refine jx_aload_n C dX4_propose_110 rfl ?_
              refine jx_get (v := .inl (μ (46 + p) 2)) C 2 ft_X4 (jcl_PA G hp _) rfl (by decide) (by omega) wf_X4_28 dX4_propose_111 ?_
              have r_111 := rg_PA_2 hR (p := p) hp
              refine jx_icmp_ne C dX4_propose_114 (by omega) (by omega) (fun c_114 => ?_) (fun c_114 => ?_)
              · exact jx_vret C dX4_propose_139 ⟨hR, (by rw [prq, if_neg (by rw [show (μ (26 + a) 4).toNat = k by omega]; dsimp only; omega)]), fun j h1 h2 h3 => rfl, fun k hk => rfl⟩
              · refine jx_iload C dX4_propose_117 rfl ?_
                refine jx_if_eq C dX4_propose_119 (by decide) (fun q => absurd q (by decide)) (fun _ => ?_)
                refine jx_aload_n C dX4_propose_122 rfl ?_
                refine jx_iload C dX4_propose_123 rfl ?_
                refine jx_put C 2 ft_X4 (jcl_PA G hp _) ((jcl_PA G hp _).trans rfl) (by decide) (by omega) rfl (Or.inl rfl) (by simp) wf_X4_28 dX4_propose_125 ?_
                obtain ⟨μ4, eμ4⟩ : ∃ y_ : Mem, y_ = jms μ (46 + p) 2 n5 := ⟨_, rfl⟩
                rw [← eμ4]
                have hR4 : rng μ4 := by rw [eμ4]; exact rs_PA_2 hR hp (by omega) (by omega)
                refine jx_aload_n C dX4_propose_128 rfl ?_
                refine jx_iload_n C dX4_propose_129 rfl ?_
                refine jx_put C 3 ft_X4 (jcl_PA G hp _) ((jcl_PA G hp _).trans rfl) (by decide) (by omega) rfl (Or.inl rfl) (by simp) wf_X4_60 dX4_propose_130 ?_
                obtain ⟨μ5, eμ5⟩ : ∃ y_ : Mem, y_ = jms μ4 (46 + p) 3 vx := ⟨_, rfl⟩
                rw [← eμ5]
                have hR5 : rng μ5 := by rw [eμ5]; exact rs_PA_3 hR4 hp (by omega) (by omega)
                refine jx_aload_n C dX4_propose_133 rfl ?_
                refine jx_iload C dX4_propose_134 rfl ?_
                refine jx_put C 4 ft_X4 (jcl_PA G hp _) ((jcl_PA G hp _).trans rfl) (by decide) (by omega) rfl (Or.inl rfl) (by simp) wf_X4_63 dX4_propose_136 ?_
                obtain ⟨μ6, eμ6⟩ : ∃ y_ : Mem, y_ = jms μ5 (46 + p) 4 vy := ⟨_, rfl⟩
                rw [← eμ6]
                have hR6 : rng μ6 := by rw [eμ6]; exact rs_PA_4 hR5 hp (by omega) (by omega)
                exact jx_vret C dX4_propose_139 ⟨hR6, (by rw [prq, if_pos (by rw [show (μ (26 + a) 4).toNat = k by omega]; dsimp only; omega)]; rw [eμ6, jms_same, jms_slot _ _ _ _ (by omega), jms_slot _ _ _ _ (by omega), eμ5, jms_same, jms_slot _ _ _ _ (by omega), eμ4, jms_same, hn, show (μ (26 + a) 4).toNat = k by omega]), fun j h1 h2 h3 => by rw [eμ6, jms_slot _ _ _ _ h3, eμ5, jms_slot _ _ _ _ h2, eμ4, jms_slot _ _ _ _ h1], fun k hk => by rw [eμ6, jms_cell _ _ _ _ hk, eμ5, jms_cell _ _ _ _ hk, eμ4, jms_cell _ _ _ _ hk]⟩
        · refine jx_iload_n C dX4_propose_69 rfl ?_
          refine jx_aload_n C dX4_propose_70 rfl ?_
          refine jx_get (v := .inl (μ (46 + p) 3)) C 3 ft_X4 (jcl_PA G hp _) rfl (by decide) (by omega) wf_X4_60 dX4_propose_71 ?_
          have r_71 := rg_PA_3 hR (p := p) hp
          refine jx_icmp_ne C dX4_propose_74 (by omega) (by omega) (fun c_74 => ?_) (fun c_74 => ?_)
          · refine jx_iconst C dX4_propose_90 ?_
            refine jx_istore (L' := [some (.inr (ad G (46 + p))), some (.inr (ad G (26 + a))), some (.inr (ad G (26 + b))), some (.inl vx), some (.inl vy), some (.inl n5), some (.inl 0)]) C dX4_propose_91 (by decide) rfl ?_
            refine jx_iload C dX4_propose_93 rfl ?_
            refine jx_iconst C dX4_propose_95 ?_
            refine jx_icmp_lt C dX4_propose_96 (by omega) (by decide) (fun c_96 => ?_) (fun c_96 => ?_)
            · exact jx_vret C dX4_propose_139 ⟨hR, (by rw [prq, if_neg (by rw [show (μ (26 + a) 4).toNat = k by omega]; dsimp only; omega)]), fun j h1 h2 h3 => rfl, fun k hk => rfl⟩
            · refine jx_iload C dX4_propose_99 rfl ?_
              refine jx_aload_n C dX4_propose_101 rfl ?_
              refine jx_get (v := .inl (μ (46 + p) 2)) C 2 ft_X4 (jcl_PA G hp _) rfl (by decide) (by omega) wf_X4_28 dX4_propose_102 ?_
              have r_102 := rg_PA_2 hR (p := p) hp
              refine jx_icmp_gt C dX4_propose_105 (by omega) (by omega) (fun c_105 => ?_) (fun c_105 => ?_)
              · refine jx_aload_n C dX4_propose_122 rfl ?_
                refine jx_iload C dX4_propose_123 rfl ?_
                refine jx_put C 2 ft_X4 (jcl_PA G hp _) ((jcl_PA G hp _).trans rfl) (by decide) (by omega) rfl (Or.inl rfl) (by simp) wf_X4_28 dX4_propose_125 ?_
                obtain ⟨μ7, eμ7⟩ : ∃ y_ : Mem, y_ = jms μ (46 + p) 2 n5 := ⟨_, rfl⟩
                rw [← eμ7]
                have hR7 : rng μ7 := by rw [eμ7]; exact rs_PA_2 hR hp (by omega) (by omega)
                refine jx_aload_n C dX4_propose_128 rfl ?_
                refine jx_iload_n C dX4_propose_129 rfl ?_
                refine jx_put C 3 ft_X4 (jcl_PA G hp _) ((jcl_PA G hp _).trans rfl) (by decide) (by omega) rfl (Or.inl rfl) (by simp) wf_X4_60 dX4_propose_130 ?_
                obtain ⟨μ8, eμ8⟩ : ∃ y_ : Mem, y_ = jms μ7 (46 + p) 3 vx := ⟨_, rfl⟩
                rw [← eμ8]
                have hR8 : rng μ8 := by rw [eμ8]; exact rs_PA_3 hR7 hp (by omega) (by omega)
                refine jx_aload_n C dX4_propose_133 rfl ?_
                refine jx_iload C dX4_propose_134 rfl ?_
                refine jx_put C 4 ft_X4 (jcl_PA G hp _) ((jcl_PA G hp _).trans rfl) (by decide) (by omega) rfl (Or.inl rfl) (by simp) wf_X4_63 dX4_propose_136 ?_
                obtain ⟨μ9, eμ9⟩ : ∃ y_ : Mem, y_ = jms μ8 (46 + p) 4 vy := ⟨_, rfl⟩
                rw [← eμ9]
                have hR9 : rng μ9 := by rw [eμ9]; exact rs_PA_4 hR8 hp (by omega) (by omega)
                exact jx_vret C dX4_propose_139 ⟨hR9, (by rw [prq, if_pos (by rw [show (μ (26 + a) 4).toNat = k by omega]; dsimp only; omega)]; rw [eμ9, jms_same, jms_slot _ _ _ _ (by omega), jms_slot _ _ _ _ (by omega), eμ8, jms_same, jms_slot _ _ _ _ (by omega), eμ7, jms_same, hn, show (μ (26 + a) 4).toNat = k by omega]), fun j h1 h2 h3 => by rw [eμ9, jms_slot _ _ _ _ h3, eμ8, jms_slot _ _ _ _ h2, eμ7, jms_slot _ _ _ _ h1], fun k hk => by rw [eμ9, jms_cell _ _ _ _ hk, eμ8, jms_cell _ _ _ _ hk, eμ7, jms_cell _ _ _ _ hk]⟩
              · refine jx_iload C dX4_propose_108 rfl ?_
                refine jx_aload_n C dX4_propose_110 rfl ?_
                refine jx_get (v := .inl (μ (46 + p) 2)) C 2 ft_X4 (jcl_PA G hp _) rfl (by decide) (by omega) wf_X4_28 dX4_propose_111 ?_
                have r_111 := rg_PA_2 hR (p := p) hp
                refine jx_icmp_ne C dX4_propose_114 (by omega) (by omega) (fun c_114 => ?_) (fun c_114 => ?_)
                · exact jx_vret C dX4_propose_139 ⟨hR, (by rw [prq, if_neg (by rw [show (μ (26 + a) 4).toNat = k by omega]; dsimp only; omega)]), fun j h1 h2 h3 => rfl, fun k hk => rfl⟩
                · refine jx_iload C dX4_propose_117 rfl ?_
                  refine jx_if_eq C dX4_propose_119 (by decide) (fun _ => ?_) (fun q => absurd q (by decide))
                  exact jx_vret C dX4_propose_139 ⟨hR, (by rw [prq, if_neg (by rw [show (μ (26 + a) 4).toNat = k by omega]; dsimp only; omega)]), fun j h1 h2 h3 => rfl, fun k hk => rfl⟩
          · refine jx_iload C dX4_propose_77 rfl ?_
            refine jx_aload_n C dX4_propose_79 rfl ?_
            refine jx_get (v := .inl (μ (46 + p) 4)) C 4 ft_X4 (jcl_PA G hp _) rfl (by decide) (by omega) wf_X4_63 dX4_propose_80 ?_
            have r_80 := rg_PA_4 hR (p := p) hp
            refine jx_icmp_ge C dX4_propose_83 (by omega) (by omega) (fun c_83 => ?_) (fun c_83 => ?_)
            · refine jx_iconst C dX4_propose_90 ?_
              refine jx_istore (L' := [some (.inr (ad G (46 + p))), some (.inr (ad G (26 + a))), some (.inr (ad G (26 + b))), some (.inl vx), some (.inl vy), some (.inl n5), some (.inl 0)]) C dX4_propose_91 (by decide) rfl ?_
              refine jx_iload C dX4_propose_93 rfl ?_
              refine jx_iconst C dX4_propose_95 ?_
              refine jx_icmp_lt C dX4_propose_96 (by omega) (by decide) (fun c_96 => ?_) (fun c_96 => ?_)
              · exact jx_vret C dX4_propose_139 ⟨hR, (by rw [prq, if_neg (by rw [show (μ (26 + a) 4).toNat = k by omega]; dsimp only; omega)]), fun j h1 h2 h3 => rfl, fun k hk => rfl⟩
              · refine jx_iload C dX4_propose_99 rfl ?_
                refine jx_aload_n C dX4_propose_101 rfl ?_
                refine jx_get (v := .inl (μ (46 + p) 2)) C 2 ft_X4 (jcl_PA G hp _) rfl (by decide) (by omega) wf_X4_28 dX4_propose_102 ?_
                have r_102 := rg_PA_2 hR (p := p) hp
                refine jx_icmp_gt C dX4_propose_105 (by omega) (by omega) (fun c_105 => ?_) (fun c_105 => ?_)
                · refine jx_aload_n C dX4_propose_122 rfl ?_
                  refine jx_iload C dX4_propose_123 rfl ?_
                  refine jx_put C 2 ft_X4 (jcl_PA G hp _) ((jcl_PA G hp _).trans rfl) (by decide) (by omega) rfl (Or.inl rfl) (by simp) wf_X4_28 dX4_propose_125 ?_
                  obtain ⟨μ10, eμ10⟩ : ∃ y_ : Mem, y_ = jms μ (46 + p) 2 n5 := ⟨_, rfl⟩
                  rw [← eμ10]
                  have hR10 : rng μ10 := by rw [eμ10]; exact rs_PA_2 hR hp (by omega) (by omega)
                  refine jx_aload_n C dX4_propose_128 rfl ?_
                  refine jx_iload_n C dX4_propose_129 rfl ?_
                  refine jx_put C 3 ft_X4 (jcl_PA G hp _) ((jcl_PA G hp _).trans rfl) (by decide) (by omega) rfl (Or.inl rfl) (by simp) wf_X4_60 dX4_propose_130 ?_
                  obtain ⟨μ11, eμ11⟩ : ∃ y_ : Mem, y_ = jms μ10 (46 + p) 3 vx := ⟨_, rfl⟩
                  rw [← eμ11]
                  have hR11 : rng μ11 := by rw [eμ11]; exact rs_PA_3 hR10 hp (by omega) (by omega)
                  refine jx_aload_n C dX4_propose_133 rfl ?_
                  refine jx_iload C dX4_propose_134 rfl ?_
                  refine jx_put C 4 ft_X4 (jcl_PA G hp _) ((jcl_PA G hp _).trans rfl) (by decide) (by omega) rfl (Or.inl rfl) (by simp) wf_X4_63 dX4_propose_136 ?_
                  obtain ⟨μ12, eμ12⟩ : ∃ y_ : Mem, y_ = jms μ11 (46 + p) 4 vy := ⟨_, rfl⟩
                  rw [← eμ12]
                  have hR12 : rng μ12 := by rw [eμ12]; exact rs_PA_4 hR11 hp (by omega) (by omega)
                  exact jx_vret C dX4_propose_139 ⟨hR12, (by rw [prq, if_pos (by rw [show (μ (26 + a) 4).toNat = k by omega]; dsimp only; omega)]; rw [eμ12, jms_same, jms_slot _ _ _ _ (by omega), jms_slot _ _ _ _ (by omega), eμ11, jms_same, jms_slot _ _ _ _ (by omega), eμ10, jms_same, hn, show (μ (26 + a) 4).toNat = k by omega]), fun j h1 h2 h3 => by rw [eμ12, jms_slot _ _ _ _ h3, eμ11, jms_slot _ _ _ _ h2, eμ10, jms_slot _ _ _ _ h1], fun k hk => by rw [eμ12, jms_cell _ _ _ _ hk, eμ11, jms_cell _ _ _ _ hk, eμ10, jms_cell _ _ _ _ hk]⟩
                · refine jx_iload C dX4_propose_108 rfl ?_
                  refine jx_aload_n C dX4_propose_110 rfl ?_
                  refine jx_get (v := .inl (μ (46 + p) 2)) C 2 ft_X4 (jcl_PA G hp _) rfl (by decide) (by omega) wf_X4_28 dX4_propose_111 ?_
                  have r_111 := rg_PA_2 hR (p := p) hp
                  refine jx_icmp_ne C dX4_propose_114 (by omega) (by omega) (fun c_114 => ?_) (fun c_114 => ?_)
                  · exact jx_vret C dX4_propose_139 ⟨hR, (by rw [prq, if_neg (by rw [show (μ (26 + a) 4).toNat = k by omega]; dsimp only; omega)]), fun j h1 h2 h3 => rfl, fun k hk => rfl⟩
                  · refine jx_iload C dX4_propose_117 rfl ?_
                    refine jx_if_eq C dX4_propose_119 (by decide) (fun _ => ?_) (fun q => absurd q (by decide))
                    exact jx_vret C dX4_propose_139 ⟨hR, (by rw [prq, if_neg (by rw [show (μ (26 + a) 4).toNat = k by omega]; dsimp only; omega)]), fun j h1 h2 h3 => rfl, fun k hk => rfl⟩
            · refine jx_iconst C dX4_propose_86 ?_
              refine jx_goto C dX4_propose_87 ?_
              refine jx_istore (L' := [some (.inr (ad G (46 + p))), some (.inr (ad G (26 + a))), some (.inr (ad G (26 + b))), some (.inl vx), some (.inl vy), some (.inl n5), some (.inl 1)]) C dX4_propose_91 (by decide) rfl ?_
              refine jx_iload C dX4_propose_93 rfl ?_
              refine jx_iconst C dX4_propose_95 ?_
              refine jx_icmp_lt C dX4_propose_96 (by omega) (by decide) (fun c_96 => ?_) (fun c_96 => ?_)
              · exact jx_vret C dX4_propose_139 ⟨hR, (by rw [prq, if_neg (by rw [show (μ (26 + a) 4).toNat = k by omega]; dsimp only; omega)]), fun j h1 h2 h3 => rfl, fun k hk => rfl⟩
              · refine jx_iload C dX4_propose_99 rfl ?_
                refine jx_aload_n C dX4_propose_101 rfl ?_
                refine jx_get (v := .inl (μ (46 + p) 2)) C 2 ft_X4 (jcl_PA G hp _) rfl (by decide) (by omega) wf_X4_28 dX4_propose_102 ?_
                have r_102 := rg_PA_2 hR (p := p) hp
                refine jx_icmp_gt C dX4_propose_105 (by omega) (by omega) (fun c_105 => ?_) (fun c_105 => ?_)
                · refine jx_aload_n C dX4_propose_122 rfl ?_
                  refine jx_iload C dX4_propose_123 rfl ?_
                  refine jx_put C 2 ft_X4 (jcl_PA G hp _) ((jcl_PA G hp _).trans rfl) (by decide) (by omega) rfl (Or.inl rfl) (by simp) wf_X4_28 dX4_propose_125 ?_
                  obtain ⟨μ13, eμ13⟩ : ∃ y_ : Mem, y_ = jms μ (46 + p) 2 n5 := ⟨_, rfl⟩
                  rw [← eμ13]
                  have hR13 : rng μ13 := by rw [eμ13]; exact rs_PA_2 hR hp (by omega) (by omega)
                  refine jx_aload_n C dX4_propose_128 rfl ?_
                  refine jx_iload_n C dX4_propose_129 rfl ?_
                  refine jx_put C 3 ft_X4 (jcl_PA G hp _) ((jcl_PA G hp _).trans rfl) (by decide) (by omega) rfl (Or.inl rfl) (by simp) wf_X4_60 dX4_propose_130 ?_
                  obtain ⟨μ14, eμ14⟩ : ∃ y_ : Mem, y_ = jms μ13 (46 + p) 3 vx := ⟨_, rfl⟩
                  rw [← eμ14]
                  have hR14 : rng μ14 := by rw [eμ14]; exact rs_PA_3 hR13 hp (by omega) (by omega)
                  refine jx_aload_n C dX4_propose_133 rfl ?_
                  refine jx_iload C dX4_propose_134 rfl ?_
                  refine jx_put C 4 ft_X4 (jcl_PA G hp _) ((jcl_PA G hp _).trans rfl) (by decide) (by omega) rfl (Or.inl rfl) (by simp) wf_X4_63 dX4_propose_136 ?_
                  obtain ⟨μ15, eμ15⟩ : ∃ y_ : Mem, y_ = jms μ14 (46 + p) 4 vy := ⟨_, rfl⟩
                  rw [← eμ15]
                  have hR15 : rng μ15 := by rw [eμ15]; exact rs_PA_4 hR14 hp (by omega) (by omega)
                  exact jx_vret C dX4_propose_139 ⟨hR15, (by rw [prq, if_pos (by rw [show (μ (26 + a) 4).toNat = k by omega]; dsimp only; omega)]; rw [eμ15, jms_same, jms_slot _ _ _ _ (by omega), jms_slot _ _ _ _ (by omega), eμ14, jms_same, jms_slot _ _ _ _ (by omega), eμ13, jms_same, hn, show (μ (26 + a) 4).toNat = k by omega]), fun j h1 h2 h3 => by rw [eμ15, jms_slot _ _ _ _ h3, eμ14, jms_slot _ _ _ _ h2, eμ13, jms_slot _ _ _ _ h1], fun k hk => by rw [eμ15, jms_cell _ _ _ _ hk, eμ14, jms_cell _ _ _ _ hk, eμ13, jms_cell _ _ _ _ hk]⟩
                · refine jx_iload C dX4_propose_108 rfl ?_
                  refine jx_aload_n C dX4_propose_110 rfl ?_
                  refine jx_get (v := .inl (μ (46 + p) 2)) C 2 ft_X4 (jcl_PA G hp _) rfl (by decide) (by omega) wf_X4_28 dX4_propose_111 ?_
                  have r_111 := rg_PA_2 hR (p := p) hp
                  refine jx_icmp_ne C dX4_propose_114 (by omega) (by omega) (fun c_114 => ?_) (fun c_114 => ?_)
                  · exact jx_vret C dX4_propose_139 ⟨hR, (by rw [prq, if_neg (by rw [show (μ (26 + a) 4).toNat = k by omega]; dsimp only; omega)]), fun j h1 h2 h3 => rfl, fun k hk => rfl⟩
                  · refine jx_iload C dX4_propose_117 rfl ?_
                    refine jx_if_eq C dX4_propose_119 (by decide) (fun q => absurd q (by decide)) (fun _ => ?_)
                    refine jx_aload_n C dX4_propose_122 rfl ?_
                    refine jx_iload C dX4_propose_123 rfl ?_
                    refine jx_put C 2 ft_X4 (jcl_PA G hp _) ((jcl_PA G hp _).trans rfl) (by decide) (by omega) rfl (Or.inl rfl) (by simp) wf_X4_28 dX4_propose_125 ?_
                    obtain ⟨μ16, eμ16⟩ : ∃ y_ : Mem, y_ = jms μ (46 + p) 2 n5 := ⟨_, rfl⟩
                    rw [← eμ16]
                    have hR16 : rng μ16 := by rw [eμ16]; exact rs_PA_2 hR hp (by omega) (by omega)
                    refine jx_aload_n C dX4_propose_128 rfl ?_
                    refine jx_iload_n C dX4_propose_129 rfl ?_
                    refine jx_put C 3 ft_X4 (jcl_PA G hp _) ((jcl_PA G hp _).trans rfl) (by decide) (by omega) rfl (Or.inl rfl) (by simp) wf_X4_60 dX4_propose_130 ?_
                    obtain ⟨μ17, eμ17⟩ : ∃ y_ : Mem, y_ = jms μ16 (46 + p) 3 vx := ⟨_, rfl⟩
                    rw [← eμ17]
                    have hR17 : rng μ17 := by rw [eμ17]; exact rs_PA_3 hR16 hp (by omega) (by omega)
                    refine jx_aload_n C dX4_propose_133 rfl ?_
                    refine jx_iload C dX4_propose_134 rfl ?_
                    refine jx_put C 4 ft_X4 (jcl_PA G hp _) ((jcl_PA G hp _).trans rfl) (by decide) (by omega) rfl (Or.inl rfl) (by simp) wf_X4_63 dX4_propose_136 ?_
                    obtain ⟨μ18, eμ18⟩ : ∃ y_ : Mem, y_ = jms μ17 (46 + p) 4 vy := ⟨_, rfl⟩
                    rw [← eμ18]
                    have hR18 : rng μ18 := by rw [eμ18]; exact rs_PA_4 hR17 hp (by omega) (by omega)
                    exact jx_vret C dX4_propose_139 ⟨hR18, (by rw [prq, if_pos (by rw [show (μ (26 + a) 4).toNat = k by omega]; dsimp only; omega)]; rw [eμ18, jms_same, jms_slot _ _ _ _ (by omega), jms_slot _ _ _ _ (by omega), eμ17, jms_same, jms_slot _ _ _ _ (by omega), eμ16, jms_same, hn, show (μ (26 + a) 4).toNat = k by omega]), fun j h1 h2 h3 => by rw [eμ18, jms_slot _ _ _ _ h3, eμ17, jms_slot _ _ _ _ h2, eμ16, jms_slot _ _ _ _ h1], fun k hk => by rw [eμ18, jms_cell _ _ _ _ hk, eμ17, jms_cell _ _ _ _ hk, eμ16, jms_cell _ _ _ _ hk]⟩
      · refine jx_aload_n C dX4_propose_15 rfl ?_
        refine jx_get (v := .inr (ad G (62 + p))) C 0 ft_X4 (jcl_PA G hp _) rfl (by decide) (by omega) wf_X4_9 dX4_propose_16 ?_
        refine jx_iload C dX4_propose_19 rfl ?_
        refine jx_iald C (jcl_pa G hp _) (by omega) (by omega) (by omega) (by decide) dX4_propose_21 ?_
        have r_21 := rg_pa hR (p := p) hp m.toNat
        refine jx_bipush C dX4_propose_22 (by decide +kernel) ?_
        refine jx_icmp_eq C dX4_propose_24 (by omega) (by decide) (fun c_24 => ?_) (fun c_24 => ?_)
        · refine jx_iinc (L' := [some (.inr (ad G (46 + p))), some (.inr (ad G (26 + a))), some (.inr (ad G (26 + b))), some (.inl vx), some (.inl vy), some (.inl n5), some (.inl (m + 1))]) C dX4_propose_55 rfl (by decide) rfl ?_
          refine jx_goto C dX4_propose_58 ?_
          exact ih_6 (k + 1) (m + 1) n5 (by omega) (by omega) (by rw [vts, if_neg (fun hh => by rw [← emk] at hh; first | exact hh.1 c_24 | exact c_36 hh.2.1 | exact c_49 hh.2.2)]; exact hn) (by omega)
        · refine jx_aload_n C dX4_propose_27 rfl ?_
          refine jx_aload_n C dX4_propose_28 rfl ?_
          refine jx_iload C dX4_propose_29 rfl ?_
          refine jx_aload_n C dX4_propose_31 rfl ?_
          refine jx_cVi (as := [.inr (ad G (26 + a)), .inl m, .inr (ad G (26 + b))]) (st := []) C Yy (c_X4_shiftX l G μ p (by omega) a b (by omega) (by omega) m (by omega) (by have hq := hPk (by omega); rw [emk]; rw [emk] at c_24; omega) hR) yb_X4_shiftX yv_X4_shiftX wm_X4_31 (jcl_PA G hp _) rfl (by omega) rfl rfl (Nat.le_of_ble_eq_true rfl) ⟨⟨rfl, rfl, Nat.le_of_ble_eq_true rfl, Nat.le_of_ble_eq_true rfl⟩, Nat.zero_le _, Nat.zero_le _⟩ dX4_propose_32 ?_
          rintro _ _ ⟨rfl, rfl⟩
          have r_32 := rg_co hR (p := a) (by omega) m.toNat
          have r2_32 := rg_co hR (p := b) (by omega) (μ (62 + p) m.toNat).toNat
          refine jx_iload_n C dX4_propose_35 rfl ?_
          refine jx_icmp_ne C dX4_propose_36 (by omega) (by omega) (fun c_36 => ?_) (fun c_36 => ?_)
          · refine jx_iinc (L' := [some (.inr (ad G (46 + p))), some (.inr (ad G (26 + a))), some (.inr (ad G (26 + b))), some (.inl vx), some (.inl vy), some (.inl n5), some (.inl (m + 1))]) C dX4_propose_55 rfl (by decide) rfl ?_
            refine jx_goto C dX4_propose_58 ?_
            exact ih_6 (k + 1) (m + 1) n5 (by omega) (by omega) (by rw [vts, if_neg (fun hh => by rw [← emk] at hh; first | exact hh.1 c_24 | exact c_36 hh.2.1 | exact c_49 hh.2.2)]; exact hn) (by omega)
          · refine jx_aload_n C dX4_propose_39 rfl ?_
            refine jx_aload_n C dX4_propose_40 rfl ?_
            refine jx_iload C dX4_propose_41 rfl ?_
            refine jx_aload_n C dX4_propose_43 rfl ?_
            refine jx_cVi (as := [.inr (ad G (26 + a)), .inl m, .inr (ad G (26 + b))]) (st := []) C Yy (c_X4_shiftY l G μ p (by omega) a b (by omega) (by omega) m (by omega) (by have hq := hPk (by omega); rw [emk]; rw [emk] at c_24; omega) hR) yb_X4_shiftY yv_X4_shiftY wm_X4_35 (jcl_PA G hp _) rfl (by omega) rfl rfl (Nat.le_of_ble_eq_true rfl) ⟨⟨rfl, rfl, Nat.le_of_ble_eq_true rfl, Nat.le_of_ble_eq_true rfl⟩, Nat.zero_le _, Nat.zero_le _⟩ dX4_propose_44 ?_
            rintro _ _ ⟨rfl, rfl⟩
            have r_44 := rg_ro hR (p := a) (by omega) m.toNat
            have r2_44 := rg_ro hR (p := b) (by omega) (μ (62 + p) m.toNat).toNat
            refine jx_iload C dX4_propose_47 rfl ?_
            refine jx_icmp_ne C dX4_propose_49 (by omega) (by omega) (fun c_49 => ?_) (fun c_49 => ?_)
            · refine jx_iinc (L' := [some (.inr (ad G (46 + p))), some (.inr (ad G (26 + a))), some (.inr (ad G (26 + b))), some (.inl vx), some (.inl vy), some (.inl n5), some (.inl (m + 1))]) C dX4_propose_55 rfl (by decide) rfl ?_
              refine jx_goto C dX4_propose_58 ?_
              exact ih_6 (k + 1) (m + 1) n5 (by omega) (by omega) (by rw [vts, if_neg (fun hh => by rw [← emk] at hh; first | exact hh.1 c_24 | exact c_36 hh.2.1 | exact c_49 hh.2.2)]; exact hn) (by omega)
            · refine jx_iinc (L' := [some (.inr (ad G (46 + p))), some (.inr (ad G (26 + a))), some (.inr (ad G (26 + b))), some (.inl vx), some (.inl vy), some (.inl (n5 + 1)), some (.inl m)]) C dX4_propose_52 rfl (by decide) rfl ?_
              refine jx_iinc (L' := [some (.inr (ad G (46 + p))), some (.inr (ad G (26 + a))), some (.inr (ad G (26 + b))), some (.inl vx), some (.inl vy), some (.inl (n5 + 1)), some (.inl (m + 1))]) C dX4_propose_55 rfl (by decide) rfl ?_
              refine jx_goto C dX4_propose_58 ?_
              exact ih_6 (k + 1) (m + 1) (n5 + 1) (by omega) (by omega) (by rw [vts, if_pos ⟨by rw [← emk]; exact c_24, by rw [← emk]; exact c_36, by rw [← emk]; exact c_49⟩]; omega) (by omega)
  exact LP_6 _ 0 0 0 rfl (by omega) rfl (Nat.lt_succ_self _)
set_option maxHeartbeats 4000000 in
set_option maxRecDepth 100000 in
theorem c_X4_find (l : Launch) (G : GT) (μ : Mem) (p : Nat) (hp : p < 16) (a b : Nat) (ha : a < 4) (hb : b < 4) (near : Int) (hnr : 0 ≤ near ∧ near ≤ 12) (hR : rng μ) : MV l yX4_find cX4_find 5 ({ frames := 3, cells := 0, slots := 0, locals := 69 } : Room) G [.inr (ad G (46 + p)), .inr (ad G (26 + a)), .inr (ad G (26 + b)), .inl near] μ (fun μ' => rng μ' ∧ (∀ m : Nat, (m : Int) < μ (26 + a) 4 → μ' (62 + p) m = (ptn (μ (42 + a)) (μ (26 + a) 4).toNat (μ (42 + b)) (μ (26 + b) 4).toNat near) m) ∧ μ' (46 + p) 1 = mct (ptn (μ (42 + a)) (μ (26 + a) 4).toNat (μ (42 + b)) (μ (26 + b) 4).toNat near) (μ (26 + a) 4).toNat ∧ (μ' (46 + p) 2, μ' (46 + p) 3, μ' (46 + p) 4) = prf (ptn (μ (42 + a)) (μ (26 + a) 4).toNat (μ (42 + b)) (μ (26 + b) 4).toNat near) (fun m => μ (30 + a) m - μ (30 + b) ((ptn (μ (42 + a)) (μ (26 + a) 4).toNat (μ (42 + b)) (μ (26 + b) 4).toNat near) m).toNat) (fun m => μ (34 + a) m - μ (34 + b) ((ptn (μ (42 + a)) (μ (26 + a) 4).toNat (μ (42 + b)) (μ (26 + b) 4).toNat near) m).toNat) (μ (26 + a) 4).toNat (0, μ (46 + p) 3, μ (46 + p) 4) (μ (26 + a) 4).toNat ∧ ∀ k, k ≠ 46 + p → k ≠ 62 + p → μ' k = μ k) := by
  refine MV.of (by decide +kernel) (Nat.le_of_ble_eq_true rfl) ?_
  intro F C Yy
  show jX F G 5 0 0 (jE F G (jQv G (fun μ' => rng μ' ∧ (∀ m : Nat, (m : Int) < μ (26 + a) 4 → μ' (62 + p) m = (ptn (μ (42 + a)) (μ (26 + a) 4).toNat (μ (42 + b)) (μ (26 + b) 4).toNat near) m) ∧ μ' (46 + p) 1 = mct (ptn (μ (42 + a)) (μ (26 + a) 4).toNat (μ (42 + b)) (μ (26 + b) 4).toNat near) (μ (26 + a) 4).toNat ∧ (μ' (46 + p) 2, μ' (46 + p) 3, μ' (46 + p) 4) = prf (ptn (μ (42 + a)) (μ (26 + a) 4).toNat (μ (42 + b)) (μ (26 + b) 4).toNat near) (fun m => μ (30 + a) m - μ (30 + b) ((ptn (μ (42 + a)) (μ (26 + a) 4).toNat (μ (42 + b)) (μ (26 + b) 4).toNat near) m).toNat) (fun m => μ (34 + a) m - μ (34 + b) ((ptn (μ (42 + a)) (μ (26 + a) 4).toNat (μ (42 + b)) (μ (26 + b) 4).toNat near) m).toNat) (μ (26 + a) 4).toNat (0, μ (46 + p) 3, μ (46 + p) 4) (μ (26 + a) 4).toNat ∧ ∀ k, k ≠ 46 + p → k ≠ 62 + p → μ' k = μ k))) 0 [some (.inr (ad G (46 + p))), some (.inr (ad G (26 + a))), some (.inr (ad G (26 + b))), some (.inl near), none] [] μ
  have r_a := rg_MA_4 hR ha
  have r_b := rg_MA_4 hR hb
  refine jx_aload_n C dX4_find_0 rfl ?_
  refine jx_iconst C dX4_find_1 ?_
  refine jx_put C 1 ft_X4 (jcl_PA G hp _) ((jcl_PA G hp _).trans rfl) (by decide) (by omega) rfl (Or.inl rfl) (by simp) wf_X4_15 dX4_find_2 ?_
  obtain ⟨μ1, eμ1⟩ : ∃ y_ : Mem, y_ = jms μ (46 + p) 1 0 := ⟨_, rfl⟩
  rw [← eμ1]
  have hR1 : rng μ1 := by rw [eμ1]; exact rs_PA_1 hR hp (by omega) (by omega)
  refine jx_iconst C dX4_find_5 ?_
  refine jx_istore (L' := [some (.inr (ad G (46 + p))), some (.inr (ad G (26 + a))), some (.inr (ad G (26 + b))), some (.inl near), some (.inl 0)]) C dX4_find_6 (by decide) rfl ?_
  have LP_8 : ∀ (n : Nat) (k : Nat) (m : Int) (μa : Mem), (rng μa) → (m = (k : Int)) → ((k : Int) ≤ μ (26 + a) 4) → (∀ x, x < k → μa (62 + p) x = (ptn (μ (42 + a)) (μ (26 + a) 4).toNat (μ (42 + b)) (μ (26 + b) 4).toNat near) x) → (μa (46 + p) 1 = mct (ptn (μ (42 + a)) (μ (26 + a) 4).toNat (μ (42 + b)) (μ (26 + b) 4).toNat near) k) → (μa (46 + p) 3 = μ (46 + p) 3 ∧ μa (46 + p) 4 = μ (46 + p) 4) → (∀ k, k ≠ 46 + p → k ≠ 62 + p → μa k = μ k) → 17 - k < n → jX F G 5 0 0 (jE F G (jQv G (fun μ' => rng μ' ∧ (∀ m : Nat, (m : Int) < μ (26 + a) 4 → μ' (62 + p) m = (ptn (μ (42 + a)) (μ (26 + a) 4).toNat (μ (42 + b)) (μ (26 + b) 4).toNat near) m) ∧ μ' (46 + p) 1 = mct (ptn (μ (42 + a)) (μ (26 + a) 4).toNat (μ (42 + b)) (μ (26 + b) 4).toNat near) (μ (26 + a) 4).toNat ∧ (μ' (46 + p) 2, μ' (46 + p) 3, μ' (46 + p) 4) = prf (ptn (μ (42 + a)) (μ (26 + a) 4).toNat (μ (42 + b)) (μ (26 + b) 4).toNat near) (fun m => μ (30 + a) m - μ (30 + b) ((ptn (μ (42 + a)) (μ (26 + a) 4).toNat (μ (42 + b)) (μ (26 + b) 4).toNat near) m).toNat) (fun m => μ (34 + a) m - μ (34 + b) ((ptn (μ (42 + a)) (μ (26 + a) 4).toNat (μ (42 + b)) (μ (26 + b) 4).toNat near) m).toNat) (μ (26 + a) 4).toNat (0, μ (46 + p) 3, μ (46 + p) 4) (μ (26 + a) 4).toNat ∧ ∀ k, k ≠ 46 + p → k ≠ 62 + p → μ' k = μ k))) 8 [some (.inr (ad G (46 + p))), some (.inr (ad G (26 + a))), some (.inr (ad G (26 + b))), some (.inl near), some (.inl m)] [] μa := by
    intro n
    induction n with
    | zero =>
      intro k m μa hRa hm hk hPa hca hxa hfa hms
      exact absurd hms (Nat.not_lt_zero _)
    | succ n ih =>
      intro k m μa hRa hm hk hPa hca hxa hfa hms
      have ih_8 := ih
      clear ih
      have emk : m.toNat = k := by omega
      have q_a : μa (26 + a) 4 = μ (26 + a) 4 := by rw [hfa _ (by omega) (by omega)]
      have q_b := mct_rng (ptn (μ (42 + a)) (μ (26 + a) 4).toNat (μ (42 + b)) (μ (26 + b) 4).toNat near) k
      have q_p := ptn_rng (μ (42 + a)) (μ (26 + a) 4).toNat (μ (42 + b)) (μ (26 + b) 4).toNat near k
      refine jx_iload C dX4_find_8 rfl ?_
      refine jx_aload_n C dX4_find_10 rfl ?_
      refine jx_get (v := .inl (μa (26 + a) 4)) C 4 ft_X2 (jcl_MA G ha _) rfl (by decide) (by omega) wf_X4_19 dX4_find_11 ?_
      have r_11 := rg_MA_4 hRa (p := a) ha
      refine jx_icmp_ge C dX4_find_14 (by omega) (by omega) (fun c_14 => ?_) (fun c_14 => ?_)
      · refine jx_aload_n C dX4_find_60 rfl ?_
        refine jx_iconst C dX4_find_61 ?_
        refine jx_put C 2 ft_X4 (jcl_PA G hp _) ((jcl_PA G hp _).trans rfl) (by decide) (by omega) rfl (Or.inl rfl) (by simp) wf_X4_28 dX4_find_62 ?_
        obtain ⟨μ2, eμ2⟩ : ∃ y_ : Mem, y_ = jms μa (46 + p) 2 0 := ⟨_, rfl⟩
        rw [← eμ2]
        have hR2 : rng μ2 := by rw [eμ2]; exact rs_PA_2 hRa hp (by omega) (by omega)
        refine jx_iconst C dX4_find_65 ?_
        refine jx_istore (L' := [some (.inr (ad G (46 + p))), some (.inr (ad G (26 + a))), some (.inr (ad G (26 + b))), some (.inl near), some (.inl 0)]) C dX4_find_66 (by decide) rfl ?_
        have LP_68 : ∀ (n : Nat) (k2 : Nat) (m2 : Int) (μd : Mem), (rng μd) → (m2 = (k2 : Int)) → ((k2 : Int) ≤ μ (26 + a) 4) → (∀ x : Nat, (x : Int) < μ (26 + a) 4 → μd (62 + p) x = (ptn (μ (42 + a)) (μ (26 + a) 4).toNat (μ (42 + b)) (μ (26 + b) 4).toNat near) x) → (μd (46 + p) 1 = mct (ptn (μ (42 + a)) (μ (26 + a) 4).toNat (μ (42 + b)) (μ (26 + b) 4).toNat near) (μ (26 + a) 4).toNat) → ((μd (46 + p) 2, μd (46 + p) 3, μd (46 + p) 4) = prf (ptn (μ (42 + a)) (μ (26 + a) 4).toNat (μ (42 + b)) (μ (26 + b) 4).toNat near) (fun m => μ (30 + a) m - μ (30 + b) ((ptn (μ (42 + a)) (μ (26 + a) 4).toNat (μ (42 + b)) (μ (26 + b) 4).toNat near) m).toNat) (fun m => μ (34 + a) m - μ (34 + b) ((ptn (μ (42 + a)) (μ (26 + a) 4).toNat (μ (42 + b)) (μ (26 + b) 4).toNat near) m).toNat) (μ (26 + a) 4).toNat (0, μ (46 + p) 3, μ (46 + p) 4) k2) → (∀ k, k ≠ 46 + p → k ≠ 62 + p → μd k = μ k) → 17 - k2 < n → jX F G 5 0 0 (jE F G (jQv G (fun μ' => rng μ' ∧ (∀ m : Nat, (m : Int) < μ (26 + a) 4 → μ' (62 + p) m = (ptn (μ (42 + a)) (μ (26 + a) 4).toNat (μ (42 + b)) (μ (26 + b) 4).toNat near) m) ∧ μ' (46 + p) 1 = mct (ptn (μ (42 + a)) (μ (26 + a) 4).toNat (μ (42 + b)) (μ (26 + b) 4).toNat near) (μ (26 + a) 4).toNat ∧ (μ' (46 + p) 2, μ' (46 + p) 3, μ' (46 + p) 4) = prf (ptn (μ (42 + a)) (μ (26 + a) 4).toNat (μ (42 + b)) (μ (26 + b) 4).toNat near) (fun m => μ (30 + a) m - μ (30 + b) ((ptn (μ (42 + a)) (μ (26 + a) 4).toNat (μ (42 + b)) (μ (26 + b) 4).toNat near) m).toNat) (fun m => μ (34 + a) m - μ (34 + b) ((ptn (μ (42 + a)) (μ (26 + a) 4).toNat (μ (42 + b)) (μ (26 + b) 4).toNat near) m).toNat) (μ (26 + a) 4).toNat (0, μ (46 + p) 3, μ (46 + p) 4) (μ (26 + a) 4).toNat ∧ ∀ k, k ≠ 46 + p → k ≠ 62 + p → μ' k = μ k))) 68 [some (.inr (ad G (46 + p))), some (.inr (ad G (26 + a))), some (.inr (ad G (26 + b))), some (.inl near), some (.inl m2)] [] μd := by
          intro n
          induction n with
          | zero =>
            intro k2 m2 μd hRd hm2 hk2 hPd hcd hpd hfd hms
            exact absurd hms (Nat.not_lt_zero _)
          | succ n ih =>
            intro k2 m2 μd hRd hm2 hk2 hPd hcd hpd hfd hms
            have ih_68 := ih
            clear ih
            have emk2 : m2.toNat = k2 := by omega
            have q_d : μd (26 + a) 4 = μ (26 + a) 4 := by rw [hfd _ (by omega) (by omega)]
            have q_p := ptn_rng (μ (42 + a)) (μ (26 + a) 4).toNat (μ (42 + b)) (μ (26 + b) 4).toNat near k2
            have q_e : ∀ x : Nat, (x : Int) < μd (26 + a) 4 → μd (62 + p) x = -6 ∨ (0 ≤ μd (62 + p) x ∧ μd (62 + p) x < 16) := fun x hx => by rw [hPd x (by omega)]; have := ptn_rng (μ (42 + a)) (μ (26 + a) 4).toNat (μ (42 + b)) (μ (26 + b) 4).toNat near x; omega
            refine jx_iload C dX4_find_68 rfl ?_
            refine jx_aload_n C dX4_find_70 rfl ?_
            refine jx_get (v := .inl (μd (26 + a) 4)) C 4 ft_X2 (jcl_MA G ha _) rfl (by decide) (by omega) wf_X4_19 dX4_find_71 ?_
            have r_71 := rg_MA_4 hRd (p := a) ha
            refine jx_icmp_ge C dX4_find_74 (by omega) (by omega) (fun c_74 => ?_) (fun c_74 => ?_)
            · exact jx_vret C dX4_find_117 ⟨hRd, hPd, hcd, by rw [show (μ (26 + a) 4).toNat = k2 by omega]; rw [show (μ (26 + a) 4).toNat = k2 by omega] at hpd; exact hpd, hfd⟩
            · refine jx_aload_n C dX4_find_77 rfl ?_
              refine jx_get (v := .inr (ad G (62 + p))) C 0 ft_X4 (jcl_PA G hp _) rfl (by decide) (by omega) wf_X4_9 dX4_find_78 ?_
              refine jx_iload C dX4_find_81 rfl ?_
              refine jx_iald C (jcl_pa G hp _) (by omega) (by omega) (by omega) (by decide) dX4_find_83 ?_
              have r_83 := rg_pa hRd (p := p) hp m2.toNat
              refine jx_bipush C dX4_find_84 (by decide +kernel) ?_
              refine jx_icmp_eq C dX4_find_86 (by omega) (by decide) (fun c_86 => ?_) (fun c_86 => ?_)
              · refine jx_iinc (L' := [some (.inr (ad G (46 + p))), some (.inr (ad G (26 + a))), some (.inr (ad G (26 + b))), some (.inl near), some (.inl (m2 + 1))]) C dX4_find_111 rfl (by decide) rfl ?_
                refine jx_goto C dX4_find_114 ?_
                exact ih_68 (k2 + 1) (m2 + 1) μd hRd (by omega) (by omega) hPd hcd (by rw [prf, if_pos (by rw [← hPd k2 (by omega)]; rw [emk2] at c_86; exact c_86)]; exact hpd) hfd (by omega)
              · refine jx_aload_n C dX4_find_89 rfl ?_
                refine jx_aload_n C dX4_find_90 rfl ?_
                refine jx_aload_n C dX4_find_91 rfl ?_
                refine jx_aload_n C dX4_find_92 rfl ?_
                refine jx_aload_n C dX4_find_93 rfl ?_
                refine jx_iload C dX4_find_94 rfl ?_
                refine jx_aload_n C dX4_find_96 rfl ?_
                refine jx_cVi (as := [.inr (ad G (26 + a)), .inl m2, .inr (ad G (26 + b))]) (st := [.inr (ad G (26 + b)), .inr (ad G (26 + a)), .inr (ad G (46 + p))]) C Yy (c_X4_shiftX l G μd p (by omega) a b (by omega) (by omega) m2 (by omega) (by have hq := q_e k2 (by omega); rw [emk2]; rw [emk2] at c_86; omega) hRd) yb_X4_shiftX yv_X4_shiftX wm_X4_31 (jcl_PA G hp _) rfl (by omega) rfl rfl (Nat.le_of_ble_eq_true rfl) ⟨⟨rfl, rfl, Nat.le_of_ble_eq_true rfl, Nat.le_of_ble_eq_true rfl⟩, Nat.zero_le _, Nat.zero_le _⟩ dX4_find_97 ?_
                rintro _ _ ⟨rfl, rfl⟩
                have r_97 := rg_co hRd (p := a) (by omega) m2.toNat
                have r2_97 := rg_co hRd (p := b) (by omega) (μd (62 + p) m2.toNat).toNat
                refine jx_aload_n C dX4_find_100 rfl ?_
                refine jx_aload_n C dX4_find_101 rfl ?_
                refine jx_iload C dX4_find_102 rfl ?_
                refine jx_aload_n C dX4_find_104 rfl ?_
                refine jx_cVi (as := [.inr (ad G (26 + a)), .inl m2, .inr (ad G (26 + b))]) (st := [.inl (μd (30 + a) m2.toNat - μd (30 + b) (μd (62 + p) m2.toNat).toNat), .inr (ad G (26 + b)), .inr (ad G (26 + a)), .inr (ad G (46 + p))]) C Yy (c_X4_shiftY l G μd p (by omega) a b (by omega) (by omega) m2 (by omega) (by have hq := q_e k2 (by omega); rw [emk2]; rw [emk2] at c_86; omega) hRd) yb_X4_shiftY yv_X4_shiftY wm_X4_35 (jcl_PA G hp _) rfl (by omega) rfl rfl (Nat.le_of_ble_eq_true rfl) ⟨⟨rfl, rfl, Nat.le_of_ble_eq_true rfl, Nat.le_of_ble_eq_true rfl⟩, Nat.zero_le _, Nat.zero_le _⟩ dX4_find_105 ?_
                rintro _ _ ⟨rfl, rfl⟩
                have r_105 := rg_ro hRd (p := a) (by omega) m2.toNat
                have r2_105 := rg_ro hRd (p := b) (by omega) (μd (62 + p) m2.toNat).toNat
                refine jx_cVv (as := [.inr (ad G (26 + a)), .inr (ad G (26 + b)), .inl (μd (30 + a) m2.toNat - μd (30 + b) (μd (62 + p) m2.toNat).toNat), .inl (μd (34 + a) m2.toNat - μd (34 + b) (μd (62 + p) m2.toNat).toNat)]) (st := []) C Yy (c_X4_propose l G μd p (by omega) a b (by omega) (by omega) (μd (30 + a) m2.toNat - μd (30 + b) (μd (62 + p) m2.toNat).toNat) (μd (34 + a) m2.toNat - μd (34 + b) (μd (62 + p) m2.toNat).toNat) (by omega) (by omega) q_e hRd) yb_X4_propose yv_X4_propose wm_X4_38 (jcl_PA G hp _) rfl (by omega) rfl rfl (Nat.le_of_ble_eq_true rfl) ⟨⟨rfl, rfl, Nat.le_of_ble_eq_true rfl, Nat.le_of_ble_eq_true rfl⟩, Nat.zero_le _, Nat.zero_le _⟩ dX4_find_108 ?_
                intro μ3 hμ3
                have hR3 := hμ3.1
                refine jx_iinc (L' := [some (.inr (ad G (46 + p))), some (.inr (ad G (26 + a))), some (.inr (ad G (26 + b))), some (.inl near), some (.inl (m2 + 1))]) C dX4_find_111 rfl (by decide) rfl ?_
                refine jx_goto C dX4_find_114 ?_
                exact ih_68 (k2 + 1) (m2 + 1) μ3 hR3 (by omega) (by omega) (fun x hx => by rw [hμ3.2.2.2 _ (by omega)]; exact hPd x hx) (by rw [hμ3.2.2.1 1 (by omega) (by omega) (by omega)]; exact hcd) (by rw [hμ3.2.1, prf, if_neg (by rw [← hPd k2 (by omega)]; rw [emk2] at c_86; exact c_86), hpd, emk2]; exact prq_cong hPd (hfd _ (by omega) (by omega)) (hfd _ (by omega) (by omega)) (hfd _ (by omega) (by omega)) (hfd _ (by omega) (by omega)) (hfd _ (by omega) (by omega)) (by omega)) (fun k h1 h2 => by rw [hμ3.2.2.2 k h1]; exact hfd k h1 h2) (by omega)
        have hkk : (μ (26 + a) 4).toNat = k := by omega
        exact LP_68 _ 0 0 μ2 hR2 rfl (by omega) (fun x hx => by rw [eμ2, jms_cell _ _ _ _ (by omega)]; exact hPa x (by omega)) (by rw [eμ2, jms_slot _ _ _ _ (by omega), hca, hkk]) (by rw [eμ2, jms_same, jms_slot _ _ _ _ (by omega), jms_slot _ _ _ _ (by omega), hxa.1, hxa.2]; rfl) (fun k h1 h2 => by rw [eμ2, jms_cell _ _ _ _ h1]; exact hfa k h1 h2) (Nat.lt_succ_self _)
      · refine jx_aload_n C dX4_find_17 rfl ?_
        refine jx_get (v := .inr (ad G (62 + p))) C 0 ft_X4 (jcl_PA G hp _) rfl (by decide) (by omega) wf_X4_9 dX4_find_18 ?_
        refine jx_iload C dX4_find_21 rfl ?_
        refine jx_aload_n C dX4_find_23 rfl ?_
        refine jx_iload C dX4_find_24 rfl ?_
        refine jx_aload_n C dX4_find_26 rfl ?_
        refine jx_iload_n C dX4_find_27 rfl ?_
        refine jx_cSi (as := [.inr (ad G (26 + a)), .inl m, .inr (ad G (26 + b)), .inl near]) (st := [.inl m, .inr (ad G (62 + p))]) C Yy (c_X4_partnerOf l G μa a b (by omega) (by omega) m near (by omega) (by omega) hRa) yb_X4_partnerOf ws_X4_partnerOf wm_X4_24 rfl rfl (Nat.le_of_ble_eq_true rfl) ⟨⟨rfl, rfl, Nat.le_of_ble_eq_true rfl, Nat.le_of_ble_eq_true rfl⟩, Nat.zero_le _, Nat.zero_le _⟩ dX4_find_28 ?_
        rintro _ _ ⟨rfl, rfl⟩
        have r_28 := ptn_rng (μa (42 + a)) (μa (26 + a) 4).toNat (μa (42 + b)) (μa (26 + b) 4).toNat near m.toNat
        refine jx_top (b := ptn (μ (42 + a)) (μ (26 + a) 4).toNat (μ (42 + b)) (μ (26 + b) 4).toNat near k) (by rw [emk, hfa _ (by omega) (by omega), hfa _ (by omega) (by omega), hfa _ (by omega) (by omega), hfa _ (by omega) (by omega)]) ?_
        refine jx_iast C (jcl_pa G hp _) (jcl_pa G hp _) (by omega) (by omega) (by omega) (by decide) dX4_find_31 ?_
        obtain ⟨μ4, eμ4⟩ : ∃ y_ : Mem, y_ = jms μa (62 + p) m.toNat (ptn (μ (42 + a)) (μ (26 + a) 4).toNat (μ (42 + b)) (μ (26 + b) 4).toNat near k) := ⟨_, rfl⟩
        rw [← eμ4]
        have hR4 : rng μ4 := by rw [eμ4]; exact rs_pa hRa hp m.toNat (by omega) (by omega)
        refine jx_aload_n C dX4_find_32 rfl ?_
        refine jx_get (v := .inr (ad G (62 + p))) C 0 ft_X4 (jcl_PA G hp _) rfl (by decide) (by omega) wf_X4_9 dX4_find_33 ?_
        refine jx_iload C dX4_find_36 rfl ?_
        refine jx_iald C (jcl_pa G hp _) (by omega) (by omega) (by omega) (by decide) dX4_find_38 ?_
        have r_38 := rg_pa hR4 (p := p) hp m.toNat
        refine jx_top (b := ptn (μ (42 + a)) (μ (26 + a) 4).toNat (μ (42 + b)) (μ (26 + b) 4).toNat near k) (by rw [eμ4, emk]; exact jms_same _ _ _ _) ?_
        refine jx_bipush C dX4_find_39 (by decide +kernel) ?_
        refine jx_icmp_eq C dX4_find_41 (by omega) (by decide) (fun c_41 => ?_) (fun c_41 => ?_)
        · refine jx_iinc (L' := [some (.inr (ad G (46 + p))), some (.inr (ad G (26 + a))), some (.inr (ad G (26 + b))), some (.inl near), some (.inl (m + 1))]) C dX4_find_54 rfl (by decide) rfl ?_
          refine jx_goto C dX4_find_57 ?_
          exact ih_8 (k + 1) (m + 1) μ4 hR4 (by omega) (by omega) (fun x hx => by
        rw [eμ4, jms_arr, emk]
        by_cases hxk : x = k
        · rw [if_pos hxk, hxk]
        · rw [if_neg hxk]; exact hPa x (by omega)) (by rw [eμ4, jms_cell _ _ _ _ (by omega), mct, if_pos c_41]; exact hca) (by rw [eμ4, jms_cell _ _ _ _ (by omega)]; exact hxa) (fun k h1 h2 => by rw [eμ4, jms_cell _ _ _ _ h2]; exact hfa k h1 h2) (by omega)
        · refine jx_aload_n C dX4_find_44 rfl ?_
          refine jx_dup C dX4_find_45 ?_
          refine jx_get (v := .inl (μ4 (46 + p) 1)) C 1 ft_X4 (jcl_PA G hp _) rfl (by decide) (by omega) wf_X4_15 dX4_find_46 ?_
          have r_46 := rg_PA_1 hR4 (p := p) hp
          refine jx_top (b := mct (ptn (μ (42 + a)) (μ (26 + a) 4).toNat (μ (42 + b)) (μ (26 + b) 4).toNat near) k) (by rw [eμ4, jms_cell _ _ _ _ (by omega)]; exact hca) ?_
          refine jx_iconst C dX4_find_49 ?_
          refine jx_iadd C dX4_find_50 ?_
          refine jx_put C 1 ft_X4 (jcl_PA G hp _) ((jcl_PA G hp _).trans rfl) (by decide) (by omega) rfl (Or.inl rfl) (by simp) wf_X4_15 dX4_find_51 ?_
          obtain ⟨μ5, eμ5⟩ : ∃ y_ : Mem, y_ = jms μ4 (46 + p) 1 (mct (ptn (μ (42 + a)) (μ (26 + a) 4).toNat (μ (42 + b)) (μ (26 + b) 4).toNat near) k + 1) := ⟨_, rfl⟩
          rw [← eμ5]
          have hR5 : rng μ5 := by rw [eμ5]; exact rs_PA_1 hR4 hp (by omega) (by omega)
          refine jx_iinc (L' := [some (.inr (ad G (46 + p))), some (.inr (ad G (26 + a))), some (.inr (ad G (26 + b))), some (.inl near), some (.inl (m + 1))]) C dX4_find_54 rfl (by decide) rfl ?_
          refine jx_goto C dX4_find_57 ?_
          exact ih_8 (k + 1) (m + 1) μ5 hR5 (by omega) (by omega) (fun x hx => by
        rw [eμ5, jms_cell _ _ _ _ (by omega), eμ4, jms_arr, emk]
        by_cases hxk : x = k
        · rw [if_pos hxk, hxk]
        · rw [if_neg hxk]; exact hPa x (by omega)) (by rw [eμ5, jms_same, mct, if_neg c_41]) (by rw [eμ5, jms_slot _ _ _ _ (by omega), jms_slot _ _ _ _ (by omega), eμ4, jms_cell _ _ _ _ (by omega)]; exact hxa) (fun k h1 h2 => by rw [eμ5, jms_cell _ _ _ _ h1, eμ4, jms_cell _ _ _ _ h2]; exact hfa k h1 h2) (by omega)
  exact LP_8 _ 0 0 μ1 hR1 rfl (by omega) (fun x hx => absurd hx (Nat.not_lt_zero _)) (by rw [eμ1]; exact jms_same _ _ _ _) (by rw [eμ1]; exact ⟨jms_slot _ _ _ _ (by omega), jms_slot _ _ _ _ (by omega)⟩) (fun k h1 _ => by rw [eμ1]; exact jms_cell _ _ _ _ h1) (Nat.lt_succ_self _)
