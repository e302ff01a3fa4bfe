set_option maxHeartbeats 4000000 in
set_option maxRecDepth 100000 in
theorem c_X9_bits (l : Launch) (G : GT) (μ : Mem) (z : Int) (hz : InR z) : MI l yX9_bits cX9_bits 3 .int ({ frames := 0, cells := 0, slots := 0, locals := 0 } : Room) G [.inl z] μ (rdq μ (bts z 12)) := by
  refine MI.of (by decide +kernel) (Nat.le_of_ble_eq_true rfl) ?_
  intro F C Yy
  show jX F G 3 0 0 (jE F G (jQi G (rdq μ (bts z 12)))) 0 [some (.inl z), none, none] [] μ
  refine jx_iconst C dX9_bits_0 ?_
  refine jx_istore_n (L' := [some (.inl z), some (.inl 0), none]) C dX9_bits_1 (by decide) rfl ?_
  refine jx_iconst C dX9_bits_2 ?_
  refine jx_istore_n (L' := [some (.inl z), some (.inl 0), some (.inl 0)]) C dX9_bits_3 (by decide) rfl ?_
  have LP_4 : ∀ (n : Nat) (k : Nat) (k2 : Int) (n1 : Int), (k2 = (k : Int)) → (k ≤ 12) → (n1 = bts z k) → 13 - k < n → jX F G 3 0 0 (jE F G (jQi G (rdq μ (bts z 12)))) 4 [some (.inl z), some (.inl n1), some (.inl k2)] [] μ := by
    intro n
    induction n with
    | zero =>
      intro k k2 n1 hk2 hk hn hms
      exact absurd hms (Nat.not_lt_zero _)
    | succ n ih =>
      intro k k2 n1 hk2 hk hn hms
      have ih_4 := ih
      clear ih
      have hb := bts_rng z k
      refine jx_iload_n C dX9_bits_4 rfl ?_
      refine jx_bipush C dX9_bits_5 (by decide +kernel) ?_
      refine jx_icmp_ge C dX9_bits_7 (by omega) (by decide) (fun c_7 => ?_) (fun c_7 => ?_)
      · refine jx_iload_n C dX9_bits_24 rfl ?_
        exact jx_iret C dX9_bits_25 ⟨by rw [hn, show k = 12 by omega], rfl⟩
      · refine jx_iload_n C dX9_bits_10 rfl ?_
        refine jx_iload_n C dX9_bits_11 rfl ?_
        refine jx_iload_n C dX9_bits_12 rfl ?_
        refine jx_ishr C dX9_bits_13 ?_
        refine jx_iconst C dX9_bits_14 ?_
        refine jx_iand C dX9_bits_15 ?_
        refine jx_iadd C dX9_bits_16 ?_
        refine jx_istore_n (L' := [some (.inl z), some (.inl (n1 + zand (zshr z k2) 1)), some (.inl k2)]) C dX9_bits_17 (by decide) rfl ?_
        refine jx_iinc (L' := [some (.inl z), some (.inl (n1 + zand (zshr z k2) 1)), some (.inl (k2 + 1))]) C dX9_bits_18 rfl (by decide) rfl ?_
        refine jx_goto C dX9_bits_21 ?_
        exact ih_4 (k + 1) (k2 + 1) (n1 + zand (zshr z k2) 1) (by omega) (by omega) (by rw [bts, hn, hk2]) (by omega)
  exact LP_4 _ 0 0 0 rfl (Nat.zero_le _) rfl (Nat.lt_succ_self _)
set_option maxHeartbeats 4000000 in
set_option maxRecDepth 100000 in
theorem c_X9_distance (l : Launch) (G : GT) (μ : Mem) (p q : Nat) (hp : p < 4) (hq : q < 4) (pi m qi k : Int) (hpi : pi = (p : Int)) (hqi : qi = (q : Int)) (hm : 0 ≤ m ∧ m < 16) (hk : 0 ≤ k ∧ k < 16) (hR : rng μ) : MI l yX9_distance cX9_distance 5 .int ({ frames := 1, cells := 0, slots := 0, locals := 22 } : Room) G [.inr (ad G 78), .inl pi, .inl m, .inl qi, .inl k] μ (rdq μ (dst (msg μ p m.toNat) (msg μ q k.toNat))) := by
  refine MI.of (by decide +kernel) (Nat.le_of_ble_eq_true rfl) ?_
  intro F C Yy
  show jX F G 5 0 0 (jE F G (jQi G (rdq μ (dst (msg μ p m.toNat) (msg μ q k.toNat))))) 0 [some (.inr (ad G 78)), some (.inl pi), some (.inl m), some (.inl qi), some (.inl k)] [] μ
  refine jx_aload_n C dX9_distance_0 rfl ?_
  refine jx_get (v := .inr (ad G 85)) C 11 ft_X9 (jcl_MO G _) rfl (by decide) (by decide) wf_X9_35 dX9_distance_1 ?_
  refine jx_bipush C dX9_distance_4 (by decide +kernel) ?_
  refine jx_iload_n C dX9_distance_6 rfl ?_
  refine jx_imul C dX9_distance_7 ?_
  refine jx_iload_n C dX9_distance_8 rfl ?_
  refine jx_iadd C dX9_distance_9 ?_
  refine jx_iald C (jcl_85 G _) (by decide) (by omega) (by omega) (by decide) dX9_distance_10 ?_
  have r_10 := rg_85 hR ((16 * pi + m).toNat)
  have e_10 : μ 85 (16 * pi + m).toNat = msg μ p m.toNat := (by unfold msg; congr 1; omega)
  rw [e_10] at r_10
  refine jx_top (b := msg μ p m.toNat) e_10 ?_
  refine jx_aload_n C dX9_distance_11 rfl ?_
  refine jx_get (v := .inr (ad G 85)) C 11 ft_X9 (jcl_MO G _) rfl (by decide) (by decide) wf_X9_35 dX9_distance_12 ?_
  refine jx_bipush C dX9_distance_15 (by decide +kernel) ?_
  refine jx_iload_n C dX9_distance_17 rfl ?_
  refine jx_imul C dX9_distance_18 ?_
  refine jx_iload C dX9_distance_19 rfl ?_
  refine jx_iadd C dX9_distance_21 ?_
  refine jx_iald C (jcl_85 G _) (by decide) (by omega) (by omega) (by decide) dX9_distance_22 ?_
  have r_22 := rg_85 hR ((16 * qi + k).toNat)
  have e_22 : μ 85 (16 * qi + k).toNat = msg μ q k.toNat := (by unfold msg; congr 1; omega)
  rw [e_22] at r_22
  refine jx_top (b := msg μ q k.toNat) e_22 ?_
  refine jx_ixor C dX9_distance_23 ?_
  have r_23 : InR (zxor (msg μ p m.toNat) (msg μ q k.toNat)) := zI_in _
  refine jx_cSi (as := [.inl (zxor (msg μ p m.toNat) (msg μ q k.toNat))]) (st := []) C Yy (c_X9_bits l G μ (zxor (msg μ p m.toNat) (msg μ q k.toNat)) (by omega)) yb_X9_bits ws_X9_bits wm_X9_117 rfl rfl (Nat.le_of_ble_eq_true rfl) ⟨⟨rfl, rfl, Nat.le_of_ble_eq_true rfl, Nat.le_of_ble_eq_true rfl⟩, Nat.zero_le _, Nat.zero_le _⟩ dX9_distance_24 ?_
  rintro _ _ ⟨rfl, rfl⟩
  exact jx_iret C dX9_distance_27 ⟨by rfl, rfl⟩
set_option maxHeartbeats 4000000 in
set_option maxRecDepth 100000 in
theorem c_X9_nearest (l : Launch) (G : GT) (μ : Mem) (p q : Nat) (hp : p < 4) (hq : q < 4) (pi m qi : Int) (hpi : pi = (p : Int)) (hqi : qi = (q : Int)) (hm : 0 ≤ m ∧ m < 16) (hR : rng μ) : MI l yX9_nearest cX9_nearest 6 .int ({ frames := 2, cells := 0, slots := 0, locals := 46 } : Room) G [.inr (ad G 78), .inl pi, .inl m, .inl qi] μ (rdq μ (nrs (msg μ q) (msg μ p m.toNat) (μ 83 q).toNat)) := by
  refine MI.of (by decide +kernel) (Nat.le_of_ble_eq_true rfl) ?_
  intro F C Yy
  show jX F G 6 0 0 (jE F G (jQi G (rdq μ (nrs (msg μ q) (msg μ p m.toNat) (μ 83 q).toNat)))) 0 [some (.inr (ad G 78)), some (.inl pi), some (.inl m), some (.inl qi), none, none] [] μ
  have hqt : qi.toNat = q := by omega
  have r_n := rg_83 hR q
  refine jx_bipush C dX9_nearest_0 (by decide +kernel) ?_
  refine jx_istore (L' := [some (.inr (ad G 78)), some (.inl pi), some (.inl m), some (.inl qi), some (.inl (-6)), none]) C dX9_nearest_2 (by decide) rfl ?_
  refine jx_iconst C dX9_nearest_4 ?_
  refine jx_istore (L' := [some (.inr (ad G 78)), some (.inl pi), some (.inl m), some (.inl qi), some (.inl (-6)), some (.inl 0)]) C dX9_nearest_5 (by decide) rfl ?_
  have LP_7 : ∀ (n : Nat) (x : Nat) (x5 : Int) (best : Int), (x5 = (x : Int)) → ((x : Int) ≤ μ 83 q) → (best = (nbr (msg μ q) (msg μ p m.toNat) x).1) → 17 - x < n → jX F G 6 0 0 (jE F G (jQi G (rdq μ (nrs (msg μ q) (msg μ p m.toNat) (μ 83 q).toNat)))) 7 [some (.inr (ad G 78)), some (.inl pi), some (.inl m), some (.inl qi), some (.inl best), some (.inl x5)] [] μ := by
    intro n
    induction n with
    | zero =>
      intro x x5 best hx5 hx hb hms
      exact absurd hms (Nat.not_lt_zero _)
    | succ n ih =>
      intro x x5 best hx5 hx hb hms
      have ih_7 := ih
      clear ih
      have hd := nbr_d (msg μ q) (msg μ p m.toNat) x
      have hd2 := dst_rng (msg μ q x) (msg μ p m.toNat)
      refine jx_iload C dX9_nearest_7 rfl ?_
      refine jx_aload_n C dX9_nearest_9 rfl ?_
      refine jx_get (v := .inr (ad G 83)) C 9 ft_X9 (jcl_MO G _) rfl (by decide) (by decide) wf_X9_29 dX9_nearest_10 ?_
      refine jx_iload_n C dX9_nearest_13 rfl ?_
      refine jx_iald C (jcl_83 G _) (by decide) (by omega) (by omega) (by decide) dX9_nearest_14 ?_
      have r_14 := rg_83 hR qi.toNat
      have e_14 : μ 83 qi.toNat = μ 83 q := (by rw [hqt])
      rw [e_14] at r_14
      refine jx_top (b := μ 83 q) e_14 ?_
      refine jx_icmp_ge C dX9_nearest_15 (by omega) (by omega) (fun c_15 => ?_) (fun c_15 => ?_)
      · refine jx_iload C dX9_nearest_59 rfl ?_
        exact jx_iret C dX9_nearest_61 ⟨by rw [hb, nrs, show (μ 83 q).toNat = x by omega], rfl⟩
      · refine jx_iload C dX9_nearest_18 rfl ?_
        refine jx_if_lt C dX9_nearest_20 (by omega) (fun c_20 => ?_) (fun c_20 => ?_)
        · refine jx_iload C dX9_nearest_44 rfl ?_
          refine jx_goto C dX9_nearest_46 ?_
          refine jx_istore (L' := [some (.inr (ad G 78)), some (.inl pi), some (.inl m), some (.inl qi), some (.inl x5), some (.inl x5)]) C dX9_nearest_51 (by decide) rfl ?_
          refine jx_iinc (L' := [some (.inr (ad G 78)), some (.inl pi), some (.inl m), some (.inl qi), some (.inl x5), some (.inl (x5 + 1))]) C dX9_nearest_53 rfl (by decide) rfl ?_
          refine jx_goto C dX9_nearest_56 ?_
          exact ih_7 (x + 1) (x5 + 1) x5 (by omega) (by omega) (by rw [nbr, if_pos (by omega)]; exact hx5) (by omega)
        · refine jx_aload_n C dX9_nearest_23 rfl ?_
          refine jx_iload_n C dX9_nearest_24 rfl ?_
          refine jx_iload_n C dX9_nearest_25 rfl ?_
          refine jx_iload_n C dX9_nearest_26 rfl ?_
          refine jx_iload C dX9_nearest_27 rfl ?_
          refine jx_cVi (as := [.inl pi, .inl m, .inl qi, .inl x5]) (st := []) C Yy (c_X9_distance l G μ p q (by omega) (by omega) pi m qi x5 (by omega) (by omega) (by omega) (by omega) hR) yb_X9_distance yv_X9_distance wm_X9_121 (jcl_MO G _) rfl (by decide) rfl rfl (Nat.le_of_ble_eq_true rfl) ⟨⟨rfl, rfl, Nat.le_of_ble_eq_true rfl, Nat.le_of_ble_eq_true rfl⟩, Nat.zero_le _, Nat.zero_le _⟩ dX9_nearest_29 ?_
          rintro _ _ ⟨rfl, rfl⟩
          have r_29 := dst_rng (msg μ p m.toNat) (msg μ q x5.toNat)
          refine jx_top (b := dst (msg μ q x) (msg μ p m.toNat)) (by rw [show x5.toNat = x by omega]; exact dst_comm _ _) ?_
          refine jx_aload_n C dX9_nearest_32 rfl ?_
          refine jx_iload_n C dX9_nearest_33 rfl ?_
          refine jx_iload_n C dX9_nearest_34 rfl ?_
          refine jx_iload_n C dX9_nearest_35 rfl ?_
          refine jx_iload C dX9_nearest_36 rfl ?_
          refine jx_cVi (as := [.inl pi, .inl m, .inl qi, .inl best]) (st := [.inl (dst (msg μ q x) (msg μ p m.toNat))]) C Yy (c_X9_distance l G μ p q (by omega) (by omega) pi m qi best (by omega) (by omega) (by omega) (by omega) hR) yb_X9_distance yv_X9_distance wm_X9_121 (jcl_MO G _) rfl (by decide) rfl rfl (Nat.le_of_ble_eq_true rfl) ⟨⟨rfl, rfl, Nat.le_of_ble_eq_true rfl, Nat.le_of_ble_eq_true rfl⟩, Nat.zero_le _, Nat.zero_le _⟩ dX9_nearest_38 ?_
          rintro _ _ ⟨rfl, rfl⟩
          have r_38 := dst_rng (msg μ p m.toNat) (msg μ q best.toNat)
          rw [dst_comm, hb] at r_38
          refine jx_top (b := dst (msg μ q (nbr (msg μ q) (msg μ p m.toNat) x).1.toNat) (msg μ p m.toNat)) (by rw [hb]; exact dst_comm _ _) ?_
          refine jx_icmp_ge C dX9_nearest_41 (by omega) (by omega) (fun c_41 => ?_) (fun c_41 => ?_)
          · refine jx_iload C dX9_nearest_49 rfl ?_
            refine jx_istore (L' := [some (.inr (ad G 78)), some (.inl pi), some (.inl m), some (.inl qi), some (.inl best), some (.inl x5)]) C dX9_nearest_51 (by decide) rfl ?_
            refine jx_iinc (L' := [some (.inr (ad G 78)), some (.inl pi), some (.inl m), some (.inl qi), some (.inl best), some (.inl (x5 + 1))]) C dX9_nearest_53 rfl (by decide) rfl ?_
            refine jx_goto C dX9_nearest_56 ?_
            exact ih_7 (x + 1) (x5 + 1) best (by omega) (by omega) (by rw [nbr, if_neg (by omega)]; exact hb) (by omega)
          · refine jx_iload C dX9_nearest_44 rfl ?_
            refine jx_goto C dX9_nearest_46 ?_
            refine jx_istore (L' := [some (.inr (ad G 78)), some (.inl pi), some (.inl m), some (.inl qi), some (.inl x5), some (.inl x5)]) C dX9_nearest_51 (by decide) rfl ?_
            refine jx_iinc (L' := [some (.inr (ad G 78)), some (.inl pi), some (.inl m), some (.inl qi), some (.inl x5), some (.inl (x5 + 1))]) C dX9_nearest_53 rfl (by decide) rfl ?_
            refine jx_goto C dX9_nearest_56 ?_
            exact ih_7 (x + 1) (x5 + 1) x5 (by omega) (by omega) (by rw [nbr, if_pos (by omega)]; exact hx5) (by omega)
  exact LP_7 _ 0 0 (-6) rfl (by omega) rfl (Nat.lt_succ_self _)
set_option maxHeartbeats 4000000 in
set_option maxRecDepth 100000 in
theorem c_X9_markX (l : Launch) (G : GT) (μ : Mem) (p : Nat) (hp : p < 4) (pi : Int) (hpi : pi = (p : Int)) (m : Int) (hm : 0 ≤ m ∧ m < 16) (hR : rng μ) : MI l yX9_markX cX9_markX 3 .int ({ frames := 0, cells := 0, slots := 0, locals := 0 } : Room) G [.inr (ad G 78), .inl pi, .inl m] μ (rdq μ (mcx μ p m.toNat)) := by
  refine MI.of (by decide +kernel) (Nat.le_of_ble_eq_true rfl) ?_
  intro F C Yy
  show jX F G 3 0 0 (jE F G (jQi G (rdq μ (mcx μ p m.toNat)))) 0 [some (.inr (ad G 78)), some (.inl pi), some (.inl m)] [] μ
  refine jx_aload_n C dX9_markX_0 rfl ?_
  refine jx_get (v := .inr (ad G 84)) C 10 ft_X9 (jcl_MO G _) rfl (by decide) (by decide) wf_X9_32 dX9_markX_1 ?_
  refine jx_bipush C dX9_markX_4 (by decide +kernel) ?_
  refine jx_iload_n C dX9_markX_6 rfl ?_
  refine jx_imul C dX9_markX_7 ?_
  refine jx_iload_n C dX9_markX_8 rfl ?_
  refine jx_iadd C dX9_markX_9 ?_
  refine jx_iald C (jcl_84 G _) (by decide) (by omega) (by omega) (by decide) dX9_markX_10 ?_
  have r_10 := rg_84 hR ((16 * pi + m).toNat)
  have e_10 : μ 84 (16 * pi + m).toNat = μ 84 (16 * p + m.toNat) := (by congr 1; omega)
  rw [e_10] at r_10
  refine jx_top (b := μ 84 (16 * p + m.toNat)) e_10 ?_
  refine jx_sipush C dX9_markX_11 (by decide +kernel) ?_
  refine jx_irem (z := (μ 84 (16 * p + m.toNat)) % 400) C dX9_markX_14 (by omega) (by decide) (by decide) (jtm (by omega)) ?_
  refine jx_bipush C dX9_markX_15 (by decide +kernel) ?_
  refine jx_irem (z := ((μ 84 (16 * p + m.toNat)) % 400) % 20) C dX9_markX_17 (by omega) (by decide) (by decide) (jtm (by omega)) ?_
  exact jx_iret C dX9_markX_18 ⟨by rfl, rfl⟩
set_option maxHeartbeats 4000000 in
set_option maxRecDepth 100000 in
theorem c_X9_markY (l : Launch) (G : GT) (μ : Mem) (p : Nat) (hp : p < 4) (pi : Int) (hpi : pi = (p : Int)) (m : Int) (hm : 0 ≤ m ∧ m < 16) (hR : rng μ) : MI l yX9_markY cX9_markY 3 .int ({ frames := 0, cells := 0, slots := 0, locals := 0 } : Room) G [.inr (ad G 78), .inl pi, .inl m] μ (rdq μ (mcy μ p m.toNat)) := by
  refine MI.of (by decide +kernel) (Nat.le_of_ble_eq_true rfl) ?_
  intro F C Yy
  show jX F G 3 0 0 (jE F G (jQi G (rdq μ (mcy μ p m.toNat)))) 0 [some (.inr (ad G 78)), some (.inl pi), some (.inl m)] [] μ
  refine jx_aload_n C dX9_markY_0 rfl ?_
  refine jx_get (v := .inr (ad G 84)) C 10 ft_X9 (jcl_MO G _) rfl (by decide) (by decide) wf_X9_32 dX9_markY_1 ?_
  refine jx_bipush C dX9_markY_4 (by decide +kernel) ?_
  refine jx_iload_n C dX9_markY_6 rfl ?_
  refine jx_imul C dX9_markY_7 ?_
  refine jx_iload_n C dX9_markY_8 rfl ?_
  refine jx_iadd C dX9_markY_9 ?_
  refine jx_iald C (jcl_84 G _) (by decide) (by omega) (by omega) (by decide) dX9_markY_10 ?_
  have r_10 := rg_84 hR ((16 * pi + m).toNat)
  have e_10 : μ 84 (16 * pi + m).toNat = μ 84 (16 * p + m.toNat) := (by congr 1; omega)
  rw [e_10] at r_10
  refine jx_top (b := μ 84 (16 * p + m.toNat)) e_10 ?_
  refine jx_sipush C dX9_markY_11 (by decide +kernel) ?_
  refine jx_irem (z := (μ 84 (16 * p + m.toNat)) % 400) C dX9_markY_14 (by omega) (by decide) (by decide) (jtm (by omega)) ?_
  refine jx_bipush C dX9_markY_15 (by decide +kernel) ?_
  refine jx_idiv (z := ((μ 84 (16 * p + m.toNat)) % 400) / 20) C dX9_markY_17 (by omega) (by decide) (by decide) (jtd (by omega)) ?_
  exact jx_iret C dX9_markY_18 ⟨by rfl, rfl⟩
set_option maxHeartbeats 4000000 in
set_option maxRecDepth 100000 in
theorem c_X9_votesFor (l : Launch) (G : GT) (μ : Mem) (a b : Nat) (ha : a < 4) (hb : b < 4) (ai bi : Int) (hai : ai = (a : Int)) (hbi : bi = (b : Int)) (vx vy : Int) (hX : -20 ≤ vx ∧ vx ≤ 20) (hY : -20 ≤ vy ∧ vy ≤ 20) (hP : ∀ m : Nat, (m : Int) < μ 83 a → mpt μ a b m = -6 ∨ (0 ≤ mpt μ a b m ∧ mpt μ a b m < 16)) (hR : rng μ) : MI l yX9_votesFor cX9_votesFor 9 .int ({ frames := 1, cells := 0, slots := 0, locals := 22 } : Room) G [.inr (ad G 78), .inl ai, .inl bi, .inl vx, .inl vy] μ (rdq μ (vts (mpt μ a b) (msx μ a b) (msy μ a b) vx vy (μ 83 a).toNat)) := by
  refine MI.of (by decide +kernel) (Nat.le_of_ble_eq_true rfl) ?_
  intro F C Yy
  show jX F G 9 0 0 (jE F G (jQi G (rdq μ (vts (mpt μ a b) (msx μ a b) (msy μ a b) vx vy (μ 83 a).toNat)))) 0 [some (.inr (ad G 78)), some (.inl ai), some (.inl bi), some (.inl vx), some (.inl vy), none, none, none, none] [] μ
  have hat : ai.toNat = a := by omega
  have r_n := rg_83 hR a
  refine jx_iconst C dX9_votesFor_0 ?_
  refine jx_iload_n C dX9_votesFor_1 rfl ?_
  refine jx_imul C dX9_votesFor_2 ?_
  refine jx_iload_n C dX9_votesFor_3 rfl ?_
  refine jx_iadd C dX9_votesFor_4 ?_
  refine jx_istore (L' := [some (.inr (ad G 78)), some (.inl ai), some (.inl bi), some (.inl vx), some (.inl vy), some (.inl (4 * ai + bi)), none, none, none]) C dX9_votesFor_5 (by decide) rfl ?_
  refine jx_iconst C dX9_votesFor_7 ?_
  refine jx_istore (L' := [some (.inr (ad G 78)), some (.inl ai), some (.inl bi), some (.inl vx), some (.inl vy), some (.inl (4 * ai + bi)), some (.inl 0), none, none]) C dX9_votesFor_8 (by decide) rfl ?_
  refine jx_iconst C dX9_votesFor_10 ?_
  refine jx_istore (L' := [some (.inr (ad G 78)), some (.inl ai), some (.inl bi), some (.inl vx), some (.inl vy), some (.inl (4 * ai + bi)), some (.inl 0), some (.inl 0), none]) C dX9_votesFor_11 (by decide) rfl ?_
  have LP_13 : ∀ (n : Nat) (x : Nat) (x7 : Int) (n6 : Int), (x7 = (x : Int)) → ((x : Int) ≤ μ 83 a) → (n6 = vts (mpt μ a b) (msx μ a b) (msy μ a b) vx vy x) → 17 - x < n → jX F G 9 0 0 (jE F G (jQi G (rdq μ (vts (mpt μ a b) (msx μ a b) (msy μ a b) vx vy (μ 83 a).toNat)))) 13 [some (.inr (ad G 78)), some (.inl ai), some (.inl bi), some (.inl vx), some (.inl vy), some (.inl (4 * ai + bi)), some (.inl n6), some (.inl x7), none] [] μ := by
    intro n
    induction n with
    | zero =>
      intro x x7 n6 hx7 hx hn hms
      exact absurd hms (Nat.not_lt_zero _)
    | succ n ih =>
      intro x x7 n6 hx7 hx hn hms
      have ih_13 := ih
      clear ih
      have hv := vts_rng (mpt μ a b) (msx μ a b) (msy μ a b) vx vy x
      have ex : x7.toNat = x := by omega
      refine jx_iload C dX9_votesFor_13 rfl ?_
      refine jx_aload_n C dX9_votesFor_15 rfl ?_
      refine jx_get (v := .inr (ad G 83)) C 9 ft_X9 (jcl_MO G _) rfl (by decide) (by decide) wf_X9_29 dX9_votesFor_16 ?_
      refine jx_iload_n C dX9_votesFor_19 rfl ?_
      refine jx_iald C (jcl_83 G _) (by decide) (by omega) (by omega) (by decide) dX9_votesFor_20 ?_
      have r_20 := rg_83 hR ai.toNat
      have e_20 : μ 83 ai.toNat = μ 83 a := (by rw [hat])
      rw [e_20] at r_20
      refine jx_top (b := μ 83 a) e_20 ?_
      refine jx_icmp_ge C dX9_votesFor_21 (by omega) (by omega) (fun c_21 => ?_) (fun c_21 => ?_)
      · refine jx_iload C dX9_votesFor_99 rfl ?_
        exact jx_iret C dX9_votesFor_101 ⟨by rw [hn, show (μ 83 a).toNat = x by omega], rfl⟩
      · have hPx := hP x (by omega)
        refine jx_aload_n C dX9_votesFor_24 rfl ?_
        refine jx_get (v := .inr (ad G 86)) C 12 ft_X9 (jcl_MO G _) rfl (by decide) (by decide) wf_X9_38 dX9_votesFor_25 ?_
        refine jx_bipush C dX9_votesFor_28 (by decide +kernel) ?_
        refine jx_iload C dX9_votesFor_30 rfl ?_
        refine jx_imul C dX9_votesFor_32 ?_
        refine jx_iload C dX9_votesFor_33 rfl ?_
        refine jx_iadd C dX9_votesFor_35 ?_
        refine jx_iald C (jcl_86 G _) (by decide) (by omega) (by omega) (by decide) dX9_votesFor_36 ?_
        have r_36 := rg_86 hR ((16 * (4 * ai + bi) + x7).toNat)
        have e_36 : μ 86 (16 * (4 * ai + bi) + x7).toNat = mpt μ a b x := (by unfold mpt; congr 1; omega)
        rw [e_36] at r_36
        refine jx_top (b := mpt μ a b x) e_36 ?_
        refine jx_istore (L' := [some (.inr (ad G 78)), some (.inl ai), some (.inl bi), some (.inl vx), some (.inl vy), some (.inl (4 * ai + bi)), some (.inl n6), some (.inl x7), some (.inl (mpt μ a b x))]) C dX9_votesFor_37 (by decide) rfl ?_
        refine jx_iload C dX9_votesFor_39 rfl ?_
        refine jx_iload C dX9_votesFor_41 rfl ?_
        refine jx_if_lt C dX9_votesFor_43 (by omega) (fun c_43 => ?_) (fun c_43 => ?_)
        · refine jx_iconst C dX9_votesFor_89 ?_
          refine jx_iadd C dX9_votesFor_90 ?_
          refine jx_istore (L' := [some (.inr (ad G 78)), some (.inl ai), some (.inl bi), some (.inl vx), some (.inl vy), some (.inl (4 * ai + bi)), some (.inl (n6 + 0)), some (.inl x7), some (.inl (mpt μ a b x))]) C dX9_votesFor_91 (by decide) rfl ?_
          refine jx_iinc (L' := [some (.inr (ad G 78)), some (.inl ai), some (.inl bi), some (.inl vx), some (.inl vy), some (.inl (4 * ai + bi)), some (.inl (n6 + 0)), some (.inl (x7 + 1)), some (.inl (mpt μ a b x))]) C dX9_votesFor_93 rfl (by decide) rfl ?_
          refine jx_goto C dX9_votesFor_96 ?_
          refine jx_fewer (L' := [some (.inr (ad G 78)), some (.inl ai), some (.inl bi), some (.inl vx), some (.inl vy), some (.inl (4 * ai + bi)), some (.inl (n6 + 0)), some (.inl (x7 + 1)), none]) (fun i v h => ?_) ?_
          · exact jfew_ok (by simp [jfew]) h
          exact ih_13 (x + 1) (x7 + 1) (n6 + 0) (by omega) (by omega) (by rw [vts, if_neg (by omega)]; omega) (by omega)
        · refine jx_aload_n C dX9_votesFor_46 rfl ?_
          refine jx_iload_n C dX9_votesFor_47 rfl ?_
          refine jx_iload C dX9_votesFor_48 rfl ?_
          refine jx_cVi (as := [.inl ai, .inl x7]) (st := [.inl n6]) C Yy (c_X9_markX l G μ a (by omega) ai (by omega) x7 (by omega) hR) yb_X9_markX yv_X9_markX wm_X9_128 (jcl_MO G _) rfl (by decide) rfl rfl (Nat.le_of_ble_eq_true rfl) ⟨⟨rfl, rfl, Nat.le_of_ble_eq_true rfl, Nat.le_of_ble_eq_true rfl⟩, Nat.zero_le _, Nat.zero_le _⟩ dX9_votesFor_50 ?_
          rintro _ _ ⟨rfl, rfl⟩
          have r_50 := mcx_rng μ a x7.toNat
          have e_50 : mcx μ a x7.toNat = mcx μ a x := (by rw [ex])
          rw [e_50] at r_50
          refine jx_top (b := mcx μ a x) e_50 ?_
          refine jx_aload_n C dX9_votesFor_53 rfl ?_
          refine jx_iload_n C dX9_votesFor_54 rfl ?_
          refine jx_iload C dX9_votesFor_55 rfl ?_
          refine jx_cVi (as := [.inl bi, .inl (mpt μ a b x)]) (st := [.inl (mcx μ a x), .inl n6]) C Yy (c_X9_markX l G μ b (by omega) bi (by omega) (mpt μ a b x) (by omega) hR) yb_X9_markX yv_X9_markX wm_X9_128 (jcl_MO G _) rfl (by decide) rfl rfl (Nat.le_of_ble_eq_true rfl) ⟨⟨rfl, rfl, Nat.le_of_ble_eq_true rfl, Nat.le_of_ble_eq_true rfl⟩, Nat.zero_le _, Nat.zero_le _⟩ dX9_votesFor_57 ?_
          rintro _ _ ⟨rfl, rfl⟩
          have r_57 := mcx_rng μ b (mpt μ a b x).toNat
          have r_60 := msx_rng μ a b x
          refine jx_isub C dX9_votesFor_60 ?_
          refine jx_top (b := msx μ a b x) rfl ?_
          refine jx_iload_n C dX9_votesFor_61 rfl ?_
          refine jx_icmp_ne C dX9_votesFor_62 (by omega) (by omega) (fun c_62 => ?_) (fun c_62 => ?_)
          · refine jx_iconst C dX9_votesFor_89 ?_
            refine jx_iadd C dX9_votesFor_90 ?_
            refine jx_istore (L' := [some (.inr (ad G 78)), some (.inl ai), some (.inl bi), some (.inl vx), some (.inl vy), some (.inl (4 * ai + bi)), some (.inl (n6 + 0)), some (.inl x7), some (.inl (mpt μ a b x))]) C dX9_votesFor_91 (by decide) rfl ?_
            refine jx_iinc (L' := [some (.inr (ad G 78)), some (.inl ai), some (.inl bi), some (.inl vx), some (.inl vy), some (.inl (4 * ai + bi)), some (.inl (n6 + 0)), some (.inl (x7 + 1)), some (.inl (mpt μ a b x))]) C dX9_votesFor_93 rfl (by decide) rfl ?_
            refine jx_goto C dX9_votesFor_96 ?_
            refine jx_fewer (L' := [some (.inr (ad G 78)), some (.inl ai), some (.inl bi), some (.inl vx), some (.inl vy), some (.inl (4 * ai + bi)), some (.inl (n6 + 0)), some (.inl (x7 + 1)), none]) (fun i v h => ?_) ?_
            · exact jfew_ok (by simp [jfew]) h
            exact ih_13 (x + 1) (x7 + 1) (n6 + 0) (by omega) (by omega) (by rw [vts, if_neg (by omega)]; omega) (by omega)
          · refine jx_aload_n C dX9_votesFor_65 rfl ?_
            refine jx_iload_n C dX9_votesFor_66 rfl ?_
            refine jx_iload C dX9_votesFor_67 rfl ?_
            refine jx_cVi (as := [.inl ai, .inl x7]) (st := [.inl n6]) C Yy (c_X9_markY l G μ a (by omega) ai (by omega) x7 (by omega) hR) yb_X9_markY yv_X9_markY wm_X9_131 (jcl_MO G _) rfl (by decide) rfl rfl (Nat.le_of_ble_eq_true rfl) ⟨⟨rfl, rfl, Nat.le_of_ble_eq_true rfl, Nat.le_of_ble_eq_true rfl⟩, Nat.zero_le _, Nat.zero_le _⟩ dX9_votesFor_69 ?_
            rintro _ _ ⟨rfl, rfl⟩
            have r_69 := mcy_rng μ a x7.toNat
            have e_69 : mcy μ a x7.toNat = mcy μ a x := (by rw [ex])
            rw [e_69] at r_69
            refine jx_top (b := mcy μ a x) e_69 ?_
            refine jx_aload_n C dX9_votesFor_72 rfl ?_
            refine jx_iload_n C dX9_votesFor_73 rfl ?_
            refine jx_iload C dX9_votesFor_74 rfl ?_
            refine jx_cVi (as := [.inl bi, .inl (mpt μ a b x)]) (st := [.inl (mcy μ a x), .inl n6]) C Yy (c_X9_markY l G μ b (by omega) bi (by omega) (mpt μ a b x) (by omega) hR) yb_X9_markY yv_X9_markY wm_X9_131 (jcl_MO G _) rfl (by decide) rfl rfl (Nat.le_of_ble_eq_true rfl) ⟨⟨rfl, rfl, Nat.le_of_ble_eq_true rfl, Nat.le_of_ble_eq_true rfl⟩, Nat.zero_le _, Nat.zero_le _⟩ dX9_votesFor_76 ?_
            rintro _ _ ⟨rfl, rfl⟩
            have r_76 := mcy_rng μ b (mpt μ a b x).toNat
            have r_79 := msy_rng μ a b x
            refine jx_isub C dX9_votesFor_79 ?_
            refine jx_top (b := msy μ a b x) rfl ?_
            refine jx_iload C dX9_votesFor_80 rfl ?_
            refine jx_icmp_ne C dX9_votesFor_82 (by omega) (by omega) (fun c_82 => ?_) (fun c_82 => ?_)
            · refine jx_iconst C dX9_votesFor_89 ?_
              refine jx_iadd C dX9_votesFor_90 ?_
              refine jx_istore (L' := [some (.inr (ad G 78)), some (.inl ai), some (.inl bi), some (.inl vx), some (.inl vy), some (.inl (4 * ai + bi)), some (.inl (n6 + 0)), some (.inl x7), some (.inl (mpt μ a b x))]) C dX9_votesFor_91 (by decide) rfl ?_
              refine jx_iinc (L' := [some (.inr (ad G 78)), some (.inl ai), some (.inl bi), some (.inl vx), some (.inl vy), some (.inl (4 * ai + bi)), some (.inl (n6 + 0)), some (.inl (x7 + 1)), some (.inl (mpt μ a b x))]) C dX9_votesFor_93 rfl (by decide) rfl ?_
              refine jx_goto C dX9_votesFor_96 ?_
              refine jx_fewer (L' := [some (.inr (ad G 78)), some (.inl ai), some (.inl bi), some (.inl vx), some (.inl vy), some (.inl (4 * ai + bi)), some (.inl (n6 + 0)), some (.inl (x7 + 1)), none]) (fun i v h => ?_) ?_
              · exact jfew_ok (by simp [jfew]) h
              exact ih_13 (x + 1) (x7 + 1) (n6 + 0) (by omega) (by omega) (by rw [vts, if_neg (by omega)]; omega) (by omega)
            · refine jx_iconst C dX9_votesFor_85 ?_
              refine jx_goto C dX9_votesFor_86 ?_
              refine jx_iadd C dX9_votesFor_90 ?_
              refine jx_istore (L' := [some (.inr (ad G 78)), some (.inl ai), some (.inl bi), some (.inl vx), some (.inl vy), some (.inl (4 * ai + bi)), some (.inl (n6 + 1)), some (.inl x7), some (.inl (mpt μ a b x))]) C dX9_votesFor_91 (by decide) rfl ?_
              refine jx_iinc (L' := [some (.inr (ad G 78)), some (.inl ai), some (.inl bi), some (.inl vx), some (.inl vy), some (.inl (4 * ai + bi)), some (.inl (n6 + 1)), some (.inl (x7 + 1)), some (.inl (mpt μ a b x))]) C dX9_votesFor_93 rfl (by decide) rfl ?_
              refine jx_goto C dX9_votesFor_96 ?_
              refine jx_fewer (L' := [some (.inr (ad G 78)), some (.inl ai), some (.inl bi), some (.inl vx), some (.inl vy), some (.inl (4 * ai + bi)), some (.inl (n6 + 1)), some (.inl (x7 + 1)), none]) (fun i v h => ?_) ?_
              · exact jfew_ok (by simp [jfew]) h
              exact ih_13 (x + 1) (x7 + 1) (n6 + 1) (by omega) (by omega) (by rw [vts, if_pos ⟨by omega, by first | omega, by omega⟩]; omega) (by omega)
  exact LP_13 _ 0 0 0 rfl (by omega) rfl (Nat.lt_succ_self _)
set_option maxHeartbeats 4000000 in
set_option maxRecDepth 100000 in
theorem c_X9_layPair (l : Launch) (G : GT) (μ : Mem) (a b : Nat) (ha : a < 4) (hb : b < 4) (ai bi : Int) (hai : ai = (a : Int)) (hbi : bi = (b : Int)) (P SX SY : Nat → Int) (hPe : P = ptn (msg μ a) (μ 83 a).toNat (msg μ b) (μ 83 b).toNat (μ 78 6)) (hSX : SX = fun m => mcx μ a m - mcx μ b (P m).toNat) (hSY : SY = fun m => mcy μ a m - mcy μ b (P m).toNat) (hR : rng μ) : MV l yX9_layPair cX9_layPair 9 ({ frames := 3, cells := 0, slots := 0, locals := 71 } : Room) G [.inr (ad G 78), .inl ai, .inl bi] μ (fun μ' => rng μ' ∧ (∀ x : Nat, (x : Int) < μ 83 a → μ' 86 (16 * (4 * a + b) + x) = P x) ∧ μ' 90 (4 * a + b) = mct P (μ 83 a).toNat ∧ (μ' 89 (4 * a + b), μ' 87 (4 * a + b), μ' 88 (4 * a + b)) = prf P SX SY (μ 83 a).toNat (0, μ 87 (4 * a + b), μ 88 (4 * a + b)) (μ 83 a).toNat ∧ (∀ c, c ≠ 86 → c ≠ 87 → c ≠ 88 → c ≠ 89 → c ≠ 90 → μ' c = μ c) ∧ (∀ x, ¬ x / 16 = 4 * a + b → μ' 86 x = μ 86 x) ∧ (∀ x, x ≠ 4 * a + b → μ' 87 x = μ 87 x ∧ μ' 88 x = μ 88 x ∧ μ' 89 x = μ 89 x ∧ μ' 90 x = μ 90 x)) := by
  refine MV.of (by decide +kernel) (Nat.le_of_ble_eq_true rfl) ?_
  intro F C Yy
  show jX F G 9 0 0 (jE F G (jQv G (fun μ' => rng μ' ∧ (∀ x : Nat, (x : Int) < μ 83 a → μ' 86 (16 * (4 * a + b) + x) = P x) ∧ μ' 90 (4 * a + b) = mct P (μ 83 a).toNat ∧ (μ' 89 (4 * a + b), μ' 87 (4 * a + b), μ' 88 (4 * a + b)) = prf P SX SY (μ 83 a).toNat (0, μ 87 (4 * a + b), μ 88 (4 * a + b)) (μ 83 a).toNat ∧ (∀ c, c ≠ 86 → c ≠ 87 → c ≠ 88 → c ≠ 89 → c ≠ 90 → μ' c = μ c) ∧ (∀ x, ¬ x / 16 = 4 * a + b → μ' 86 x = μ 86 x) ∧ (∀ x, x ≠ 4 * a + b → μ' 87 x = μ 87 x ∧ μ' 88 x = μ 88 x ∧ μ' 89 x = μ 89 x ∧ μ' 90 x = μ 90 x)))) 0 [some (.inr (ad G 78)), some (.inl ai), some (.inl bi), none, none, none, none, none, none] [] μ
  have hat : ai.toNat = a := by omega
  have hbt : bi.toNat = b := by omega
  have hab : (4 * ai + bi).toNat = 4 * a + b := by omega
  have r_a := rg_83 hR a
  have r_b := rg_83 hR b
  refine jx_iconst C dX9_layPair_0 ?_
  refine jx_iload_n C dX9_layPair_1 rfl ?_
  refine jx_imul C dX9_layPair_2 ?_
  refine jx_iload_n C dX9_layPair_3 rfl ?_
  refine jx_iadd C dX9_layPair_4 ?_
  refine jx_istore_n (L' := [some (.inr (ad G 78)), some (.inl ai), some (.inl bi), some (.inl (4 * ai + bi)), none, none, none, none, none]) C dX9_layPair_5 (by decide) rfl ?_
  refine jx_aload_n C dX9_layPair_6 rfl ?_
  refine jx_get (v := .inr (ad G 90)) C 16 ft_X9 (jcl_MO G _) rfl (by decide) (by decide) wf_X9_50 dX9_layPair_7 ?_
  refine jx_iload_n C dX9_layPair_10 rfl ?_
  refine jx_iconst C dX9_layPair_11 ?_
  refine jx_iast C (jcl_90 G _) (jcl_90 G _) (by decide) (by omega) (by omega) (by decide) dX9_layPair_12 ?_
  obtain ⟨μ1, eμ1⟩ : ∃ y_ : Mem, y_ = jms μ 90 ((4 * ai + bi).toNat) 0 := ⟨_, rfl⟩
  rw [← eμ1]
  have hR1 : rng μ1 := by rw [eμ1]; exact rs_90 hR ((4 * ai + bi).toNat) (by omega) (by omega)
  refine jx_aload_n C dX9_layPair_13 rfl ?_
  refine jx_get (v := .inr (ad G 89)) C 15 ft_X9 (jcl_MO G _) rfl (by decide) (by decide) wf_X9_47 dX9_layPair_14 ?_
  refine jx_iload_n C dX9_layPair_17 rfl ?_
  refine jx_iconst C dX9_layPair_18 ?_
  refine jx_iast C (jcl_89 G _) (jcl_89 G _) (by decide) (by omega) (by omega) (by decide) dX9_layPair_19 ?_
  obtain ⟨μ2, eμ2⟩ : ∃ y_ : Mem, y_ = jms μ1 89 ((4 * ai + bi).toNat) 0 := ⟨_, rfl⟩
  rw [← eμ2]
  have hR2 : rng μ2 := by rw [eμ2]; exact rs_89 hR1 ((4 * ai + bi).toNat) (by omega) (by omega)
  refine jx_iconst C dX9_layPair_20 ?_
  refine jx_istore (L' := [some (.inr (ad G 78)), some (.inl ai), some (.inl bi), some (.inl (4 * ai + bi)), some (.inl 0), none, none, none, none]) C dX9_layPair_21 (by decide) rfl ?_
  have LP_23 : ∀ (n : Nat) (k : Nat) (k4 : Int) (μa : Mem), (rng μa) → (k4 = (k : Int)) → ((k : Int) ≤ μ 83 a) → (∀ x, x < k → μa 86 (16 * (4 * a + b) + x) = P x) → (μa 90 (4 * a + b) = mct P k) → (μa 89 (4 * a + b) = 0) → (∀ c, c ≠ 86 → c ≠ 89 → c ≠ 90 → μa c = μ c) → (∀ x, ¬ x / 16 = 4 * a + b → μa 86 x = μ 86 x) → (∀ x, x ≠ 4 * a + b → μa 89 x = μ 89 x ∧ μa 90 x = μ 90 x) → 17 - k < n → jX F G 9 0 0 (jE F G (jQv G (fun μ' => rng μ' ∧ (∀ x : Nat, (x : Int) < μ 83 a → μ' 86 (16 * (4 * a + b) + x) = P x) ∧ μ' 90 (4 * a + b) = mct P (μ 83 a).toNat ∧ (μ' 89 (4 * a + b), μ' 87 (4 * a + b), μ' 88 (4 * a + b)) = prf P SX SY (μ 83 a).toNat (0, μ 87 (4 * a + b), μ 88 (4 * a + b)) (μ 83 a).toNat ∧ (∀ c, c ≠ 86 → c ≠ 87 → c ≠ 88 → c ≠ 89 → c ≠ 90 → μ' c = μ c) ∧ (∀ x, ¬ x / 16 = 4 * a + b → μ' 86 x = μ 86 x) ∧ (∀ x, x ≠ 4 * a + b → μ' 87 x = μ 87 x ∧ μ' 88 x = μ 88 x ∧ μ' 89 x = μ 89 x ∧ μ' 90 x = μ 90 x)))) 23 [some (.inr (ad G 78)), some (.inl ai), some (.inl bi), some (.inl (4 * ai + bi)), some (.inl k4), none, none, none, none] [] μa := by
    intro n
    induction n with
    | zero =>
      intro k k4 μa hRa hk4 hk hPa hca hza hfa hga hha hms
      exact absurd hms (Nat.not_lt_zero _)
    | succ n ih =>
      intro k k4 μa hRa hk4 hk hPa hca hza hfa hga hha hms
      have ih_23 := ih
      clear ih
      have ek : k4.toNat = k := by omega
      have q_a : μa 83 = μ 83 := hfa _ (by omega) (by omega) (by omega)
      have q_s : μa 85 = μ 85 := hfa _ (by omega) (by omega) (by omega)
      have q_c := mct_rng P k
      have q_c1 := mct_rng P (k + 1)
      have q_1 := nrs_rng (msg μ b) (msg μ a k) (μ 83 b).toNat
      have q_2 := nrs_rng (msg μ a) (msg μ b (nrs (msg μ b) (msg μ a k) (μ 83 b).toNat).toNat) (μ 83 a).toNat
      have q_3 := dst_rng (msg μ a k) (msg μ b (nrs (msg μ b) (msg μ a k) (μ 83 b).toNat).toNat)
      have q_p : P k = -6 ∨ (0 ≤ P k ∧ P k < (μ 83 b).toNat) := by rw [hPe]; exact ptn_rng _ _ _ _ _ _
      have q_n : μa 78 6 = μ 78 6 := by rw [hfa 78 (by omega) (by omega) (by omega)]
      refine jx_iload C dX9_layPair_23 rfl ?_
      refine jx_aload_n C dX9_layPair_25 rfl ?_
      refine jx_get (v := .inr (ad G 83)) C 9 ft_X9 (jcl_MO G _) rfl (by decide) (by decide) wf_X9_29 dX9_layPair_26 ?_
      refine jx_iload_n C dX9_layPair_29 rfl ?_
      refine jx_iald C (jcl_83 G _) (by decide) (by omega) (by omega) (by decide) dX9_layPair_30 ?_
      have r_30 := rg_83 hRa ai.toNat
      have e_30 : μa 83 ai.toNat = μ 83 a := (by rw [q_a, hat])
      rw [e_30] at r_30
      refine jx_top (b := μ 83 a) e_30 ?_
      refine jx_icmp_ge C dX9_layPair_31 (by omega) (by omega) (fun c_31 => ?_) (fun c_31 => ?_)
      · refine jx_iconst C dX9_layPair_135 ?_
        refine jx_istore (L' := [some (.inr (ad G 78)), some (.inl ai), some (.inl bi), some (.inl (4 * ai + bi)), some (.inl 0), none, none, none, none]) C dX9_layPair_136 (by decide) rfl ?_
        have LP_138 : ∀ (n : Nat) (k2 : Nat) (m2 : Int) (μd : Mem), (rng μd) → (m2 = (k2 : Int)) → ((k2 : Int) ≤ μ 83 a) → (∀ x : Nat, (x : Int) < μ 83 a → μd 86 (16 * (4 * a + b) + x) = P x) → (μd 90 (4 * a + b) = mct P (μ 83 a).toNat) → ((μd 89 (4 * a + b), μd 87 (4 * a + b), μd 88 (4 * a + b)) = prf P SX SY (μ 83 a).toNat (0, μ 87 (4 * a + b), μ 88 (4 * a + b)) k2) → (∀ c, c ≠ 86 → c ≠ 87 → c ≠ 88 → c ≠ 89 → c ≠ 90 → μd c = μ c) → (∀ x, ¬ x / 16 = 4 * a + b → μd 86 x = μ 86 x) → (∀ x, x ≠ 4 * a + b → μd 87 x = μ 87 x ∧ μd 88 x = μ 88 x ∧ μd 89 x = μ 89 x ∧ μd 90 x = μ 90 x) → 17 - k2 < n → jX F G 9 0 0 (jE F G (jQv G (fun μ' => rng μ' ∧ (∀ x : Nat, (x : Int) < μ 83 a → μ' 86 (16 * (4 * a + b) + x) = P x) ∧ μ' 90 (4 * a + b) = mct P (μ 83 a).toNat ∧ (μ' 89 (4 * a + b), μ' 87 (4 * a + b), μ' 88 (4 * a + b)) = prf P SX SY (μ 83 a).toNat (0, μ 87 (4 * a + b), μ 88 (4 * a + b)) (μ 83 a).toNat ∧ (∀ c, c ≠ 86 → c ≠ 87 → c ≠ 88 → c ≠ 89 → c ≠ 90 → μ' c = μ c) ∧ (∀ x, ¬ x / 16 = 4 * a + b → μ' 86 x = μ 86 x) ∧ (∀ x, x ≠ 4 * a + b → μ' 87 x = μ 87 x ∧ μ' 88 x = μ 88 x ∧ μ' 89 x = μ 89 x ∧ μ' 90 x = μ 90 x)))) 138 [some (.inr (ad G 78)), some (.inl ai), some (.inl bi), some (.inl (4 * ai + bi)), some (.inl m2), none, none, none, none] [] μd := by
          intro n
          induction n with
          | zero =>
            intro k2 m2 μd hRd hm2 hk2 hPd hcd hpd hfd hgd hhd hms
            exact absurd hms (Nat.not_lt_zero _)
          | succ n ih =>
            intro k2 m2 μd hRd hm2 hk2 hPd hcd hpd hfd hgd hhd hms
            have ih_138 := ih
            clear ih
            have ek2 : m2.toNat = k2 := by omega
            have q_d : μd 83 = μ 83 := hfd _ (by omega) (by omega) (by omega) (by omega) (by omega)
            have q_t : μd 84 = μ 84 := hfd _ (by omega) (by omega) (by omega) (by omega) (by omega)
            have q_p : ∀ x, P x = -6 ∨ (0 ≤ P x ∧ P x < (μ 83 b).toNat) := fun x => by rw [hPe]; exact ptn_rng _ _ _ _ _ _
            have q_q := q_p k2
            have q_e : ∀ x : Nat, (x : Int) < μd 83 a → mpt μd a b x = -6 ∨ (0 ≤ mpt μd a b x ∧ mpt μd a b x < 16) := fun x hx => by unfold mpt; rw [hPd x (by rw [← q_d]; exact hx)]; have := q_p x; omega
            have q_x := mcx_rng μ a k2
            have q_y := mcy_rng μ a k2
            have q_z := mcx_rng μ b (P k2).toNat
            have q_w := mcy_rng μ b (P k2).toNat
            obtain ⟨A, hA⟩ : ∃ A, A = prf P SX SY (μ 83 a).toNat (0, μ 87 (4 * a + b), μ 88 (4 * a + b)) k2 := ⟨_, rfl⟩
            have hA1 : μd 89 (4 * a + b) = A.1 := by rw [hA, ← hpd]
            have hA2 : μd 87 (4 * a + b) = A.2.1 := by rw [hA, ← hpd]
            have hA3 : μd 88 (4 * a + b) = A.2.2 := by rw [hA, ← hpd]
            refine jx_iload C dX9_layPair_138 rfl ?_
            refine jx_aload_n C dX9_layPair_140 rfl ?_
            refine jx_get (v := .inr (ad G 83)) C 9 ft_X9 (jcl_MO G _) rfl (by decide) (by decide) wf_X9_29 dX9_layPair_141 ?_
            refine jx_iload_n C dX9_layPair_144 rfl ?_
            refine jx_iald C (jcl_83 G _) (by decide) (by omega) (by omega) (by decide) dX9_layPair_145 ?_
            have r_145 := rg_83 hRd ai.toNat
            have e_145 : μd 83 ai.toNat = μ 83 a := (by rw [q_d, hat])
            rw [e_145] at r_145
            refine jx_top (b := μ 83 a) e_145 ?_
            refine jx_icmp_ge C dX9_layPair_146 (by omega) (by omega) (fun c_146 => ?_) (fun c_146 => ?_)
            · exact jx_vret C dX9_layPair_333 ⟨hRd, hPd, hcd, by rw [hpd, show (μ 83 a).toNat = k2 by omega], hfd, hgd, hhd⟩
            · refine jx_aload_n C dX9_layPair_149 rfl ?_
              refine jx_get (v := .inr (ad G 86)) C 12 ft_X9 (jcl_MO G _) rfl (by decide) (by decide) wf_X9_38 dX9_layPair_150 ?_
              refine jx_bipush C dX9_layPair_153 (by decide +kernel) ?_
              refine jx_iload_n C dX9_layPair_155 rfl ?_
              refine jx_imul C dX9_layPair_156 ?_
              refine jx_iload C dX9_layPair_157 rfl ?_
              refine jx_iadd C dX9_layPair_159 ?_
              refine jx_iald C (jcl_86 G _) (by decide) (by omega) (by omega) (by decide) dX9_layPair_160 ?_
              have r_160 := rg_86 hRd ((16 * (4 * ai + bi) + m2).toNat)
              have e_160 : μd 86 (16 * (4 * ai + bi) + m2).toNat = P k2 := (by rw [show (16 * (4 * ai + bi) + m2).toNat = 16 * (4 * a + b) + k2 by omega]; exact hPd k2 (by omega))
              rw [e_160] at r_160
              refine jx_top (b := P k2) e_160 ?_
              refine jx_if_lt C dX9_layPair_161 (by omega) (fun c_161 => ?_) (fun c_161 => ?_)
              · refine jx_iinc (L' := [some (.inr (ad G 78)), some (.inl ai), some (.inl bi), some (.inl (4 * ai + bi)), some (.inl (m2 + 1)), none, none, none, none]) C dX9_layPair_327 rfl (by decide) rfl ?_
                refine jx_goto C dX9_layPair_330 ?_
                exact ih_138 (k2 + 1) (m2 + 1) μd hRd (by omega) (by omega) hPd hcd (by rw [hpd, prf]; exact (if_pos (by omega)).symm) hfd hgd hhd (by omega)
              · refine jx_aload_n C dX9_layPair_164 rfl ?_
                refine jx_iload_n C dX9_layPair_165 rfl ?_
                refine jx_iload C dX9_layPair_166 rfl ?_
                refine jx_cVi (as := [.inl ai, .inl m2]) (st := []) C Yy (c_X9_markX l G μd a (by omega) ai (by omega) m2 (by omega) hRd) yb_X9_markX yv_X9_markX wm_X9_128 (jcl_MO G _) rfl (by decide) rfl rfl (Nat.le_of_ble_eq_true rfl) ⟨⟨rfl, rfl, Nat.le_of_ble_eq_true rfl, Nat.le_of_ble_eq_true rfl⟩, Nat.zero_le _, Nat.zero_le _⟩ dX9_layPair_168 ?_
                rintro _ _ ⟨rfl, rfl⟩
                have r_168 := mcx_rng μd a m2.toNat
                refine jx_top (b := mcx μ a k2) (by rw [mcx_fr q_t, ek2]) ?_
                refine jx_aload_n C dX9_layPair_171 rfl ?_
                refine jx_iload_n C dX9_layPair_172 rfl ?_
                refine jx_aload_n C dX9_layPair_173 rfl ?_
                refine jx_get (v := .inr (ad G 86)) C 12 ft_X9 (jcl_MO G _) rfl (by decide) (by decide) wf_X9_38 dX9_layPair_174 ?_
                refine jx_bipush C dX9_layPair_177 (by decide +kernel) ?_
                refine jx_iload_n C dX9_layPair_179 rfl ?_
                refine jx_imul C dX9_layPair_180 ?_
                refine jx_iload C dX9_layPair_181 rfl ?_
                refine jx_iadd C dX9_layPair_183 ?_
                refine jx_iald C (jcl_86 G _) (by decide) (by omega) (by omega) (by decide) dX9_layPair_184 ?_
                have r_184 := rg_86 hRd ((16 * (4 * ai + bi) + m2).toNat)
                have e_184 : μd 86 (16 * (4 * ai + bi) + m2).toNat = P k2 := (by rw [show (16 * (4 * ai + bi) + m2).toNat = 16 * (4 * a + b) + k2 by omega]; exact hPd k2 (by omega))
                rw [e_184] at r_184
                refine jx_top (b := P k2) e_184 ?_
                refine jx_cVi (as := [.inl bi, .inl (P k2)]) (st := [.inl (mcx μ a k2)]) C Yy (c_X9_markX l G μd b (by omega) bi (by omega) (P k2) (by omega) hRd) yb_X9_markX yv_X9_markX wm_X9_128 (jcl_MO G _) rfl (by decide) rfl rfl (Nat.le_of_ble_eq_true rfl) ⟨⟨rfl, rfl, Nat.le_of_ble_eq_true rfl, Nat.le_of_ble_eq_true rfl⟩, Nat.zero_le _, Nat.zero_le _⟩ dX9_layPair_185 ?_
                rintro _ _ ⟨rfl, rfl⟩
                have r_185 := mcx_rng μd b (P k2).toNat
                refine jx_top (b := mcx μ b (P k2).toNat) (by rw [mcx_fr q_t]) ?_
                refine jx_isub C dX9_layPair_188 ?_
                refine jx_nm (fun vx hvx0 => ?_)
                have hvx : vx = SX k2 := by rw [hvx0, hSX]
                have bvx : -19 ≤ vx ∧ vx ≤ 19 := by omega
                clear hvx0
                refine jx_istore (L' := [some (.inr (ad G 78)), some (.inl ai), some (.inl bi), some (.inl (4 * ai + bi)), some (.inl m2), some (.inl vx), none, none, none]) C dX9_layPair_189 (by decide) rfl ?_
                refine jx_aload_n C dX9_layPair_191 rfl ?_
                refine jx_iload_n C dX9_layPair_192 rfl ?_
                refine jx_iload C dX9_layPair_193 rfl ?_
                refine jx_cVi (as := [.inl ai, .inl m2]) (st := []) C Yy (c_X9_markY l G μd a (by omega) ai (by omega) m2 (by omega) hRd) yb_X9_markY yv_X9_markY wm_X9_131 (jcl_MO G _) rfl (by decide) rfl rfl (Nat.le_of_ble_eq_true rfl) ⟨⟨rfl, rfl, Nat.le_of_ble_eq_true rfl, Nat.le_of_ble_eq_true rfl⟩, Nat.zero_le _, Nat.zero_le _⟩ dX9_layPair_195 ?_
                rintro _ _ ⟨rfl, rfl⟩
                have r_195 := mcy_rng μd a m2.toNat
                refine jx_top (b := mcy μ a k2) (by rw [mcy_fr q_t, ek2]) ?_
                refine jx_aload_n C dX9_layPair_198 rfl ?_
                refine jx_iload_n C dX9_layPair_199 rfl ?_
                refine jx_aload_n C dX9_layPair_200 rfl ?_
                refine jx_get (v := .inr (ad G 86)) C 12 ft_X9 (jcl_MO G _) rfl (by decide) (by decide) wf_X9_38 dX9_layPair_201 ?_
                refine jx_bipush C dX9_layPair_204 (by decide +kernel) ?_
                refine jx_iload_n C dX9_layPair_206 rfl ?_
                refine jx_imul C dX9_layPair_207 ?_
                refine jx_iload C dX9_layPair_208 rfl ?_
                refine jx_iadd C dX9_layPair_210 ?_
                refine jx_iald C (jcl_86 G _) (by decide) (by omega) (by omega) (by decide) dX9_layPair_211 ?_
                have r_211 := rg_86 hRd ((16 * (4 * ai + bi) + m2).toNat)
                have e_211 : μd 86 (16 * (4 * ai + bi) + m2).toNat = P k2 := (by rw [show (16 * (4 * ai + bi) + m2).toNat = 16 * (4 * a + b) + k2 by omega]; exact hPd k2 (by omega))
                rw [e_211] at r_211
                refine jx_top (b := P k2) e_211 ?_
                refine jx_cVi (as := [.inl bi, .inl (P k2)]) (st := [.inl (mcy μ a k2)]) C Yy (c_X9_markY l G μd b (by omega) bi (by omega) (P k2) (by omega) hRd) yb_X9_markY yv_X9_markY wm_X9_131 (jcl_MO G _) rfl (by decide) rfl rfl (Nat.le_of_ble_eq_true rfl) ⟨⟨rfl, rfl, Nat.le_of_ble_eq_true rfl, Nat.le_of_ble_eq_true rfl⟩, Nat.zero_le _, Nat.zero_le _⟩ dX9_layPair_212 ?_
                rintro _ _ ⟨rfl, rfl⟩
                have r_212 := mcy_rng μd b (P k2).toNat
                refine jx_top (b := mcy μ b (P k2).toNat) (by rw [mcy_fr q_t]) ?_
                refine jx_isub C dX9_layPair_215 ?_
                refine jx_nm (fun vy hvy0 => ?_)
                have hvy : vy = SY k2 := by rw [hvy0, hSY]
                have bvy : -19 ≤ vy ∧ vy ≤ 19 := by omega
                clear hvy0
                refine jx_istore (L' := [some (.inr (ad G 78)), some (.inl ai), some (.inl bi), some (.inl (4 * ai + bi)), some (.inl m2), some (.inl vx), some (.inl vy), none, none]) C dX9_layPair_216 (by decide) rfl ?_
                refine jx_aload_n C dX9_layPair_218 rfl ?_
                refine jx_iload_n C dX9_layPair_219 rfl ?_
                refine jx_iload_n C dX9_layPair_220 rfl ?_
                refine jx_iload C dX9_layPair_221 rfl ?_
                refine jx_iload C dX9_layPair_223 rfl ?_
                refine jx_cVi (as := [.inl ai, .inl bi, .inl vx, .inl vy]) (st := []) C Yy (c_X9_votesFor l G μd a b (by omega) (by omega) ai bi (by omega) (by omega) vx vy (by omega) (by omega) q_e hRd) yb_X9_votesFor yv_X9_votesFor wm_X9_134 (jcl_MO G _) rfl (by decide) rfl rfl (Nat.le_of_ble_eq_true rfl) ⟨⟨rfl, rfl, Nat.le_of_ble_eq_true rfl, Nat.le_of_ble_eq_true rfl⟩, Nat.zero_le _, Nat.zero_le _⟩ dX9_layPair_225 ?_
                rintro _ _ ⟨rfl, rfl⟩
                have r_225 := vts_rng (mpt μd a b) (msx μd a b) (msy μd a b) vx vy (μd 83 a).toNat
                refine jx_nm (fun vn hvn0 => ?_)
                have hvn : vn = vts P SX SY (SX k2) (SY k2) (μ 83 a).toNat := by rw [hvn0, ← hvx, ← hvy, q_d]; exact vts_mem (fun m hm => hPd m (by omega)) q_t hSX hSY vx vy
                have bvn : 0 ≤ vn ∧ vn ≤ 16 := by rw [hvn]; have := vts_rng P SX SY (SX k2) (SY k2) (μ 83 a).toNat; omega
                clear hvn0
                refine jx_istore (L' := [some (.inr (ad G 78)), some (.inl ai), some (.inl bi), some (.inl (4 * ai + bi)), some (.inl m2), some (.inl vx), some (.inl vy), some (.inl vn), none]) C dX9_layPair_228 (by decide) rfl ?_
                have J_279 : ∀ z : Int, z = (if vn = A.1 ∧ (vx < A.2.1 ∨ (vx = A.2.1 ∧ vy < A.2.2)) then 1 else 0) → jX F G 9 0 0 (jE F G (jQv G (fun μ' => rng μ' ∧ (∀ x : Nat, (x : Int) < μ 83 a → μ' 86 (16 * (4 * a + b) + x) = P x) ∧ μ' 90 (4 * a + b) = mct P (μ 83 a).toNat ∧ (μ' 89 (4 * a + b), μ' 87 (4 * a + b), μ' 88 (4 * a + b)) = prf P SX SY (μ 83 a).toNat (0, μ 87 (4 * a + b), μ 88 (4 * a + b)) (μ 83 a).toNat ∧ (∀ c, c ≠ 86 → c ≠ 87 → c ≠ 88 → c ≠ 89 → c ≠ 90 → μ' c = μ c) ∧ (∀ x, ¬ x / 16 = 4 * a + b → μ' 86 x = μ 86 x) ∧ (∀ x, x ≠ 4 * a + b → μ' 87 x = μ 87 x ∧ μ' 88 x = μ 88 x ∧ μ' 89 x = μ 89 x ∧ μ' 90 x = μ 90 x)))) 279 [some (.inr (ad G 78)), some (.inl ai), some (.inl bi), some (.inl (4 * ai + bi)), some (.inl m2), some (.inl vx), some (.inl vy), some (.inl vn), none] [.inl z] μd := by
                  intro lk hlk
                  refine jx_istore (L' := [some (.inr (ad G 78)), some (.inl ai), some (.inl bi), some (.inl (4 * ai + bi)), some (.inl m2), some (.inl vx), some (.inl vy), some (.inl vn), some (.inl lk)]) C dX9_layPair_279 (by decide) rfl ?_
                  refine jx_iload C dX9_layPair_281 rfl ?_
                  refine jx_iconst C dX9_layPair_283 ?_
                  refine jx_icmp_lt C dX9_layPair_284 (by omega) (by decide) (fun c_284 => ?_) (fun c_284 => ?_)
                  · refine jx_iinc (L' := [some (.inr (ad G 78)), some (.inl ai), some (.inl bi), some (.inl (4 * ai + bi)), some (.inl (m2 + 1)), some (.inl vx), some (.inl vy), some (.inl vn), some (.inl lk)]) C dX9_layPair_327 rfl (by decide) rfl ?_
                    refine jx_goto C dX9_layPair_330 ?_
                    refine jx_fewer (L' := [some (.inr (ad G 78)), some (.inl ai), some (.inl bi), some (.inl (4 * ai + bi)), some (.inl (m2 + 1)), none, none, none, none]) (fun i v h => ?_) ?_
                    · exact jfew_ok (by simp [jfew]) h
                    exact ih_138 (k2 + 1) (m2 + 1) μd hRd (by omega) (by omega) hPd hcd (by rw [hpd, prf, if_neg (by omega), prq, if_neg (by rw [← hvn, ← hvx, ← hvy, ← hA]; omega)]) hfd hgd hhd (by omega)
                  · refine jx_iload C dX9_layPair_287 rfl ?_
                    refine jx_aload_n C dX9_layPair_289 rfl ?_
                    refine jx_get (v := .inr (ad G 89)) C 15 ft_X9 (jcl_MO G _) rfl (by decide) (by decide) wf_X9_47 dX9_layPair_290 ?_
                    refine jx_iload_n C dX9_layPair_293 rfl ?_
                    refine jx_iald C (jcl_89 G _) (by decide) (by omega) (by omega) (by decide) dX9_layPair_294 ?_
                    have r_294 := rg_89 hRd ((4 * ai + bi).toNat)
                    have e_294 : μd 89 (4 * ai + bi).toNat = A.1 := (by rw [hab]; exact hA1)
                    rw [e_294] at r_294
                    refine jx_top (b := A.1) e_294 ?_
                    refine jx_icmp_gt C dX9_layPair_295 (by omega) (by omega) (fun c_295 => ?_) (fun c_295 => ?_)
                    · refine jx_aload_n C dX9_layPair_303 rfl ?_
                      refine jx_get (v := .inr (ad G 89)) C 15 ft_X9 (jcl_MO G _) rfl (by decide) (by decide) wf_X9_47 dX9_layPair_304 ?_
                      refine jx_iload_n C dX9_layPair_307 rfl ?_
                      refine jx_iload C dX9_layPair_308 rfl ?_
                      refine jx_iast C (jcl_89 G _) (jcl_89 G _) (by decide) (by omega) (by omega) (by decide) dX9_layPair_310 ?_
                      obtain ⟨μ3, eμ3⟩ : ∃ y_ : Mem, y_ = jms μd 89 ((4 * ai + bi).toNat) vn := ⟨_, rfl⟩
                      rw [← eμ3]
                      have hR3 : rng μ3 := by rw [eμ3]; exact rs_89 hRd ((4 * ai + bi).toNat) (by omega) (by omega)
                      refine jx_aload_n C dX9_layPair_311 rfl ?_
                      refine jx_get (v := .inr (ad G 87)) C 13 ft_X9 (jcl_MO G _) rfl (by decide) (by decide) wf_X9_41 dX9_layPair_312 ?_
                      refine jx_iload_n C dX9_layPair_315 rfl ?_
                      refine jx_iload C dX9_layPair_316 rfl ?_
                      refine jx_iast C (jcl_87 G _) (jcl_87 G _) (by decide) (by omega) (by omega) (by decide) dX9_layPair_318 ?_
                      obtain ⟨μ4, eμ4⟩ : ∃ y_ : Mem, y_ = jms μ3 87 ((4 * ai + bi).toNat) vx := ⟨_, rfl⟩
                      rw [← eμ4]
                      have hR4 : rng μ4 := by rw [eμ4]; exact rs_87 hR3 ((4 * ai + bi).toNat) (by omega) (by omega)
                      refine jx_aload_n C dX9_layPair_319 rfl ?_
                      refine jx_get (v := .inr (ad G 88)) C 14 ft_X9 (jcl_MO G _) rfl (by decide) (by decide) wf_X9_44 dX9_layPair_320 ?_
                      refine jx_iload_n C dX9_layPair_323 rfl ?_
                      refine jx_iload C dX9_layPair_324 rfl ?_
                      refine jx_iast C (jcl_88 G _) (jcl_88 G _) (by decide) (by omega) (by omega) (by decide) dX9_layPair_326 ?_
                      obtain ⟨μ5, eμ5⟩ : ∃ y_ : Mem, y_ = jms μ4 88 ((4 * ai + bi).toNat) vy := ⟨_, rfl⟩
                      rw [← eμ5]
                      have hR5 : rng μ5 := by rw [eμ5]; exact rs_88 hR4 ((4 * ai + bi).toNat) (by omega) (by omega)
                      refine jx_iinc (L' := [some (.inr (ad G 78)), some (.inl ai), some (.inl bi), some (.inl (4 * ai + bi)), some (.inl (m2 + 1)), some (.inl vx), some (.inl vy), some (.inl vn), some (.inl lk)]) C dX9_layPair_327 rfl (by decide) rfl ?_
                      refine jx_goto C dX9_layPair_330 ?_
                      refine jx_fewer (L' := [some (.inr (ad G 78)), some (.inl ai), some (.inl bi), some (.inl (4 * ai + bi)), some (.inl (m2 + 1)), none, none, none, none]) (fun i v h => ?_) ?_
                      · exact jfew_ok (by simp [jfew]) h
                      exact ih_138 (k2 + 1) (m2 + 1) μ5 hR5 (by omega) (by omega) (fun x hx => by rw [eμ5, jms_cell _ _ _ _ (by omega), eμ4, jms_cell _ _ _ _ (by omega), eμ3, jms_cell _ _ _ _ (by omega)]; exact hPd x hx) (by rw [eμ5, jms_cell _ _ _ _ (by omega), eμ4, jms_cell _ _ _ _ (by omega), eμ3, jms_cell _ _ _ _ (by omega)]; exact hcd) (by rw [prf, if_neg (by omega), prq, if_pos (by rw [← hvn, ← hvx, ← hvy, ← hA]; omega), ← hvn, ← hvx, ← hvy, eμ5, jms_cell _ _ _ _ (by omega), jms_cell _ _ _ _ (by omega), jms_arr, if_pos (by omega), eμ4, jms_cell _ _ _ _ (by omega), jms_arr, if_pos (by omega), eμ3, jms_arr, if_pos (by omega)]) (fun c h1 h2 h3 h4 h5 => by rw [eμ5, jms_cell _ _ _ _ h3, eμ4, jms_cell _ _ _ _ h2, eμ3, jms_cell _ _ _ _ h4]; exact hfd c h1 h2 h3 h4 h5) (fun x hx => by rw [eμ5, jms_cell _ _ _ _ (by omega), eμ4, jms_cell _ _ _ _ (by omega), eμ3, jms_cell _ _ _ _ (by omega)]; exact hgd x hx) (fun x hx => by
        have g := hhd x hx
        refine ⟨?_, ?_, ?_, ?_⟩
        · rw [eμ5, jms_cell _ _ _ _ (by omega), eμ4, jms_arr, if_neg (by omega), eμ3, jms_cell _ _ _ _ (by omega)]; exact g.1
        · rw [eμ5, jms_arr, if_neg (by omega), eμ4, jms_cell _ _ _ _ (by omega), eμ3, jms_cell _ _ _ _ (by omega)]; exact g.2.1
        · rw [eμ5, jms_cell _ _ _ _ (by omega), eμ4, jms_cell _ _ _ _ (by omega), eμ3, jms_arr, if_neg (by omega)]; exact g.2.2.1
        · rw [eμ5, jms_cell _ _ _ _ (by omega), eμ4, jms_cell _ _ _ _ (by omega), eμ3, jms_cell _ _ _ _ (by omega)]; exact g.2.2.2) (by omega)
                    · refine jx_iload C dX9_layPair_298 rfl ?_
                      refine jx_if_eq C dX9_layPair_300 (by omega) (fun c_300 => ?_) (fun c_300 => ?_)
                      · refine jx_iinc (L' := [some (.inr (ad G 78)), some (.inl ai), some (.inl bi), some (.inl (4 * ai + bi)), some (.inl (m2 + 1)), some (.inl vx), some (.inl vy), some (.inl vn), some (.inl lk)]) C dX9_layPair_327 rfl (by decide) rfl ?_
                        refine jx_goto C dX9_layPair_330 ?_
                        refine jx_fewer (L' := [some (.inr (ad G 78)), some (.inl ai), some (.inl bi), some (.inl (4 * ai + bi)), some (.inl (m2 + 1)), none, none, none, none]) (fun i v h => ?_) ?_
                        · exact jfew_ok (by simp [jfew]) h
                        exact ih_138 (k2 + 1) (m2 + 1) μd hRd (by omega) (by omega) hPd hcd (by rw [hpd, prf, if_neg (by omega), prq, if_neg (by rw [← hvn, ← hvx, ← hvy, ← hA]; omega)]) hfd hgd hhd (by omega)
                      · refine jx_aload_n C dX9_layPair_303 rfl ?_
                        refine jx_get (v := .inr (ad G 89)) C 15 ft_X9 (jcl_MO G _) rfl (by decide) (by decide) wf_X9_47 dX9_layPair_304 ?_
                        refine jx_iload_n C dX9_layPair_307 rfl ?_
                        refine jx_iload C dX9_layPair_308 rfl ?_
                        refine jx_iast C (jcl_89 G _) (jcl_89 G _) (by decide) (by omega) (by omega) (by decide) dX9_layPair_310 ?_
                        obtain ⟨μ6, eμ6⟩ : ∃ y_ : Mem, y_ = jms μd 89 ((4 * ai + bi).toNat) vn := ⟨_, rfl⟩
                        rw [← eμ6]
                        have hR6 : rng μ6 := by rw [eμ6]; exact rs_89 hRd ((4 * ai + bi).toNat) (by omega) (by omega)
                        refine jx_aload_n C dX9_layPair_311 rfl ?_
                        refine jx_get (v := .inr (ad G 87)) C 13 ft_X9 (jcl_MO G _) rfl (by decide) (by decide) wf_X9_41 dX9_layPair_312 ?_
                        refine jx_iload_n C dX9_layPair_315 rfl ?_
                        refine jx_iload C dX9_layPair_316 rfl ?_
                        refine jx_iast C (jcl_87 G _) (jcl_87 G _) (by decide) (by omega) (by omega) (by decide) dX9_layPair_318 ?_
                        obtain ⟨μ7, eμ7⟩ : ∃ y_ : Mem, y_ = jms μ6 87 ((4 * ai + bi).toNat) vx := ⟨_, rfl⟩
                        rw [← eμ7]
                        have hR7 : rng μ7 := by rw [eμ7]; exact rs_87 hR6 ((4 * ai + bi).toNat) (by omega) (by omega)
                        refine jx_aload_n C dX9_layPair_319 rfl ?_
                        refine jx_get (v := .inr (ad G 88)) C 14 ft_X9 (jcl_MO G _) rfl (by decide) (by decide) wf_X9_44 dX9_layPair_320 ?_
                        refine jx_iload_n C dX9_layPair_323 rfl ?_
                        refine jx_iload C dX9_layPair_324 rfl ?_
                        refine jx_iast C (jcl_88 G _) (jcl_88 G _) (by decide) (by omega) (by omega) (by decide) dX9_layPair_326 ?_
                        obtain ⟨μ8, eμ8⟩ : ∃ y_ : Mem, y_ = jms μ7 88 ((4 * ai + bi).toNat) vy := ⟨_, rfl⟩
                        rw [← eμ8]
                        have hR8 : rng μ8 := by rw [eμ8]; exact rs_88 hR7 ((4 * ai + bi).toNat) (by omega) (by omega)
                        refine jx_iinc (L' := [some (.inr (ad G 78)), some (.inl ai), some (.inl bi), some (.inl (4 * ai + bi)), some (.inl (m2 + 1)), some (.inl vx), some (.inl vy), some (.inl vn), some (.inl lk)]) C dX9_layPair_327 rfl (by decide) rfl ?_
                        refine jx_goto C dX9_layPair_330 ?_
                        refine jx_fewer (L' := [some (.inr (ad G 78)), some (.inl ai), some (.inl bi), some (.inl (4 * ai + bi)), some (.inl (m2 + 1)), none, none, none, none]) (fun i v h => ?_) ?_
                        · exact jfew_ok (by simp [jfew]) h
                        exact ih_138 (k2 + 1) (m2 + 1) μ8 hR8 (by omega) (by omega) (fun x hx => by rw [eμ8, jms_cell _ _ _ _ (by omega), eμ7, jms_cell _ _ _ _ (by omega), eμ6, jms_cell _ _ _ _ (by omega)]; exact hPd x hx) (by rw [eμ8, jms_cell _ _ _ _ (by omega), eμ7, jms_cell _ _ _ _ (by omega), eμ6, jms_cell _ _ _ _ (by omega)]; exact hcd) (by rw [prf, if_neg (by omega), prq, if_pos (by rw [← hvn, ← hvx, ← hvy, ← hA]; omega), ← hvn, ← hvx, ← hvy, eμ8, jms_cell _ _ _ _ (by omega), jms_cell _ _ _ _ (by omega), jms_arr, if_pos (by omega), eμ7, jms_cell _ _ _ _ (by omega), jms_arr, if_pos (by omega), eμ6, jms_arr, if_pos (by omega)]) (fun c h1 h2 h3 h4 h5 => by rw [eμ8, jms_cell _ _ _ _ h3, eμ7, jms_cell _ _ _ _ h2, eμ6, jms_cell _ _ _ _ h4]; exact hfd c h1 h2 h3 h4 h5) (fun x hx => by rw [eμ8, jms_cell _ _ _ _ (by omega), eμ7, jms_cell _ _ _ _ (by omega), eμ6, jms_cell _ _ _ _ (by omega)]; exact hgd x hx) (fun x hx => by
        have g := hhd x hx
        refine ⟨?_, ?_, ?_, ?_⟩
        · rw [eμ8, jms_cell _ _ _ _ (by omega), eμ7, jms_arr, if_neg (by omega), eμ6, jms_cell _ _ _ _ (by omega)]; exact g.1
        · rw [eμ8, jms_arr, if_neg (by omega), eμ7, jms_cell _ _ _ _ (by omega), eμ6, jms_cell _ _ _ _ (by omega)]; exact g.2.1
        · rw [eμ8, jms_cell _ _ _ _ (by omega), eμ7, jms_cell _ _ _ _ (by omega), eμ6, jms_arr, if_neg (by omega)]; exact g.2.2.1
        · rw [eμ8, jms_cell _ _ _ _ (by omega), eμ7, jms_cell _ _ _ _ (by omega), eμ6, jms_cell _ _ _ _ (by omega)]; exact g.2.2.2) (by omega)
                refine jx_iload C dX9_layPair_230 rfl ?_
                refine jx_aload_n C dX9_layPair_232 rfl ?_
                refine jx_get (v := .inr (ad G 89)) C 15 ft_X9 (jcl_MO G _) rfl (by decide) (by decide) wf_X9_47 dX9_layPair_233 ?_
                refine jx_iload_n C dX9_layPair_236 rfl ?_
                refine jx_iald C (jcl_89 G _) (by decide) (by omega) (by omega) (by decide) dX9_layPair_237 ?_
                have r_237 := rg_89 hRd ((4 * ai + bi).toNat)
                have e_237 : μd 89 (4 * ai + bi).toNat = A.1 := (by rw [hab]; exact hA1)
                rw [e_237] at r_237
                refine jx_top (b := A.1) e_237 ?_
                refine jx_icmp_ne C dX9_layPair_238 (by omega) (by omega) (fun c_238 => ?_) (fun c_238 => ?_)
                · refine jx_iconst C dX9_layPair_278 ?_
                  exact J_279 _ (by first | rw [if_pos (by omega)] | rw [if_neg (by omega)])
                · refine jx_iload C dX9_layPair_241 rfl ?_
                  refine jx_aload_n C dX9_layPair_243 rfl ?_
                  refine jx_get (v := .inr (ad G 87)) C 13 ft_X9 (jcl_MO G _) rfl (by decide) (by decide) wf_X9_41 dX9_layPair_244 ?_
                  refine jx_iload_n C dX9_layPair_247 rfl ?_
                  refine jx_iald C (jcl_87 G _) (by decide) (by omega) (by omega) (by decide) dX9_layPair_248 ?_
                  have r_248 := rg_87 hRd ((4 * ai + bi).toNat)
                  have e_248 : μd 87 (4 * ai + bi).toNat = A.2.1 := (by rw [hab]; exact hA2)
                  rw [e_248] at r_248
                  refine jx_top (b := A.2.1) e_248 ?_
                  refine jx_icmp_lt C dX9_layPair_249 (by omega) (by omega) (fun c_249 => ?_) (fun c_249 => ?_)
                  · refine jx_iconst C dX9_layPair_274 ?_
                    refine jx_goto C dX9_layPair_275 ?_
                    exact J_279 _ (by first | rw [if_pos (by omega)] | rw [if_neg (by omega)])
                  · refine jx_iload C dX9_layPair_252 rfl ?_
                    refine jx_aload_n C dX9_layPair_254 rfl ?_
                    refine jx_get (v := .inr (ad G 87)) C 13 ft_X9 (jcl_MO G _) rfl (by decide) (by decide) wf_X9_41 dX9_layPair_255 ?_
                    refine jx_iload_n C dX9_layPair_258 rfl ?_
                    refine jx_iald C (jcl_87 G _) (by decide) (by omega) (by omega) (by decide) dX9_layPair_259 ?_
                    have r_259 := rg_87 hRd ((4 * ai + bi).toNat)
                    have e_259 : μd 87 (4 * ai + bi).toNat = A.2.1 := (by rw [hab]; exact hA2)
                    rw [e_259] at r_259
                    refine jx_top (b := A.2.1) e_259 ?_
                    refine jx_icmp_ne C dX9_layPair_260 (by omega) (by omega) (fun c_260 => ?_) (fun c_260 => ?_)
                    · refine jx_iconst C dX9_layPair_278 ?_
                      exact J_279 _ (by first | rw [if_pos (by omega)] | rw [if_neg (by omega)])
                    · refine jx_iload C dX9_layPair_263 rfl ?_
                      refine jx_aload_n C dX9_layPair_265 rfl ?_
                      refine jx_get (v := .inr (ad G 88)) C 14 ft_X9 (jcl_MO G _) rfl (by decide) (by decide) wf_X9_44 dX9_layPair_266 ?_
                      refine jx_iload_n C dX9_layPair_269 rfl ?_
                      refine jx_iald C (jcl_88 G _) (by decide) (by omega) (by omega) (by decide) dX9_layPair_270 ?_
                      have r_270 := rg_88 hRd ((4 * ai + bi).toNat)
                      have e_270 : μd 88 (4 * ai + bi).toNat = A.2.2 := (by rw [hab]; exact hA3)
                      rw [e_270] at r_270
                      refine jx_top (b := A.2.2) e_270 ?_
                      refine jx_icmp_ge C dX9_layPair_271 (by omega) (by omega) (fun c_271 => ?_) (fun c_271 => ?_)
                      · refine jx_iconst C dX9_layPair_278 ?_
                        exact J_279 _ (by first | rw [if_pos (by omega)] | rw [if_neg (by omega)])
                      · refine jx_iconst C dX9_layPair_274 ?_
                        refine jx_goto C dX9_layPair_275 ?_
                        exact J_279 _ (by first | rw [if_pos (by omega)] | rw [if_neg (by omega)])
        have hkk : (μ 83 a).toNat = k := by omega
        exact LP_138 _ 0 0 μa hRa rfl (by omega) (fun x hx => hPa x (by omega)) (by rw [hkk]; exact hca) (by rw [hza, hfa 87 (by omega) (by omega) (by omega), hfa 88 (by omega) (by omega) (by omega)]; rfl) (fun c h1 h2 h3 h4 h5 => hfa c h1 h4 h5) hga (fun x hx => ⟨by rw [hfa 87 (by omega) (by omega) (by omega)], by rw [hfa 88 (by omega) (by omega) (by omega)], (hha x hx).1, (hha x hx).2⟩) (Nat.lt_succ_self _)
      · refine jx_aload_n C dX9_layPair_34 rfl ?_
        refine jx_iload_n C dX9_layPair_35 rfl ?_
        refine jx_iload C dX9_layPair_36 rfl ?_
        refine jx_iload_n C dX9_layPair_38 rfl ?_
        refine jx_cVi (as := [.inl ai, .inl k4, .inl bi]) (st := []) C Yy (c_X9_nearest l G μa a b (by omega) (by omega) ai k4 bi (by omega) (by omega) (by omega) hRa) yb_X9_nearest yv_X9_nearest wm_X9_125 (jcl_MO G _) rfl (by decide) rfl rfl (Nat.le_of_ble_eq_true rfl) ⟨⟨rfl, rfl, Nat.le_of_ble_eq_true rfl, Nat.le_of_ble_eq_true rfl⟩, Nat.zero_le _, Nat.zero_le _⟩ dX9_layPair_39 ?_
        rintro _ _ ⟨rfl, rfl⟩
        have r_39 := nrs_rng (msg μa b) (msg μa a k4.toNat) (μa 83 b).toNat
        have r2_39 := rg_83 hRa b
        refine jx_top (b := nrs (msg μ b) (msg μ a k) (μ 83 b).toNat) (by rw [msg_fr q_s, msg_fr q_s, q_a, ek]) ?_
        refine jx_istore (L' := [some (.inr (ad G 78)), some (.inl ai), some (.inl bi), some (.inl (4 * ai + bi)), some (.inl k4), some (.inl (nrs (msg μ b) (msg μ a k) (μ 83 b).toNat)), none, none, none]) C dX9_layPair_42 (by decide) rfl ?_
        have J_84 : ∀ z : Int, z = (if P k = -6 then 0 else 1) → jX F G 9 0 0 (jE F G (jQv G (fun μ' => rng μ' ∧ (∀ x : Nat, (x : Int) < μ 83 a → μ' 86 (16 * (4 * a + b) + x) = P x) ∧ μ' 90 (4 * a + b) = mct P (μ 83 a).toNat ∧ (μ' 89 (4 * a + b), μ' 87 (4 * a + b), μ' 88 (4 * a + b)) = prf P SX SY (μ 83 a).toNat (0, μ 87 (4 * a + b), μ 88 (4 * a + b)) (μ 83 a).toNat ∧ (∀ c, c ≠ 86 → c ≠ 87 → c ≠ 88 → c ≠ 89 → c ≠ 90 → μ' c = μ c) ∧ (∀ x, ¬ x / 16 = 4 * a + b → μ' 86 x = μ 86 x) ∧ (∀ x, x ≠ 4 * a + b → μ' 87 x = μ 87 x ∧ μ' 88 x = μ 88 x ∧ μ' 89 x = μ 89 x ∧ μ' 90 x = μ 90 x)))) 84 [some (.inr (ad G 78)), some (.inl ai), some (.inl bi), some (.inl (4 * ai + bi)), some (.inl k4), some (.inl (nrs (msg μ b) (msg μ a k) (μ 83 b).toNat)), none, none, none] [.inl z] μa := by
          intro is6 his6
          refine jx_istore (L' := [some (.inr (ad G 78)), some (.inl ai), some (.inl bi), some (.inl (4 * ai + bi)), some (.inl k4), some (.inl (nrs (msg μ b) (msg μ a k) (μ 83 b).toNat)), some (.inl is6), none, none]) C dX9_layPair_84 (by decide) rfl ?_
          refine jx_aload_n C dX9_layPair_86 rfl ?_
          refine jx_get (v := .inr (ad G 86)) C 12 ft_X9 (jcl_MO G _) rfl (by decide) (by decide) wf_X9_38 dX9_layPair_87 ?_
          refine jx_bipush C dX9_layPair_90 (by decide +kernel) ?_
          refine jx_iload_n C dX9_layPair_92 rfl ?_
          refine jx_imul C dX9_layPair_93 ?_
          refine jx_iload C dX9_layPair_94 rfl ?_
          refine jx_iadd C dX9_layPair_96 ?_
          have J_109 : ∀ z : Int, z = P k → jX F G 9 0 0 (jE F G (jQv G (fun μ' => rng μ' ∧ (∀ x : Nat, (x : Int) < μ 83 a → μ' 86 (16 * (4 * a + b) + x) = P x) ∧ μ' 90 (4 * a + b) = mct P (μ 83 a).toNat ∧ (μ' 89 (4 * a + b), μ' 87 (4 * a + b), μ' 88 (4 * a + b)) = prf P SX SY (μ 83 a).toNat (0, μ 87 (4 * a + b), μ 88 (4 * a + b)) (μ 83 a).toNat ∧ (∀ c, c ≠ 86 → c ≠ 87 → c ≠ 88 → c ≠ 89 → c ≠ 90 → μ' c = μ c) ∧ (∀ x, ¬ x / 16 = 4 * a + b → μ' 86 x = μ 86 x) ∧ (∀ x, x ≠ 4 * a + b → μ' 87 x = μ 87 x ∧ μ' 88 x = μ 88 x ∧ μ' 89 x = μ 89 x ∧ μ' 90 x = μ 90 x)))) 109 [some (.inr (ad G 78)), some (.inl ai), some (.inl bi), some (.inl (4 * ai + bi)), some (.inl k4), some (.inl (nrs (msg μ b) (msg μ a k) (μ 83 b).toNat)), some (.inl is6), none, none] [.inl z, .inl (16 * (4 * ai + bi) + k4), .inr (ad G 86)] μa := by
            rintro _ rfl
            refine jx_iast C (jcl_86 G _) (jcl_86 G _) (by decide) (by omega) (by omega) (by decide) dX9_layPair_109 ?_
            obtain ⟨μ9, eμ9⟩ : ∃ y_ : Mem, y_ = jms μa 86 ((16 * (4 * ai + bi) + k4).toNat) (P k) := ⟨_, rfl⟩
            rw [← eμ9]
            have hR9 : rng μ9 := by rw [eμ9]; exact rs_86 hRa ((16 * (4 * ai + bi) + k4).toNat) (by omega) (by omega)
            refine jx_aload_n C dX9_layPair_110 rfl ?_
            refine jx_get (v := .inr (ad G 90)) C 16 ft_X9 (jcl_MO G _) rfl (by decide) (by decide) wf_X9_50 dX9_layPair_111 ?_
            refine jx_iload_n C dX9_layPair_114 rfl ?_
            refine jx_dup2 C dX9_layPair_115 ?_
            refine jx_iald C (jcl_90 G _) (by decide) (by omega) (by omega) (by decide) dX9_layPair_116 ?_
            have r_116 := rg_90 hR9 ((4 * ai + bi).toNat)
            have e_116 : μ9 90 (4 * ai + bi).toNat = mct P k := (by rw [eμ9, jms_cell _ _ _ _ (by omega), hab]; exact hca)
            rw [e_116] at r_116
            refine jx_top (b := mct P k) e_116 ?_
            have J_127 : ∀ z : Int, z = mct P (k + 1) - mct P k → jX F G 9 0 0 (jE F G (jQv G (fun μ' => rng μ' ∧ (∀ x : Nat, (x : Int) < μ 83 a → μ' 86 (16 * (4 * a + b) + x) = P x) ∧ μ' 90 (4 * a + b) = mct P (μ 83 a).toNat ∧ (μ' 89 (4 * a + b), μ' 87 (4 * a + b), μ' 88 (4 * a + b)) = prf P SX SY (μ 83 a).toNat (0, μ 87 (4 * a + b), μ 88 (4 * a + b)) (μ 83 a).toNat ∧ (∀ c, c ≠ 86 → c ≠ 87 → c ≠ 88 → c ≠ 89 → c ≠ 90 → μ' c = μ c) ∧ (∀ x, ¬ x / 16 = 4 * a + b → μ' 86 x = μ 86 x) ∧ (∀ x, x ≠ 4 * a + b → μ' 87 x = μ 87 x ∧ μ' 88 x = μ 88 x ∧ μ' 89 x = μ 89 x ∧ μ' 90 x = μ 90 x)))) 127 [some (.inr (ad G 78)), some (.inl ai), some (.inl bi), some (.inl (4 * ai + bi)), some (.inl k4), some (.inl (nrs (msg μ b) (msg μ a k) (μ 83 b).toNat)), some (.inl is6), none, none] [.inl z, .inl (mct P k), .inl (4 * ai + bi), .inr (ad G 90)] μ9 := by
              rintro _ rfl
              refine jx_iadd C dX9_layPair_127 ?_
              refine jx_top (b := mct P (k + 1)) (by omega) ?_
              refine jx_iast C (jcl_90 G _) (jcl_90 G _) (by decide) (by omega) (by omega) (by decide) dX9_layPair_128 ?_
              obtain ⟨μ10, eμ10⟩ : ∃ y_ : Mem, y_ = jms μ9 90 ((4 * ai + bi).toNat) (mct P (k + 1)) := ⟨_, rfl⟩
              rw [← eμ10]
              have hR10 : rng μ10 := by rw [eμ10]; exact rs_90 hR9 ((4 * ai + bi).toNat) (by omega) (by omega)
              refine jx_iinc (L' := [some (.inr (ad G 78)), some (.inl ai), some (.inl bi), some (.inl (4 * ai + bi)), some (.inl (k4 + 1)), some (.inl (nrs (msg μ b) (msg μ a k) (μ 83 b).toNat)), some (.inl is6), none, none]) C dX9_layPair_129 rfl (by decide) rfl ?_
              refine jx_goto C dX9_layPair_132 ?_
              refine jx_fewer (L' := [some (.inr (ad G 78)), some (.inl ai), some (.inl bi), some (.inl (4 * ai + bi)), some (.inl (k4 + 1)), none, none, none, none]) (fun i v h => ?_) ?_
              · exact jfew_ok (by simp [jfew]) h
              exact ih_23 (k + 1) (k4 + 1) μ10 hR10 (by omega) (by omega) (fun x hx => by
        rw [eμ10, jms_cell _ _ _ _ (by omega), eμ9, jms_arr]
        by_cases hxk : x = k
        · rw [if_pos (by omega), hxk]
        · rw [if_neg (by omega)]; exact hPa x (by omega)) (by rw [eμ10, jms_arr, if_pos (by omega)]) (by rw [eμ10, jms_cell _ _ _ _ (by omega), eμ9, jms_cell _ _ _ _ (by omega)]; exact hza) (fun c h1 h2 h3 => by rw [eμ10, jms_cell _ _ _ _ h3, eμ9, jms_cell _ _ _ _ h1]; exact hfa c h1 h2 h3) (fun x hx => by rw [eμ10, jms_cell _ _ _ _ (by omega), eμ9, jms_arr, if_neg (by omega)]; exact hga x hx) (fun x hx => ⟨by rw [eμ10, jms_cell _ _ _ _ (by omega), eμ9, jms_cell _ _ _ _ (by omega)]; exact (hha x hx).1, by rw [eμ10, jms_arr, if_neg (by omega), eμ9, jms_cell _ _ _ _ (by omega)]; exact (hha x hx).2⟩) (by omega)
            refine jx_iload C dX9_layPair_117 rfl ?_
            refine jx_if_eq C dX9_layPair_119 (by omega) (fun c_119 => ?_) (fun c_119 => ?_)
            · refine jx_iconst C dX9_layPair_126 ?_
              exact J_127 _ (by rw [mct]; first | (rw [if_pos (is6_0 his6 (by omega))]; omega) | (rw [if_neg (is6_1 his6 (by omega))]; omega))
            · refine jx_iconst C dX9_layPair_122 ?_
              refine jx_goto C dX9_layPair_123 ?_
              exact J_127 _ (by rw [mct]; first | (rw [if_pos (is6_0 his6 (by omega))]; omega) | (rw [if_neg (is6_1 his6 (by omega))]; omega))
          refine jx_iload C dX9_layPair_97 rfl ?_
          refine jx_if_eq C dX9_layPair_99 (by omega) (fun c_99 => ?_) (fun c_99 => ?_)
          · refine jx_bipush C dX9_layPair_107 (by decide +kernel) ?_
            exact J_109 _ (by first | exact (is6_0 his6 (by omega)).symm | (have hq2 := is6_1 his6 (by omega); rw [hPe] at hq2 ⊢; rw [ptn_val hq2]))
          · refine jx_iload C dX9_layPair_102 rfl ?_
            refine jx_goto C dX9_layPair_104 ?_
            exact J_109 _ (by first | exact (is6_0 his6 (by omega)).symm | (have hq2 := is6_1 his6 (by omega); rw [hPe] at hq2 ⊢; rw [ptn_val hq2]))
        refine jx_iload C dX9_layPair_44 rfl ?_
        refine jx_if_lt C dX9_layPair_46 (by omega) (fun c_46 => ?_) (fun c_46 => ?_)
        · refine jx_iconst C dX9_layPair_83 ?_
          exact J_84 _ (by first | rw [if_pos (by rw [hPe]; exact ptn_no (by omega))] | rw [if_neg (by rw [hPe]; exact ptn_yes (by omega) (by omega) (by omega))])
        · refine jx_aload_n C dX9_layPair_49 rfl ?_
          refine jx_iload_n C dX9_layPair_50 rfl ?_
          refine jx_iload C dX9_layPair_51 rfl ?_
          refine jx_iload_n C dX9_layPair_53 rfl ?_
          refine jx_cVi (as := [.inl bi, .inl (nrs (msg μ b) (msg μ a k) (μ 83 b).toNat), .inl ai]) (st := []) C Yy (c_X9_nearest l G μa b a (by omega) (by omega) bi (nrs (msg μ b) (msg μ a k) (μ 83 b).toNat) ai (by omega) (by omega) (by omega) hRa) yb_X9_nearest yv_X9_nearest wm_X9_125 (jcl_MO G _) rfl (by decide) rfl rfl (Nat.le_of_ble_eq_true rfl) ⟨⟨rfl, rfl, Nat.le_of_ble_eq_true rfl, Nat.le_of_ble_eq_true rfl⟩, Nat.zero_le _, Nat.zero_le _⟩ dX9_layPair_54 ?_
          rintro _ _ ⟨rfl, rfl⟩
          have r_54 := nrs_rng (msg μa a) (msg μa b (nrs (msg μ b) (msg μ a k) (μ 83 b).toNat).toNat) (μa 83 a).toNat
          have r2_54 := rg_83 hRa a
          refine jx_top (b := nrs (msg μ a) (msg μ b (nrs (msg μ b) (msg μ a k) (μ 83 b).toNat).toNat) (μ 83 a).toNat) (by rw [msg_fr q_s, msg_fr q_s, q_a]) ?_
          refine jx_iload C dX9_layPair_57 rfl ?_
          refine jx_icmp_ne C dX9_layPair_59 (by omega) (by omega) (fun c_59 => ?_) (fun c_59 => ?_)
          · refine jx_iconst C dX9_layPair_83 ?_
            exact J_84 _ (by first | rw [if_pos (by rw [hPe]; exact ptn_no (by omega))] | rw [if_neg (by rw [hPe]; exact ptn_yes (by omega) (by omega) (by omega))])
          · refine jx_aload_n C dX9_layPair_62 rfl ?_
            refine jx_iload_n C dX9_layPair_63 rfl ?_
            refine jx_iload C dX9_layPair_64 rfl ?_
            refine jx_iload_n C dX9_layPair_66 rfl ?_
            refine jx_iload C dX9_layPair_67 rfl ?_
            refine jx_cVi (as := [.inl ai, .inl k4, .inl bi, .inl (nrs (msg μ b) (msg μ a k) (μ 83 b).toNat)]) (st := []) C Yy (c_X9_distance l G μa a b (by omega) (by omega) ai k4 bi (nrs (msg μ b) (msg μ a k) (μ 83 b).toNat) (by omega) (by omega) (by omega) (by omega) hRa) yb_X9_distance yv_X9_distance wm_X9_121 (jcl_MO G _) rfl (by decide) rfl rfl (Nat.le_of_ble_eq_true rfl) ⟨⟨rfl, rfl, Nat.le_of_ble_eq_true rfl, Nat.le_of_ble_eq_true rfl⟩, Nat.zero_le _, Nat.zero_le _⟩ dX9_layPair_69 ?_
            rintro _ _ ⟨rfl, rfl⟩
            have r_69 := dst_rng (msg μa a k4.toNat) (msg μa b (nrs (msg μ b) (msg μ a k) (μ 83 b).toNat).toNat)
            refine jx_top (b := dst (msg μ a k) (msg μ b (nrs (msg μ b) (msg μ a k) (μ 83 b).toNat).toNat)) (by rw [msg_fr q_s, msg_fr q_s, ek]) ?_
            refine jx_aload_n C dX9_layPair_72 rfl ?_
            refine jx_get (v := .inl (μa 78 6)) C 6 ft_X9 (jcl_MO G _) rfl (by decide) (by decide) wf_X9_23 dX9_layPair_73 ?_
            have r_73 := rg_MO_6 hRa
            refine jx_icmp_gt C dX9_layPair_76 (by omega) (by omega) (fun c_76 => ?_) (fun c_76 => ?_)
            · refine jx_iconst C dX9_layPair_83 ?_
              exact J_84 _ (by first | rw [if_pos (by rw [hPe]; exact ptn_no (by omega))] | rw [if_neg (by rw [hPe]; exact ptn_yes (by omega) (by omega) (by omega))])
            · refine jx_iconst C dX9_layPair_79 ?_
              refine jx_goto C dX9_layPair_80 ?_
              exact J_84 _ (by first | rw [if_pos (by rw [hPe]; exact ptn_no (by omega))] | rw [if_neg (by rw [hPe]; exact ptn_yes (by omega) (by omega) (by omega))])
  exact LP_23 _ 0 0 μ2 hR2 rfl (by omega) (fun x hx => absurd hx (Nat.not_lt_zero _)) (by rw [eμ2, jms_cell _ _ _ _ (by omega), eμ1, jms_arr, if_pos (by omega)]; rfl) (by rw [eμ2, jms_arr, if_pos (by omega)]) (fun c h1 h2 h3 => by rw [eμ2, jms_cell _ _ _ _ h2, eμ1, jms_cell _ _ _ _ h3]) (fun x _ => by rw [eμ2, jms_cell _ _ _ _ (by omega), eμ1, jms_cell _ _ _ _ (by omega)]) (fun x hx => ⟨by rw [eμ2, jms_arr, if_neg (by omega), eμ1, jms_cell _ _ _ _ (by omega)], by rw [eμ2, jms_cell _ _ _ _ (by omega), eμ1, jms_arr, if_neg (by omega)]⟩) (Nat.lt_succ_self _)
