set_option maxHeartbeats 4000000 in
set_option maxRecDepth 100000 in
theorem c_X9_isPicture (l : Launch) (G : GT) (μ : Mem) (pi : Int) (hpi : InR pi) (hR : rng μ) : MI l yX9_isPicture cX9_isPicture 2 .boolean ({ frames := 1, cells := 0, slots := 0, locals := 22 } : Room) G [.inr (ad G 78), .inl pi] μ (rdc μ (0 ≤ pi ∧ pi < μ 78 1)) := by
  refine MI.of (by decide +kernel) (Nat.le_of_ble_eq_true rfl) ?_
  intro F C Yy
  show jX F G 2 0 0 (jE F G (jQi G (rdc μ (0 ≤ pi ∧ pi < μ 78 1)))) 0 [some (.inr (ad G 78)), some (.inl pi)] [] μ
  refine jx_iload_n C dX9_isPicture_0 rfl ?_
  refine jx_iconst C dX9_isPicture_1 ?_
  refine jx_aload_n C dX9_isPicture_2 rfl ?_
  refine jx_get (v := .inl (μ 78 1)) C 1 ft_X9 (jcl_MO G _) rfl (by decide) (by decide) wf_X9_68 dX9_isPicture_3 ?_
  have r_3 := rg_MO_1 hR
  refine jx_iconst C dX9_isPicture_6 ?_
  refine jx_isub C dX9_isPicture_7 ?_
  refine jx_cSi (as := [.inl pi, .inl 0, .inl (μ 78 1 - 1)]) (st := []) C Yy (c_X9_in l G μ pi 0 (μ 78 1 - 1) (by omega) (by omega) (by omega)) yb_X9_in ws_X9_in wm_X9_71 rfl rfl (Nat.le_of_ble_eq_true rfl) ⟨⟨rfl, rfl, Nat.le_of_ble_eq_true rfl, Nat.le_of_ble_eq_true rfl⟩, Nat.zero_le _, Nat.zero_le _⟩ dX9_isPicture_8 ?_
  rintro _ _ ⟨rfl, ⟨rfl, c_8⟩ | ⟨rfl, c_8⟩⟩
  · exact jx_zret C dX9_isPicture_11 (Or.inr rfl) ⟨rfl, Or.inl ⟨rfl, by omega⟩⟩
  · exact jx_zret C dX9_isPicture_11 (Or.inl rfl) ⟨rfl, Or.inr ⟨rfl, by omega⟩⟩
set_option maxHeartbeats 4000000 in
set_option maxRecDepth 100000 in
theorem c_X9_isDot (l : Launch) (G : GT) (μ : Mem) (pi i j : Int) (hpi : InR pi) (hi : InR i) (hj : InR j) (hR : rng μ) : MI l yX9_isDot cX9_isDot 4 .boolean ({ frames := 2, cells := 0, slots := 0, locals := 43 } : Room) G [.inr (ad G 78), .inl pi, .inl i, .inl j] μ (rdc μ ((0 ≤ pi ∧ pi < μ 78 1) ∧ (0 ≤ i ∧ i < μ 79 pi.toNat) ∧ 0 ≤ j ∧ j < μ 80 pi.toNat)) := by
  refine MI.of (by decide +kernel) (Nat.le_of_ble_eq_true rfl) ?_
  intro F C Yy
  show jX F G 4 0 0 (jE F G (jQi G (rdc μ ((0 ≤ pi ∧ pi < μ 78 1) ∧ (0 ≤ i ∧ i < μ 79 pi.toNat) ∧ 0 ≤ j ∧ j < μ 80 pi.toNat)))) 0 [some (.inr (ad G 78)), some (.inl pi), some (.inl i), some (.inl j)] [] μ
  have r_1 := rg_MO_1 hR
  refine jx_aload_n C dX9_isDot_0 rfl ?_
  refine jx_iload_n C dX9_isDot_1 rfl ?_
  refine jx_cVi (as := [.inl pi]) (st := []) C Yy (c_X9_isPicture l G μ pi (by omega) hR) yb_X9_isPicture yv_X9_isPicture wm_X9_90 (jcl_MO G _) rfl (by decide) rfl rfl (Nat.le_of_ble_eq_true rfl) ⟨⟨rfl, rfl, Nat.le_of_ble_eq_true rfl, Nat.le_of_ble_eq_true rfl⟩, Nat.zero_le _, Nat.zero_le _⟩ dX9_isDot_2 ?_
  rintro _ _ ⟨rfl, ⟨rfl, c_2⟩ | ⟨rfl, c_2⟩⟩
  · refine jx_if_eq C dX9_isDot_5 (by decide) (fun q => absurd q (by decide)) (fun _ => ?_)
    refine jx_iload_n C dX9_isDot_8 rfl ?_
    refine jx_iconst C dX9_isDot_9 ?_
    refine jx_aload_n C dX9_isDot_10 rfl ?_
    refine jx_get (v := .inr (ad G 79)) C 2 ft_X9 (jcl_MO G _) rfl (by decide) (by decide) wf_X9_7 dX9_isDot_11 ?_
    refine jx_iload_n C dX9_isDot_14 rfl ?_
    refine jx_iald C (jcl_79 G _) (by decide) (by omega) (by omega) (by decide) dX9_isDot_15 ?_
    have r_15 := rg_79 hR pi.toNat
    refine jx_iconst C dX9_isDot_16 ?_
    refine jx_isub C dX9_isDot_17 ?_
    refine jx_cSi (as := [.inl i, .inl 0, .inl (μ 79 pi.toNat - 1)]) (st := []) C Yy (c_X9_in l G μ i 0 (μ 79 pi.toNat - 1) (by omega) (by omega) (by omega)) yb_X9_in ws_X9_in wm_X9_71 rfl rfl (Nat.le_of_ble_eq_true rfl) ⟨⟨rfl, rfl, Nat.le_of_ble_eq_true rfl, Nat.le_of_ble_eq_true rfl⟩, Nat.zero_le _, Nat.zero_le _⟩ dX9_isDot_18 ?_
    rintro _ _ ⟨rfl, ⟨rfl, c_18⟩ | ⟨rfl, c_18⟩⟩
    · refine jx_if_eq C dX9_isDot_21 (by decide) (fun q => absurd q (by decide)) (fun _ => ?_)
      refine jx_iload_n C dX9_isDot_24 rfl ?_
      refine jx_iconst C dX9_isDot_25 ?_
      refine jx_aload_n C dX9_isDot_26 rfl ?_
      refine jx_get (v := .inr (ad G 80)) C 3 ft_X9 (jcl_MO G _) rfl (by decide) (by decide) wf_X9_13 dX9_isDot_27 ?_
      refine jx_iload_n C dX9_isDot_30 rfl ?_
      refine jx_iald C (jcl_80 G _) (by decide) (by omega) (by omega) (by decide) dX9_isDot_31 ?_
      have r_31 := rg_80 hR pi.toNat
      refine jx_iconst C dX9_isDot_32 ?_
      refine jx_isub C dX9_isDot_33 ?_
      refine jx_cSi (as := [.inl j, .inl 0, .inl (μ 80 pi.toNat - 1)]) (st := []) C Yy (c_X9_in l G μ j 0 (μ 80 pi.toNat - 1) (by omega) (by omega) (by omega)) yb_X9_in ws_X9_in wm_X9_71 rfl rfl (Nat.le_of_ble_eq_true rfl) ⟨⟨rfl, rfl, Nat.le_of_ble_eq_true rfl, Nat.le_of_ble_eq_true rfl⟩, Nat.zero_le _, Nat.zero_le _⟩ dX9_isDot_34 ?_
      rintro _ _ ⟨rfl, ⟨rfl, c_34⟩ | ⟨rfl, c_34⟩⟩
      · refine jx_if_eq C dX9_isDot_37 (by decide) (fun q => absurd q (by decide)) (fun _ => ?_)
        refine jx_iconst C dX9_isDot_40 ?_
        refine jx_goto C dX9_isDot_41 ?_
        exact jx_zret C dX9_isDot_45 (Or.inr rfl) ⟨rfl, Or.inl ⟨rfl, by omega⟩⟩
      · refine jx_if_eq C dX9_isDot_37 (by decide) (fun _ => ?_) (fun q => absurd q (by decide))
        refine jx_iconst C dX9_isDot_44 ?_
        exact jx_zret C dX9_isDot_45 (Or.inl rfl) ⟨rfl, Or.inr ⟨rfl, by omega⟩⟩
    · refine jx_if_eq C dX9_isDot_21 (by decide) (fun _ => ?_) (fun q => absurd q (by decide))
      refine jx_iconst C dX9_isDot_44 ?_
      exact jx_zret C dX9_isDot_45 (Or.inl rfl) ⟨rfl, Or.inr ⟨rfl, by omega⟩⟩
  · refine jx_if_eq C dX9_isDot_5 (by decide) (fun _ => ?_) (fun q => absurd q (by decide))
    refine jx_iconst C dX9_isDot_44 ?_
    exact jx_zret C dX9_isDot_45 (Or.inl rfl) ⟨rfl, Or.inr ⟨rfl, by omega⟩⟩
set_option maxHeartbeats 4000000 in
set_option maxRecDepth 100000 in
theorem c_X9_layPlaces (l : Launch) (G : GT) (μ : Mem) (c : Nat) (hc : μ 78 1 = (c : Int)) (hc4 : c ≤ 4) (V X Y : Nat → Int) (hV : ∀ t, t / 4 < c → t % 4 < c → ¬ t / 4 = t % 4 → μ 89 t = V t ∧ (0 < V t → μ 87 t = X t ∧ μ 88 t = Y t)) (hVr : ∀ t, 0 ≤ V t ∧ V t ≤ 16) (hXr : ∀ t, -20 ≤ X t ∧ X t ≤ 20 ∧ -20 ≤ Y t ∧ Y t ≤ 20) (hR : rng μ) : MV l yX9_layPlaces cX9_layPlaces 7 ({ frames := 0, cells := 0, slots := 0, locals := 0 } : Room) G [.inr (ad G 78)] μ (fun μ' => rng μ' ∧ JOm μ' c (jn c V X Y (c - 1)) ∧ (∀ k, k ≠ 78 → k ≠ 91 → k ≠ 92 → k ≠ 93 → k ≠ 94 → μ' k = μ k) ∧ (∀ j, j ≠ 17 → μ' 78 j = μ 78 j)) := by
  refine MV.of (by decide +kernel) (Nat.le_of_ble_eq_true rfl) ?_
  intro F C Yy
  show jX F G 7 0 0 (jE F G (jQv G (fun μ' => rng μ' ∧ JOm μ' c (jn c V X Y (c - 1)) ∧ (∀ k, k ≠ 78 → k ≠ 91 → k ≠ 92 → k ≠ 93 → k ≠ 94 → μ' k = μ k) ∧ (∀ j, j ≠ 17 → μ' 78 j = μ 78 j)))) 0 [some (.inr (ad G 78)), none, none, none, none, none, none] [] μ
  refine jx_aload_n C dX9_layPlaces_0 rfl ?_
  refine jx_iconst C dX9_layPlaces_1 ?_
  refine jx_put C 17 ft_X9 (jcl_MO G _) ((jcl_MO G _).trans rfl) (by decide) (by decide) rfl (Or.inl rfl) (by simp) wf_X9_137 dX9_layPlaces_2 ?_
  obtain ⟨μ1, eμ1⟩ : ∃ y_ : Mem, y_ = jms μ 78 17 0 := ⟨_, rfl⟩
  rw [← eμ1]
  have hR1 : rng μ1 := by rw [eμ1]; exact rs_MO_17 hR (by omega) (by omega)
  refine jx_iconst C dX9_layPlaces_5 ?_
  refine jx_istore_n (L' := [some (.inr (ad G 78)), some (.inl 0), none, none, none, none, none]) C dX9_layPlaces_6 (by decide) rfl ?_
  have LP_7 : ∀ (n : Nat) (p : Nat) (p1 : Int) (μa : Mem), (rng μa) → (p1 = (p : Int)) → (p ≤ c) → (∀ x, x < p → μa 94 x = -6 ∧ μa 93 x = -6) → (μa 78 17 = 0) → (∀ k, k ≠ 78 → k ≠ 91 → k ≠ 92 → k ≠ 93 → k ≠ 94 → μa k = μ k) → (∀ j, j ≠ 17 → μa 78 j = μ 78 j) → 5 - p < n → jX F G 7 0 0 (jE F G (jQv G (fun μ' => rng μ' ∧ JOm μ' c (jn c V X Y (c - 1)) ∧ (∀ k, k ≠ 78 → k ≠ 91 → k ≠ 92 → k ≠ 93 → k ≠ 94 → μ' k = μ k) ∧ (∀ j, j ≠ 17 → μ' 78 j = μ 78 j)))) 7 [some (.inr (ad G 78)), some (.inl p1), none, none, none, none, none] [] μa := by
    intro n
    induction n with
    | zero =>
      intro p p1 μa hRa hp1 hpc hoa hz hfa hga hms
      exact absurd hms (Nat.not_lt_zero _)
    | succ n ih =>
      intro p p1 μa hRa hp1 hpc hoa hz hfa hga hms
      have ih_7 := ih
      clear ih
      have q_c : μa 78 1 = (c : Int) := by rw [hga 1 (by decide)]; exact hc
      refine jx_iload_n C dX9_layPlaces_7 rfl ?_
      refine jx_aload_n C dX9_layPlaces_8 rfl ?_
      refine jx_get (v := .inl (μa 78 1)) C 1 ft_X9 (jcl_MO G _) rfl (by decide) (by decide) wf_X9_68 dX9_layPlaces_9 ?_
      have r_9 := rg_MO_1 hRa
      refine jx_icmp_ge C dX9_layPlaces_12 (by omega) (by omega) (fun c_12 => ?_) (fun c_12 => ?_)
      · have CUT_70 : ∀ (μx : Mem), (rng μx) → (JOm μx c (jnil c)) → (∀ k, k ≠ 78 → k ≠ 91 → k ≠ 92 → k ≠ 93 → k ≠ 94 → μx k = μ k) → (∀ j, j ≠ 17 → μx 78 j = μ 78 j) → jX F G 7 0 0 (jE F G (jQv G (fun μ' => rng μ' ∧ JOm μ' c (jn c V X Y (c - 1)) ∧ (∀ k, k ≠ 78 → k ≠ 91 → k ≠ 92 → k ≠ 93 → k ≠ 94 → μ' k = μ k) ∧ (∀ j, j ≠ 17 → μ' 78 j = μ 78 j)))) 70 [some (.inr (ad G 78)), none, none, none, none, none, none] [] μx := by
          intro μx hRx hJx hfx hgx
          refine jx_iconst C dX9_layPlaces_70 ?_
          refine jx_istore_n (L' := [some (.inr (ad G 78)), some (.inl 1), none, none, none, none, none]) C dX9_layPlaces_71 (by decide) rfl ?_
          have LP_72 : ∀ (n : Nat) (k : Nat) (more : Int) (μb : Mem), (rng μb) → (more = 0 ∨ more = 1) → (more = 0 → bst c (jn c V X Y k).2.1 V = -6) → (k ≤ c - 1) → ((jn c V X Y k).1 = if c = 0 then 0 else k + 1) → (JOm μb c (jn c V X Y k)) → (∀ k, k ≠ 78 → k ≠ 91 → k ≠ 92 → k ≠ 93 → k ≠ 94 → μb k = μ k) → (∀ j, j ≠ 17 → μb 78 j = μ 78 j) → 2 * (c - k) + more.toNat < n → jX F G 7 0 0 (jE F G (jQv G (fun μ' => rng μ' ∧ JOm μ' c (jn c V X Y (c - 1)) ∧ (∀ k, k ≠ 78 → k ≠ 91 → k ≠ 92 → k ≠ 93 → k ≠ 94 → μ' k = μ k) ∧ (∀ j, j ≠ 17 → μ' 78 j = μ 78 j)))) 72 [some (.inr (ad G 78)), some (.inl more), none, none, none, none, none] [] μb := by
            intro n
            induction n with
            | zero =>
              intro k more μb hRb hmo hm0 hk hk1 hJb hfb hgb hms
              exact absurd hms (Nat.not_lt_zero _)
            | succ n ih =>
              intro k more μb hRb hmo hm0 hk hk1 hJb hfb hgb hms
              have ih_72 := ih
              clear ih
              have q_c : μb 78 1 = (c : Int) := by rw [hgb 1 (by decide)]; exact hc
              obtain ⟨rk, hrk⟩ : ∃ rk, rk = (jn c V X Y k).2.1 := ⟨_, rfl⟩
              have hinv : jinv c (jn c V X Y k) := jn_inv hc4 (fun t _ _ _ => hXr t) k
              have hra : ∀ p, p < c → μb 94 p = rk p ∧ (rk p = -6 ∨ 0 ≤ rk p) := fun p hp => ⟨by rw [(hJb.2 p hp).1, hrk], by have h9 := hinv.2.1 p hp; rw [← hrk] at h9; omega⟩
              have hvv : ∀ t, t / 4 < c → t % 4 < c → ¬ t / 4 = t % 4 → μb 89 t = V t := fun t h1 h2 h3 => by rw [hfb 89 (by omega) (by omega) (by omega) (by omega) (by omega)]; exact (hV t h1 h2 h3).1
              refine jx_iload_n C dX9_layPlaces_72 rfl ?_
              refine jx_if_eq C dX9_layPlaces_73 (by omega) (fun c_73 => ?_) (fun c_73 => ?_)
              · exact jx_vret C dX9_layPlaces_290 ⟨hRb, by rw [show c - 1 = k + (c - 1 - k) by omega, jn_fix (hm0 (by omega))]; exact hJb, hfb, hgb⟩
              · refine jx_bipush C dX9_layPlaces_76 (by decide +kernel) ?_
                refine jx_istore_n (L' := [some (.inr (ad G 78)), some (.inl more), some (.inl (-6)), none, none, none, none]) C dX9_layPlaces_78 (by decide) rfl ?_
                refine jx_iconst C dX9_layPlaces_79 ?_
                refine jx_istore_n (L' := [some (.inr (ad G 78)), some (.inl more), some (.inl (-6)), some (.inl 0), none, none, none]) C dX9_layPlaces_80 (by decide) rfl ?_
                have LP_81 : ∀ (n : Nat) (a : Nat) (a3 : Int) (best : Int), (a3 = (a : Int)) → (a ≤ c) → (best = (bsf c rk V (4 * a)).1) → 5 - a < n → jX F G 7 0 0 (jE F G (jQv G (fun μ' => rng μ' ∧ JOm μ' c (jn c V X Y (c - 1)) ∧ (∀ k, k ≠ 78 → k ≠ 91 → k ≠ 92 → k ≠ 93 → k ≠ 94 → μ' k = μ k) ∧ (∀ j, j ≠ 17 → μ' 78 j = μ 78 j)))) 81 [some (.inr (ad G 78)), some (.inl more), some (.inl best), some (.inl a3), none, none, none] [] μb := by
                  intro n
                  induction n with
                  | zero =>
                    intro a a3 best ha3 hac hb1 hms
                    exact absurd hms (Nat.not_lt_zero _)
                  | succ n ih =>
                    intro a a3 best ha3 hac hb1 hms
                    have ih_81 := ih
                    clear ih
                    refine jx_iload_n C dX9_layPlaces_81 rfl ?_
                    refine jx_aload_n C dX9_layPlaces_82 rfl ?_
                    refine jx_get (v := .inl (μb 78 1)) C 1 ft_X9 (jcl_MO G _) rfl (by decide) (by decide) wf_X9_68 dX9_layPlaces_83 ?_
                    have r_83 := rg_MO_1 hRb
                    refine jx_icmp_ge C dX9_layPlaces_86 (by omega) (by omega) (fun c_86 => ?_) (fun c_86 => ?_)
                    · have hbst : bst c rk V = best := by rw [bsf_end (a := a) (by omega) (by omega)]; exact hb1.symm
                      have hbr := bst_rng (c := c) (rk := rk) (V := V)
                      refine jx_iload_n C dX9_layPlaces_195 rfl ?_
                      refine jx_if_lt C dX9_layPlaces_196 (by omega) (fun c_196 => ?_) (fun c_196 => ?_)
                      · refine jx_iconst C dX9_layPlaces_203 ?_
                        refine jx_istore_n (L' := [some (.inr (ad G 78)), some (.inl 0), some (.inl best), some (.inl a3), none, none, none]) C dX9_layPlaces_204 (by decide) rfl ?_
                        refine jx_iload_n C dX9_layPlaces_205 rfl ?_
                        refine jx_if_eq C dX9_layPlaces_206 (by decide) (fun _ => ?_) (fun q => absurd q (by decide))
                        refine jx_goto C dX9_layPlaces_287 ?_
                        refine jx_fewer (L' := [some (.inr (ad G 78)), some (.inl 0), none, none, none, none, none]) (fun i v h => ?_) ?_
                        · exact jfew_ok (by simp [jfew]) h
                        exact ih_72 k 0 μb hRb (Or.inl rfl) (fun _ => by rw [← hrk]; omega) hk hk1 hJb hfb hgb (by omega)
                      · refine jx_iconst C dX9_layPlaces_199 ?_
                        refine jx_goto C dX9_layPlaces_200 ?_
                        refine jx_istore_n (L' := [some (.inr (ad G 78)), some (.inl 1), some (.inl best), some (.inl a3), none, none, none]) C dX9_layPlaces_204 (by decide) rfl ?_
                        refine jx_iload_n C dX9_layPlaces_205 rfl ?_
                        refine jx_if_eq C dX9_layPlaces_206 (by decide) (fun q => absurd q (by decide)) (fun _ => ?_)
                        have hlt : ∃ t : Nat, best = (t : Int) := ⟨best.toNat, by omega⟩
                        obtain ⟨t, ht⟩ := hlt
                        rw [hbst, ht, Int.toNat_natCast] at hbr
                        have htt : best.toNat = t := by omega
                        have hne4 : ¬ t / 4 = t % 4 := by intro e; rw [e] at hbr; omega
                        have hVt := hV t (by omega) (by omega) hne4
                        have hJa := (hJb.2 (t / 4) (by omega)).2 (by rw [← hrk]; omega)
                        have hia := (hinv.2.1 (t / 4) (by omega))
                        rw [← hrk] at hia
                        have hup := unj_pos hc4 (rk := rk) (b := t % 4) (by omega) (by omega)
                        have hXt := hXr t
                        have hn17 := hJb.1
                        have hi1 := hinv.1
                        rw [← hrk] at hi1
                        have hk2 : (jn c V X Y k).1 = k + 1 := by rw [hk1, if_neg (by omega)]
                        refine jx_iload_n C dX9_layPlaces_209 rfl ?_
                        refine jx_iconst C dX9_layPlaces_210 ?_
                        refine jx_idiv (z := best / 4) C dX9_layPlaces_211 (by omega) (by decide) (by decide) (jtd (by omega)) ?_
                        refine jx_top (b := ((t / 4 : Nat) : Int)) (by omega) ?_
                        refine jx_istore_n (L' := [some (.inr (ad G 78)), some (.inl 1), some (.inl best), some (.inl ((t / 4 : Nat) : Int)), none, none, none]) C dX9_layPlaces_212 (by decide) rfl ?_
                        refine jx_iload_n C dX9_layPlaces_213 rfl ?_
                        refine jx_iconst C dX9_layPlaces_214 ?_
                        refine jx_irem (z := best % 4) C dX9_layPlaces_215 (by omega) (by decide) (by decide) (jtm (by omega)) ?_
                        refine jx_top (b := ((t % 4 : Nat) : Int)) (by omega) ?_
                        refine jx_istore (L' := [some (.inr (ad G 78)), some (.inl 1), some (.inl best), some (.inl ((t / 4 : Nat) : Int)), some (.inl ((t % 4 : Nat) : Int)), none, none]) C dX9_layPlaces_216 (by decide) rfl ?_
                        refine jx_aload_n C dX9_layPlaces_218 rfl ?_
                        refine jx_get (v := .inr (ad G 91)) C 18 ft_X9 (jcl_MO G _) rfl (by decide) (by decide) wf_X9_53 dX9_layPlaces_219 ?_
                        refine jx_iload C dX9_layPlaces_222 rfl ?_
                        refine jx_aload_n C dX9_layPlaces_224 rfl ?_
                        refine jx_get (v := .inr (ad G 91)) C 18 ft_X9 (jcl_MO G _) rfl (by decide) (by decide) wf_X9_53 dX9_layPlaces_225 ?_
                        refine jx_iload_n C dX9_layPlaces_228 rfl ?_
                        refine jx_iald C (jcl_91 G _) (by decide) (by omega) (by omega) (by decide) dX9_layPlaces_229 ?_
                        have r_229 := rg_91 hRb (((t / 4 : Nat) : Int).toNat)
                        have e_229 : μb 91 ((t / 4 : Nat) : Int).toNat = (jn c V X Y k).2.2.1 (t / 4) := (by rw [Int.toNat_natCast]; exact hJa.1)
                        rw [e_229] at r_229
                        refine jx_top (b := (jn c V X Y k).2.2.1 (t / 4)) e_229 ?_
                        refine jx_aload_n C dX9_layPlaces_230 rfl ?_
                        refine jx_get (v := .inr (ad G 87)) C 13 ft_X9 (jcl_MO G _) rfl (by decide) (by decide) wf_X9_41 dX9_layPlaces_231 ?_
                        refine jx_iload_n C dX9_layPlaces_234 rfl ?_
                        refine jx_iald C (jcl_87 G _) (by decide) (by omega) (by omega) (by decide) dX9_layPlaces_235 ?_
                        have r_235 := rg_87 hRb best.toNat
                        have e_235 : μb 87 best.toNat = X t := (by rw [htt, hfb 87 (by omega) (by omega) (by omega) (by omega) (by omega)]; exact (hVt.2 (by omega)).1)
                        rw [e_235] at r_235
                        refine jx_top (b := X t) e_235 ?_
                        refine jx_iadd C dX9_layPlaces_236 ?_
                        refine jx_iast C (jcl_91 G _) (jcl_91 G _) (by decide) (by omega) (by omega) (by decide) dX9_layPlaces_237 ?_
                        obtain ⟨μ2, eμ2⟩ : ∃ y_ : Mem, y_ = jms μb 91 (((t % 4 : Nat) : Int).toNat) ((jn c V X Y k).2.2.1 (t / 4) + X t) := ⟨_, rfl⟩
                        rw [← eμ2]
                        have hR2 : rng μ2 := by rw [eμ2]; exact rs_91 hRb (((t % 4 : Nat) : Int).toNat) (by omega) (by omega)
                        refine jx_aload_n C dX9_layPlaces_238 rfl ?_
                        refine jx_get (v := .inr (ad G 92)) C 19 ft_X9 (jcl_MO G _) rfl (by decide) (by decide) wf_X9_56 dX9_layPlaces_239 ?_
                        refine jx_iload C dX9_layPlaces_242 rfl ?_
                        refine jx_aload_n C dX9_layPlaces_244 rfl ?_
                        refine jx_get (v := .inr (ad G 92)) C 19 ft_X9 (jcl_MO G _) rfl (by decide) (by decide) wf_X9_56 dX9_layPlaces_245 ?_
                        refine jx_iload_n C dX9_layPlaces_248 rfl ?_
                        refine jx_iald C (jcl_92 G _) (by decide) (by omega) (by omega) (by decide) dX9_layPlaces_249 ?_
                        have r_249 := rg_92 hR2 (((t / 4 : Nat) : Int).toNat)
                        have e_249 : μ2 92 ((t / 4 : Nat) : Int).toNat = (jn c V X Y k).2.2.2.1 (t / 4) := by rw [eμ2, jms_cell _ _ _ _ (by omega)]; exact (by rw [Int.toNat_natCast]; exact hJa.2.1)
                        rw [e_249] at r_249
                        refine jx_top (b := (jn c V X Y k).2.2.2.1 (t / 4)) e_249 ?_
                        refine jx_aload_n C dX9_layPlaces_250 rfl ?_
                        refine jx_get (v := .inr (ad G 88)) C 14 ft_X9 (jcl_MO G _) rfl (by decide) (by decide) wf_X9_44 dX9_layPlaces_251 ?_
                        refine jx_iload_n C dX9_layPlaces_254 rfl ?_
                        refine jx_iald C (jcl_88 G _) (by decide) (by omega) (by omega) (by decide) dX9_layPlaces_255 ?_
                        have r_255 := rg_88 hR2 best.toNat
                        have e_255 : μ2 88 best.toNat = Y t := by rw [eμ2, jms_cell _ _ _ _ (by omega)]; exact (by rw [htt, hfb 88 (by omega) (by omega) (by omega) (by omega) (by omega)]; exact (hVt.2 (by omega)).2)
                        rw [e_255] at r_255
                        refine jx_top (b := Y t) e_255 ?_
                        refine jx_iadd C dX9_layPlaces_256 ?_
                        refine jx_iast C (jcl_92 G _) (jcl_92 G _) (by decide) (by omega) (by omega) (by decide) dX9_layPlaces_257 ?_
                        obtain ⟨μ3, eμ3⟩ : ∃ y_ : Mem, y_ = jms μ2 92 (((t % 4 : Nat) : Int).toNat) ((jn c V X Y k).2.2.2.1 (t / 4) + Y t) := ⟨_, rfl⟩
                        rw [← eμ3]
                        have hR3 : rng μ3 := by rw [eμ3]; exact rs_92 hR2 (((t % 4 : Nat) : Int).toNat) (by omega) (by omega)
                        refine jx_aload_n C dX9_layPlaces_258 rfl ?_
                        refine jx_get (v := .inr (ad G 93)) C 20 ft_X9 (jcl_MO G _) rfl (by decide) (by decide) wf_X9_59 dX9_layPlaces_259 ?_
                        refine jx_iload C dX9_layPlaces_262 rfl ?_
                        refine jx_iload_n C dX9_layPlaces_264 rfl ?_
                        refine jx_iast C (jcl_93 G _) (jcl_93 G _) (by decide) (by omega) (by omega) (by decide) dX9_layPlaces_265 ?_
                        obtain ⟨μ4, eμ4⟩ : ∃ y_ : Mem, y_ = jms μ3 93 (((t % 4 : Nat) : Int).toNat) ((t / 4 : Nat) : Int) := ⟨_, rfl⟩
                        rw [← eμ4]
                        have hR4 : rng μ4 := by rw [eμ4]; exact rs_93 hR3 (((t % 4 : Nat) : Int).toNat) (by omega) (by omega)
                        refine jx_aload_n C dX9_layPlaces_266 rfl ?_
                        refine jx_get (v := .inr (ad G 94)) C 21 ft_X9 (jcl_MO G _) rfl (by decide) (by decide) wf_X9_62 dX9_layPlaces_267 ?_
                        refine jx_iload C dX9_layPlaces_270 rfl ?_
                        refine jx_aload_n C dX9_layPlaces_272 rfl ?_
                        refine jx_get (v := .inl (μ4 78 17)) C 17 ft_X9 (jcl_MO G _) rfl (by decide) (by decide) wf_X9_137 dX9_layPlaces_273 ?_
                        have r_273 := rg_MO_17 hR4
                        have e_273 : μ4 78 17 = ((jn c V X Y k).1 : Int) := by rw [eμ4, jms_cell _ _ _ _ (by omega), eμ3, jms_cell _ _ _ _ (by omega), eμ2, jms_cell _ _ _ _ (by omega)]; exact hn17
                        rw [e_273] at r_273
                        refine jx_top (b := ((jn c V X Y k).1 : Int)) e_273 ?_
                        refine jx_iast C (jcl_94 G _) (jcl_94 G _) (by decide) (by omega) (by omega) (by decide) dX9_layPlaces_276 ?_
                        obtain ⟨μ5, eμ5⟩ : ∃ y_ : Mem, y_ = jms μ4 94 (((t % 4 : Nat) : Int).toNat) ((jn c V X Y k).1 : Int) := ⟨_, rfl⟩
                        rw [← eμ5]
                        have hR5 : rng μ5 := by rw [eμ5]; exact rs_94 hR4 (((t % 4 : Nat) : Int).toNat) (by omega) (by omega)
                        refine jx_aload_n C dX9_layPlaces_277 rfl ?_
                        refine jx_dup C dX9_layPlaces_278 ?_
                        refine jx_get (v := .inl (μ5 78 17)) C 17 ft_X9 (jcl_MO G _) rfl (by decide) (by decide) wf_X9_137 dX9_layPlaces_279 ?_
                        have r_279 := rg_MO_17 hR5
                        have e_279 : μ5 78 17 = ((jn c V X Y k).1 : Int) := by rw [eμ5, jms_cell _ _ _ _ (by omega), eμ4, jms_cell _ _ _ _ (by omega), eμ3, jms_cell _ _ _ _ (by omega), eμ2, jms_cell _ _ _ _ (by omega)]; exact hn17
                        rw [e_279] at r_279
                        refine jx_top (b := ((jn c V X Y k).1 : Int)) e_279 ?_
                        refine jx_iconst C dX9_layPlaces_282 ?_
                        refine jx_iadd C dX9_layPlaces_283 ?_
                        refine jx_put C 17 ft_X9 (jcl_MO G _) ((jcl_MO G _).trans rfl) (by decide) (by decide) rfl (Or.inl rfl) (by simp) wf_X9_137 dX9_layPlaces_284 ?_
                        obtain ⟨μ6, eμ6⟩ : ∃ y_ : Mem, y_ = jms μ5 78 17 (((jn c V X Y k).1 : Int) + 1) := ⟨_, rfl⟩
                        rw [← eμ6]
                        have hR6 : rng μ6 := by rw [eμ6]; exact rs_MO_17 hR5 (by omega) (by omega)
                        refine jx_goto C dX9_layPlaces_287 ?_
                        refine jx_fewer (L' := [some (.inr (ad G 78)), some (.inl 1), none, none, none, none, none]) (fun i v h => ?_) ?_
                        · exact jfew_ok (by simp [jfew]) h
                        exact ih_72 (k + 1) 1 μ6 hR6 (Or.inr rfl) (fun h => by omega) (by omega) (by rw [jn_put (t := t) (by rw [← hrk]; omega)]; show (jn c V X Y k).1 + 1 = _; rw [hk2, if_neg (by omega)]) (by rw [jn_put (t := t) (by rw [← hrk]; omega), eμ6, eμ5, eμ4, eμ3, eμ2]; exact JOm_put hJb _ _ _) (fun k h0 h1 h2 h3 h4 => by rw [eμ6, jms_cell _ _ _ _ h0, eμ5, jms_cell _ _ _ _ h4, eμ4, jms_cell _ _ _ _ h3, eμ3, jms_cell _ _ _ _ h2, eμ2, jms_cell _ _ _ _ h1]; exact hfb k h0 h1 h2 h3 h4) (fun j hj => by rw [eμ6, jms_slot _ _ _ _ hj, eμ5, jms_cell _ _ _ _ (by omega), eμ4, jms_cell _ _ _ _ (by omega), eμ3, jms_cell _ _ _ _ (by omega), eμ2, jms_cell _ _ _ _ (by omega)]; exact hgb j hj) (by omega)
                    · refine jx_iconst C dX9_layPlaces_89 ?_
                      refine jx_istore (L' := [some (.inr (ad G 78)), some (.inl more), some (.inl best), some (.inl a3), some (.inl 0), none, none]) C dX9_layPlaces_90 (by decide) rfl ?_
                      have LP_92 : ∀ (n : Nat) (b : Nat) (b4 : Int) (bes2 : Int), (b4 = (b : Int)) → (b ≤ c) → (bes2 = (bsf c rk V (4 * a + b)).1) → 5 - b < n → jX F G 7 0 0 (jE F G (jQv G (fun μ' => rng μ' ∧ JOm μ' c (jn c V X Y (c - 1)) ∧ (∀ k, k ≠ 78 → k ≠ 91 → k ≠ 92 → k ≠ 93 → k ≠ 94 → μ' k = μ k) ∧ (∀ j, j ≠ 17 → μ' 78 j = μ 78 j)))) 92 [some (.inr (ad G 78)), some (.inl more), some (.inl bes2), some (.inl a3), some (.inl b4), none, none] [] μb := by
                        intro n
                        induction n with
                        | zero =>
                          intro b b4 bes2 hb4 hbc hb2 hms
                          exact absurd hms (Nat.not_lt_zero _)
                        | succ n ih =>
                          intro b b4 bes2 hb4 hbc hb2 hms
                          have ih_92 := ih
                          clear ih
                          have hok := bsf_ok (c := c) (rk := rk) (V := V) (4 * a + b)
                          have hvr2 := hVr (4 * a + b)
                          have hvr3 := hVr (bsf c rk V (4 * a + b)).1.toNat
                          have hneq : ¬ (a = b ∧ ¬ rk a = -6 ∧ rk b = -6) := by rintro ⟨e, h1, h2⟩; rw [e] at h1; exact h1 h2
                          refine jx_iload C dX9_layPlaces_92 rfl ?_
                          refine jx_aload_n C dX9_layPlaces_94 rfl ?_
                          refine jx_get (v := .inl (μb 78 1)) C 1 ft_X9 (jcl_MO G _) rfl (by decide) (by decide) wf_X9_68 dX9_layPlaces_95 ?_
                          have r_95 := rg_MO_1 hRb
                          refine jx_icmp_ge C dX9_layPlaces_98 (by omega) (by omega) (fun c_98 => ?_) (fun c_98 => ?_)
                          · refine jx_iinc (L' := [some (.inr (ad G 78)), some (.inl more), some (.inl bes2), some (.inl (a3 + 1)), some (.inl b4), none, none]) C dX9_layPlaces_189 rfl (by decide) rfl ?_
                            refine jx_goto C dX9_layPlaces_192 ?_
                            refine jx_fewer (L' := [some (.inr (ad G 78)), some (.inl more), some (.inl bes2), some (.inl (a3 + 1)), none, none, none]) (fun i v h => ?_) ?_
                            · exact jfew_ok (by simp [jfew]) h
                            exact ih_81 (a + 1) (a3 + 1) bes2 (by omega) (by omega) (by rw [bsf_row (b := b) (by omega) (by omega)]; exact hb2) (by omega)
                          · refine jx_iconst C dX9_layPlaces_101 ?_
                            refine jx_iload_n C dX9_layPlaces_102 rfl ?_
                            refine jx_imul C dX9_layPlaces_103 ?_
                            refine jx_iload C dX9_layPlaces_104 rfl ?_
                            refine jx_iadd C dX9_layPlaces_106 ?_
                            refine jx_istore (L' := [some (.inr (ad G 78)), some (.inl more), some (.inl bes2), some (.inl a3), some (.inl b4), some (.inl (4 * a3 + b4)), none]) C dX9_layPlaces_107 (by decide) rfl ?_
                            have J_149 : ∀ z : Int, z = (if (¬ rk a = -6 ∧ rk b = -6 ∧ 0 < V (4 * a + b)) then 1 else 0) → jX F G 7 0 0 (jE F G (jQv G (fun μ' => rng μ' ∧ JOm μ' c (jn c V X Y (c - 1)) ∧ (∀ k, k ≠ 78 → k ≠ 91 → k ≠ 92 → k ≠ 93 → k ≠ 94 → μ' k = μ k) ∧ (∀ j, j ≠ 17 → μ' 78 j = μ 78 j)))) 149 [some (.inr (ad G 78)), some (.inl more), some (.inl bes2), some (.inl a3), some (.inl b4), some (.inl (4 * a3 + b4)), none] [.inl z] μb := by
                              intro can6 hcan
                              refine jx_istore (L' := [some (.inr (ad G 78)), some (.inl more), some (.inl bes2), some (.inl a3), some (.inl b4), some (.inl (4 * a3 + b4)), some (.inl can6)]) C dX9_layPlaces_149 (by decide) rfl ?_
                              refine jx_iload C dX9_layPlaces_151 rfl ?_
                              refine jx_if_eq C dX9_layPlaces_153 (by omega) (fun c_153 => ?_) (fun c_153 => ?_)
                              · refine jx_iload_n C dX9_layPlaces_181 rfl ?_
                                refine jx_istore_n (L' := [some (.inr (ad G 78)), some (.inl more), some (.inl bes2), some (.inl a3), some (.inl b4), some (.inl (4 * a3 + b4)), some (.inl can6)]) C dX9_layPlaces_182 (by decide) rfl ?_
                                refine jx_iinc (L' := [some (.inr (ad G 78)), some (.inl more), some (.inl bes2), some (.inl a3), some (.inl (b4 + 1)), some (.inl (4 * a3 + b4)), some (.inl can6)]) C dX9_layPlaces_183 rfl (by decide) rfl ?_
                                refine jx_goto C dX9_layPlaces_186 ?_
                                refine jx_fewer (L' := [some (.inr (ad G 78)), some (.inl more), some (.inl bes2), some (.inl a3), some (.inl (b4 + 1)), none, none]) (fun i v h => ?_) ?_
                                · exact jfew_ok (by simp [jfew]) h
                                exact ih_92 (b + 1) (b4 + 1) bes2 (by omega) (by omega) (by rw [bsf_no (by omega) (fun g => by omega)]; exact hb2) (by omega)
                              · have hcn := ite_1 hcan (by omega)
                                refine jx_iload_n C dX9_layPlaces_156 rfl ?_
                                refine jx_if_lt C dX9_layPlaces_157 (by omega) (fun c_157 => ?_) (fun c_157 => ?_)
                                · refine jx_iload C dX9_layPlaces_176 rfl ?_
                                  refine jx_goto C dX9_layPlaces_178 ?_
                                  refine jx_istore_n (L' := [some (.inr (ad G 78)), some (.inl more), some (.inl (4 * a3 + b4)), some (.inl a3), some (.inl b4), some (.inl (4 * a3 + b4)), some (.inl can6)]) C dX9_layPlaces_182 (by decide) rfl ?_
                                  refine jx_iinc (L' := [some (.inr (ad G 78)), some (.inl more), some (.inl (4 * a3 + b4)), some (.inl a3), some (.inl (b4 + 1)), some (.inl (4 * a3 + b4)), some (.inl can6)]) C dX9_layPlaces_183 rfl (by decide) rfl ?_
                                  refine jx_goto C dX9_layPlaces_186 ?_
                                  refine jx_fewer (L' := [some (.inr (ad G 78)), some (.inl more), some (.inl (4 * a3 + b4)), some (.inl a3), some (.inl (b4 + 1)), none, none]) (fun i v h => ?_) ?_
                                  · exact jfew_ok (by simp [jfew]) h
                                  exact ih_92 (b + 1) (b4 + 1) (4 * a3 + b4) (by omega) (by omega) (by rw [bsf_yes (by omega) (by omega) (by omega) (by omega) (by omega) (by omega)]; dsimp only; omega) (by omega)
                                · refine jx_aload_n C dX9_layPlaces_160 rfl ?_
                                  refine jx_get (v := .inr (ad G 89)) C 15 ft_X9 (jcl_MO G _) rfl (by decide) (by decide) wf_X9_47 dX9_layPlaces_161 ?_
                                  refine jx_iload C dX9_layPlaces_164 rfl ?_
                                  refine jx_iald C (jcl_89 G _) (by decide) (by omega) (by omega) (by decide) dX9_layPlaces_166 ?_
                                  have r_166 := rg_89 hRb ((4 * a3 + b4).toNat)
                                  have e_166 : μb 89 (4 * a3 + b4).toNat = V (4 * a + b) := (by rw [show (4 * a3 + b4).toNat = 4 * a + b by omega]; exact hvv _ (by omega) (by omega) (by omega))
                                  rw [e_166] at r_166
                                  refine jx_top (b := V (4 * a + b)) e_166 ?_
                                  refine jx_aload_n C dX9_layPlaces_167 rfl ?_
                                  refine jx_get (v := .inr (ad G 89)) C 15 ft_X9 (jcl_MO G _) rfl (by decide) (by decide) wf_X9_47 dX9_layPlaces_168 ?_
                                  refine jx_iload_n C dX9_layPlaces_171 rfl ?_
                                  refine jx_iald C (jcl_89 G _) (by decide) (by omega) (by omega) (by decide) dX9_layPlaces_172 ?_
                                  have r_172 := rg_89 hRb bes2.toNat
                                  have e_172 : μb 89 bes2.toNat = V (bsf c rk V (4 * a + b)).1.toNat := (by rw [hb2]; exact hvv _ (by omega) (by omega) (fun e => by rw [e] at hok; omega))
                                  rw [e_172] at r_172
                                  refine jx_top (b := V (bsf c rk V (4 * a + b)).1.toNat) e_172 ?_
                                  refine jx_icmp_le C dX9_layPlaces_173 (by omega) (by omega) (fun c_173 => ?_) (fun c_173 => ?_)
                                  · refine jx_iload_n C dX9_layPlaces_181 rfl ?_
                                    refine jx_istore_n (L' := [some (.inr (ad G 78)), some (.inl more), some (.inl bes2), some (.inl a3), some (.inl b4), some (.inl (4 * a3 + b4)), some (.inl can6)]) C dX9_layPlaces_182 (by decide) rfl ?_
                                    refine jx_iinc (L' := [some (.inr (ad G 78)), some (.inl more), some (.inl bes2), some (.inl a3), some (.inl (b4 + 1)), some (.inl (4 * a3 + b4)), some (.inl can6)]) C dX9_layPlaces_183 rfl (by decide) rfl ?_
                                    refine jx_goto C dX9_layPlaces_186 ?_
                                    refine jx_fewer (L' := [some (.inr (ad G 78)), some (.inl more), some (.inl bes2), some (.inl a3), some (.inl (b4 + 1)), none, none]) (fun i v h => ?_) ?_
                                    · exact jfew_ok (by simp [jfew]) h
                                    exact ih_92 (b + 1) (b4 + 1) bes2 (by omega) (by omega) (by rw [bsf_no (by omega) (fun g => by omega)]; exact hb2) (by omega)
                                  · refine jx_iload C dX9_layPlaces_176 rfl ?_
                                    refine jx_goto C dX9_layPlaces_178 ?_
                                    refine jx_istore_n (L' := [some (.inr (ad G 78)), some (.inl more), some (.inl (4 * a3 + b4)), some (.inl a3), some (.inl b4), some (.inl (4 * a3 + b4)), some (.inl can6)]) C dX9_layPlaces_182 (by decide) rfl ?_
                                    refine jx_iinc (L' := [some (.inr (ad G 78)), some (.inl more), some (.inl (4 * a3 + b4)), some (.inl a3), some (.inl (b4 + 1)), some (.inl (4 * a3 + b4)), some (.inl can6)]) C dX9_layPlaces_183 rfl (by decide) rfl ?_
                                    refine jx_goto C dX9_layPlaces_186 ?_
                                    refine jx_fewer (L' := [some (.inr (ad G 78)), some (.inl more), some (.inl (4 * a3 + b4)), some (.inl a3), some (.inl (b4 + 1)), none, none]) (fun i v h => ?_) ?_
                                    · exact jfew_ok (by simp [jfew]) h
                                    exact ih_92 (b + 1) (b4 + 1) (4 * a3 + b4) (by omega) (by omega) (by rw [bsf_yes (by omega) (by omega) (by omega) (by omega) (by omega) (by omega)]; dsimp only; omega) (by omega)
                            have ga := hra a (by omega)
                            have gb := hra b (by omega)
                            refine jx_iload_n C dX9_layPlaces_109 rfl ?_
                            refine jx_iload C dX9_layPlaces_110 rfl ?_
                            refine jx_icmp_eq C dX9_layPlaces_112 (by omega) (by omega) (fun c_112 => ?_) (fun c_112 => ?_)
                            · refine jx_iconst C dX9_layPlaces_148 ?_
                              exact J_149 _ (by first | rw [if_pos (by omega)] | rw [if_neg (by omega)])
                            · refine jx_aload_n C dX9_layPlaces_115 rfl ?_
                              refine jx_get (v := .inr (ad G 94)) C 21 ft_X9 (jcl_MO G _) rfl (by decide) (by decide) wf_X9_62 dX9_layPlaces_116 ?_
                              refine jx_iload_n C dX9_layPlaces_119 rfl ?_
                              refine jx_iald C (jcl_94 G _) (by decide) (by omega) (by omega) (by decide) dX9_layPlaces_120 ?_
                              have r_120 := rg_94 hRb a3.toNat
                              have e_120 : μb 94 a3.toNat = rk a := (by rw [show a3.toNat = a by omega]; exact ga.1)
                              rw [e_120] at r_120
                              refine jx_top (b := rk a) e_120 ?_
                              refine jx_if_lt C dX9_layPlaces_121 (by omega) (fun c_121 => ?_) (fun c_121 => ?_)
                              · refine jx_iconst C dX9_layPlaces_148 ?_
                                exact J_149 _ (by first | rw [if_pos (by omega)] | rw [if_neg (by omega)])
                              · refine jx_aload_n C dX9_layPlaces_124 rfl ?_
                                refine jx_get (v := .inr (ad G 94)) C 21 ft_X9 (jcl_MO G _) rfl (by decide) (by decide) wf_X9_62 dX9_layPlaces_125 ?_
                                refine jx_iload C dX9_layPlaces_128 rfl ?_
                                refine jx_iald C (jcl_94 G _) (by decide) (by omega) (by omega) (by decide) dX9_layPlaces_130 ?_
                                have r_130 := rg_94 hRb b4.toNat
                                have e_130 : μb 94 b4.toNat = rk b := (by rw [show b4.toNat = b by omega]; exact gb.1)
                                rw [e_130] at r_130
                                refine jx_top (b := rk b) e_130 ?_
                                refine jx_if_ge C dX9_layPlaces_131 (by omega) (fun c_131 => ?_) (fun c_131 => ?_)
                                · refine jx_iconst C dX9_layPlaces_148 ?_
                                  exact J_149 _ (by first | rw [if_pos (by omega)] | rw [if_neg (by omega)])
                                · refine jx_aload_n C dX9_layPlaces_134 rfl ?_
                                  refine jx_get (v := .inr (ad G 89)) C 15 ft_X9 (jcl_MO G _) rfl (by decide) (by decide) wf_X9_47 dX9_layPlaces_135 ?_
                                  refine jx_iload C dX9_layPlaces_138 rfl ?_
                                  refine jx_iald C (jcl_89 G _) (by decide) (by omega) (by omega) (by decide) dX9_layPlaces_140 ?_
                                  have r_140 := rg_89 hRb ((4 * a3 + b4).toNat)
                                  have e_140 : μb 89 (4 * a3 + b4).toNat = V (4 * a + b) := (by rw [show (4 * a3 + b4).toNat = 4 * a + b by omega]; exact hvv _ (by omega) (by omega) (by omega))
                                  rw [e_140] at r_140
                                  refine jx_top (b := V (4 * a + b)) e_140 ?_
                                  refine jx_if_le C dX9_layPlaces_141 (by omega) (fun c_141 => ?_) (fun c_141 => ?_)
                                  · refine jx_iconst C dX9_layPlaces_148 ?_
                                    exact J_149 _ (by first | rw [if_pos (by omega)] | rw [if_neg (by omega)])
                                  · refine jx_iconst C dX9_layPlaces_144 ?_
                                    refine jx_goto C dX9_layPlaces_145 ?_
                                    exact J_149 _ (by first | rw [if_pos (by omega)] | rw [if_neg (by omega)])
                      exact LP_92 _ 0 0 best rfl (Nat.zero_le _) hb1 (Nat.lt_succ_self _)
                exact LP_81 _ 0 0 (-6) rfl (Nat.zero_le _) rfl (Nat.lt_succ_self _)
          exact LP_72 _ 0 1 μx hRx (Or.inr rfl) (fun h => by omega) (Nat.zero_le _) (by show (jnil c).1 = _; unfold jnil; rfl) hJx hfx hgx (Nat.lt_succ_self _)
        refine jx_aload_n C dX9_layPlaces_37 rfl ?_
        refine jx_get (v := .inl (μa 78 1)) C 1 ft_X9 (jcl_MO G _) rfl (by decide) (by decide) wf_X9_68 dX9_layPlaces_38 ?_
        have r_38 := rg_MO_1 hRa
        refine jx_if_le C dX9_layPlaces_41 (by omega) (fun c_41 => ?_) (fun c_41 => ?_)
        · refine jx_fewer (L' := [some (.inr (ad G 78)), none, none, none, none, none, none]) (fun i v h => ?_) ?_
          · exact jfew_ok (by simp [jfew]) h
          exact CUT_70 μa hRa (JOm_nil0 (by omega) hz) hfa hga
        · refine jx_aload_n C dX9_layPlaces_44 rfl ?_
          refine jx_get (v := .inr (ad G 91)) C 18 ft_X9 (jcl_MO G _) rfl (by decide) (by decide) wf_X9_53 dX9_layPlaces_45 ?_
          refine jx_iconst C dX9_layPlaces_48 ?_
          refine jx_iconst C dX9_layPlaces_49 ?_
          refine jx_iast C (jcl_91 G _) (jcl_91 G _) (by decide) (by omega) (by omega) (by decide) dX9_layPlaces_50 ?_
          obtain ⟨μ7, eμ7⟩ : ∃ y_ : Mem, y_ = jms μa 91 ((0 : Int).toNat) 0 := ⟨_, rfl⟩
          rw [← eμ7]
          have hR7 : rng μ7 := by rw [eμ7]; exact rs_91 hRa ((0 : Int).toNat) (by omega) (by omega)
          refine jx_aload_n C dX9_layPlaces_51 rfl ?_
          refine jx_get (v := .inr (ad G 92)) C 19 ft_X9 (jcl_MO G _) rfl (by decide) (by decide) wf_X9_56 dX9_layPlaces_52 ?_
          refine jx_iconst C dX9_layPlaces_55 ?_
          refine jx_iconst C dX9_layPlaces_56 ?_
          refine jx_iast C (jcl_92 G _) (jcl_92 G _) (by decide) (by omega) (by omega) (by decide) dX9_layPlaces_57 ?_
          obtain ⟨μ8, eμ8⟩ : ∃ y_ : Mem, y_ = jms μ7 92 ((0 : Int).toNat) 0 := ⟨_, rfl⟩
          rw [← eμ8]
          have hR8 : rng μ8 := by rw [eμ8]; exact rs_92 hR7 ((0 : Int).toNat) (by omega) (by omega)
          refine jx_aload_n C dX9_layPlaces_58 rfl ?_
          refine jx_get (v := .inr (ad G 94)) C 21 ft_X9 (jcl_MO G _) rfl (by decide) (by decide) wf_X9_62 dX9_layPlaces_59 ?_
          refine jx_iconst C dX9_layPlaces_62 ?_
          refine jx_iconst C dX9_layPlaces_63 ?_
          refine jx_iast C (jcl_94 G _) (jcl_94 G _) (by decide) (by omega) (by omega) (by decide) dX9_layPlaces_64 ?_
          obtain ⟨μ9, eμ9⟩ : ∃ y_ : Mem, y_ = jms μ8 94 ((0 : Int).toNat) 0 := ⟨_, rfl⟩
          rw [← eμ9]
          have hR9 : rng μ9 := by rw [eμ9]; exact rs_94 hR8 ((0 : Int).toNat) (by omega) (by omega)
          refine jx_aload_n C dX9_layPlaces_65 rfl ?_
          refine jx_iconst C dX9_layPlaces_66 ?_
          refine jx_put C 17 ft_X9 (jcl_MO G _) ((jcl_MO G _).trans rfl) (by decide) (by decide) rfl (Or.inl rfl) (by simp) wf_X9_137 dX9_layPlaces_67 ?_
          obtain ⟨μ10, eμ10⟩ : ∃ y_ : Mem, y_ = jms μ9 78 17 1 := ⟨_, rfl⟩
          rw [← eμ10]
          have hR10 : rng μ10 := by rw [eμ10]; exact rs_MO_17 hR9 (by omega) (by omega)
          refine jx_fewer (L' := [some (.inr (ad G 78)), none, none, none, none, none, none]) (fun i v h => ?_) ?_
          · exact jfew_ok (by simp [jfew]) h
          exact CUT_70 μ10 hR10 (by rw [eμ10, eμ9, eμ8, eμ7]; exact JOm_nil1 (by omega) (fun x hx => hoa x (by omega))) (fun k h0 h1 h2 h3 h4 => by rw [eμ10, jms_cell _ _ _ _ h0, eμ9, jms_cell _ _ _ _ h4, eμ8, jms_cell _ _ _ _ h2, eμ7, jms_cell _ _ _ _ h1]; exact hfa k h0 h1 h2 h3 h4) (fun j hj => by rw [eμ10, jms_slot _ _ _ _ hj, eμ9, jms_cell _ _ _ _ (by omega), eμ8, jms_cell _ _ _ _ (by omega), eμ7, jms_cell _ _ _ _ (by omega)]; exact hga j hj)
      · refine jx_aload_n C dX9_layPlaces_15 rfl ?_
        refine jx_get (v := .inr (ad G 94)) C 21 ft_X9 (jcl_MO G _) rfl (by decide) (by decide) wf_X9_62 dX9_layPlaces_16 ?_
        refine jx_iload_n C dX9_layPlaces_19 rfl ?_
        refine jx_bipush C dX9_layPlaces_20 (by decide +kernel) ?_
        refine jx_iast C (jcl_94 G _) (jcl_94 G _) (by decide) (by omega) (by omega) (by decide) dX9_layPlaces_22 ?_
        obtain ⟨μ11, eμ11⟩ : ∃ y_ : Mem, y_ = jms μa 94 p1.toNat (-6) := ⟨_, rfl⟩
        rw [← eμ11]
        have hR11 : rng μ11 := by rw [eμ11]; exact rs_94 hRa p1.toNat (by omega) (by omega)
        refine jx_aload_n C dX9_layPlaces_23 rfl ?_
        refine jx_get (v := .inr (ad G 93)) C 20 ft_X9 (jcl_MO G _) rfl (by decide) (by decide) wf_X9_59 dX9_layPlaces_24 ?_
        refine jx_iload_n C dX9_layPlaces_27 rfl ?_
        refine jx_bipush C dX9_layPlaces_28 (by decide +kernel) ?_
        refine jx_iast C (jcl_93 G _) (jcl_93 G _) (by decide) (by omega) (by omega) (by decide) dX9_layPlaces_30 ?_
        obtain ⟨μ12, eμ12⟩ : ∃ y_ : Mem, y_ = jms μ11 93 p1.toNat (-6) := ⟨_, rfl⟩
        rw [← eμ12]
        have hR12 : rng μ12 := by rw [eμ12]; exact rs_93 hR11 p1.toNat (by omega) (by omega)
        refine jx_iinc (L' := [some (.inr (ad G 78)), some (.inl (p1 + 1)), none, none, none, none, none]) C dX9_layPlaces_31 rfl (by decide) rfl ?_
        refine jx_goto C dX9_layPlaces_34 ?_
        exact ih_7 (p + 1) (p1 + 1) μ12 hR12 (by omega) (by omega) (fun x hx => by
        rw [eμ12, jms_cell _ _ _ _ (by omega), jms_arr, eμ11, jms_arr, jms_cell _ _ _ _ (by omega)]
        by_cases hxp : x = p
        · rw [if_pos (by omega), if_pos (by omega)]; exact ⟨rfl, rfl⟩
        · rw [if_neg (by omega), if_neg (by omega)]; exact hoa x (by omega)) (by rw [eμ12, jms_cell _ _ _ _ (by omega), eμ11, jms_cell _ _ _ _ (by omega)]; exact hz) (fun k h0 h1 h2 h3 h4 => by rw [eμ12, jms_cell _ _ _ _ h3, eμ11, jms_cell _ _ _ _ h4]; exact hfa k h0 h1 h2 h3 h4) (fun j hj => by rw [eμ12, jms_cell _ _ _ _ (by omega), eμ11, jms_cell _ _ _ _ (by omega)]; exact hga j hj) (by omega)
  exact LP_7 _ 0 0 μ1 hR1 rfl (Nat.zero_le _) (fun x hx => absurd hx (Nat.not_lt_zero _)) (by rw [eμ1]; exact jms_same _ _ _ _) (fun k h1 _ _ _ _ => by rw [eμ1]; exact jms_cell _ _ _ _ h1) (fun j hj => by rw [eμ1]; exact jms_slot _ _ _ _ hj) (Nat.lt_succ_self _)
set_option maxHeartbeats 4000000 in
set_option maxRecDepth 100000 in
theorem c_X9_lay (l : Launch) (G : GT) (μ : Mem) (hMI : MIv μ) (hR : rng μ) : MV l yX9_lay cX9_lay 2 ({ frames := 4, cells := 0, slots := 0, locals := 99 } : Room) G [.inr (ad G 78)] μ (fun μ' => LTp μ μ') := by
  refine MV.of (by decide +kernel) (Nat.le_of_ble_eq_true rfl) ?_
  intro F C Yy
  show jX F G 2 0 0 (jE F G (jQv G (fun μ' => LTp μ μ'))) 0 [some (.inr (ad G 78)), none] [] μ
  obtain ⟨hc1, hc2⟩ := mB_N hR
  refine jx_aload_n C dX9_lay_0 rfl ?_
  refine jx_get (v := .inl (μ 78 7)) C 7 ft_X9 (jcl_MO G _) rfl (by decide) (by decide) wf_X9_86 dX9_lay_1 ?_
  have r_1 := rg_MO_7 hR
  refine jx_if_eq C dX9_lay_4 (by omega) (fun c_4 => ?_) (fun c_4 => ?_)
  · refine jx_aload_n C dX9_lay_8 rfl ?_
    refine jx_iconst C dX9_lay_9 ?_
    refine jx_put C 7 ft_X9 (jcl_MO G _) ((jcl_MO G _).trans rfl) (by decide) (by decide) rfl (Or.inr ⟨rfl, Or.inr rfl⟩) (by simp) wf_X9_86 dX9_lay_10 ?_
    obtain ⟨μ1, eμ1⟩ : ∃ y_ : Mem, y_ = jms μ 78 7 1 := ⟨_, rfl⟩
    rw [← eμ1]
    have hR1 : rng μ1 := by rw [eμ1]; exact rs_MO_7 hR (by omega) (by omega)
    refine jx_iconst C dX9_lay_13 ?_
    refine jx_istore_n (L' := [some (.inr (ad G 78)), some (.inl 0)]) C dX9_lay_14 (by decide) rfl ?_
    have LP_15 : ∀ (n : Nat) (p : Nat) (p1 : Int) (μa : Mem), (rng μa) → (p1 = (p : Int)) → (p ≤ bN (mB μ)) → (∀ x, x < p → MKm μa (mB μ) x) → (μa 78 7 = 1) → (∀ j, j ≠ 7 → μa 78 j = μ 78 j) → (∀ k, k ≠ 78 → k ≠ 82 → k ≠ 83 → k ≠ 84 → k ≠ 85 → μa k = μ k) → 5 - p < n → jX F G 2 0 0 (jE F G (jQv G (fun μ' => LTp μ μ'))) 15 [some (.inr (ad G 78)), some (.inl p1)] [] μa := by
      intro n
      induction n with
      | zero =>
        intro p p1 μa hRa hp1 hpc hma h7 h78 hfa hms
        exact absurd hms (Nat.not_lt_zero _)
      | succ n ih =>
        intro p p1 μa hRa hp1 hpc hma h7 h78 hfa hms
        have ih_15 := ih
        clear ih
        have q_c : μa 78 1 = (bN (mB μ) : Int) := by rw [h78 1 (by decide)]; exact hc1
        refine jx_iload_n C dX9_lay_15 rfl ?_
        refine jx_aload_n C dX9_lay_16 rfl ?_
        refine jx_get (v := .inl (μa 78 1)) C 1 ft_X9 (jcl_MO G _) rfl (by decide) (by decide) wf_X9_68 dX9_lay_17 ?_
        have r_17 := rg_MO_1 hRa
        refine jx_icmp_ge C dX9_lay_20 (by omega) (by omega) (fun c_20 => ?_) (fun c_20 => ?_)
        · refine jx_iconst C dX9_lay_34 ?_
          refine jx_istore_n (L' := [some (.inr (ad G 78)), some (.inl 0)]) C dX9_lay_35 (by decide) rfl ?_
          have LP_36 : ∀ (n : Nat) (q : Nat) (q1 : Int) (μc : Mem), (rng μc) → (q1 = (q : Int)) → (q ≤ 16) → (∀ x y, x < bN (mB μ) → y < bN (mB μ) → ¬ x = y → 4 * x + y < q → PRm μc (mB μ) x y) → (∀ k, k ≠ 86 → k ≠ 87 → k ≠ 88 → k ≠ 89 → k ≠ 90 → μc k = μa k) → 17 - q < n → jX F G 2 0 0 (jE F G (jQv G (fun μ' => LTp μ μ'))) 36 [some (.inr (ad G 78)), some (.inl q1)] [] μc := by
            intro n
            induction n with
            | zero =>
              intro q q1 μc hRc hq1 hq hpr hfc hms
              exact absurd hms (Nat.not_lt_zero _)
            | succ n ih =>
              intro q q1 μc hRc hq1 hq hpr hfc hms
              have ih_36 := ih
              clear ih
              have q_c2 : μc 78 1 = (bN (mB μ) : Int) := by rw [hfc 78 (by omega) (by omega) (by omega) (by omega) (by omega)]; exact q_c
              have q_n : μc 78 6 = bNear (mB μ) := by rw [hfc 78 (by omega) (by omega) (by omega) (by omega) (by omega), h78 6 (by decide)]; rfl
              have hmc : ∀ x, x < bN (mB μ) → MKm μc (mB μ) x := fun x hx => MKm_fr (hma x (by omega)) (by rw [hfc 83 (by omega) (by omega) (by omega) (by omega) (by omega)]) (fun m _ => by rw [hfc 84 (by omega) (by omega) (by omega) (by omega) (by omega)]) (fun m _ => by rw [hfc 82 (by omega) (by omega) (by omega) (by omega) (by omega)]) (fun m _ => by rw [hfc 85 (by omega) (by omega) (by omega) (by omega) (by omega)])
              refine jx_iload_n C dX9_lay_36 rfl ?_
              refine jx_bipush C dX9_lay_37 (by decide +kernel) ?_
              refine jx_icmp_ge C dX9_lay_39 (by omega) (by decide) (fun c_39 => ?_) (fun c_39 => ?_)
              · refine jx_aload_n C dX9_lay_87 rfl ?_
                refine jx_cVv (as := []) (st := []) C Yy (c_X9_layPlaces l G μc (bN (mB μ)) q_c2 (by omega) (bV (mB μ)) (bX (mB μ)) (bY (mB μ)) (fun t h1 h2 h3 => by have h9 := (hpr (t / 4) (t % 4) h1 h2 h3 (by omega)).2.2; rw [show 4 * (t / 4) + t % 4 = t by omega] at h9; exact h9) (bV_rng (mB μ)) (bXY_rng (mB μ)) hRc) yb_X9_layPlaces yv_X9_layPlaces wm_X9_147 (jcl_MO G _) rfl (by decide) rfl rfl (Nat.le_of_ble_eq_true rfl) ⟨⟨rfl, rfl, Nat.le_of_ble_eq_true rfl, Nat.le_of_ble_eq_true rfl⟩, Nat.zero_le _, Nat.zero_le _⟩ dX9_lay_88 ?_
                intro μ2 hμ2
                have hR2 := hμ2.1
                exact jx_vret C dX9_lay_91 (lay_end hR hR2 h78 h7 hfa (fun x hx => hma x (by omega)) (fun x y h1 h2 h3 => hpr x y h1 h2 h3 (by omega)) hfc hμ2.2.1 hμ2.2.2.1 hμ2.2.2.2)
              · refine jx_iload_n C dX9_lay_42 rfl ?_
                refine jx_iconst C dX9_lay_43 ?_
                refine jx_idiv (z := q1 / 4) C dX9_lay_44 (by omega) (by decide) (by decide) (jtd (by omega)) ?_
                refine jx_iload_n C dX9_lay_45 rfl ?_
                refine jx_iconst C dX9_lay_46 ?_
                refine jx_irem (z := q1 % 4) C dX9_lay_47 (by omega) (by decide) (by decide) (jtm (by omega)) ?_
                refine jx_icmp_eq C dX9_lay_48 (by omega) (by omega) (fun c_48 => ?_) (fun c_48 => ?_)
                · refine jx_iinc (L' := [some (.inr (ad G 78)), some (.inl (q1 + 1))]) C dX9_lay_81 rfl (by decide) rfl ?_
                  refine jx_goto C dX9_lay_84 ?_
                  exact ih_36 (q + 1) (q1 + 1) μc hRc (by omega) (by omega) (fun x y h1 h2 h3 h4 => hpr x y h1 h2 h3 (by omega)) hfc (by omega)
                · refine jx_aload_n C dX9_lay_51 rfl ?_
                  refine jx_iload_n C dX9_lay_52 rfl ?_
                  refine jx_iconst C dX9_lay_53 ?_
                  refine jx_idiv (z := q1 / 4) C dX9_lay_54 (by omega) (by decide) (by decide) (jtd (by omega)) ?_
                  refine jx_cVi (as := [.inl (q1 / 4)]) (st := []) C Yy (c_X9_isPicture l G μc (q1 / 4) (by omega) hRc) yb_X9_isPicture yv_X9_isPicture wm_X9_90 (jcl_MO G _) rfl (by decide) rfl rfl (Nat.le_of_ble_eq_true rfl) ⟨⟨rfl, rfl, Nat.le_of_ble_eq_true rfl, Nat.le_of_ble_eq_true rfl⟩, Nat.zero_le _, Nat.zero_le _⟩ dX9_lay_55 ?_
                  rintro _ _ ⟨rfl, ⟨rfl, c_55⟩ | ⟨rfl, c_55⟩⟩
                  · refine jx_if_eq C dX9_lay_58 (by decide) (fun q => absurd q (by decide)) (fun _ => ?_)
                    refine jx_aload_n C dX9_lay_61 rfl ?_
                    refine jx_iload_n C dX9_lay_62 rfl ?_
                    refine jx_iconst C dX9_lay_63 ?_
                    refine jx_irem (z := q1 % 4) C dX9_lay_64 (by omega) (by decide) (by decide) (jtm (by omega)) ?_
                    refine jx_cVi (as := [.inl (q1 % 4)]) (st := []) C Yy (c_X9_isPicture l G μc (q1 % 4) (by omega) hRc) yb_X9_isPicture yv_X9_isPicture wm_X9_90 (jcl_MO G _) rfl (by decide) rfl rfl (Nat.le_of_ble_eq_true rfl) ⟨⟨rfl, rfl, Nat.le_of_ble_eq_true rfl, Nat.le_of_ble_eq_true rfl⟩, Nat.zero_le _, Nat.zero_le _⟩ dX9_lay_65 ?_
                    rintro _ _ ⟨rfl, ⟨rfl, c_65⟩ | ⟨rfl, c_65⟩⟩
                    · refine jx_if_eq C dX9_lay_68 (by decide) (fun q => absurd q (by decide)) (fun _ => ?_)
                      refine jx_aload_n C dX9_lay_71 rfl ?_
                      refine jx_iload_n C dX9_lay_72 rfl ?_
                      refine jx_iconst C dX9_lay_73 ?_
                      refine jx_idiv (z := q1 / 4) C dX9_lay_74 (by omega) (by decide) (by decide) (jtd (by omega)) ?_
                      refine jx_iload_n C dX9_lay_75 rfl ?_
                      refine jx_iconst C dX9_lay_76 ?_
                      refine jx_irem (z := q1 % 4) C dX9_lay_77 (by omega) (by decide) (by decide) (jtm (by omega)) ?_
                      refine jx_cVv (as := [.inl (q1 / 4), .inl (q1 % 4)]) (st := []) C Yy (c_X9_layPair l G μc (q / 4) (q % 4) (by omega) (by omega) (q1 / 4) (q1 % 4) (by omega) (by omega) _ _ _ rfl rfl rfl hRc) yb_X9_layPair yv_X9_layPair wm_X9_144 (jcl_MO G _) rfl (by decide) rfl rfl (Nat.le_of_ble_eq_true rfl) ⟨⟨rfl, rfl, Nat.le_of_ble_eq_true rfl, Nat.le_of_ble_eq_true rfl⟩, Nat.zero_le _, Nat.zero_le _⟩ dX9_lay_78 ?_
                      intro μ3 hμ3
                      have hR3 := hμ3.1
                      refine jx_iinc (L' := [some (.inr (ad G 78)), some (.inl (q1 + 1))]) C dX9_lay_81 rfl (by decide) rfl ?_
                      refine jx_goto C dX9_lay_84 ?_
                      exact ih_36 (q + 1) (q1 + 1) μ3 hR3 (by omega) (by omega) (fun x y h1 h2 h3 h4 => by
        by_cases e : 4 * x + y = q
        · obtain ⟨ex, ey⟩ : x = q / 4 ∧ y = q % 4 := by omega
          rw [ex, ey]
          rw [ex] at h1
          rw [ey] at h2
          exact PRm_of (by omega) (by omega) (hmc _ h1) (hmc _ h2) q_n rfl rfl rfl hμ3.2.1 hμ3.2.2.1 hμ3.2.2.2.1
        · exact PRm_fr (hpr x y h1 h2 h3 (by omega)) (fun m hm => hμ3.2.2.2.2.2.1 _ (by omega)) (hμ3.2.2.2.2.2.2 _ (by omega))) (fun k h1 h2 h3 h4 h5 => by rw [hμ3.2.2.2.2.1 k h1 h2 h3 h4 h5]; exact hfc k h1 h2 h3 h4 h5) (by omega)
                    · refine jx_if_eq C dX9_lay_68 (by decide) (fun _ => ?_) (fun q => absurd q (by decide))
                      refine jx_iinc (L' := [some (.inr (ad G 78)), some (.inl (q1 + 1))]) C dX9_lay_81 rfl (by decide) rfl ?_
                      refine jx_goto C dX9_lay_84 ?_
                      exact ih_36 (q + 1) (q1 + 1) μc hRc (by omega) (by omega) (fun x y h1 h2 h3 h4 => hpr x y h1 h2 h3 (by omega)) hfc (by omega)
                  · refine jx_if_eq C dX9_lay_58 (by decide) (fun _ => ?_) (fun q => absurd q (by decide))
                    refine jx_iinc (L' := [some (.inr (ad G 78)), some (.inl (q1 + 1))]) C dX9_lay_81 rfl (by decide) rfl ?_
                    refine jx_goto C dX9_lay_84 ?_
                    exact ih_36 (q + 1) (q1 + 1) μc hRc (by omega) (by omega) (fun x y h1 h2 h3 h4 => hpr x y h1 h2 h3 (by omega)) hfc (by omega)
          exact LP_36 _ 0 0 μa hRa rfl (Nat.zero_le _) (fun x y _ _ _ h => absurd h (Nat.not_lt_zero _)) (fun k _ _ _ _ _ => rfl) (Nat.lt_succ_self _)
        · refine jx_aload_n C dX9_lay_23 rfl ?_
          refine jx_iload_n C dX9_lay_24 rfl ?_
          have eW := mB_W (μ := μ) (p := p) (by omega)
          have eH := mB_H (μ := μ) (p := p) (by omega)
          have eD := mB_D (μ := μ) (p := p) (by omega)
          have eb : μa 78 5 = bBar (mB μ) := by rw [h78 5 (by decide)]; rfl
          unfold mvv at eD
          rw [← hfa 79 (by omega) (by omega) (by omega) (by omega) (by omega)] at eW eD
          rw [← hfa 80 (by omega) (by omega) (by omega) (by omega) (by omega)] at eH eD
          rw [← hfa 81 (by omega) (by omega) (by omega) (by omega) (by omega)] at eD
          refine jx_cVv (as := [.inl p1]) (st := []) C Yy (c_X9_layMarks l G μa p (by omega) p1 (by omega) (bD (mB μ) p) (bfn (mB μ) p) eD (by rw [← eW, ← eH]; rfl) hRa) yb_X9_layMarks yv_X9_layMarks wm_X9_140 (jcl_MO G _) rfl (by decide) rfl rfl (Nat.le_of_ble_eq_true rfl) ⟨⟨rfl, rfl, Nat.le_of_ble_eq_true rfl, Nat.le_of_ble_eq_true rfl⟩, Nat.zero_le _, Nat.zero_le _⟩ dX9_lay_25 ?_
          intro μ4 hμ4
          have hR4 := hμ4.1
          refine jx_iinc (L' := [some (.inr (ad G 78)), some (.inl (p1 + 1))]) C dX9_lay_28 rfl (by decide) rfl ?_
          refine jx_goto C dX9_lay_31 ?_
          exact ih_15 (p + 1) (p1 + 1) μ4 hR4 (by omega) (by omega) (fun x hx => by
        by_cases hxp : x = p
        · rw [hxp]
          have h9 := hμ4.2
          rw [← eW, ← eH, eb] at h9
          exact ⟨h9.1, h9.2.1⟩
        · exact MKm_fr (hma x (by omega)) (hμ4.2.2.2.2.2.1 x hxp) (fun m hm => hμ4.2.2.2.2.2.2.1 _ (by omega)) (fun t ht => hμ4.2.2.2.2.1 _ (by omega)) (fun m hm => hμ4.2.2.2.2.2.2.2 _ (by omega))) (by rw [hμ4.2.2.2.1 78 (by omega) (by omega) (by omega) (by omega)]; exact h7) (fun j hj => by rw [hμ4.2.2.2.1 78 (by omega) (by omega) (by omega) (by omega)]; exact h78 j hj) (fun k h1 h2 h3 h4 h5 => by rw [hμ4.2.2.2.1 k h2 h3 h4 h5]; exact hfa k h1 h2 h3 h4 h5) (by omega)
    exact LP_15 _ 0 0 μ1 hR1 rfl (Nat.zero_le _) (fun x hx => absurd hx (Nat.not_lt_zero _)) (by rw [eμ1]; exact jms_same _ _ _ _) (fun j hj => by rw [eμ1]; exact jms_slot _ _ _ _ hj) (fun k h1 _ _ _ _ => by rw [eμ1]; exact jms_cell _ _ _ _ h1) (Nat.lt_succ_self _)
  · exact jx_vret C dX9_lay_7 (LTp_id hR (by omega) hMI)
