set_option maxHeartbeats 4000000 in
set_option maxRecDepth 100000 in
theorem c_X6_find (l : Launch) (G : GT) (μ : Mem) (a b : Nat) (ha : a < 4) (hb : b < 4) (dA dB : Int → Int → Int) (hdA : ∀ x y, dgt (μ (14 + a) 2) (μ (14 + a) 3) (μ (18 + a)) (x - μ (10 + a) 2) (y - μ (10 + a) 3) = dA x y) (hdB : ∀ x y, dgt (μ (14 + b) 2) (μ (14 + b) 3) (μ (18 + b)) (x - μ (10 + b) 2) (y - μ (10 + b) 3) = dB x y) (hrA : ∀ x y, -1 ≤ dA x y ∧ dA x y ≤ 255) (hrB : ∀ x y, -1 ≤ dB x y ∧ dB x y ≤ 255) (hw : 0 < μ 3 2 ∧ μ 3 2 ≤ 20) (hh : 0 < μ 3 3 ∧ μ 3 3 ≤ 20) (hR : rng μ) : MV l yX6_find cX6_find 10 ({ frames := 4, cells := 0, slots := 0, locals := 91 } : Room) G [.inr (ad G 4), .inr (ad G 3), .inr (ad G (10 + a)), .inr (ad G (10 + b))] μ (fun μ' => rng μ' ∧ μ' 4 2 = cso (oun dA dB (μ 3 0) (μ 3 1)) (μ 3 2).toNat (μ 3 3).toNat ((μ 3 3).toNat - 1) (scl (oun dA dB (μ 3 0) (μ 3 1)) (μ 3 2).toNat (μ 3 3).toNat (0)) ∧ (∀ r : Nat, r < (μ 3 3).toNat → μ' 9 r = ((scl (oun dA dB (μ 3 0) (μ 3 1)) (μ 3 2).toNat (μ 3 3).toNat (r) : Nat) : Int)) ∧ ∀ k, k ≠ 4 → k ≠ 8 → k ≠ 9 → μ' k = μ k) := by
  refine MV.of (by decide +kernel) (Nat.le_of_ble_eq_true rfl) ?_
  intro F C Yy
  show jX F G 10 0 0 (jE F G (jQv G (fun μ' => rng μ' ∧ μ' 4 2 = cso (oun dA dB (μ 3 0) (μ 3 1)) (μ 3 2).toNat (μ 3 3).toNat ((μ 3 3).toNat - 1) (scl (oun dA dB (μ 3 0) (μ 3 1)) (μ 3 2).toNat (μ 3 3).toNat (0)) ∧ (∀ r : Nat, r < (μ 3 3).toNat → μ' 9 r = ((scl (oun dA dB (μ 3 0) (μ 3 1)) (μ 3 2).toNat (μ 3 3).toNat (r) : Nat) : Int)) ∧ ∀ k, k ≠ 4 → k ≠ 8 → k ≠ 9 → μ' k = μ k))) 0 [some (.inr (ad G 4)), some (.inr (ad G 3)), some (.inr (ad G (10 + a))), some (.inr (ad G (10 + b))), none, none, none, none, none, none] [] μ
  have r_x := rg_OV_0 hR
  have r_y := rg_OV_1 hR
  have hoR := oun_rng hrA hrB (μ 3 0) (μ 3 1)
  have hcsR := fun k c => cso_rng hoR (μ 3 2).toNat (μ 3 3).toNat k c
  refine jx_aload_n C dX6_find_0 rfl ?_
  refine jx_get (v := .inl (μ 3 2)) C 2 ft_X3 (jcl_OV G _) rfl (by decide) (by decide) wf_X6_18 dX6_find_1 ?_
  have r_1 := rg_OV_2 hR
  refine jx_istore (L' := [some (.inr (ad G 4)), some (.inr (ad G 3)), some (.inr (ad G (10 + a))), some (.inr (ad G (10 + b))), some (.inl (μ 3 2)), none, none, none, none, none]) C dX6_find_4 (by decide) rfl ?_
  refine jx_aload_n C dX6_find_6 rfl ?_
  refine jx_get (v := .inl (μ 3 3)) C 3 ft_X3 (jcl_OV G _) rfl (by decide) (by decide) wf_X6_24 dX6_find_7 ?_
  have r_7 := rg_OV_3 hR
  refine jx_iconst C dX6_find_10 ?_
  refine jx_isub C dX6_find_11 ?_
  refine jx_istore (L' := [some (.inr (ad G 4)), some (.inr (ad G 3)), some (.inr (ad G (10 + a))), some (.inr (ad G (10 + b))), some (.inl (μ 3 2)), some (.inl (μ 3 3 - 1)), none, none, none, none]) C dX6_find_12 (by decide) rfl ?_
  refine jx_iload C dX6_find_14 rfl ?_
  refine jx_istore (L' := [some (.inr (ad G 4)), some (.inr (ad G 3)), some (.inr (ad G (10 + a))), some (.inr (ad G (10 + b))), some (.inl (μ 3 2)), some (.inl (μ 3 3 - 1)), some (.inl (μ 3 3 - 1)), none, none, none]) C dX6_find_16 (by decide) rfl ?_
  have LP_18 : ∀ (n : Nat) (k : Nat) (row : Int) (μa : Mem), (rng μa) → (row = μ 3 3 - 1 - (k : Int)) → ((k : Int) ≤ μ 3 3) → (∀ q : Nat, q < k → ∀ c : Nat, c < (μ 3 2).toNat → μa 8 ((μ 3 3 - 1 - (q : Int)) * 20 + (c : Int)).toNat = cso (oun dA dB (μ 3 0) (μ 3 1)) (μ 3 2).toNat (μ 3 3).toNat (q) c) → (∀ q, q ≠ 8 → μa q = μ q) → 21 - k < n → jX F G 10 0 0 (jE F G (jQv G (fun μ' => rng μ' ∧ μ' 4 2 = cso (oun dA dB (μ 3 0) (μ 3 1)) (μ 3 2).toNat (μ 3 3).toNat ((μ 3 3).toNat - 1) (scl (oun dA dB (μ 3 0) (μ 3 1)) (μ 3 2).toNat (μ 3 3).toNat (0)) ∧ (∀ r : Nat, r < (μ 3 3).toNat → μ' 9 r = ((scl (oun dA dB (μ 3 0) (μ 3 1)) (μ 3 2).toNat (μ 3 3).toNat (r) : Nat) : Int)) ∧ ∀ k, k ≠ 4 → k ≠ 8 → k ≠ 9 → μ' k = μ k))) 18 [some (.inr (ad G 4)), some (.inr (ad G 3)), some (.inr (ad G (10 + a))), some (.inr (ad G (10 + b))), some (.inl (μ 3 2)), some (.inl (μ 3 3 - 1)), some (.inl row), none, none, none] [] μa := by
    intro n
    induction n with
    | zero =>
      intro k row μa hRa hrow hk hca hfa hms
      exact absurd hms (Nat.not_lt_zero _)
    | succ n ih =>
      intro k row μa hRa hrow hk hca hfa hms
      have ih_18 := ih
      clear ih
      refine jx_iload C dX6_find_18 rfl ?_
      refine jx_if_lt C dX6_find_20 (by omega) (fun c_20 => ?_) (fun c_20 => ?_)
      · refine jx_aload_n C dX6_find_123 rfl ?_
        refine jx_get (v := .inr (ad G 9)) C 1 ft_X6 (jcl_SE G _) rfl (by decide) (by decide) wf_X6_15 dX6_find_124 ?_
        refine jx_iconst C dX6_find_127 ?_
        refine jx_aload_n C dX6_find_128 rfl ?_
        refine jx_iconst C dX6_find_129 ?_
        refine jx_iconst C dX6_find_130 ?_
        refine jx_iload C dX6_find_131 rfl ?_
        refine jx_iconst C dX6_find_133 ?_
        refine jx_isub C dX6_find_134 ?_
        refine jx_iload C dX6_find_135 rfl ?_
        have hf0 : ∀ c2 : Nat, c2 < (μ 3 2).toNat → μa 8 (0 * 20 + (c2 : Int)).toNat = cso (oun dA dB (μ 3 0) (μ 3 1)) (μ 3 2).toNat (μ 3 3).toNat ((μ 3 3).toNat - 1) c2 := fun c2 hc2 => by have h9 := hca ((μ 3 3).toNat - 1) (by omega) c2 hc2; rw [show μ 3 3 - 1 - (((μ 3 3).toNat - 1 : Nat) : Int) = 0 by omega] at h9; exact h9
        have hs0 := scl_lt (own := oun dA dB (μ 3 0) (μ 3 1)) (w := (μ 3 2).toNat) (h := (μ 3 3).toNat) (by omega) 0
        refine jx_cVi (as := [.inl 0, .inl 0, .inl (μ 3 2 - 1), .inl (μ 3 2)]) (st := [.inl 0, .inr (ad G 9)]) C Yy (c_X6_cheapest l G μa ((μ 3 2).toNat) (cso (oun dA dB (μ 3 0) (μ 3 1)) (μ 3 2).toNat (μ 3 3).toNat ((μ 3 3).toNat - 1)) 0 0 (μ 3 2 - 1) (μ 3 2) (by omega) (by omega) (by omega) (by omega) (by omega) hf0 hRa) yb_X6_cheapest yv_X6_cheapest wm_X6_37 (jcl_SE G _) rfl (by decide) rfl rfl (Nat.le_of_ble_eq_true rfl) ⟨⟨rfl, rfl, Nat.le_of_ble_eq_true rfl, Nat.le_of_ble_eq_true rfl⟩, Nat.zero_le _, Nat.zero_le _⟩ dX6_find_137 ?_
        rintro _ _ ⟨rfl, rfl⟩
        have r_137 := chp_rng (cso (oun dA dB (μ 3 0) (μ 3 1)) (μ 3 2).toNat (μ 3 3).toNat ((μ 3 3).toNat - 1)) (lo := 0) (hi := (μ 3 2 - 1)) (w := ((μ 3 2).toNat)) (by omega)
        refine jx_top (b := ((scl (oun dA dB (μ 3 0) (μ 3 1)) (μ 3 2).toNat (μ 3 3).toNat (0) : Nat) : Int)) (by rw [scl, show (((μ 3 2).toNat : Nat) : Int) = μ 3 2 by omega]) ?_
        refine jx_iast C (jcl_9 G _) (jcl_9 G _) (by decide) (by omega) (by omega) (by decide) dX6_find_140 ?_
        obtain ⟨μ1, eμ1⟩ : ∃ y_ : Mem, y_ = jms μa 9 ((0 : Int).toNat) ((scl (oun dA dB (μ 3 0) (μ 3 1)) (μ 3 2).toNat (μ 3 3).toNat (0) : Nat) : Int) := ⟨_, rfl⟩
        rw [← eμ1]
        have hR1 : rng μ1 := by rw [eμ1]; exact rs_9 hRa ((0 : Int).toNat) (by omega) (by omega)
        refine jx_aload_n C dX6_find_141 rfl ?_
        refine jx_aload_n C dX6_find_142 rfl ?_
        refine jx_iconst C dX6_find_143 ?_
        refine jx_aload_n C dX6_find_144 rfl ?_
        refine jx_get (v := .inr (ad G 9)) C 1 ft_X6 (jcl_SE G _) rfl (by decide) (by decide) wf_X6_15 dX6_find_145 ?_
        refine jx_iconst C dX6_find_148 ?_
        refine jx_iald C (jcl_9 G _) (by decide) (by omega) (by omega) (by decide) dX6_find_149 ?_
        have r_149 := rg_9 hR1 ((0 : Int).toNat)
        refine jx_top (b := ((scl (oun dA dB (μ 3 0) (μ 3 1)) (μ 3 2).toNat (μ 3 3).toNat (0) : Nat) : Int)) (by rw [eμ1]; exact jms_same _ _ _ _) ?_
        have hcv := hcsR ((μ 3 3).toNat - 1) (scl (oun dA dB (μ 3 0) (μ 3 1)) (μ 3 2).toNat (μ 3 3).toNat (0))
        refine jx_cVi (as := [.inl 0, .inl ((scl (oun dA dB (μ 3 0) (μ 3 1)) (μ 3 2).toNat (μ 3 3).toNat (0) : Nat) : Int)]) (st := [.inr (ad G 4)]) C Yy (c_X6_costAt l G μ1 0 ((scl (oun dA dB (μ 3 0) (μ 3 1)) (μ 3 2).toNat (μ 3 3).toNat (0) : Nat) : Int) (by omega) (by omega) hR1) yb_X6_costAt yv_X6_costAt wm_X6_41 (jcl_SE G _) rfl (by decide) rfl rfl (Nat.le_of_ble_eq_true rfl) ⟨⟨rfl, rfl, Nat.le_of_ble_eq_true rfl, Nat.le_of_ble_eq_true rfl⟩, Nat.zero_le _, Nat.zero_le _⟩ dX6_find_150 ?_
        rintro _ _ ⟨rfl, rfl⟩
        have r_150 := rg_8 hR1 (0 * 20 + ((scl (oun dA dB (μ 3 0) (μ 3 1)) (μ 3 2).toNat (μ 3 3).toNat (0) : Nat) : Int)).toNat
        refine jx_top (b := cso (oun dA dB (μ 3 0) (μ 3 1)) (μ 3 2).toNat (μ 3 3).toNat ((μ 3 3).toNat - 1) (scl (oun dA dB (μ 3 0) (μ 3 1)) (μ 3 2).toNat (μ 3 3).toNat (0))) (by rw [eμ1, jms_cell _ _ _ _ (by decide)]; exact hf0 _ hs0) ?_
        refine jx_put C 2 ft_X6 (jcl_SE G _) ((jcl_SE G _).trans rfl) (by decide) (by decide) rfl (Or.inl rfl) (by simp) wf_X6_45 dX6_find_153 ?_
        obtain ⟨μ2, eμ2⟩ : ∃ y_ : Mem, y_ = jms μ1 4 2 (cso (oun dA dB (μ 3 0) (μ 3 1)) (μ 3 2).toNat (μ 3 3).toNat ((μ 3 3).toNat - 1) (scl (oun dA dB (μ 3 0) (μ 3 1)) (μ 3 2).toNat (μ 3 3).toNat (0))) := ⟨_, rfl⟩
        rw [← eμ2]
        have hR2 : rng μ2 := by rw [eμ2]; exact rs_SE_2 hR1 (by omega) (by omega)
        refine jx_iconst C dX6_find_156 ?_
        refine jx_istore (L' := [some (.inr (ad G 4)), some (.inr (ad G 3)), some (.inr (ad G (10 + a))), some (.inr (ad G (10 + b))), some (.inl (μ 3 2)), some (.inl (μ 3 3 - 1)), some (.inl 1), none, none, none]) C dX6_find_157 (by decide) rfl ?_
        have LP_159 : ∀ (n : Nat) (r : Nat) (ri : Int) (μc : Mem), (rng μc) → (ri = (r : Int)) → (1 ≤ r) → ((r : Int) ≤ μ 3 3) → (∀ q : Nat, q < r → μc 9 q = ((scl (oun dA dB (μ 3 0) (μ 3 1)) (μ 3 2).toNat (μ 3 3).toNat (q) : Nat) : Int)) → (μc 8 = μa 8) → (μc 4 2 = cso (oun dA dB (μ 3 0) (μ 3 1)) (μ 3 2).toNat (μ 3 3).toNat ((μ 3 3).toNat - 1) (scl (oun dA dB (μ 3 0) (μ 3 1)) (μ 3 2).toNat (μ 3 3).toNat (0))) → (∀ k, k ≠ 4 → k ≠ 8 → k ≠ 9 → μc k = μ k) → 22 - r < n → jX F G 10 0 0 (jE F G (jQv G (fun μ' => rng μ' ∧ μ' 4 2 = cso (oun dA dB (μ 3 0) (μ 3 1)) (μ 3 2).toNat (μ 3 3).toNat ((μ 3 3).toNat - 1) (scl (oun dA dB (μ 3 0) (μ 3 1)) (μ 3 2).toNat (μ 3 3).toNat (0)) ∧ (∀ r : Nat, r < (μ 3 3).toNat → μ' 9 r = ((scl (oun dA dB (μ 3 0) (μ 3 1)) (μ 3 2).toNat (μ 3 3).toNat (r) : Nat) : Int)) ∧ ∀ k, k ≠ 4 → k ≠ 8 → k ≠ 9 → μ' k = μ k))) 159 [some (.inr (ad G 4)), some (.inr (ad G 3)), some (.inr (ad G (10 + a))), some (.inr (ad G (10 + b))), some (.inl (μ 3 2)), some (.inl (μ 3 3 - 1)), some (.inl ri), none, none, none] [] μc := by
          intro n
          induction n with
          | zero =>
            intro r ri μc hRc hri hr1 hr hcl hc8 hc4 hfc hms
            exact absurd hms (Nat.not_lt_zero _)
          | succ n ih =>
            intro r ri μc hRc hri hr1 hr hcl hc8 hc4 hfc hms
            have ih_159 := ih
            clear ih
            have hsl := scl_lt (own := oun dA dB (μ 3 0) (μ 3 1)) (w := (μ 3 2).toNat) (h := (μ 3 3).toNat) (by omega) (r - 1)
            refine jx_iload C dX6_find_159 rfl ?_
            refine jx_iload C dX6_find_161 rfl ?_
            refine jx_icmp_gt C dX6_find_163 (by omega) (by omega) (fun c_163 => ?_) (fun c_163 => ?_)
            · exact jx_vret C dX6_find_209 ⟨hRc, hc4, fun q hq => hcl q (by omega), hfc⟩
            · refine jx_aload_n C dX6_find_166 rfl ?_
              refine jx_get (v := .inr (ad G 9)) C 1 ft_X6 (jcl_SE G _) rfl (by decide) (by decide) wf_X6_15 dX6_find_167 ?_
              refine jx_iload C dX6_find_170 rfl ?_
              refine jx_aload_n C dX6_find_172 rfl ?_
              refine jx_iload C dX6_find_173 rfl ?_
              refine jx_aload_n C dX6_find_175 rfl ?_
              refine jx_get (v := .inr (ad G 9)) C 1 ft_X6 (jcl_SE G _) rfl (by decide) (by decide) wf_X6_15 dX6_find_176 ?_
              refine jx_iload C dX6_find_179 rfl ?_
              refine jx_iconst C dX6_find_181 ?_
              refine jx_isub C dX6_find_182 ?_
              refine jx_iald C (jcl_9 G _) (by decide) (by omega) (by omega) (by decide) dX6_find_183 ?_
              have r_183 := rg_9 hRc ((ri - 1).toNat)
              refine jx_top (b := ((scl (oun dA dB (μ 3 0) (μ 3 1)) (μ 3 2).toNat (μ 3 3).toNat (r - 1) : Nat) : Int)) (by rw [show (ri - 1).toNat = r - 1 by omega]; exact hcl (r - 1) (by omega)) ?_
              refine jx_iconst C dX6_find_184 ?_
              refine jx_isub C dX6_find_185 ?_
              refine jx_aload_n C dX6_find_186 rfl ?_
              refine jx_get (v := .inr (ad G 9)) C 1 ft_X6 (jcl_SE G _) rfl (by decide) (by decide) wf_X6_15 dX6_find_187 ?_
              refine jx_iload C dX6_find_190 rfl ?_
              refine jx_iconst C dX6_find_192 ?_
              refine jx_isub C dX6_find_193 ?_
              refine jx_iald C (jcl_9 G _) (by decide) (by omega) (by omega) (by decide) dX6_find_194 ?_
              have r_194 := rg_9 hRc ((ri - 1).toNat)
              refine jx_top (b := ((scl (oun dA dB (μ 3 0) (μ 3 1)) (μ 3 2).toNat (μ 3 3).toNat (r - 1) : Nat) : Int)) (by rw [show (ri - 1).toNat = r - 1 by omega]; exact hcl (r - 1) (by omega)) ?_
              refine jx_iconst C dX6_find_195 ?_
              refine jx_iadd C dX6_find_196 ?_
              refine jx_iload C dX6_find_197 rfl ?_
              refine jx_cVi (as := [.inl ri, .inl (((scl (oun dA dB (μ 3 0) (μ 3 1)) (μ 3 2).toNat (μ 3 3).toNat (r - 1) : Nat) : Int) - 1), .inl (((scl (oun dA dB (μ 3 0) (μ 3 1)) (μ 3 2).toNat (μ 3 3).toNat (r - 1) : Nat) : Int) + 1), .inl (μ 3 2)]) (st := [.inl ri, .inr (ad G 9)]) C Yy (c_X6_cheapest l G μc ((μ 3 2).toNat) (cso (oun dA dB (μ 3 0) (μ 3 1)) (μ 3 2).toNat (μ 3 3).toNat ((μ 3 3).toNat - 1 - r)) ri (((scl (oun dA dB (μ 3 0) (μ 3 1)) (μ 3 2).toNat (μ 3 3).toNat (r - 1) : Nat) : Int) - 1) (((scl (oun dA dB (μ 3 0) (μ 3 1)) (μ 3 2).toNat (μ 3 3).toNat (r - 1) : Nat) : Int) + 1) (μ 3 2) (by omega) (by omega) (by omega) (by omega) (by omega) (fun c2 hc2 => by have h9 := hca ((μ 3 3).toNat - 1 - r) (by omega) c2 hc2; rw [show μ 3 3 - 1 - (((μ 3 3).toNat - 1 - r : Nat) : Int) = ri by omega] at h9; rw [hc8]; exact h9) hRc) yb_X6_cheapest yv_X6_cheapest wm_X6_37 (jcl_SE G _) rfl (by decide) rfl rfl (Nat.le_of_ble_eq_true rfl) ⟨⟨rfl, rfl, Nat.le_of_ble_eq_true rfl, Nat.le_of_ble_eq_true rfl⟩, Nat.zero_le _, Nat.zero_le _⟩ dX6_find_199 ?_
              rintro _ _ ⟨rfl, rfl⟩
              have r_199 := chp_rng (cso (oun dA dB (μ 3 0) (μ 3 1)) (μ 3 2).toNat (μ 3 3).toNat ((μ 3 3).toNat - 1 - r)) (lo := (((scl (oun dA dB (μ 3 0) (μ 3 1)) (μ 3 2).toNat (μ 3 3).toNat (r - 1) : Nat) : Int) - 1)) (hi := (((scl (oun dA dB (μ 3 0) (μ 3 1)) (μ 3 2).toNat (μ 3 3).toNat (r - 1) : Nat) : Int) + 1)) (w := ((μ 3 2).toNat)) (by omega)
              refine jx_iast C (jcl_9 G _) (jcl_9 G _) (by decide) (by omega) (by omega) (by decide) dX6_find_202 ?_
              obtain ⟨μ3, eμ3⟩ : ∃ y_ : Mem, y_ = jms μc 9 ri.toNat ((chp (cso (oun dA dB (μ 3 0) (μ 3 1)) (μ 3 2).toNat (μ 3 3).toNat ((μ 3 3).toNat - 1 - r)) (((scl (oun dA dB (μ 3 0) (μ 3 1)) (μ 3 2).toNat (μ 3 3).toNat (r - 1) : Nat) : Int) - 1) (((scl (oun dA dB (μ 3 0) (μ 3 1)) (μ 3 2).toNat (μ 3 3).toNat (r - 1) : Nat) : Int) + 1) ((μ 3 2).toNat) : Nat) : Int) := ⟨_, rfl⟩
              rw [← eμ3]
              have hR3 : rng μ3 := by rw [eμ3]; exact rs_9 hRc ri.toNat (by omega) (by omega)
              refine jx_iinc (L' := [some (.inr (ad G 4)), some (.inr (ad G 3)), some (.inr (ad G (10 + a))), some (.inr (ad G (10 + b))), some (.inl (μ 3 2)), some (.inl (μ 3 3 - 1)), some (.inl (ri + 1)), none, none, none]) C dX6_find_203 rfl (by decide) rfl ?_
              refine jx_goto C dX6_find_206 ?_
              exact ih_159 (r + 1) (ri + 1) μ3 hR3 (by omega) (by omega) (by omega) (fun q hq => by
      rw [eμ3, jms_arr]
      by_cases eq : q = r
      · rw [if_pos (by omega), eq, scl_s (r := r) (by omega)]
      · rw [if_neg (by omega)]; exact hcl q (by omega)) (by rw [eμ3, jms_cell _ _ _ _ (by decide)]; exact hc8) (by rw [eμ3, jms_cell _ _ _ _ (by decide)]; exact hc4) (fun k h1 h2 h3 => by rw [eμ3, jms_cell _ _ _ _ h3]; exact hfc k h1 h2 h3) (by omega)
        exact LP_159 _ 1 1 μ2 hR2 rfl (Nat.le_refl _) (by omega) (fun q hq => by rw [eμ2, jms_cell _ _ _ _ (by decide), eμ1, show q = 0 by omega]; exact jms_same _ _ _ _) (by rw [eμ2, jms_cell _ _ _ _ (by decide), eμ1, jms_cell _ _ _ _ (by decide)]) (by rw [eμ2]; exact jms_same _ _ _ _) (fun k h1 h2 h3 => by rw [eμ2, jms_cell _ _ _ _ h1, eμ1, jms_cell _ _ _ _ h3]; exact hfa k h2) (Nat.lt_succ_self _)
      · refine jx_iconst C dX6_find_23 ?_
        refine jx_istore (L' := [some (.inr (ad G 4)), some (.inr (ad G 3)), some (.inr (ad G (10 + a))), some (.inr (ad G (10 + b))), some (.inl (μ 3 2)), some (.inl (μ 3 3 - 1)), some (.inl row), some (.inl 0), none, none]) C dX6_find_24 (by decide) rfl ?_
        have LP_26 : ∀ (n : Nat) (c : Nat) (col : Int) (μb : Mem), (rng μb) → (col = (c : Int)) → ((c : Int) ≤ μ 3 2) → (∀ q : Nat, q < k → ∀ c : Nat, c < (μ 3 2).toNat → μb 8 ((μ 3 3 - 1 - (q : Int)) * 20 + (c : Int)).toNat = cso (oun dA dB (μ 3 0) (μ 3 1)) (μ 3 2).toNat (μ 3 3).toNat (q) c) → (∀ c2 : Nat, c2 < c → μb 8 (row * 20 + (c2 : Int)).toNat = cso (oun dA dB (μ 3 0) (μ 3 1)) (μ 3 2).toNat (μ 3 3).toNat (k) c2) → (∀ q, q ≠ 8 → μb q = μ q) → 21 - c < n → jX F G 10 0 0 (jE F G (jQv G (fun μ' => rng μ' ∧ μ' 4 2 = cso (oun dA dB (μ 3 0) (μ 3 1)) (μ 3 2).toNat (μ 3 3).toNat ((μ 3 3).toNat - 1) (scl (oun dA dB (μ 3 0) (μ 3 1)) (μ 3 2).toNat (μ 3 3).toNat (0)) ∧ (∀ r : Nat, r < (μ 3 3).toNat → μ' 9 r = ((scl (oun dA dB (μ 3 0) (μ 3 1)) (μ 3 2).toNat (μ 3 3).toNat (r) : Nat) : Int)) ∧ ∀ k, k ≠ 4 → k ≠ 8 → k ≠ 9 → μ' k = μ k))) 26 [some (.inr (ad G 4)), some (.inr (ad G 3)), some (.inr (ad G (10 + a))), some (.inr (ad G (10 + b))), some (.inl (μ 3 2)), some (.inl (μ 3 3 - 1)), some (.inl row), some (.inl col), none, none] [] μb := by
          intro n
          induction n with
          | zero =>
            intro c col μb hRb hcol hc hcb hcr hfb hms
            exact absurd hms (Nat.not_lt_zero _)
          | succ n ih =>
            intro c col μb hRb hcol hc hcb hcr hfb hms
            have ih_26 := ih
            clear ih
            have q_0 : μb 3 0 = μ 3 0 := by rw [hfb 3 (by decide)]
            have q_1 : μb 3 1 = μ 3 1 := by rw [hfb 3 (by decide)]
            refine jx_iload C dX6_find_26 rfl ?_
            refine jx_iload C dX6_find_28 rfl ?_
            refine jx_icmp_ge C dX6_find_30 (by omega) (by omega) (fun c_30 => ?_) (fun c_30 => ?_)
            · refine jx_iinc (L' := [some (.inr (ad G 4)), some (.inr (ad G 3)), some (.inr (ad G (10 + a))), some (.inr (ad G (10 + b))), some (.inl (μ 3 2)), some (.inl (μ 3 3 - 1)), some (.inl (row + (-1))), some (.inl col), none, none]) C dX6_find_117 rfl (by decide) rfl ?_
              refine jx_goto C dX6_find_120 ?_
              refine jx_fewer (L' := [some (.inr (ad G 4)), some (.inr (ad G 3)), some (.inr (ad G (10 + a))), some (.inr (ad G (10 + b))), some (.inl (μ 3 2)), some (.inl (μ 3 3 - 1)), some (.inl (row + (-1))), none, none, none]) (fun i v h => ?_) ?_
              · exact jfew_ok (by simp [jfew]) h
              exact ih_18 (k + 1) (row + (-1)) μb hRb (by omega) (by omega) (fun q hq c2 hc2 => by
        by_cases eq : q = k
        · subst eq
          rw [← hrow]; exact hcr c2 (by omega)
        · exact hcb q (by omega) c2 hc2) hfb (by omega)
            · refine jx_aload_n C dX6_find_33 rfl ?_
              refine jx_aload_n C dX6_find_34 rfl ?_
              refine jx_aload_n C dX6_find_35 rfl ?_
              refine jx_get (v := .inl (μb 3 0)) C 0 ft_X3 (jcl_OV G _) rfl (by decide) (by decide) wf_X6_27 dX6_find_36 ?_
              have r_36 := rg_OV_0 hRb
              refine jx_top (b := μ 3 0) q_0 ?_
              refine jx_iload C dX6_find_39 rfl ?_
              refine jx_iadd C dX6_find_41 ?_
              refine jx_aload_n C dX6_find_42 rfl ?_
              refine jx_get (v := .inl (μb 3 1)) C 1 ft_X3 (jcl_OV G _) rfl (by decide) (by decide) wf_X6_30 dX6_find_43 ?_
              have r_43 := rg_OV_1 hRb
              refine jx_top (b := μ 3 1) q_1 ?_
              refine jx_iload C dX6_find_46 rfl ?_
              refine jx_iadd C dX6_find_48 ?_
              refine jx_cSi (as := [.inr (ad G (10 + a)), .inr (ad G (10 + b)), .inl (μ 3 0 + col), .inl (μ 3 1 + row)]) (st := []) C Yy (c_X6_unlikeness l G μb a b (by omega) (by omega) dA dB (fun x y => by rw [hfb (14 + a) (by omega), hfb (18 + a) (by omega), hfb (10 + a) (by omega)]; exact hdA x y) (fun x y => by rw [hfb (14 + b) (by omega), hfb (18 + b) (by omega), hfb (10 + b) (by omega)]; exact hdB x y) hrA hrB (μ 3 0 + col) (μ 3 1 + row) (by omega) (by omega) hRb) yb_X6_unlikeness ws_X6_unlikeness wm_X6_33 rfl rfl (Nat.le_of_ble_eq_true rfl) ⟨⟨rfl, rfl, Nat.le_of_ble_eq_true rfl, Nat.le_of_ble_eq_true rfl⟩, Nat.zero_le _, Nat.zero_le _⟩ dX6_find_49 ?_
              rintro _ _ ⟨rfl, rfl⟩
              have r_49 := unl_rng (p := dA (μ 3 0 + col) (μ 3 1 + row)) (q := dB (μ 3 0 + col) (μ 3 1 + row)) (hrA _ _) (hrB _ _)
              refine jx_istore (L' := [some (.inr (ad G 4)), some (.inr (ad G 3)), some (.inr (ad G (10 + a))), some (.inr (ad G (10 + b))), some (.inl (μ 3 2)), some (.inl (μ 3 3 - 1)), some (.inl row), some (.inl col), some (.inl (unl (dA (μ 3 0 + col) (μ 3 1 + row)) (dB (μ 3 0 + col) (μ 3 1 + row)))), none]) C dX6_find_52 (by decide) rfl ?_
              refine jx_iload C dX6_find_54 rfl ?_
              refine jx_iload C dX6_find_56 rfl ?_
              refine jx_icmp_ne C dX6_find_58 (by omega) (by omega) (fun c_58 => ?_) (fun c_58 => ?_)
              · refine jx_aload_n C dX6_find_65 rfl ?_
                refine jx_iload C dX6_find_66 rfl ?_
                refine jx_iconst C dX6_find_68 ?_
                refine jx_iadd C dX6_find_69 ?_
                refine jx_aload_n C dX6_find_70 rfl ?_
                refine jx_iload C dX6_find_71 rfl ?_
                refine jx_iconst C dX6_find_73 ?_
                refine jx_iadd C dX6_find_74 ?_
                refine jx_iload C dX6_find_75 rfl ?_
                refine jx_iconst C dX6_find_77 ?_
                refine jx_isub C dX6_find_78 ?_
                refine jx_iload C dX6_find_79 rfl ?_
                refine jx_iconst C dX6_find_81 ?_
                refine jx_iadd C dX6_find_82 ?_
                refine jx_iload C dX6_find_83 rfl ?_
                have hf1 : ∀ c2 : Nat, c2 < (μ 3 2).toNat → μb 8 ((row + 1) * 20 + (c2 : Int)).toNat = cso (oun dA dB (μ 3 0) (μ 3 1)) (μ 3 2).toNat (μ 3 3).toNat (k - 1) c2 := fun c2 hc2 => by have h9 := hcb (k - 1) (by omega) c2 hc2; rw [show μ 3 3 - 1 - ((k - 1 : Nat) : Int) = row + 1 by omega] at h9; exact h9
                have hcv := hcsR (k - 1) (chp (cso (oun dA dB (μ 3 0) (μ 3 1)) (μ 3 2).toNat (μ 3 3).toNat (k - 1)) (col - 1) (col + 1) (μ 3 2).toNat)
                refine jx_cVi (as := [.inl (row + 1), .inl (col - 1), .inl (col + 1), .inl (μ 3 2)]) (st := [.inl (row + 1), .inr (ad G 4)]) C Yy (c_X6_cheapest l G μb ((μ 3 2).toNat) (cso (oun dA dB (μ 3 0) (μ 3 1)) (μ 3 2).toNat (μ 3 3).toNat (k - 1)) (row + 1) (col - 1) (col + 1) (μ 3 2) (by omega) (by omega) (by omega) (by omega) (by omega) hf1 hRb) yb_X6_cheapest yv_X6_cheapest wm_X6_37 (jcl_SE G _) rfl (by decide) rfl rfl (Nat.le_of_ble_eq_true rfl) ⟨⟨rfl, rfl, Nat.le_of_ble_eq_true rfl, Nat.le_of_ble_eq_true rfl⟩, Nat.zero_le _, Nat.zero_le _⟩ dX6_find_85 ?_
                rintro _ _ ⟨rfl, rfl⟩
                have r_85 := chp_rng (cso (oun dA dB (μ 3 0) (μ 3 1)) (μ 3 2).toNat (μ 3 3).toNat (k - 1)) (lo := (col - 1)) (hi := (col + 1)) (w := ((μ 3 2).toNat)) (by omega)
                refine jx_cVi (as := [.inl (row + 1), .inl ((chp (cso (oun dA dB (μ 3 0) (μ 3 1)) (μ 3 2).toNat (μ 3 3).toNat (k - 1)) (col - 1) (col + 1) ((μ 3 2).toNat) : Nat) : Int)]) (st := []) C Yy (c_X6_costAt l G μb (row + 1) ((chp (cso (oun dA dB (μ 3 0) (μ 3 1)) (μ 3 2).toNat (μ 3 3).toNat (k - 1)) (col - 1) (col + 1) ((μ 3 2).toNat) : Nat) : Int) (by omega) (by omega) hRb) yb_X6_costAt yv_X6_costAt wm_X6_41 (jcl_SE G _) rfl (by decide) rfl rfl (Nat.le_of_ble_eq_true rfl) ⟨⟨rfl, rfl, Nat.le_of_ble_eq_true rfl, Nat.le_of_ble_eq_true rfl⟩, Nat.zero_le _, Nat.zero_le _⟩ dX6_find_88 ?_
                rintro _ _ ⟨rfl, rfl⟩
                have r_88 := rg_8 hRb ((row + 1) * 20 + ((chp (cso (oun dA dB (μ 3 0) (μ 3 1)) (μ 3 2).toNat (μ 3 3).toNat (k - 1)) (col - 1) (col + 1) ((μ 3 2).toNat) : Nat) : Int)).toNat
                refine jx_top (b := cso (oun dA dB (μ 3 0) (μ 3 1)) (μ 3 2).toNat (μ 3 3).toNat (k - 1) (chp (cso (oun dA dB (μ 3 0) (μ 3 1)) (μ 3 2).toNat (μ 3 3).toNat (k - 1)) (col - 1) (col + 1) (μ 3 2).toNat)) (hf1 _ r_85.2) ?_
                refine jx_istore (L' := [some (.inr (ad G 4)), some (.inr (ad G 3)), some (.inr (ad G (10 + a))), some (.inr (ad G (10 + b))), some (.inl (μ 3 2)), some (.inl (μ 3 3 - 1)), some (.inl row), some (.inl col), some (.inl (unl (dA (μ 3 0 + col) (μ 3 1 + row)) (dB (μ 3 0 + col) (μ 3 1 + row)))), some (.inl (cso (oun dA dB (μ 3 0) (μ 3 1)) (μ 3 2).toNat (μ 3 3).toNat (k - 1) (chp (cso (oun dA dB (μ 3 0) (μ 3 1)) (μ 3 2).toNat (μ 3 3).toNat (k - 1)) (col - 1) (col + 1) (μ 3 2).toNat)))]) C dX6_find_91 (by decide) rfl ?_
                refine jx_aload_n C dX6_find_93 rfl ?_
                refine jx_get (v := .inr (ad G 8)) C 0 ft_X6 (jcl_SE G _) rfl (by decide) (by decide) wf_X6_9 dX6_find_94 ?_
                refine jx_iload C dX6_find_97 rfl ?_
                refine jx_bipush C dX6_find_99 (by decide +kernel) ?_
                refine jx_imul C dX6_find_101 ?_
                refine jx_iload C dX6_find_102 rfl ?_
                refine jx_iadd C dX6_find_104 ?_
                refine jx_iload C dX6_find_105 rfl ?_
                refine jx_iload C dX6_find_107 rfl ?_
                refine jx_iadd C dX6_find_109 ?_
                refine jx_iast C (jcl_8 G _) (jcl_8 G _) (by decide) (by omega) (by omega) (by decide) dX6_find_110 ?_
                obtain ⟨μ4, eμ4⟩ : ∃ y_ : Mem, y_ = jms μb 8 ((row * 20 + col).toNat) (unl (dA (μ 3 0 + col) (μ 3 1 + row)) (dB (μ 3 0 + col) (μ 3 1 + row)) + (cso (oun dA dB (μ 3 0) (μ 3 1)) (μ 3 2).toNat (μ 3 3).toNat (k - 1) (chp (cso (oun dA dB (μ 3 0) (μ 3 1)) (μ 3 2).toNat (μ 3 3).toNat (k - 1)) (col - 1) (col + 1) (μ 3 2).toNat))) := ⟨_, rfl⟩
                rw [← eμ4]
                have hR4 : rng μ4 := by rw [eμ4]; exact rs_8 hRb ((row * 20 + col).toNat) (by omega) (by omega)
                refine jx_iinc (L' := [some (.inr (ad G 4)), some (.inr (ad G 3)), some (.inr (ad G (10 + a))), some (.inr (ad G (10 + b))), some (.inl (μ 3 2)), some (.inl (μ 3 3 - 1)), some (.inl row), some (.inl (col + 1)), some (.inl (unl (dA (μ 3 0 + col) (μ 3 1 + row)) (dB (μ 3 0 + col) (μ 3 1 + row)))), some (.inl (cso (oun dA dB (μ 3 0) (μ 3 1)) (μ 3 2).toNat (μ 3 3).toNat (k - 1) (chp (cso (oun dA dB (μ 3 0) (μ 3 1)) (μ 3 2).toNat (μ 3 3).toNat (k - 1)) (col - 1) (col + 1) (μ 3 2).toNat)))]) C dX6_find_111 rfl (by decide) rfl ?_
                refine jx_goto C dX6_find_114 ?_
                refine jx_fewer (L' := [some (.inr (ad G 4)), some (.inr (ad G 3)), some (.inr (ad G (10 + a))), some (.inr (ad G (10 + b))), some (.inl (μ 3 2)), some (.inl (μ 3 3 - 1)), some (.inl row), some (.inl (col + 1)), none, none]) (fun i v h => ?_) ?_
                · exact jfew_ok (by simp [jfew]) h
                exact ih_26 (c + 1) (col + 1) μ4 hR4 (by omega) (by omega) (fun q hq c2 hc2 => by rw [eμ4, jms_arr, if_neg (by omega)]; exact hcb q hq c2 hc2) (fun c2 hc2 => by
          rw [eμ4, jms_arr]
          by_cases ec : c2 = c
          · subst ec
            rw [if_pos (by rw [hcol]), oun_at (x0 := μ 3 0) (y0 := μ 3 1) (r := (μ 3 3).toNat - 1 - k) (c := c2) (by omega) (by omega), cso_s (k := k) (by omega), hcol]
          · rw [if_neg (by omega)]; exact hcr c2 (by omega)) (fun q hq => by rw [eμ4, jms_cell _ _ _ _ hq]; exact hfb q hq) (by omega)
              · refine jx_iconst C dX6_find_61 ?_
                refine jx_goto C dX6_find_62 ?_
                refine jx_istore (L' := [some (.inr (ad G 4)), some (.inr (ad G 3)), some (.inr (ad G (10 + a))), some (.inr (ad G (10 + b))), some (.inl (μ 3 2)), some (.inl (μ 3 3 - 1)), some (.inl row), some (.inl col), some (.inl (unl (dA (μ 3 0 + col) (μ 3 1 + row)) (dB (μ 3 0 + col) (μ 3 1 + row)))), some (.inl 0)]) C dX6_find_91 (by decide) rfl ?_
                refine jx_aload_n C dX6_find_93 rfl ?_
                refine jx_get (v := .inr (ad G 8)) C 0 ft_X6 (jcl_SE G _) rfl (by decide) (by decide) wf_X6_9 dX6_find_94 ?_
                refine jx_iload C dX6_find_97 rfl ?_
                refine jx_bipush C dX6_find_99 (by decide +kernel) ?_
                refine jx_imul C dX6_find_101 ?_
                refine jx_iload C dX6_find_102 rfl ?_
                refine jx_iadd C dX6_find_104 ?_
                refine jx_iload C dX6_find_105 rfl ?_
                refine jx_iload C dX6_find_107 rfl ?_
                refine jx_iadd C dX6_find_109 ?_
                refine jx_iast C (jcl_8 G _) (jcl_8 G _) (by decide) (by omega) (by omega) (by decide) dX6_find_110 ?_
                obtain ⟨μ5, eμ5⟩ : ∃ y_ : Mem, y_ = jms μb 8 ((row * 20 + col).toNat) (unl (dA (μ 3 0 + col) (μ 3 1 + row)) (dB (μ 3 0 + col) (μ 3 1 + row)) + 0) := ⟨_, rfl⟩
                rw [← eμ5]
                have hR5 : rng μ5 := by rw [eμ5]; exact rs_8 hRb ((row * 20 + col).toNat) (by omega) (by omega)
                refine jx_iinc (L' := [some (.inr (ad G 4)), some (.inr (ad G 3)), some (.inr (ad G (10 + a))), some (.inr (ad G (10 + b))), some (.inl (μ 3 2)), some (.inl (μ 3 3 - 1)), some (.inl row), some (.inl (col + 1)), some (.inl (unl (dA (μ 3 0 + col) (μ 3 1 + row)) (dB (μ 3 0 + col) (μ 3 1 + row)))), some (.inl 0)]) C dX6_find_111 rfl (by decide) rfl ?_
                refine jx_goto C dX6_find_114 ?_
                refine jx_fewer (L' := [some (.inr (ad G 4)), some (.inr (ad G 3)), some (.inr (ad G (10 + a))), some (.inr (ad G (10 + b))), some (.inl (μ 3 2)), some (.inl (μ 3 3 - 1)), some (.inl row), some (.inl (col + 1)), none, none]) (fun i v h => ?_) ?_
                · exact jfew_ok (by simp [jfew]) h
                exact ih_26 (c + 1) (col + 1) μ5 hR5 (by omega) (by omega) (fun q hq c2 hc2 => by rw [eμ5, jms_arr, if_neg (by omega)]; exact hcb q hq c2 hc2) (fun c2 hc2 => by
          rw [eμ5, jms_arr]
          by_cases ec : c2 = c
          · subst ec
            rw [if_pos (by rw [hcol]), oun_at (x0 := μ 3 0) (y0 := μ 3 1) (r := (μ 3 3).toNat - 1 - k) (c := c2) (by omega) (by omega), cso_0 (k := k) (by omega)]
          · rw [if_neg (by omega)]; exact hcr c2 (by omega)) (fun q hq => by rw [eμ5, jms_cell _ _ _ _ hq]; exact hfb q hq) (by omega)
        exact LP_26 _ 0 0 μa hRa (by omega) (by omega) hca (fun c2 hc2 => absurd hc2 (Nat.not_lt_zero _)) hfa (Nat.lt_succ_self _)
  exact LP_18 _ 0 (μ 3 3 - 1) μ hR (by omega) (by omega) (fun q hq => absurd hq (Nat.not_lt_zero _)) (fun q _ => rfl) (Nat.lt_succ_self _)
