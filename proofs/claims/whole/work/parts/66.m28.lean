set_option maxHeartbeats 4000000 in
set_option maxRecDepth 100000 in
theorem c_X9_seam (l : Launch) (G : GT) (μ : Mem) (u w t : Int) (hu : InR u) (hw : InR w) (ht : InR t) (hMI : MIv μ) (hR : rng μ) : MI l yX9_seam cX9_seam 10 .int ({ frames := 6, cells := 0, slots := 0, locals := 143 } : Room) G [.inr (ad G 78), .inl u, .inl w, .inl t] μ (MP μ (a_seam (mB μ) u w t) (mB μ) (μ 78 0)) := by
  refine MI.of (by decide +kernel) (Nat.le_of_ble_eq_true rfl) ?_
  intro F C Yy
  show jX F G 10 0 0 (jE F G (jQi G (MP μ (a_seam (mB μ) u w t) (mB μ) (μ 78 0)))) 0 [some (.inr (ad G 78)), some (.inl u), some (.inl w), some (.inl t), none, none, none, none, none, none] [] μ
  obtain ⟨hN, hN4⟩ := mB_N hR
  refine jx_aload_n C dX9_seam_0 rfl ?_
  refine jx_iload_n C dX9_seam_1 rfl ?_
  refine jx_iload_n C dX9_seam_2 rfl ?_
  refine jx_iconst C dX9_seam_3 ?_
  refine jx_cVi (as := [.inl u, .inl w, .inl 1]) (st := []) C Yy (c_X9_barsOverlap l G μ u w 1 (by omega) (by omega) (by omega) hMI hR) yb_X9_barsOverlap yv_X9_barsOverlap wm_X9_176 (jcl_MO G _) rfl (by decide) rfl rfl (Nat.le_of_ble_eq_true rfl) ⟨⟨rfl, rfl, Nat.le_of_ble_eq_true rfl, Nat.le_of_ble_eq_true rfl⟩, Nat.zero_le _, Nat.zero_le _⟩ dX9_seam_4 ?_
  intro z_4 μ1 hμ1
  have hR1 := hμ1.1
  have hX := hμ1.2.1
  have hrf : z_4 = rof (mB μ) u w (True) := by rw [hμ1.2.2.1]; exact rof_cong (by first | omega | simp)
  have hrr := rof_rng (mB μ) u w (True)
  have hOV := hμ1.2.2.2
  refine jx_istore (L' := [some (.inr (ad G 78)), some (.inl u), some (.inl w), some (.inl t), some (.inl z_4), none, none, none, none, none]) C dX9_seam_7 (by decide) rfl ?_
  refine jx_iload C dX9_seam_9 rfl ?_
  refine jx_if_ge C dX9_seam_11 (by omega) (fun c_11 => ?_) (fun c_11 => ?_)
  · obtain ⟨a, b, hua, hwb, ha, hb, hab, ja, jb, hMD, hov⟩ := hOV (by omega)
    have ov0 : μ1 78 22 = (bov (mB μ) a b).1 := congrArg (fun z => z.1) hov
    have ov1 : μ1 78 23 = (bov (mB μ) a b).2.1 := congrArg (fun z => z.2.1) hov
    have ov2 : μ1 78 24 = (bov (mB μ) a b).2.2.1 := congrArg (fun z => z.2.2.1) hov
    have ov3 : μ1 78 25 = (bov (mB μ) a b).2.2.2 := congrArg (fun z => z.2.2.2) hov
    have hau : u.toNat = a := by omega
    have hbw : w.toNat = b := by omega
    have hBx : mB μ1 = mB μ := hX.2.2.1
    have hbr := bov_rng (mB_ok hR) (a := a) (b := b) ha
    have hov2 : (μ1 78 22, μ1 78 23, μ1 78 24, μ1 78 25) = ovr (μ1 91 a) (μ1 92 a) (μ1 79 a) (μ1 80 a) (μ1 91 b) (μ1 92 b) (μ1 79 b) (μ1 80 b) := by rw [hov, ← hBx]; exact (MD_ovr hMD (by rw [hBx]; exact ha) (by rw [hBx]; exact hb) (by rw [hBx]; exact ja) (by rw [hBx]; exact jb)).symm
    have hin : ∀ x y : Int, 0 ≤ x → x < μ1 78 24 → 0 ≤ y → y < μ1 78 25 → _ := fun x y h1 h2 h3 h4 => OV_in hov2 ⟨h1, h2⟩ ⟨h3, h4⟩
    have hdA : ∀ x y, dgt (μ1 79 a) (μ1 80 a) (mvv μ1 a) (x - μ1 91 a) (y - μ1 92 a) = bda (mB μ) a x y := fun x y => by rw [← hBx]; exact MD_bda hMD (by rw [hBx]; exact ha) (by rw [hBx]; exact ja) x y
    have hdB : ∀ x y, dgt (μ1 79 b) (μ1 80 b) (mvv μ1 b) (x - μ1 91 b) (y - μ1 92 b) = bda (mB μ) b x y := fun x y => by rw [← hBx]; exact MD_bda hMD (by rw [hBx]; exact hb) (by rw [hBx]; exact jb) x y
    have hrA := fun x y => bda_rng (mB_ok hR) (a := a) ha x y
    have hrB := fun x y => bda_rng (mB_ok hR) (a := b) hb x y
    obtain ⟨wn, hwn⟩ : ∃ wn : Nat, wn = (bov (mB μ) a b).2.2.1.toNat := ⟨_, rfl⟩
    obtain ⟨hn, hhn⟩ : ∃ hn : Nat, hn = (bov (mB μ) a b).2.2.2.toNat := ⟨_, rfl⟩
    have hw24 : μ1 78 24 = (wn : Int) := by omega
    have hh25 : μ1 78 25 = (hn : Int) := by omega
    have hw20 : wn ≤ 20 ∧ hn ≤ 20 := by omega
    obtain ⟨ox, hox⟩ : ∃ ox, ox = (bov (mB μ) a b).1 := ⟨_, rfl⟩
    obtain ⟨oy, hoy⟩ : ∃ oy, oy = (bov (mB μ) a b).2.1 := ⟨_, rfl⟩
    rw [← hox] at ov0
    rw [← hoy] at ov1
    obtain ⟨own, hown⟩ : ∃ own, own = bou (mB μ) a b := ⟨_, rfl⟩
    have hoR : ∀ r c, 0 ≤ own r c ∧ own r c ≤ 255 := fun r c => by rw [hown]; exact bou_rng (mB_ok hR) ha hb r c
    have hwh := bov_wh (B := mB μ) (a := a) (b := b)
    have hcsR := fun k c => cso_rng hoR wn hn k c
    refine jx_aload_n C dX9_seam_17 rfl ?_
    refine jx_get (v := .inl (μ1 78 24)) C 24 ft_X9 (jcl_MO G _) rfl (by decide) (by decide) wf_X9_167 dX9_seam_18 ?_
    have r_18 := rg_MO_24 hR1
    have e_18 : μ1 78 24 = (wn : Int) := hw24
    rw [e_18] at r_18
    refine jx_top (b := (wn : Int)) e_18 ?_
    refine jx_if_eq C dX9_seam_21 (by omega) (fun c_21 => ?_) (fun c_21 => ?_)
    · refine jx_bipush C dX9_seam_38 (by decide +kernel) ?_
      exact jx_iret C dX9_seam_40 (MP_x hX (by rw [a_seam, if_neg (by omega), if_pos (by rw [hau, hbw]; omega)]))
    · refine jx_iload_n C dX9_seam_24 rfl ?_
      refine jx_iconst C dX9_seam_25 ?_
      refine jx_aload_n C dX9_seam_26 rfl ?_
      refine jx_get (v := .inl (μ1 78 25)) C 25 ft_X9 (jcl_MO G _) rfl (by decide) (by decide) wf_X9_170 dX9_seam_27 ?_
      have r_27 := rg_MO_25 hR1
      have e_27 : μ1 78 25 = (hn : Int) := hh25
      rw [e_27] at r_27
      refine jx_top (b := (hn : Int)) e_27 ?_
      refine jx_iconst C dX9_seam_30 ?_
      refine jx_isub C dX9_seam_31 ?_
      refine jx_cSi (as := [.inl t, .inl (-1), .inl ((hn : Int) - 1)]) (st := []) C Yy (c_X9_in l G μ1 t (-1) ((hn : Int) - 1) (by omega) (by omega) (by omega)) yb_X9_in ws_X9_in wm_X9_71 rfl rfl (Nat.le_of_ble_eq_true rfl) ⟨⟨rfl, rfl, Nat.le_of_ble_eq_true rfl, Nat.le_of_ble_eq_true rfl⟩, Nat.zero_le _, Nat.zero_le _⟩ dX9_seam_32 ?_
      rintro _ _ ⟨rfl, ⟨rfl, c_32⟩ | ⟨rfl, c_32⟩⟩
      · refine jx_if_ne C dX9_seam_35 (by decide) (fun _ => ?_) (fun q => absurd q (by decide))
        refine jx_aload_n C dX9_seam_41 rfl ?_
        refine jx_get (v := .inl (μ1 78 25)) C 25 ft_X9 (jcl_MO G _) rfl (by decide) (by decide) wf_X9_170 dX9_seam_42 ?_
        have r_42 := rg_MO_25 hR1
        have e_42 : μ1 78 25 = (hn : Int) := hh25
        rw [e_42] at r_42
        refine jx_top (b := (hn : Int)) e_42 ?_
        refine jx_iconst C dX9_seam_45 ?_
        refine jx_isub C dX9_seam_46 ?_
        refine jx_istore (L' := [some (.inr (ad G 78)), some (.inl u), some (.inl w), some (.inl t), some (.inl z_4), some (.inl ((hn : Int) - 1)), none, none, none, none]) C dX9_seam_47 (by decide) rfl ?_
        have LP_49 : ∀ (n : Nat) (k : Nat) (r5 : Int) (μa : Mem), (rng μa) → (r5 = (hn : Int) - 1 - (k : Int)) → (k ≤ hn) → (∀ q : Nat, q < k → ∀ c : Nat, c < wn → μa 95 (20 * ((hn : Int) - 1 - (q : Int)) + (c : Int)).toNat = cso own wn hn q c) → (∀ j, j ≠ 95 → μa j = μ1 j) → 21 - k < n → jX F G 10 0 0 (jE F G (jQi G (MP μ (a_seam (mB μ) u w t) (mB μ) (μ 78 0)))) 49 [some (.inr (ad G 78)), some (.inl u), some (.inl w), some (.inl t), some (.inl z_4), some (.inl r5), none, none, none, none] [] μa := by
          intro n
          induction n with
          | zero =>
            intro k r5 μa hRa hr5 hk hca hfa hms
            exact absurd hms (Nat.not_lt_zero _)
          | succ n ih =>
            intro k r5 μa hRa hr5 hk hca hfa hms
            have ih_49 := ih
            clear ih
            refine jx_iload C dX9_seam_49 rfl ?_
            refine jx_if_lt C dX9_seam_51 (by omega) (fun c_51 => ?_) (fun c_51 => ?_)
            · have hrow0 : ∀ c : Nat, c < wn → μa 95 c = cso own wn hn (hn - 1) c := fun c hc => by have h9 := hca (hn - 1) (by omega) c hc; rw [show (20 * ((hn : Int) - 1 - ((hn - 1 : Nat) : Int)) + (c : Int)).toNat = c by omega] at h9; exact h9
              have q_w : μa 78 24 = (wn : Int) := by rw [hfa 78 (by decide)]; exact hw24
              refine jx_iconst C dX9_seam_185 ?_
              refine jx_istore (L' := [some (.inr (ad G 78)), some (.inl u), some (.inl w), some (.inl t), some (.inl z_4), some (.inl 0), none, none, none, none]) C dX9_seam_186 (by decide) rfl ?_
              refine jx_iconst C dX9_seam_188 ?_
              refine jx_istore (L' := [some (.inr (ad G 78)), some (.inl u), some (.inl w), some (.inl t), some (.inl z_4), some (.inl 0), some (.inl 1), none, none, none]) C dX9_seam_189 (by decide) rfl ?_
              have LP_191 : ∀ (n : Nat) (nn : Nat) (c6 : Int) (at5 : Int), (c6 = (nn : Int) + 1) → (nn + 1 ≤ wn) → (at5 = ((chg (cso own wn hn (hn - 1)) 0 nn : Nat) : Int)) → 21 - nn < n → jX F G 10 0 0 (jE F G (jQi G (MP μ (a_seam (mB μ) u w t) (mB μ) (μ 78 0)))) 191 [some (.inr (ad G 78)), some (.inl u), some (.inl w), some (.inl t), some (.inl z_4), some (.inl at5), some (.inl c6), none, none, none] [] μa := by
                intro n
                induction n with
                | zero =>
                  intro nn c6 at5 hc6 hn1 hat5 hms
                  exact absurd hms (Nat.not_lt_zero _)
                | succ n ih =>
                  intro nn c6 at5 hc6 hn1 hat5 hms
                  have ih_191 := ih
                  clear ih
                  have hcg0 := chg_rng (cso own wn hn (hn - 1)) 0 nn
                  refine jx_iload C dX9_seam_191 rfl ?_
                  refine jx_aload_n C dX9_seam_193 rfl ?_
                  refine jx_get (v := .inl (μa 78 24)) C 24 ft_X9 (jcl_MO G _) rfl (by decide) (by decide) wf_X9_167 dX9_seam_194 ?_
                  have r_194 := rg_MO_24 hRa
                  have e_194 : μa 78 24 = (wn : Int) := q_w
                  rw [e_194] at r_194
                  refine jx_top (b := (wn : Int)) e_194 ?_
                  refine jx_icmp_ge C dX9_seam_197 (by omega) (by omega) (fun c_197 => ?_) (fun c_197 => ?_)
                  · have hat0 : at5 = ((scl own wn hn 0 : Nat) : Int) := by rw [hat5, scl_0, chp_row _ (by omega), show nn = wn - 1 by omega]
                    have hs0 := scl_lt (own := own) (w := wn) (h := hn) (by omega) 0
                    refine jx_iload_n C dX9_seam_232 rfl ?_
                    refine jx_iconst C dX9_seam_233 ?_
                    refine jx_icmp_ne C dX9_seam_234 (by omega) (by decide) (fun c_234 => ?_) (fun c_234 => ?_)
                    · refine jx_iconst C dX9_seam_245 ?_
                      refine jx_istore (L' := [some (.inr (ad G 78)), some (.inl u), some (.inl w), some (.inl t), some (.inl z_4), some (.inl at5), some (.inl 0), none, none, none]) C dX9_seam_246 (by decide) rfl ?_
                      have LP_248 : ∀ (n : Nat) (m : Nat) (m6 : Int) (at9 : Int), (m6 = (m : Int)) → ((m : Int) ≤ t) → (at9 = ((scl own wn hn m : Nat) : Int)) → 21 - m < n → jX F G 10 0 0 (jE F G (jQi G (MP μ (a_seam (mB μ) u w t) (mB μ) (μ 78 0)))) 248 [some (.inr (ad G 78)), some (.inl u), some (.inl w), some (.inl t), some (.inl z_4), some (.inl at9), some (.inl m6), none, none, none] [] μa := by
                        intro n
                        induction n with
                        | zero =>
                          intro m m6 at9 hm6 hmt hat9 hms
                          exact absurd hms (Nat.not_lt_zero _)
                        | succ n ih =>
                          intro m m6 at9 hm6 hmt hat9 hms
                          have ih_248 := ih
                          clear ih
                          have hsm := scl_lt (own := own) (w := wn) (h := hn) (by omega) m
                          refine jx_iload C dX9_seam_248 rfl ?_
                          refine jx_iload_n C dX9_seam_250 rfl ?_
                          refine jx_icmp_ge C dX9_seam_251 (by omega) (by omega) (fun c_251 => ?_) (fun c_251 => ?_)
                          · refine jx_iload C dX9_seam_270 rfl ?_
                            exact jx_iret C dX9_seam_272 (MP_x (MPx_95 hX hRa hfa) (by rw [a_seam, if_neg (by omega), if_neg (by rw [hau, hbw]; omega), if_neg (by omega), hau, hbw, ← hwn, ← hhn, ← hown, show t.toNat = m by omega]; exact hat9.symm))
                          · refine jx_aload_n C dX9_seam_254 rfl ?_
                            refine jx_iload C dX9_seam_255 rfl ?_
                            refine jx_iload C dX9_seam_257 rfl ?_
                            refine jx_cVi (as := [.inl m6, .inl at9]) (st := []) C Yy (c_X9_below l G μa wn (cso own wn hn (hn - 1 - (m + 1))) m6 at9 (by omega) (by rw [hfa 78 (by decide)]; exact hw24) (by omega) (by omega) (fun c2 hc2 => by have h9 := hca (hn - 1 - (m + 1)) (by omega) c2 hc2; rw [show (hn : Int) - 1 - ((hn - 1 - (m + 1) : Nat) : Int) = m6 + 1 by omega] at h9; exact h9) hRa) yb_X9_below yv_X9_below wm_X9_187 (jcl_MO G _) rfl (by decide) rfl rfl (Nat.le_of_ble_eq_true rfl) ⟨⟨rfl, rfl, Nat.le_of_ble_eq_true rfl, Nat.le_of_ble_eq_true rfl⟩, Nat.zero_le _, Nat.zero_le _⟩ dX9_seam_259 ?_
                            rintro _ _ ⟨rfl, rfl⟩
                            have r_259 := chp_rng (cso own wn hn (hn - 1 - (m + 1))) (lo := at9 - 1) (hi := at9 + 1) (w := wn) (by omega)
                            refine jx_istore (L' := [some (.inr (ad G 78)), some (.inl u), some (.inl w), some (.inl t), some (.inl z_4), some (.inl ((chp (cso own wn hn (hn - 1 - (m + 1))) (at9 - 1) (at9 + 1) wn : Nat) : Int)), some (.inl m6), none, none, none]) C dX9_seam_262 (by decide) rfl ?_
                            refine jx_iinc (L' := [some (.inr (ad G 78)), some (.inl u), some (.inl w), some (.inl t), some (.inl z_4), some (.inl ((chp (cso own wn hn (hn - 1 - (m + 1))) (at9 - 1) (at9 + 1) wn : Nat) : Int)), some (.inl (m6 + 1)), none, none, none]) C dX9_seam_264 rfl (by decide) rfl ?_
                            refine jx_goto C dX9_seam_267 ?_
                            exact ih_248 (m + 1) (m6 + 1) ((chp (cso own wn hn (hn - 1 - (m + 1))) (at9 - 1) (at9 + 1) wn : Nat) : Int) (by omega) (by omega) (by rw [scl_s (r := m + 1) (by omega), Nat.add_sub_cancel, hat9]) (by omega)
                      exact LP_248 _ 0 0 at5 rfl (by omega) hat0 (Nat.lt_succ_self _)
                    · refine jx_aload_n C dX9_seam_237 rfl ?_
                      refine jx_get (v := .inr (ad G 95)) C 26 ft_X9 (jcl_MO G _) rfl (by decide) (by decide) wf_X9_65 dX9_seam_238 ?_
                      refine jx_iload C dX9_seam_241 rfl ?_
                      refine jx_iald C (jcl_95 G _) (by decide) (by omega) (by omega) (by decide) dX9_seam_243 ?_
                      have r_243 := rg_95 hRa at5.toNat
                      have e_243 : μa 95 at5.toNat = cso own wn hn (hn - 1) (scl own wn hn 0) := (by rw [hat0, Int.toNat_natCast]; exact hrow0 _ hs0)
                      rw [e_243] at r_243
                      refine jx_top (b := cso own wn hn (hn - 1) (scl own wn hn 0)) e_243 ?_
                      exact jx_iret C dX9_seam_244 (MP_x (MPx_95 hX hRa hfa) (by rw [a_seam, if_neg (by omega), if_neg (by rw [hau, hbw]; omega), if_pos (by omega), hau, hbw, ← hwn, ← hhn, ← hown]; first | done | rfl))
                  · have hcg := chg_rng (cso own wn hn (hn - 1)) 0 nn
                    have hcz := hcsR (hn - 1) (nn + 1)
                    have hcy := hcsR (hn - 1) (chg (cso own wn hn (hn - 1)) 0 nn)
                    refine jx_aload_n C dX9_seam_200 rfl ?_
                    refine jx_get (v := .inr (ad G 95)) C 26 ft_X9 (jcl_MO G _) rfl (by decide) (by decide) wf_X9_65 dX9_seam_201 ?_
                    refine jx_iload C dX9_seam_204 rfl ?_
                    refine jx_iald C (jcl_95 G _) (by decide) (by omega) (by omega) (by decide) dX9_seam_206 ?_
                    have r_206 := rg_95 hRa c6.toNat
                    have e_206 : μa 95 c6.toNat = cso own wn hn (hn - 1) (nn + 1) := (by rw [show c6.toNat = nn + 1 by omega]; exact hrow0 _ (by omega))
                    rw [e_206] at r_206
                    refine jx_top (b := cso own wn hn (hn - 1) (nn + 1)) e_206 ?_
                    refine jx_aload_n C dX9_seam_207 rfl ?_
                    refine jx_get (v := .inr (ad G 95)) C 26 ft_X9 (jcl_MO G _) rfl (by decide) (by decide) wf_X9_65 dX9_seam_208 ?_
                    refine jx_iload C dX9_seam_211 rfl ?_
                    refine jx_iald C (jcl_95 G _) (by decide) (by omega) (by omega) (by decide) dX9_seam_213 ?_
                    have r_213 := rg_95 hRa at5.toNat
                    have e_213 : μa 95 at5.toNat = cso own wn hn (hn - 1) (chg (cso own wn hn (hn - 1)) 0 nn) := (by rw [hat5, Int.toNat_natCast]; exact hrow0 _ (by omega))
                    rw [e_213] at r_213
                    refine jx_top (b := cso own wn hn (hn - 1) (chg (cso own wn hn (hn - 1)) 0 nn)) e_213 ?_
                    refine jx_icmp_ge C dX9_seam_214 (by omega) (by omega) (fun c_214 => ?_) (fun c_214 => ?_)
                    · refine jx_iload C dX9_seam_222 rfl ?_
                      refine jx_istore (L' := [some (.inr (ad G 78)), some (.inl u), some (.inl w), some (.inl t), some (.inl z_4), some (.inl at5), some (.inl c6), none, none, none]) C dX9_seam_224 (by decide) rfl ?_
                      refine jx_iinc (L' := [some (.inr (ad G 78)), some (.inl u), some (.inl w), some (.inl t), some (.inl z_4), some (.inl at5), some (.inl (c6 + 1)), none, none, none]) C dX9_seam_226 rfl (by decide) rfl ?_
                      refine jx_goto C dX9_seam_229 ?_
                      exact ih_191 (nn + 1) (c6 + 1) at5 (by omega) (by omega) (by rw [chg_s, if_neg (by omega)]; exact hat5) (by omega)
                    · refine jx_iload C dX9_seam_217 rfl ?_
                      refine jx_goto C dX9_seam_219 ?_
                      refine jx_istore (L' := [some (.inr (ad G 78)), some (.inl u), some (.inl w), some (.inl t), some (.inl z_4), some (.inl c6), some (.inl c6), none, none, none]) C dX9_seam_224 (by decide) rfl ?_
                      refine jx_iinc (L' := [some (.inr (ad G 78)), some (.inl u), some (.inl w), some (.inl t), some (.inl z_4), some (.inl c6), some (.inl (c6 + 1)), none, none, none]) C dX9_seam_226 rfl (by decide) rfl ?_
                      refine jx_goto C dX9_seam_229 ?_
                      exact ih_191 (nn + 1) (c6 + 1) c6 (by omega) (by omega) (by rw [chg_s, if_pos (by omega)]; omega) (by omega)
              exact LP_191 _ 0 1 0 rfl (by omega) rfl (Nat.lt_succ_self _)
            · refine jx_iconst C dX9_seam_54 ?_
              refine jx_istore (L' := [some (.inr (ad G 78)), some (.inl u), some (.inl w), some (.inl t), some (.inl z_4), some (.inl r5), some (.inl 0), none, none, none]) C dX9_seam_55 (by decide) rfl ?_
              have LP_57 : ∀ (n : Nat) (c : Nat) (c6 : Int) (μb : Mem), (rng μb) → (c6 = (c : Int)) → (c ≤ wn) → (∀ q : Nat, q < k → ∀ c : Nat, c < wn → μb 95 (20 * ((hn : Int) - 1 - (q : Int)) + (c : Int)).toNat = cso own wn hn q c) → (∀ c2 : Nat, c2 < c → μb 95 (20 * r5 + (c2 : Int)).toNat = cso own wn hn k c2) → (∀ j, j ≠ 95 → μb j = μ1 j) → 21 - c < n → jX F G 10 0 0 (jE F G (jQi G (MP μ (a_seam (mB μ) u w t) (mB μ) (μ 78 0)))) 57 [some (.inr (ad G 78)), some (.inl u), some (.inl w), some (.inl t), some (.inl z_4), some (.inl r5), some (.inl c6), none, none, none] [] μb := by
                intro n
                induction n with
                | zero =>
                  intro c c6 μb hRb hc6 hc hcb hcr hfb hms
                  exact absurd hms (Nat.not_lt_zero _)
                | succ n ih =>
                  intro c c6 μb hRb hc6 hc hcb hcr hfb hms
                  have ih_57 := ih
                  clear ih
                  have q_22 : μb 78 22 = μ1 78 22 := by rw [hfb 78 (by decide)]
                  have q_23 : μb 78 23 = μ1 78 23 := by rw [hfb 78 (by decide)]
                  have q_24 : μb 78 24 = μ1 78 24 := by rw [hfb 78 (by decide)]
                  have q_25 : μb 78 25 = μ1 78 25 := by rw [hfb 78 (by decide)]
                  have q_91a : μb 91 a = μ1 91 a := by rw [hfb 91 (by decide)]
                  have q_91b : μb 91 b = μ1 91 b := by rw [hfb 91 (by decide)]
                  have q_92a : μb 92 a = μ1 92 a := by rw [hfb 92 (by decide)]
                  have q_92b : μb 92 b = μ1 92 b := by rw [hfb 92 (by decide)]
                  have q_79a : μb 79 a = μ1 79 a := by rw [hfb 79 (by decide)]
                  have q_79b : μb 79 b = μ1 79 b := by rw [hfb 79 (by decide)]
                  have q_80a : μb 80 a = μ1 80 a := by rw [hfb 80 (by decide)]
                  have q_80b : μb 80 b = μ1 80 b := by rw [hfb 80 (by decide)]
                  have hdA2 : ∀ x y, dgt (μb 79 a) (μb 80 a) (mvv μb a) (x - μb 91 a) (y - μb 92 a) = bda (mB μ) a x y := fun x y => by unfold mvv; rw [hfb 79 (by decide), hfb 80 (by decide), hfb 81 (by decide), hfb 91 (by decide), hfb 92 (by decide)]; exact hdA x y
                  have hdB2 : ∀ x y, dgt (μb 79 b) (μb 80 b) (mvv μb b) (x - μb 91 b) (y - μb 92 b) = bda (mB μ) b x y := fun x y => by unfold mvv; rw [hfb 79 (by decide), hfb 80 (by decide), hfb 81 (by decide), hfb 91 (by decide), hfb 92 (by decide)]; exact hdB x y
                  have hpA := hrA (ox + c6) (oy + r5)
                  have hpB := hrB (ox + c6) (oy + r5)
                  refine jx_iload C dX9_seam_57 rfl ?_
                  refine jx_aload_n C dX9_seam_59 rfl ?_
                  refine jx_get (v := .inl (μb 78 24)) C 24 ft_X9 (jcl_MO G _) rfl (by decide) (by decide) wf_X9_167 dX9_seam_60 ?_
                  have r_60 := rg_MO_24 hRb
                  have e_60 : μb 78 24 = (wn : Int) := (by rw [hfb 78 (by decide)]; exact hw24)
                  rw [e_60] at r_60
                  refine jx_top (b := (wn : Int)) e_60 ?_
                  refine jx_icmp_ge C dX9_seam_63 (by omega) (by omega) (fun c_63 => ?_) (fun c_63 => ?_)
                  · refine jx_iinc (L' := [some (.inr (ad G 78)), some (.inl u), some (.inl w), some (.inl t), some (.inl z_4), some (.inl (r5 + (-1))), some (.inl c6), none, none, none]) C dX9_seam_179 rfl (by decide) rfl ?_
                    refine jx_goto C dX9_seam_182 ?_
                    refine jx_fewer (L' := [some (.inr (ad G 78)), some (.inl u), some (.inl w), some (.inl t), some (.inl z_4), some (.inl (r5 + (-1))), none, none, none, none]) (fun i v h => ?_) ?_
                    · exact jfew_ok (by simp [jfew]) h
                    exact ih_49 (k + 1) (r5 + (-1)) μb hRb (by omega) (by omega) (fun q hq c2 hc2 => by
        by_cases eq : q = k
        · subst eq
          rw [← hr5]; exact hcr c2 (by omega)
        · exact hcb q (by omega) c2 hc2) hfb (by omega)
                  · have hi4 := hin c6 r5 (by omega) (by omega) (by omega) (by omega)
                    refine jx_aload_n C dX9_seam_66 rfl ?_
                    refine jx_iload_n C dX9_seam_67 rfl ?_
                    refine jx_iload C dX9_seam_68 rfl ?_
                    refine jx_iload C dX9_seam_70 rfl ?_
                    refine jx_cVi (as := [.inl u, .inl c6, .inl r5]) (st := []) C Yy (c_X9_dotOver l G μb a (by omega) u (by omega) (bda (mB μ) a) hdA2 c6 r5 (by omega) (by omega) (by omega) hRb) yb_X9_dotOver yv_X9_dotOver wm_X9_181 (jcl_MO G _) rfl (by decide) rfl rfl (Nat.le_of_ble_eq_true rfl) ⟨⟨rfl, rfl, Nat.le_of_ble_eq_true rfl, Nat.le_of_ble_eq_true rfl⟩, Nat.zero_le _, Nat.zero_le _⟩ dX9_seam_72 ?_
                    rintro _ _ ⟨rfl, rfl⟩
                    refine jx_top (b := bda (mB μ) a (ox + c6) (oy + r5)) (by rw [q_22, q_23, ov0, ov1]) ?_
                    refine jx_istore (L' := [some (.inr (ad G 78)), some (.inl u), some (.inl w), some (.inl t), some (.inl z_4), some (.inl r5), some (.inl c6), some (.inl (bda (mB μ) a (ox + c6) (oy + r5))), none, none]) C dX9_seam_75 (by decide) rfl ?_
                    refine jx_aload_n C dX9_seam_77 rfl ?_
                    refine jx_iload_n C dX9_seam_78 rfl ?_
                    refine jx_iload C dX9_seam_79 rfl ?_
                    refine jx_iload C dX9_seam_81 rfl ?_
                    refine jx_cVi (as := [.inl w, .inl c6, .inl r5]) (st := []) C Yy (c_X9_dotOver l G μb b (by omega) w (by omega) (bda (mB μ) b) hdB2 c6 r5 (by omega) (by omega) (by omega) hRb) yb_X9_dotOver yv_X9_dotOver wm_X9_181 (jcl_MO G _) rfl (by decide) rfl rfl (Nat.le_of_ble_eq_true rfl) ⟨⟨rfl, rfl, Nat.le_of_ble_eq_true rfl, Nat.le_of_ble_eq_true rfl⟩, Nat.zero_le _, Nat.zero_le _⟩ dX9_seam_83 ?_
                    rintro _ _ ⟨rfl, rfl⟩
                    refine jx_top (b := bda (mB μ) b (ox + c6) (oy + r5)) (by rw [q_22, q_23, ov0, ov1]) ?_
                    refine jx_istore (L' := [some (.inr (ad G 78)), some (.inl u), some (.inl w), some (.inl t), some (.inl z_4), some (.inl r5), some (.inl c6), some (.inl (bda (mB μ) a (ox + c6) (oy + r5))), some (.inl (bda (mB μ) b (ox + c6) (oy + r5))), none]) C dX9_seam_86 (by decide) rfl ?_
                    have J_124 : ∀ z : Int, z = unl (bda (mB μ) a (ox + c6) (oy + r5)) (bda (mB μ) b (ox + c6) (oy + r5)) → jX F G 10 0 0 (jE F G (jQi G (MP μ (a_seam (mB μ) u w t) (mB μ) (μ 78 0)))) 124 [some (.inr (ad G 78)), some (.inl u), some (.inl w), some (.inl t), some (.inl z_4), some (.inl r5), some (.inl c6), some (.inl (bda (mB μ) a (ox + c6) (oy + r5))), some (.inl (bda (mB μ) b (ox + c6) (oy + r5))), none] [.inl z] μb := by
                      intro ow how
                      have how2 : ow = own (hn - 1 - k) c := by rw [how, hown]; unfold bou; rw [← hox, ← hoy]; exact oun_at (by omega) (by omega)
                      have hor := hoR (hn - 1 - k) c
                      refine jx_istore (L' := [some (.inr (ad G 78)), some (.inl u), some (.inl w), some (.inl t), some (.inl z_4), some (.inl r5), some (.inl c6), some (.inl (bda (mB μ) a (ox + c6) (oy + r5))), some (.inl (bda (mB μ) b (ox + c6) (oy + r5))), some (.inl ow)]) C dX9_seam_124 (by decide) rfl ?_
                      refine jx_aload_n C dX9_seam_126 rfl ?_
                      refine jx_get (v := .inr (ad G 95)) C 26 ft_X9 (jcl_MO G _) rfl (by decide) (by decide) wf_X9_65 dX9_seam_127 ?_
                      refine jx_bipush C dX9_seam_130 (by decide +kernel) ?_
                      refine jx_iload C dX9_seam_132 rfl ?_
                      refine jx_imul C dX9_seam_134 ?_
                      refine jx_iload C dX9_seam_135 rfl ?_
                      refine jx_iadd C dX9_seam_137 ?_
                      refine jx_iload C dX9_seam_138 rfl ?_
                      refine jx_iload C dX9_seam_140 rfl ?_
                      refine jx_aload_n C dX9_seam_142 rfl ?_
                      refine jx_get (v := .inl (μb 78 25)) C 25 ft_X9 (jcl_MO G _) rfl (by decide) (by decide) wf_X9_170 dX9_seam_143 ?_
                      have r_143 := rg_MO_25 hRb
                      have e_143 : μb 78 25 = (hn : Int) := (by rw [hfb 78 (by decide)]; exact hh25)
                      rw [e_143] at r_143
                      refine jx_top (b := (hn : Int)) e_143 ?_
                      refine jx_iconst C dX9_seam_146 ?_
                      refine jx_isub C dX9_seam_147 ?_
                      refine jx_icmp_ne C dX9_seam_148 (by omega) (by omega) (fun c_148 => ?_) (fun c_148 => ?_)
                      · refine jx_aload_n C dX9_seam_155 rfl ?_
                        refine jx_iload C dX9_seam_156 rfl ?_
                        refine jx_iconst C dX9_seam_158 ?_
                        refine jx_iadd C dX9_seam_159 ?_
                        refine jx_aload_n C dX9_seam_160 rfl ?_
                        refine jx_iload C dX9_seam_161 rfl ?_
                        refine jx_iload C dX9_seam_163 rfl ?_
                        have hf1 : ∀ c2 : Nat, c2 < wn → μb 95 (20 * (r5 + 1) + (c2 : Int)).toNat = cso own wn hn (k - 1) c2 := fun c2 hc2 => by have h9 := hcb (k - 1) (by omega) c2 hc2; rw [show (hn : Int) - 1 - ((k - 1 : Nat) : Int) = r5 + 1 by omega] at h9; exact h9
                        have hcv := hcsR (k - 1) (chp (cso own wn hn (k - 1)) (c6 - 1) (c6 + 1) wn)
                        refine jx_cVi (as := [.inl r5, .inl c6]) (st := [.inl (r5 + 1), .inr (ad G 78), .inl ow, .inl (20 * r5 + c6), .inr (ad G 95)]) C Yy (c_X9_below l G μb wn (cso own wn hn (k - 1)) r5 c6 (by omega) (by omega) (by omega) (by omega) hf1 hRb) yb_X9_below yv_X9_below wm_X9_187 (jcl_MO G _) rfl (by decide) rfl rfl (Nat.le_of_ble_eq_true rfl) ⟨⟨rfl, rfl, Nat.le_of_ble_eq_true rfl, Nat.le_of_ble_eq_true rfl⟩, Nat.zero_le _, Nat.zero_le _⟩ dX9_seam_165 ?_
                        rintro _ _ ⟨rfl, rfl⟩
                        have r_165 := chp_rng (cso own wn hn (k - 1)) (lo := c6 - 1) (hi := c6 + 1) (w := wn) (by omega)
                        refine jx_cVi (as := [.inl (r5 + 1), .inl ((chp (cso own wn hn (k - 1)) (c6 - 1) (c6 + 1) wn : Nat) : Int)]) (st := [.inl ow, .inl (20 * r5 + c6), .inr (ad G 95)]) C Yy (c_X9_leastAt l G μb (r5 + 1) ((chp (cso own wn hn (k - 1)) (c6 - 1) (c6 + 1) wn : Nat) : Int) (by omega) (by omega) (by omega) hRb) yb_X9_leastAt yv_X9_leastAt wm_X9_184 (jcl_MO G _) rfl (by decide) rfl rfl (Nat.le_of_ble_eq_true rfl) ⟨⟨rfl, rfl, Nat.le_of_ble_eq_true rfl, Nat.le_of_ble_eq_true rfl⟩, Nat.zero_le _, Nat.zero_le _⟩ dX9_seam_168 ?_
                        rintro _ _ ⟨rfl, rfl⟩
                        refine jx_top (b := cso own wn hn (k - 1) (chp (cso own wn hn (k - 1)) (c6 - 1) (c6 + 1) wn)) (by rw [if_pos (by omega)]; exact hf1 _ r_165.2) ?_
                        refine jx_iadd C dX9_seam_171 ?_
                        refine jx_iast C (jcl_95 G _) (jcl_95 G _) (by decide) (by omega) (by omega) (by decide) dX9_seam_172 ?_
                        obtain ⟨μ2, eμ2⟩ : ∃ y_ : Mem, y_ = jms μb 95 ((20 * r5 + c6).toNat) (ow + (cso own wn hn (k - 1) (chp (cso own wn hn (k - 1)) (c6 - 1) (c6 + 1) wn))) := ⟨_, rfl⟩
                        rw [← eμ2]
                        have hR2 : rng μ2 := by rw [eμ2]; exact rs_95 hRb ((20 * r5 + c6).toNat) (by omega) (by omega)
                        refine jx_iinc (L' := [some (.inr (ad G 78)), some (.inl u), some (.inl w), some (.inl t), some (.inl z_4), some (.inl r5), some (.inl (c6 + 1)), some (.inl (bda (mB μ) a (ox + c6) (oy + r5))), some (.inl (bda (mB μ) b (ox + c6) (oy + r5))), some (.inl ow)]) C dX9_seam_173 rfl (by decide) rfl ?_
                        refine jx_goto C dX9_seam_176 ?_
                        refine jx_fewer (L' := [some (.inr (ad G 78)), some (.inl u), some (.inl w), some (.inl t), some (.inl z_4), some (.inl r5), some (.inl (c6 + 1)), none, none, none]) (fun i v h => ?_) ?_
                        · exact jfew_ok (by simp [jfew]) h
                        exact ih_57 (c + 1) (c6 + 1) μ2 hR2 (by omega) (by omega) (fun q hq c2 hc2 => by rw [eμ2, jms_arr, if_neg (by omega)]; exact hcb q hq c2 hc2) (fun c2 hc2 => by
          rw [eμ2, jms_arr]
          by_cases ec : c2 = c
          · subst ec
            rw [if_pos (by rw [hc6]), how2, cso_s (k := k) (by omega), hc6]
          · rw [if_neg (by omega)]; exact hcr c2 (by omega)) (fun q hq => by rw [eμ2, jms_cell _ _ _ _ hq]; exact hfb q hq) (by omega)
                      · refine jx_iconst C dX9_seam_151 ?_
                        refine jx_goto C dX9_seam_152 ?_
                        refine jx_iadd C dX9_seam_171 ?_
                        refine jx_iast C (jcl_95 G _) (jcl_95 G _) (by decide) (by omega) (by omega) (by decide) dX9_seam_172 ?_
                        obtain ⟨μ3, eμ3⟩ : ∃ y_ : Mem, y_ = jms μb 95 ((20 * r5 + c6).toNat) (ow + 0) := ⟨_, rfl⟩
                        rw [← eμ3]
                        have hR3 : rng μ3 := by rw [eμ3]; exact rs_95 hRb ((20 * r5 + c6).toNat) (by omega) (by omega)
                        refine jx_iinc (L' := [some (.inr (ad G 78)), some (.inl u), some (.inl w), some (.inl t), some (.inl z_4), some (.inl r5), some (.inl (c6 + 1)), some (.inl (bda (mB μ) a (ox + c6) (oy + r5))), some (.inl (bda (mB μ) b (ox + c6) (oy + r5))), some (.inl ow)]) C dX9_seam_173 rfl (by decide) rfl ?_
                        refine jx_goto C dX9_seam_176 ?_
                        refine jx_fewer (L' := [some (.inr (ad G 78)), some (.inl u), some (.inl w), some (.inl t), some (.inl z_4), some (.inl r5), some (.inl (c6 + 1)), none, none, none]) (fun i v h => ?_) ?_
                        · exact jfew_ok (by simp [jfew]) h
                        exact ih_57 (c + 1) (c6 + 1) μ3 hR3 (by omega) (by omega) (fun q hq c2 hc2 => by rw [eμ3, jms_arr, if_neg (by omega)]; exact hcb q hq c2 hc2) (fun c2 hc2 => by
          rw [eμ3, jms_arr]
          by_cases ec : c2 = c
          · subst ec
            rw [if_pos (by rw [hc6]), how2, cso_0 (k := k) (by omega)]
          · rw [if_neg (by omega)]; exact hcr c2 (by omega)) (fun q hq => by rw [eμ3, jms_cell _ _ _ _ hq]; exact hfb q hq) (by omega)
                    refine jx_iload C dX9_seam_88 rfl ?_
                    refine jx_if_lt C dX9_seam_90 (by omega) (fun c_90 => ?_) (fun c_90 => ?_)
                    · refine jx_sipush C dX9_seam_98 (by decide +kernel) ?_
                      refine jx_goto C dX9_seam_101 ?_
                      exact J_124 _ (by unfold unl; first | rw [if_pos (by omega)] | (rw [if_neg (by omega)]; first | rw [if_pos (by omega)] | (rw [if_neg (by omega)]; omega)))
                    · refine jx_iload C dX9_seam_93 rfl ?_
                      refine jx_if_ge C dX9_seam_95 (by omega) (fun c_95 => ?_) (fun c_95 => ?_)
                      · refine jx_iload C dX9_seam_104 rfl ?_
                        refine jx_iload C dX9_seam_106 rfl ?_
                        refine jx_icmp_ge C dX9_seam_108 (by omega) (by omega) (fun c_108 => ?_) (fun c_108 => ?_)
                        · refine jx_iload C dX9_seam_119 rfl ?_
                          refine jx_iload C dX9_seam_121 rfl ?_
                          refine jx_isub C dX9_seam_123 ?_
                          exact J_124 _ (by unfold unl; first | rw [if_pos (by omega)] | (rw [if_neg (by omega)]; first | rw [if_pos (by omega)] | (rw [if_neg (by omega)]; omega)))
                        · refine jx_iload C dX9_seam_111 rfl ?_
                          refine jx_iload C dX9_seam_113 rfl ?_
                          refine jx_isub C dX9_seam_115 ?_
                          refine jx_goto C dX9_seam_116 ?_
                          exact J_124 _ (by unfold unl; first | rw [if_pos (by omega)] | (rw [if_neg (by omega)]; first | rw [if_pos (by omega)] | (rw [if_neg (by omega)]; omega)))
                      · refine jx_sipush C dX9_seam_98 (by decide +kernel) ?_
                        refine jx_goto C dX9_seam_101 ?_
                        exact J_124 _ (by unfold unl; first | rw [if_pos (by omega)] | (rw [if_neg (by omega)]; first | rw [if_pos (by omega)] | (rw [if_neg (by omega)]; omega)))
              exact LP_57 _ 0 0 μa hRa rfl (Nat.zero_le _) hca (fun c2 hc2 => absurd hc2 (Nat.not_lt_zero _)) hfa (Nat.lt_succ_self _)
        exact LP_49 _ 0 ((hn : Int) - 1) μ1 hR1 (by omega) (Nat.zero_le _) (fun q hq => absurd hq (Nat.not_lt_zero _)) (fun _ _ => rfl) (Nat.lt_succ_self _)
      · refine jx_if_ne C dX9_seam_35 (by decide) (fun q => absurd q (by decide)) (fun _ => ?_)
        refine jx_bipush C dX9_seam_38 (by decide +kernel) ?_
        exact jx_iret C dX9_seam_40 (MP_x hX (by rw [a_seam, if_neg (by omega), if_pos (by rw [hau, hbw]; omega)]))
  · refine jx_iload C dX9_seam_14 rfl ?_
    exact jx_iret C dX9_seam_16 (MP_x hX (by rw [a_seam, if_pos (by omega)]; omega))
