set_option maxHeartbeats 4000000 in
set_option maxRecDepth 100000 in
theorem c_X9_lights (l : Launch) (G : GT) (μ : Mem) (u w t : Int) (hu : InR u) (hw : InR w) (ht : InR t) (hMI : MIv μ) (hR : rng μ) : MI l yX9_lights cX9_lights 9 .int ({ frames := 6, cells := 0, slots := 0, locals := 143 } : Room) G [.inr (ad G 78), .inl u, .inl w, .inl t] μ (MP μ (a_lights (mB μ) u w t) (mB μ) (μ 78 0)) := by
  refine MI.of (by decide +kernel) (Nat.le_of_ble_eq_true rfl) ?_
  intro F C Yy
  show jX F G 9 0 0 (jE F G (jQi G (MP μ (a_lights (mB μ) u w t) (mB μ) (μ 78 0)))) 0 [some (.inr (ad G 78)), some (.inl u), some (.inl w), some (.inl t), none, none, none, none, none] [] μ
  obtain ⟨hN, hN4⟩ := mB_N hR
  refine jx_aload_n C dX9_lights_0 rfl ?_
  refine jx_iload_n C dX9_lights_1 rfl ?_
  refine jx_iload_n C dX9_lights_2 rfl ?_
  refine jx_iload_n C dX9_lights_3 rfl ?_
  refine jx_iconst C dX9_lights_4 ?_
  refine jx_iconst C dX9_lights_5 ?_
  refine jx_cSi (as := [.inl t, .inl 0, .inl 2]) (st := [.inl w, .inl u, .inr (ad G 78)]) C Yy (c_X9_in l G μ t 0 2 (by omega) (by omega) (by omega)) yb_X9_in ws_X9_in wm_X9_71 rfl rfl (Nat.le_of_ble_eq_true rfl) ⟨⟨rfl, rfl, Nat.le_of_ble_eq_true rfl, Nat.le_of_ble_eq_true rfl⟩, Nat.zero_le _, Nat.zero_le _⟩ dX9_lights_6 ?_
  rintro _ _ ⟨rfl, ⟨rfl, c_6⟩ | ⟨rfl, c_6⟩⟩
  · refine jx_cVi (as := [.inl u, .inl w, .inl 1]) (st := []) C Yy (c_X9_barsOverlap l G μ u w 1 (by omega) (by omega) (by omega) hMI hR) yb_X9_barsOverlap yv_X9_barsOverlap wm_X9_176 (jcl_MO G _) rfl (by decide) rfl rfl (Nat.le_of_ble_eq_true rfl) ⟨⟨rfl, rfl, Nat.le_of_ble_eq_true rfl, Nat.le_of_ble_eq_true rfl⟩, Nat.zero_le _, Nat.zero_le _⟩ dX9_lights_9 ?_
    intro z_9 μ1 hμ1
    have hR1 := hμ1.1
    have hX := hμ1.2.1
    have hrf : z_9 = rof (mB μ) u w (0 ≤ t ∧ t ≤ 2) := by rw [hμ1.2.2.1]; exact rof_cong (by first | omega | simp)
    have hrr := rof_rng (mB μ) u w (0 ≤ t ∧ t ≤ 2)
    have hOV := hμ1.2.2.2
    refine jx_istore (L' := [some (.inr (ad G 78)), some (.inl u), some (.inl w), some (.inl t), some (.inl z_9), none, none, none, none]) C dX9_lights_12 (by decide) rfl ?_
    refine jx_iload C dX9_lights_14 rfl ?_
    refine jx_if_ge C dX9_lights_16 (by omega) (fun c_16 => ?_) (fun c_16 => ?_)
    · have hf0 := (rof_0 (B := mB μ) (a := u) (b := w) (f := 0 ≤ t ∧ t ≤ 2) (by omega)).2.1
      obtain ⟨a, b, hua, hwb, ha, hb, hab, ja, jb, hMD, hov⟩ := hOV (by omega)
      have ov0 : μ1 78 22 = (bov (mB μ) a b).1 := congrArg (fun z => z.1) hov
      have ov1 : μ1 78 23 = (bov (mB μ) a b).2.1 := congrArg (fun z => z.2.1) hov
      have ov2 : μ1 78 24 = (bov (mB μ) a b).2.2.1 := congrArg (fun z => z.2.2.1) hov
      have ov3 : μ1 78 25 = (bov (mB μ) a b).2.2.2 := congrArg (fun z => z.2.2.2) hov
      have hau : u.toNat = a := by omega
      have hbw : w.toNat = b := by omega
      have hBx : mB μ1 = mB μ := hX.2.2.1
      have hbr := bov_rng (mB_ok hR) (a := a) (b := b) ha
      have hov2 : (μ1 78 22, μ1 78 23, μ1 78 24, μ1 78 25) = ovr (μ1 91 a) (μ1 92 a) (μ1 79 a) (μ1 80 a) (μ1 91 b) (μ1 92 b) (μ1 79 b) (μ1 80 b) := by rw [hov, ← hBx]; exact (MD_ovr hMD (by rw [hBx]; exact ha) (by rw [hBx]; exact hb) (by rw [hBx]; exact ja) (by rw [hBx]; exact jb)).symm
      have hin : ∀ x y : Int, 0 ≤ x → x < μ1 78 24 → 0 ≤ y → y < μ1 78 25 → _ := fun x y h1 h2 h3 h4 => OV_in hov2 ⟨h1, h2⟩ ⟨h3, h4⟩
      have hdA : ∀ x y, dgt (μ1 79 a) (μ1 80 a) (mvv μ1 a) (x - μ1 91 a) (y - μ1 92 a) = bda (mB μ) a x y := fun x y => by rw [← hBx]; exact MD_bda hMD (by rw [hBx]; exact ha) (by rw [hBx]; exact ja) x y
      have hdB : ∀ x y, dgt (μ1 79 b) (μ1 80 b) (mvv μ1 b) (x - μ1 91 b) (y - μ1 92 b) = bda (mB μ) b x y := fun x y => by rw [← hBx]; exact MD_bda hMD (by rw [hBx]; exact hb) (by rw [hBx]; exact jb) x y
      have hrA := fun x y => bda_rng (mB_ok hR) (a := a) ha x y
      have hrB := fun x y => bda_rng (mB_ok hR) (a := b) hb x y
      obtain ⟨wn, hwn⟩ : ∃ wn : Nat, wn = (bov (mB μ) a b).2.2.1.toNat := ⟨_, rfl⟩
      obtain ⟨hn, hhn⟩ : ∃ hn : Nat, hn = (bov (mB μ) a b).2.2.2.toNat := ⟨_, rfl⟩
      have hw24 : μ1 78 24 = (wn : Int) := by omega
      have hh25 : μ1 78 25 = (hn : Int) := by omega
      have hw20 : wn ≤ 20 ∧ hn ≤ 20 := by omega
      obtain ⟨ox, hox⟩ : ∃ ox, ox = (bov (mB μ) a b).1 := ⟨_, rfl⟩
      obtain ⟨oy, hoy⟩ : ∃ oy, oy = (bov (mB μ) a b).2.1 := ⟨_, rfl⟩
      rw [← hox] at ov0
      rw [← hoy] at ov1
      obtain ⟨tf, htf⟩ : ∃ tf, tf = ltt t (bda (mB μ) a) (bda (mB μ) b) ox oy := ⟨_, rfl⟩
      have htr : ∀ x y, 0 ≤ tf x y ∧ tf x y ≤ 255 := fun x y => by rw [htf]; exact ltt_rng hrA hrB ox oy x y
      have hwh : wn * hn ≤ 20 * 20 := Nat.mul_le_mul hw20.1 hw20.2
      refine jx_iconst C dX9_lights_25 ?_
      refine jx_istore (L' := [some (.inr (ad G 78)), some (.inl u), some (.inl w), some (.inl t), some (.inl z_9), some (.inl 0), none, none, none]) C dX9_lights_26 (by decide) rfl ?_
      refine jx_iconst C dX9_lights_28 ?_
      refine jx_istore (L' := [some (.inr (ad G 78)), some (.inl u), some (.inl w), some (.inl t), some (.inl z_9), some (.inl 0), some (.inl 0), none, none]) C dX9_lights_29 (by decide) rfl ?_
      have LP_31 : ∀ (n : Nat) (k : Nat) (k6 : Int) (s5 : Int), (k6 = (k : Int)) → (k ≤ wn * hn) → (s5 = lsm tf wn k) → wn * hn + 1 - k < n → jX F G 9 0 0 (jE F G (jQi G (MP μ (a_lights (mB μ) u w t) (mB μ) (μ 78 0)))) 31 [some (.inr (ad G 78)), some (.inl u), some (.inl w), some (.inl t), some (.inl z_9), some (.inl s5), some (.inl k6), none, none] [] μ1 := by
        intro n
        induction n with
        | zero =>
          intro k k6 s5 hk6 hk hs5 hms
          exact absurd hms (Nat.not_lt_zero _)
        | succ n ih =>
          intro k k6 s5 hk6 hk hs5 hms
          have ih_31 := ih
          clear ih
          obtain ⟨km, hkm0⟩ : ∃ km : Nat, km = k % wn := ⟨_, rfl⟩
          obtain ⟨kd, hkd0⟩ : ∃ kd : Nat, kd = k / wn := ⟨_, rfl⟩
          have hsr := lsm_rng (w := wn) (by decide) htr k
          have htk := htr (km : Int) (kd : Int)
          refine jx_iload C dX9_lights_31 rfl ?_
          refine jx_aload_n C dX9_lights_33 rfl ?_
          refine jx_get (v := .inl (μ1 78 24)) C 24 ft_X9 (jcl_MO G _) rfl (by decide) (by decide) wf_X9_167 dX9_lights_34 ?_
          have r_34 := rg_MO_24 hR1
          have e_34 : μ1 78 24 = (wn : Int) := hw24
          rw [e_34] at r_34
          refine jx_top (b := (wn : Int)) e_34 ?_
          refine jx_aload_n C dX9_lights_37 rfl ?_
          refine jx_get (v := .inl (μ1 78 25)) C 25 ft_X9 (jcl_MO G _) rfl (by decide) (by decide) wf_X9_170 dX9_lights_38 ?_
          have r_38 := rg_MO_25 hR1
          have e_38 : μ1 78 25 = (hn : Int) := hh25
          rw [e_38] at r_38
          refine jx_top (b := (hn : Int)) e_38 ?_
          refine jx_imul C dX9_lights_41 ?_
          refine jx_top (b := ((wn * hn : Nat) : Int)) rfl ?_
          refine jx_icmp_ge C dX9_lights_42 (by omega) (by omega) (fun c_42 => ?_) (fun c_42 => ?_)
          · refine jx_iload C dX9_lights_132 rfl ?_
            exact jx_iret C dX9_lights_134 (MP_x hX (by
                rw [a_lights, if_neg (by omega), hau, hbw]
                have hk9 : k = wn * hn := by omega
                by_cases t0 : t = 0
                · rw [if_pos t0, bls, ← ltt_0 t0, ← hwn, ← hhn, ← hox, ← hoy, ← htf, hs5, hk9]
                · rw [if_neg t0]
                  by_cases t1 : t = 1
                  · rw [if_pos t1, bls, ← ltt_1 t1, ← hwn, ← hhn, ← hox, ← hoy, ← htf, hs5, hk9]
                  · rw [if_neg t1, bls, ← ltt_2 t0 t1, ← hwn, ← hhn, ← hox, ← hoy, ← htf, hs5, hk9]))
          · have hkl : k < wn * hn := by omega
            have hwp : 0 < wn := Nat.pos_of_ne_zero (fun e => by rw [e, Nat.zero_mul] at hkl; omega)
            have hkm := Nat.mod_lt k hwp
            have hkd := Nat.div_lt_of_lt_mul hkl
            rw [← hkm0] at hkm
            rw [← hkd0] at hkd
            have hi4 := hin (km : Int) (kd : Int) (by omega) (by omega) (by omega) (by omega)
            have hvA := hrA (ox + (km : Int)) (oy + (kd : Int))
            have hvB := hrB (ox + (km : Int)) (oy + (kd : Int))
            refine jx_aload_n C dX9_lights_45 rfl ?_
            refine jx_iload_n C dX9_lights_46 rfl ?_
            refine jx_iload C dX9_lights_47 rfl ?_
            refine jx_aload_n C dX9_lights_49 rfl ?_
            refine jx_get (v := .inl (μ1 78 24)) C 24 ft_X9 (jcl_MO G _) rfl (by decide) (by decide) wf_X9_167 dX9_lights_50 ?_
            have r_50 := rg_MO_24 hR1
            have e_50 : μ1 78 24 = (wn : Int) := hw24
            rw [e_50] at r_50
            refine jx_top (b := (wn : Int)) e_50 ?_
            refine jx_irem (z := k6 % (wn : Int)) C dX9_lights_53 (by omega) (by omega) (by omega) (jtm (by omega)) ?_
            refine jx_top (b := (km : Int)) (by rw [hk6, hkm0]; rfl) ?_
            refine jx_iload C dX9_lights_54 rfl ?_
            refine jx_aload_n C dX9_lights_56 rfl ?_
            refine jx_get (v := .inl (μ1 78 24)) C 24 ft_X9 (jcl_MO G _) rfl (by decide) (by decide) wf_X9_167 dX9_lights_57 ?_
            have r_57 := rg_MO_24 hR1
            have e_57 : μ1 78 24 = (wn : Int) := hw24
            rw [e_57] at r_57
            refine jx_top (b := (wn : Int)) e_57 ?_
            refine jx_idiv (z := k6 / (wn : Int)) C dX9_lights_60 (by omega) (by omega) (by omega) (jtd (by omega)) ?_
            refine jx_top (b := (kd : Int)) (by rw [hk6, hkd0]; rfl) ?_
            refine jx_cVi (as := [.inl u, .inl (km : Int), .inl (kd : Int)]) (st := []) C Yy (c_X9_dotOver l G μ1 a (by omega) u (by omega) (bda (mB μ) a) hdA (km : Int) (kd : Int) (by omega) (by omega) (by omega) hR1) yb_X9_dotOver yv_X9_dotOver wm_X9_181 (jcl_MO G _) rfl (by decide) rfl rfl (Nat.le_of_ble_eq_true rfl) ⟨⟨rfl, rfl, Nat.le_of_ble_eq_true rfl, Nat.le_of_ble_eq_true rfl⟩, Nat.zero_le _, Nat.zero_le _⟩ dX9_lights_61 ?_
            rintro _ _ ⟨rfl, rfl⟩
            refine jx_top (b := bda (mB μ) a (ox + (km : Int)) (oy + (kd : Int))) (by rw [ov0, ov1]) ?_
            refine jx_istore (L' := [some (.inr (ad G 78)), some (.inl u), some (.inl w), some (.inl t), some (.inl z_9), some (.inl s5), some (.inl k6), some (.inl (bda (mB μ) a (ox + (km : Int)) (oy + (kd : Int)))), none]) C dX9_lights_64 (by decide) rfl ?_
            refine jx_aload_n C dX9_lights_66 rfl ?_
            refine jx_iload_n C dX9_lights_67 rfl ?_
            refine jx_iload C dX9_lights_68 rfl ?_
            refine jx_aload_n C dX9_lights_70 rfl ?_
            refine jx_get (v := .inl (μ1 78 24)) C 24 ft_X9 (jcl_MO G _) rfl (by decide) (by decide) wf_X9_167 dX9_lights_71 ?_
            have r_71 := rg_MO_24 hR1
            have e_71 : μ1 78 24 = (wn : Int) := hw24
            rw [e_71] at r_71
            refine jx_top (b := (wn : Int)) e_71 ?_
            refine jx_irem (z := k6 % (wn : Int)) C dX9_lights_74 (by omega) (by omega) (by omega) (jtm (by omega)) ?_
            refine jx_top (b := (km : Int)) (by rw [hk6, hkm0]; rfl) ?_
            refine jx_iload C dX9_lights_75 rfl ?_
            refine jx_aload_n C dX9_lights_77 rfl ?_
            refine jx_get (v := .inl (μ1 78 24)) C 24 ft_X9 (jcl_MO G _) rfl (by decide) (by decide) wf_X9_167 dX9_lights_78 ?_
            have r_78 := rg_MO_24 hR1
            have e_78 : μ1 78 24 = (wn : Int) := hw24
            rw [e_78] at r_78
            refine jx_top (b := (wn : Int)) e_78 ?_
            refine jx_idiv (z := k6 / (wn : Int)) C dX9_lights_81 (by omega) (by omega) (by omega) (jtd (by omega)) ?_
            refine jx_top (b := (kd : Int)) (by rw [hk6, hkd0]; rfl) ?_
            refine jx_cVi (as := [.inl w, .inl (km : Int), .inl (kd : Int)]) (st := []) C Yy (c_X9_dotOver l G μ1 b (by omega) w (by omega) (bda (mB μ) b) hdB (km : Int) (kd : Int) (by omega) (by omega) (by omega) hR1) yb_X9_dotOver yv_X9_dotOver wm_X9_181 (jcl_MO G _) rfl (by decide) rfl rfl (Nat.le_of_ble_eq_true rfl) ⟨⟨rfl, rfl, Nat.le_of_ble_eq_true rfl, Nat.le_of_ble_eq_true rfl⟩, Nat.zero_le _, Nat.zero_le _⟩ dX9_lights_82 ?_
            rintro _ _ ⟨rfl, rfl⟩
            refine jx_top (b := bda (mB μ) b (ox + (km : Int)) (oy + (kd : Int))) (by rw [ov0, ov1]) ?_
            refine jx_istore (L' := [some (.inr (ad G 78)), some (.inl u), some (.inl w), some (.inl t), some (.inl z_9), some (.inl s5), some (.inl k6), some (.inl (bda (mB μ) a (ox + (km : Int)) (oy + (kd : Int)))), some (.inl (bda (mB μ) b (ox + (km : Int)) (oy + (kd : Int))))]) C dX9_lights_85 (by decide) rfl ?_
            refine jx_iload C dX9_lights_87 rfl ?_
            have J_123 : ∀ z : Int, z = tf (km : Int) (kd : Int) → jX F G 9 0 0 (jE F G (jQi G (MP μ (a_lights (mB μ) u w t) (mB μ) (μ 78 0)))) 123 [some (.inr (ad G 78)), some (.inl u), some (.inl w), some (.inl t), some (.inl z_9), some (.inl s5), some (.inl k6), some (.inl (bda (mB μ) a (ox + (km : Int)) (oy + (kd : Int)))), some (.inl (bda (mB μ) b (ox + (km : Int)) (oy + (kd : Int))))] [.inl z, .inl s5] μ1 := by
              rintro _ rfl
              refine jx_iadd C dX9_lights_123 ?_
              refine jx_istore (L' := [some (.inr (ad G 78)), some (.inl u), some (.inl w), some (.inl t), some (.inl z_9), some (.inl (s5 + tf (km : Int) (kd : Int))), some (.inl k6), some (.inl (bda (mB μ) a (ox + (km : Int)) (oy + (kd : Int)))), some (.inl (bda (mB μ) b (ox + (km : Int)) (oy + (kd : Int))))]) C dX9_lights_124 (by decide) rfl ?_
              refine jx_iinc (L' := [some (.inr (ad G 78)), some (.inl u), some (.inl w), some (.inl t), some (.inl z_9), some (.inl (s5 + tf (km : Int) (kd : Int))), some (.inl (k6 + 1)), some (.inl (bda (mB μ) a (ox + (km : Int)) (oy + (kd : Int)))), some (.inl (bda (mB μ) b (ox + (km : Int)) (oy + (kd : Int))))]) C dX9_lights_126 rfl (by decide) rfl ?_
              refine jx_goto C dX9_lights_129 ?_
              refine jx_fewer (L' := [some (.inr (ad G 78)), some (.inl u), some (.inl w), some (.inl t), some (.inl z_9), some (.inl (s5 + tf (km : Int) (kd : Int))), some (.inl (k6 + 1)), none, none]) (fun i v h => ?_) ?_
              · exact jfew_ok (by simp [jfew]) h
              exact ih_31 (k + 1) (k6 + 1) (s5 + tf (km : Int) (kd : Int)) (by omega) (by omega) (by rw [lsm, ← hs5, ← hkm0, ← hkd0]) (by omega)
            refine jx_iload C dX9_lights_89 rfl ?_
            refine jx_if_lt C dX9_lights_91 (by omega) (fun c_91 => ?_) (fun c_91 => ?_)
            · refine jx_iconst C dX9_lights_99 ?_
              refine jx_goto C dX9_lights_100 ?_
              exact J_123 _ (by rw [htf, ltt]; first | (exfalso; omega) | rw [if_pos (by omega)] | rw [if_neg (by omega), if_pos (by omega)] | rw [if_neg (by omega), if_neg (by omega), if_pos (by omega)] | rw [if_neg (by omega), if_neg (by omega), if_neg (by omega)])
            · refine jx_iload C dX9_lights_94 rfl ?_
              refine jx_if_ge C dX9_lights_96 (by omega) (fun c_96 => ?_) (fun c_96 => ?_)
              · refine jx_iload_n C dX9_lights_103 rfl ?_
                refine jx_if_ne C dX9_lights_104 (by omega) (fun c_104 => ?_) (fun c_104 => ?_)
                · refine jx_iload_n C dX9_lights_112 rfl ?_
                  refine jx_iconst C dX9_lights_113 ?_
                  refine jx_icmp_ne C dX9_lights_114 (by omega) (by decide) (fun c_114 => ?_) (fun c_114 => ?_)
                  · refine jx_iconst C dX9_lights_122 ?_
                    exact J_123 _ (by rw [htf, ltt]; first | (exfalso; omega) | rw [if_pos (by omega)] | rw [if_neg (by omega), if_pos (by omega)] | rw [if_neg (by omega), if_neg (by omega), if_pos (by omega)] | rw [if_neg (by omega), if_neg (by omega), if_neg (by omega)])
                  · refine jx_iload C dX9_lights_117 rfl ?_
                    refine jx_goto C dX9_lights_119 ?_
                    exact J_123 _ (by rw [htf, ltt]; first | (exfalso; omega) | rw [if_pos (by omega)] | rw [if_neg (by omega), if_pos (by omega)] | rw [if_neg (by omega), if_neg (by omega), if_pos (by omega)] | rw [if_neg (by omega), if_neg (by omega), if_neg (by omega)])
                · refine jx_iload C dX9_lights_107 rfl ?_
                  refine jx_goto C dX9_lights_109 ?_
                  exact J_123 _ (by rw [htf, ltt]; first | (exfalso; omega) | rw [if_pos (by omega)] | rw [if_neg (by omega), if_pos (by omega)] | rw [if_neg (by omega), if_neg (by omega), if_pos (by omega)] | rw [if_neg (by omega), if_neg (by omega), if_neg (by omega)])
              · refine jx_iconst C dX9_lights_99 ?_
                refine jx_goto C dX9_lights_100 ?_
                exact J_123 _ (by rw [htf, ltt]; first | (exfalso; omega) | rw [if_pos (by omega)] | rw [if_neg (by omega), if_pos (by omega)] | rw [if_neg (by omega), if_neg (by omega), if_pos (by omega)] | rw [if_neg (by omega), if_neg (by omega), if_neg (by omega)])
      exact LP_31 _ 0 0 0 rfl (Nat.zero_le _) rfl (Nat.lt_succ_self _)
    · refine jx_ldc C dX9_lights_19 wk_X9_180 (z := (-1000000)) (by decide +kernel) ?_
      refine jx_iload C dX9_lights_21 rfl ?_
      refine jx_iadd C dX9_lights_23 ?_
      exact jx_iret C dX9_lights_24 (MP_x hX (by rw [a_lights, if_pos (by omega)]; omega))
  · refine jx_cVi (as := [.inl u, .inl w, .inl 0]) (st := []) C Yy (c_X9_barsOverlap l G μ u w 0 (by omega) (by omega) (by omega) hMI hR) yb_X9_barsOverlap yv_X9_barsOverlap wm_X9_176 (jcl_MO G _) rfl (by decide) rfl rfl (Nat.le_of_ble_eq_true rfl) ⟨⟨rfl, rfl, Nat.le_of_ble_eq_true rfl, Nat.le_of_ble_eq_true rfl⟩, Nat.zero_le _, Nat.zero_le _⟩ dX9_lights_9 ?_
    intro z_9 μ2 hμ2
    have hR2 := hμ2.1
    have hX := hμ2.2.1
    have hrf : z_9 = rof (mB μ) u w (0 ≤ t ∧ t ≤ 2) := by rw [hμ2.2.2.1]; exact rof_cong (by first | omega | simp)
    have hrr := rof_rng (mB μ) u w (0 ≤ t ∧ t ≤ 2)
    have hOV := hμ2.2.2.2
    refine jx_istore (L' := [some (.inr (ad G 78)), some (.inl u), some (.inl w), some (.inl t), some (.inl z_9), none, none, none, none]) C dX9_lights_12 (by decide) rfl ?_
    refine jx_iload C dX9_lights_14 rfl ?_
    refine jx_if_ge C dX9_lights_16 (by omega) (fun c_16 => ?_) (fun c_16 => ?_)
    · have hf0 := (rof_0 (B := mB μ) (a := u) (b := w) (f := 0 ≤ t ∧ t ≤ 2) (by omega)).2.1
      obtain ⟨a, b, hua, hwb, ha, hb, hab, ja, jb, hMD, hov⟩ := hOV (by omega)
      have ov0 : μ2 78 22 = (bov (mB μ) a b).1 := congrArg (fun z => z.1) hov
      have ov1 : μ2 78 23 = (bov (mB μ) a b).2.1 := congrArg (fun z => z.2.1) hov
      have ov2 : μ2 78 24 = (bov (mB μ) a b).2.2.1 := congrArg (fun z => z.2.2.1) hov
      have ov3 : μ2 78 25 = (bov (mB μ) a b).2.2.2 := congrArg (fun z => z.2.2.2) hov
      have hau : u.toNat = a := by omega
      have hbw : w.toNat = b := by omega
      have hBx : mB μ2 = mB μ := hX.2.2.1
      have hbr := bov_rng (mB_ok hR) (a := a) (b := b) ha
      have hov2 : (μ2 78 22, μ2 78 23, μ2 78 24, μ2 78 25) = ovr (μ2 91 a) (μ2 92 a) (μ2 79 a) (μ2 80 a) (μ2 91 b) (μ2 92 b) (μ2 79 b) (μ2 80 b) := by rw [hov, ← hBx]; exact (MD_ovr hMD (by rw [hBx]; exact ha) (by rw [hBx]; exact hb) (by rw [hBx]; exact ja) (by rw [hBx]; exact jb)).symm
      have hin : ∀ x y : Int, 0 ≤ x → x < μ2 78 24 → 0 ≤ y → y < μ2 78 25 → _ := fun x y h1 h2 h3 h4 => OV_in hov2 ⟨h1, h2⟩ ⟨h3, h4⟩
      have hdA : ∀ x y, dgt (μ2 79 a) (μ2 80 a) (mvv μ2 a) (x - μ2 91 a) (y - μ2 92 a) = bda (mB μ) a x y := fun x y => by rw [← hBx]; exact MD_bda hMD (by rw [hBx]; exact ha) (by rw [hBx]; exact ja) x y
      have hdB : ∀ x y, dgt (μ2 79 b) (μ2 80 b) (mvv μ2 b) (x - μ2 91 b) (y - μ2 92 b) = bda (mB μ) b x y := fun x y => by rw [← hBx]; exact MD_bda hMD (by rw [hBx]; exact hb) (by rw [hBx]; exact jb) x y
      have hrA := fun x y => bda_rng (mB_ok hR) (a := a) ha x y
      have hrB := fun x y => bda_rng (mB_ok hR) (a := b) hb x y
      obtain ⟨wn, hwn⟩ : ∃ wn : Nat, wn = (bov (mB μ) a b).2.2.1.toNat := ⟨_, rfl⟩
      obtain ⟨hn, hhn⟩ : ∃ hn : Nat, hn = (bov (mB μ) a b).2.2.2.toNat := ⟨_, rfl⟩
      have hw24 : μ2 78 24 = (wn : Int) := by omega
      have hh25 : μ2 78 25 = (hn : Int) := by omega
      have hw20 : wn ≤ 20 ∧ hn ≤ 20 := by omega
      obtain ⟨ox, hox⟩ : ∃ ox, ox = (bov (mB μ) a b).1 := ⟨_, rfl⟩
      obtain ⟨oy, hoy⟩ : ∃ oy, oy = (bov (mB μ) a b).2.1 := ⟨_, rfl⟩
      rw [← hox] at ov0
      rw [← hoy] at ov1
      obtain ⟨tf, htf⟩ : ∃ tf, tf = ltt t (bda (mB μ) a) (bda (mB μ) b) ox oy := ⟨_, rfl⟩
      have htr : ∀ x y, 0 ≤ tf x y ∧ tf x y ≤ 255 := fun x y => by rw [htf]; exact ltt_rng hrA hrB ox oy x y
      have hwh : wn * hn ≤ 20 * 20 := Nat.mul_le_mul hw20.1 hw20.2
      refine jx_iconst C dX9_lights_25 ?_
      refine jx_istore (L' := [some (.inr (ad G 78)), some (.inl u), some (.inl w), some (.inl t), some (.inl z_9), some (.inl 0), none, none, none]) C dX9_lights_26 (by decide) rfl ?_
      refine jx_iconst C dX9_lights_28 ?_
      refine jx_istore (L' := [some (.inr (ad G 78)), some (.inl u), some (.inl w), some (.inl t), some (.inl z_9), some (.inl 0), some (.inl 0), none, none]) C dX9_lights_29 (by decide) rfl ?_
      have LP_31 : ∀ (n : Nat) (k : Nat) (k6 : Int) (s5 : Int), (k6 = (k : Int)) → (k ≤ wn * hn) → (s5 = lsm tf wn k) → wn * hn + 1 - k < n → jX F G 9 0 0 (jE F G (jQi G (MP μ (a_lights (mB μ) u w t) (mB μ) (μ 78 0)))) 31 [some (.inr (ad G 78)), some (.inl u), some (.inl w), some (.inl t), some (.inl z_9), some (.inl s5), some (.inl k6), none, none] [] μ2 := by
        intro n
        induction n with
        | zero =>
          intro k k6 s5 hk6 hk hs5 hms
          exact absurd hms (Nat.not_lt_zero _)
        | succ n ih =>
          intro k k6 s5 hk6 hk hs5 hms
          have ih_31 := ih
          clear ih
          obtain ⟨km, hkm0⟩ : ∃ km : Nat, km = k % wn := ⟨_, rfl⟩
          obtain ⟨kd, hkd0⟩ : ∃ kd : Nat, kd = k / wn := ⟨_, rfl⟩
          have hsr := lsm_rng (w := wn) (by decide) htr k
          have htk := htr (km : Int) (kd : Int)
          refine jx_iload C dX9_lights_31 rfl ?_
          refine jx_aload_n C dX9_lights_33 rfl ?_
          refine jx_get (v := .inl (μ2 78 24)) C 24 ft_X9 (jcl_MO G _) rfl (by decide) (by decide) wf_X9_167 dX9_lights_34 ?_
          have r_34 := rg_MO_24 hR2
          have e_34 : μ2 78 24 = (wn : Int) := hw24
          rw [e_34] at r_34
          refine jx_top (b := (wn : Int)) e_34 ?_
          refine jx_aload_n C dX9_lights_37 rfl ?_
          refine jx_get (v := .inl (μ2 78 25)) C 25 ft_X9 (jcl_MO G _) rfl (by decide) (by decide) wf_X9_170 dX9_lights_38 ?_
          have r_38 := rg_MO_25 hR2
          have e_38 : μ2 78 25 = (hn : Int) := hh25
          rw [e_38] at r_38
          refine jx_top (b := (hn : Int)) e_38 ?_
          refine jx_imul C dX9_lights_41 ?_
          refine jx_top (b := ((wn * hn : Nat) : Int)) rfl ?_
          refine jx_icmp_ge C dX9_lights_42 (by omega) (by omega) (fun c_42 => ?_) (fun c_42 => ?_)
          · refine jx_iload C dX9_lights_132 rfl ?_
            exact jx_iret C dX9_lights_134 (MP_x hX (by
                rw [a_lights, if_neg (by omega), hau, hbw]
                have hk9 : k = wn * hn := by omega
                by_cases t0 : t = 0
                · rw [if_pos t0, bls, ← ltt_0 t0, ← hwn, ← hhn, ← hox, ← hoy, ← htf, hs5, hk9]
                · rw [if_neg t0]
                  by_cases t1 : t = 1
                  · rw [if_pos t1, bls, ← ltt_1 t1, ← hwn, ← hhn, ← hox, ← hoy, ← htf, hs5, hk9]
                  · rw [if_neg t1, bls, ← ltt_2 t0 t1, ← hwn, ← hhn, ← hox, ← hoy, ← htf, hs5, hk9]))
          · have hkl : k < wn * hn := by omega
            have hwp : 0 < wn := Nat.pos_of_ne_zero (fun e => by rw [e, Nat.zero_mul] at hkl; omega)
            have hkm := Nat.mod_lt k hwp
            have hkd := Nat.div_lt_of_lt_mul hkl
            rw [← hkm0] at hkm
            rw [← hkd0] at hkd
            have hi4 := hin (km : Int) (kd : Int) (by omega) (by omega) (by omega) (by omega)
            have hvA := hrA (ox + (km : Int)) (oy + (kd : Int))
            have hvB := hrB (ox + (km : Int)) (oy + (kd : Int))
            refine jx_aload_n C dX9_lights_45 rfl ?_
            refine jx_iload_n C dX9_lights_46 rfl ?_
            refine jx_iload C dX9_lights_47 rfl ?_
            refine jx_aload_n C dX9_lights_49 rfl ?_
            refine jx_get (v := .inl (μ2 78 24)) C 24 ft_X9 (jcl_MO G _) rfl (by decide) (by decide) wf_X9_167 dX9_lights_50 ?_
            have r_50 := rg_MO_24 hR2
            have e_50 : μ2 78 24 = (wn : Int) := hw24
            rw [e_50] at r_50
            refine jx_top (b := (wn : Int)) e_50 ?_
            refine jx_irem (z := k6 % (wn : Int)) C dX9_lights_53 (by omega) (by omega) (by omega) (jtm (by omega)) ?_
            refine jx_top (b := (km : Int)) (by rw [hk6, hkm0]; rfl) ?_
            refine jx_iload C dX9_lights_54 rfl ?_
            refine jx_aload_n C dX9_lights_56 rfl ?_
            refine jx_get (v := .inl (μ2 78 24)) C 24 ft_X9 (jcl_MO G _) rfl (by decide) (by decide) wf_X9_167 dX9_lights_57 ?_
            have r_57 := rg_MO_24 hR2
            have e_57 : μ2 78 24 = (wn : Int) := hw24
            rw [e_57] at r_57
            refine jx_top (b := (wn : Int)) e_57 ?_
            refine jx_idiv (z := k6 / (wn : Int)) C dX9_lights_60 (by omega) (by omega) (by omega) (jtd (by omega)) ?_
            refine jx_top (b := (kd : Int)) (by rw [hk6, hkd0]; rfl) ?_
            refine jx_cVi (as := [.inl u, .inl (km : Int), .inl (kd : Int)]) (st := []) C Yy (c_X9_dotOver l G μ2 a (by omega) u (by omega) (bda (mB μ) a) hdA (km : Int) (kd : Int) (by omega) (by omega) (by omega) hR2) yb_X9_dotOver yv_X9_dotOver wm_X9_181 (jcl_MO G _) rfl (by decide) rfl rfl (Nat.le_of_ble_eq_true rfl) ⟨⟨rfl, rfl, Nat.le_of_ble_eq_true rfl, Nat.le_of_ble_eq_true rfl⟩, Nat.zero_le _, Nat.zero_le _⟩ dX9_lights_61 ?_
            rintro _ _ ⟨rfl, rfl⟩
            refine jx_top (b := bda (mB μ) a (ox + (km : Int)) (oy + (kd : Int))) (by rw [ov0, ov1]) ?_
            refine jx_istore (L' := [some (.inr (ad G 78)), some (.inl u), some (.inl w), some (.inl t), some (.inl z_9), some (.inl s5), some (.inl k6), some (.inl (bda (mB μ) a (ox + (km : Int)) (oy + (kd : Int)))), none]) C dX9_lights_64 (by decide) rfl ?_
            refine jx_aload_n C dX9_lights_66 rfl ?_
            refine jx_iload_n C dX9_lights_67 rfl ?_
            refine jx_iload C dX9_lights_68 rfl ?_
            refine jx_aload_n C dX9_lights_70 rfl ?_
            refine jx_get (v := .inl (μ2 78 24)) C 24 ft_X9 (jcl_MO G _) rfl (by decide) (by decide) wf_X9_167 dX9_lights_71 ?_
            have r_71 := rg_MO_24 hR2
            have e_71 : μ2 78 24 = (wn : Int) := hw24
            rw [e_71] at r_71
            refine jx_top (b := (wn : Int)) e_71 ?_
            refine jx_irem (z := k6 % (wn : Int)) C dX9_lights_74 (by omega) (by omega) (by omega) (jtm (by omega)) ?_
            refine jx_top (b := (km : Int)) (by rw [hk6, hkm0]; rfl) ?_
            refine jx_iload C dX9_lights_75 rfl ?_
            refine jx_aload_n C dX9_lights_77 rfl ?_
            refine jx_get (v := .inl (μ2 78 24)) C 24 ft_X9 (jcl_MO G _) rfl (by decide) (by decide) wf_X9_167 dX9_lights_78 ?_
            have r_78 := rg_MO_24 hR2
            have e_78 : μ2 78 24 = (wn : Int) := hw24
            rw [e_78] at r_78
            refine jx_top (b := (wn : Int)) e_78 ?_
            refine jx_idiv (z := k6 / (wn : Int)) C dX9_lights_81 (by omega) (by omega) (by omega) (jtd (by omega)) ?_
            refine jx_top (b := (kd : Int)) (by rw [hk6, hkd0]; rfl) ?_
            refine jx_cVi (as := [.inl w, .inl (km : Int), .inl (kd : Int)]) (st := []) C Yy (c_X9_dotOver l G μ2 b (by omega) w (by omega) (bda (mB μ) b) hdB (km : Int) (kd : Int) (by omega) (by omega) (by omega) hR2) yb_X9_dotOver yv_X9_dotOver wm_X9_181 (jcl_MO G _) rfl (by decide) rfl rfl (Nat.le_of_ble_eq_true rfl) ⟨⟨rfl, rfl, Nat.le_of_ble_eq_true rfl, Nat.le_of_ble_eq_true rfl⟩, Nat.zero_le _, Nat.zero_le _⟩ dX9_lights_82 ?_
            rintro _ _ ⟨rfl, rfl⟩
            refine jx_top (b := bda (mB μ) b (ox + (km : Int)) (oy + (kd : Int))) (by rw [ov0, ov1]) ?_
            refine jx_istore (L' := [some (.inr (ad G 78)), some (.inl u), some (.inl w), some (.inl t), some (.inl z_9), some (.inl s5), some (.inl k6), some (.inl (bda (mB μ) a (ox + (km : Int)) (oy + (kd : Int)))), some (.inl (bda (mB μ) b (ox + (km : Int)) (oy + (kd : Int))))]) C dX9_lights_85 (by decide) rfl ?_
            refine jx_iload C dX9_lights_87 rfl ?_
            have J_123 : ∀ z : Int, z = tf (km : Int) (kd : Int) → jX F G 9 0 0 (jE F G (jQi G (MP μ (a_lights (mB μ) u w t) (mB μ) (μ 78 0)))) 123 [some (.inr (ad G 78)), some (.inl u), some (.inl w), some (.inl t), some (.inl z_9), some (.inl s5), some (.inl k6), some (.inl (bda (mB μ) a (ox + (km : Int)) (oy + (kd : Int)))), some (.inl (bda (mB μ) b (ox + (km : Int)) (oy + (kd : Int))))] [.inl z, .inl s5] μ2 := by
              rintro _ rfl
              refine jx_iadd C dX9_lights_123 ?_
              refine jx_istore (L' := [some (.inr (ad G 78)), some (.inl u), some (.inl w), some (.inl t), some (.inl z_9), some (.inl (s5 + tf (km : Int) (kd : Int))), some (.inl k6), some (.inl (bda (mB μ) a (ox + (km : Int)) (oy + (kd : Int)))), some (.inl (bda (mB μ) b (ox + (km : Int)) (oy + (kd : Int))))]) C dX9_lights_124 (by decide) rfl ?_
              refine jx_iinc (L' := [some (.inr (ad G 78)), some (.inl u), some (.inl w), some (.inl t), some (.inl z_9), some (.inl (s5 + tf (km : Int) (kd : Int))), some (.inl (k6 + 1)), some (.inl (bda (mB μ) a (ox + (km : Int)) (oy + (kd : Int)))), some (.inl (bda (mB μ) b (ox + (km : Int)) (oy + (kd : Int))))]) C dX9_lights_126 rfl (by decide) rfl ?_
              refine jx_goto C dX9_lights_129 ?_
              refine jx_fewer (L' := [some (.inr (ad G 78)), some (.inl u), some (.inl w), some (.inl t), some (.inl z_9), some (.inl (s5 + tf (km : Int) (kd : Int))), some (.inl (k6 + 1)), none, none]) (fun i v h => ?_) ?_
              · exact jfew_ok (by simp [jfew]) h
              exact ih_31 (k + 1) (k6 + 1) (s5 + tf (km : Int) (kd : Int)) (by omega) (by omega) (by rw [lsm, ← hs5, ← hkm0, ← hkd0]) (by omega)
            refine jx_iload C dX9_lights_89 rfl ?_
            refine jx_if_lt C dX9_lights_91 (by omega) (fun c_91 => ?_) (fun c_91 => ?_)
            · refine jx_iconst C dX9_lights_99 ?_
              refine jx_goto C dX9_lights_100 ?_
              exact J_123 _ (by rw [htf, ltt]; first | (exfalso; omega) | rw [if_pos (by omega)] | rw [if_neg (by omega), if_pos (by omega)] | rw [if_neg (by omega), if_neg (by omega), if_pos (by omega)] | rw [if_neg (by omega), if_neg (by omega), if_neg (by omega)])
            · refine jx_iload C dX9_lights_94 rfl ?_
              refine jx_if_ge C dX9_lights_96 (by omega) (fun c_96 => ?_) (fun c_96 => ?_)
              · refine jx_iload_n C dX9_lights_103 rfl ?_
                refine jx_if_ne C dX9_lights_104 (by omega) (fun c_104 => ?_) (fun c_104 => ?_)
                · refine jx_iload_n C dX9_lights_112 rfl ?_
                  refine jx_iconst C dX9_lights_113 ?_
                  refine jx_icmp_ne C dX9_lights_114 (by omega) (by decide) (fun c_114 => ?_) (fun c_114 => ?_)
                  · refine jx_iconst C dX9_lights_122 ?_
                    exact J_123 _ (by rw [htf, ltt]; first | (exfalso; omega) | rw [if_pos (by omega)] | rw [if_neg (by omega), if_pos (by omega)] | rw [if_neg (by omega), if_neg (by omega), if_pos (by omega)] | rw [if_neg (by omega), if_neg (by omega), if_neg (by omega)])
                  · refine jx_iload C dX9_lights_117 rfl ?_
                    refine jx_goto C dX9_lights_119 ?_
                    exact J_123 _ (by rw [htf, ltt]; first | (exfalso; omega) | rw [if_pos (by omega)] | rw [if_neg (by omega), if_pos (by omega)] | rw [if_neg (by omega), if_neg (by omega), if_pos (by omega)] | rw [if_neg (by omega), if_neg (by omega), if_neg (by omega)])
                · refine jx_iload C dX9_lights_107 rfl ?_
                  refine jx_goto C dX9_lights_109 ?_
                  exact J_123 _ (by rw [htf, ltt]; first | (exfalso; omega) | rw [if_pos (by omega)] | rw [if_neg (by omega), if_pos (by omega)] | rw [if_neg (by omega), if_neg (by omega), if_pos (by omega)] | rw [if_neg (by omega), if_neg (by omega), if_neg (by omega)])
              · refine jx_iconst C dX9_lights_99 ?_
                refine jx_goto C dX9_lights_100 ?_
                exact J_123 _ (by rw [htf, ltt]; first | (exfalso; omega) | rw [if_pos (by omega)] | rw [if_neg (by omega), if_pos (by omega)] | rw [if_neg (by omega), if_neg (by omega), if_pos (by omega)] | rw [if_neg (by omega), if_neg (by omega), if_neg (by omega)])
      exact LP_31 _ 0 0 0 rfl (Nat.zero_le _) rfl (Nat.lt_succ_self _)
    · refine jx_ldc C dX9_lights_19 wk_X9_180 (z := (-1000000)) (by decide +kernel) ?_
      refine jx_iload C dX9_lights_21 rfl ?_
      refine jx_iadd C dX9_lights_23 ?_
      exact jx_iret C dX9_lights_24 (MP_x hX (by rw [a_lights, if_pos (by omega)]; omega))
set_option maxHeartbeats 4000000 in
set_option maxRecDepth 100000 in
theorem c_X9_leastAt (l : Launch) (G : GT) (μ : Mem) (row c : Int) (hrow : 0 ≤ row ∧ row ≤ 19) (hc : InR c) (hw : 0 ≤ μ 78 24 ∧ μ 78 24 ≤ 20) (hR : rng μ) : MI l yX9_leastAt cX9_leastAt 3 .int ({ frames := 1, cells := 0, slots := 0, locals := 22 } : Room) G [.inr (ad G 78), .inl row, .inl c] μ (rdq μ (if 0 ≤ c ∧ c < μ 78 24 then μ 95 (20 * row + c).toNat else -1)) := by
  refine MI.of (by decide +kernel) (Nat.le_of_ble_eq_true rfl) ?_
  intro F C Yy
  show jX F G 3 0 0 (jE F G (jQi G (rdq μ (if 0 ≤ c ∧ c < μ 78 24 then μ 95 (20 * row + c).toNat else -1)))) 0 [some (.inr (ad G 78)), some (.inl row), some (.inl c)] [] μ
  refine jx_iload_n C dX9_leastAt_0 rfl ?_
  refine jx_iconst C dX9_leastAt_1 ?_
  refine jx_aload_n C dX9_leastAt_2 rfl ?_
  refine jx_get (v := .inl (μ 78 24)) C 24 ft_X9 (jcl_MO G _) rfl (by decide) (by decide) wf_X9_167 dX9_leastAt_3 ?_
  have r_3 := rg_MO_24 hR
  refine jx_iconst C dX9_leastAt_6 ?_
  refine jx_isub C dX9_leastAt_7 ?_
  refine jx_cSi (as := [.inl c, .inl 0, .inl (μ 78 24 - 1)]) (st := []) C Yy (c_X9_in l G μ c 0 (μ 78 24 - 1) (by omega) (by omega) (by omega)) yb_X9_in ws_X9_in wm_X9_71 rfl rfl (Nat.le_of_ble_eq_true rfl) ⟨⟨rfl, rfl, Nat.le_of_ble_eq_true rfl, Nat.le_of_ble_eq_true rfl⟩, Nat.zero_le _, Nat.zero_le _⟩ dX9_leastAt_8 ?_
  rintro _ _ ⟨rfl, ⟨rfl, c_8⟩ | ⟨rfl, c_8⟩⟩
  · refine jx_if_eq C dX9_leastAt_11 (by decide) (fun q => absurd q (by decide)) (fun _ => ?_)
    refine jx_aload_n C dX9_leastAt_14 rfl ?_
    refine jx_get (v := .inr (ad G 95)) C 26 ft_X9 (jcl_MO G _) rfl (by decide) (by decide) wf_X9_65 dX9_leastAt_15 ?_
    refine jx_bipush C dX9_leastAt_18 (by decide +kernel) ?_
    refine jx_iload_n C dX9_leastAt_20 rfl ?_
    refine jx_imul C dX9_leastAt_21 ?_
    refine jx_iload_n C dX9_leastAt_22 rfl ?_
    refine jx_iadd C dX9_leastAt_23 ?_
    refine jx_iald C (jcl_95 G _) (by decide) (by omega) (by omega) (by decide) dX9_leastAt_24 ?_
    have r_24 := rg_95 hR ((20 * row + c).toNat)
    refine jx_goto C dX9_leastAt_25 ?_
    exact jx_iret C dX9_leastAt_29 ⟨by rw [if_pos (by omega)], rfl⟩
  · refine jx_if_eq C dX9_leastAt_11 (by decide) (fun _ => ?_) (fun q => absurd q (by decide))
    refine jx_iconst C dX9_leastAt_28 ?_
    exact jx_iret C dX9_leastAt_29 ⟨by rw [if_neg (by omega)], rfl⟩
set_option maxHeartbeats 4000000 in
set_option maxRecDepth 100000 in
theorem c_X9_below (l : Launch) (G : GT) (μ : Mem) (w : Nat) (f : Nat → Int) (row c : Int) (hrow : 0 ≤ row ∧ row ≤ 18) (hw24 : μ 78 24 = (w : Int)) (hw : w ≤ 20) (hc : 0 ≤ c ∧ c < w) (hf : ∀ c2 : Nat, c2 < w → μ 95 (20 * (row + 1) + (c2 : Int)).toNat = f c2) (hR : rng μ) : MI l yX9_below cX9_below 6 .int ({ frames := 2, cells := 0, slots := 0, locals := 44 } : Room) G [.inr (ad G 78), .inl row, .inl c] μ (rdq μ (((chp f (c - 1) (c + 1) w : Nat) : Int))) := by
  refine MI.of (by decide +kernel) (Nat.le_of_ble_eq_true rfl) ?_
  intro F C Yy
  show jX F G 6 0 0 (jE F G (jQi G (rdq μ (((chp f (c - 1) (c + 1) w : Nat) : Int))))) 0 [some (.inr (ad G 78)), some (.inl row), some (.inl c), none, none, none] [] μ
  refine jx_bipush C dX9_below_0 (by decide +kernel) ?_
  refine jx_istore_n (L' := [some (.inr (ad G 78)), some (.inl row), some (.inl c), some (.inl (-6)), none, none]) C dX9_below_2 (by decide) rfl ?_
  refine jx_iload_n C dX9_below_3 rfl ?_
  refine jx_iconst C dX9_below_4 ?_
  refine jx_isub C dX9_below_5 ?_
  refine jx_istore (L' := [some (.inr (ad G 78)), some (.inl row), some (.inl c), some (.inl (-6)), some (.inl (c - 1)), none]) C dX9_below_6 (by decide) rfl ?_
  have LP_8 : ∀ (n : Nat) (x : Nat) (cc : Int) (best : Int), (cc = c - 1 + (x : Int)) → (x ≤ 3) → (best = blw f c w x) → 4 - x < n → jX F G 6 0 0 (jE F G (jQi G (rdq μ (((chp f (c - 1) (c + 1) w : Nat) : Int))))) 8 [some (.inr (ad G 78)), some (.inl row), some (.inl c), some (.inl best), some (.inl cc), none] [] μ := by
    intro n
    induction n with
    | zero =>
      intro x cc best hcc hx hb hms
      exact absurd hms (Nat.not_lt_zero _)
    | succ n ih =>
      intro x cc best hcc hx hb hms
      have ih_8 := ih
      clear ih
      have hbr := blw_rng (f := f) (c := c) (w := w) (x := x) hc
      refine jx_iload C dX9_below_8 rfl ?_
      refine jx_iload_n C dX9_below_10 rfl ?_
      refine jx_iconst C dX9_below_11 ?_
      refine jx_iadd C dX9_below_12 ?_
      refine jx_icmp_gt C dX9_below_13 (by omega) (by omega) (fun c_13 => ?_) (fun c_13 => ?_)
      · refine jx_iload_n C dX9_below_64 rfl ?_
        exact jx_iret C dX9_below_65 ⟨by rw [hb, show x = 3 by omega, blw_end f hc], rfl⟩
      · refine jx_aload_n C dX9_below_16 rfl ?_
        refine jx_iload_n C dX9_below_17 rfl ?_
        refine jx_iconst C dX9_below_18 ?_
        refine jx_iadd C dX9_below_19 ?_
        refine jx_iload C dX9_below_20 rfl ?_
        refine jx_cVi (as := [.inl (row + 1), .inl cc]) (st := []) C Yy (c_X9_leastAt l G μ (row + 1) cc (by omega) (by omega) (by omega) hR) yb_X9_leastAt yv_X9_leastAt wm_X9_184 (jcl_MO G _) rfl (by decide) rfl rfl (Nat.le_of_ble_eq_true rfl) ⟨⟨rfl, rfl, Nat.le_of_ble_eq_true rfl, Nat.le_of_ble_eq_true rfl⟩, Nat.zero_le _, Nat.zero_le _⟩ dX9_below_22 ?_
        rintro _ _ ⟨rfl, rfl⟩
        have v_22 : (if 0 ≤ cc ∧ cc < μ 78 24 then μ 95 (20 * (row + 1) + cc).toNat else -1) = if 0 ≤ cc ∧ cc < (w : Int) then f cc.toNat else -1 := by
            rw [hw24]
            by_cases g : 0 ≤ cc ∧ cc < (w : Int)
            · rw [if_pos g, if_pos g, ← hf cc.toNat (by omega)]; congr 1; omega
            · rw [if_neg g, if_neg g]
        refine jx_nm (fun v5 hv5 => ?_)
        rw [v_22] at hv5
        have hv6 : (0 ≤ cc ∧ cc < (w : Int) ∧ v5 = f cc.toNat ∧ 0 ≤ v5 ∧ v5 ≤ 5100) ∨ (¬ (0 ≤ cc ∧ cc < (w : Int)) ∧ v5 = -1) := by
            by_cases g : 0 ≤ cc ∧ cc < (w : Int)
            · rw [if_pos g] at hv5
              have g2 := rg_95 hR (20 * (row + 1) + (cc.toNat : Int)).toNat
              rw [hf cc.toNat (by omega)] at g2
              exact Or.inl ⟨g.1, g.2, hv5, by omega, by omega⟩
            · rw [if_neg g] at hv5; exact Or.inr ⟨g, hv5⟩
        refine jx_istore (L' := [some (.inr (ad G 78)), some (.inl row), some (.inl c), some (.inl best), some (.inl cc), some (.inl v5)]) C dX9_below_25 (by decide) rfl ?_
        refine jx_iload C dX9_below_27 rfl ?_
        refine jx_if_lt C dX9_below_29 (by omega) (fun c_29 => ?_) (fun c_29 => ?_)
        · refine jx_iload_n C dX9_below_56 rfl ?_
          refine jx_istore_n (L' := [some (.inr (ad G 78)), some (.inl row), some (.inl c), some (.inl best), some (.inl cc), some (.inl v5)]) C dX9_below_57 (by decide) rfl ?_
          refine jx_iinc (L' := [some (.inr (ad G 78)), some (.inl row), some (.inl c), some (.inl best), some (.inl (cc + 1)), some (.inl v5)]) C dX9_below_58 rfl (by decide) rfl ?_
          refine jx_goto C dX9_below_61 ?_
          refine jx_fewer (L' := [some (.inr (ad G 78)), some (.inl row), some (.inl c), some (.inl best), some (.inl (cc + 1)), none]) (fun i v h => ?_) ?_
          · exact jfew_ok (by simp [jfew]) h
          exact ih_8 (x + 1) (cc + 1) best (by omega) (by omega) (by first | (rw [blw_out hc (by omega) (by omega)]; exact hb) | (rw [blw_next hc (by omega) (by omega), ← hb, ← hcc, if_neg (by omega)])) (by omega)
        · refine jx_iload_n C dX9_below_32 rfl ?_
          refine jx_bipush C dX9_below_33 (by decide +kernel) ?_
          refine jx_icmp_eq C dX9_below_35 (by omega) (by decide) (fun c_35 => ?_) (fun c_35 => ?_)
          · refine jx_iload C dX9_below_51 rfl ?_
            refine jx_goto C dX9_below_53 ?_
            refine jx_istore_n (L' := [some (.inr (ad G 78)), some (.inl row), some (.inl c), some (.inl cc), some (.inl cc), some (.inl v5)]) C dX9_below_57 (by decide) rfl ?_
            refine jx_iinc (L' := [some (.inr (ad G 78)), some (.inl row), some (.inl c), some (.inl cc), some (.inl (cc + 1)), some (.inl v5)]) C dX9_below_58 rfl (by decide) rfl ?_
            refine jx_goto C dX9_below_61 ?_
            refine jx_fewer (L' := [some (.inr (ad G 78)), some (.inl row), some (.inl c), some (.inl cc), some (.inl (cc + 1)), none]) (fun i v h => ?_) ?_
            · exact jfew_ok (by simp [jfew]) h
            exact ih_8 (x + 1) (cc + 1) cc (by omega) (by omega) (by first | (rw [blw_first hc (by omega) (by omega)]; exact hcc) | (rw [blw_next hc (by omega) (by omega), ← hb, ← hcc, if_pos (by omega)])) (by omega)
          · refine jx_iload C dX9_below_38 rfl ?_
            refine jx_aload_n C dX9_below_40 rfl ?_
            refine jx_iload_n C dX9_below_41 rfl ?_
            refine jx_iconst C dX9_below_42 ?_
            refine jx_iadd C dX9_below_43 ?_
            refine jx_iload_n C dX9_below_44 rfl ?_
            refine jx_cVi (as := [.inl (row + 1), .inl best]) (st := [.inl v5]) C Yy (c_X9_leastAt l G μ (row + 1) best (by omega) (by omega) (by omega) hR) yb_X9_leastAt yv_X9_leastAt wm_X9_184 (jcl_MO G _) rfl (by decide) rfl rfl (Nat.le_of_ble_eq_true rfl) ⟨⟨rfl, rfl, Nat.le_of_ble_eq_true rfl, Nat.le_of_ble_eq_true rfl⟩, Nat.zero_le _, Nat.zero_le _⟩ dX9_below_45 ?_
            rintro _ _ ⟨rfl, rfl⟩
            have v_45 : (if 0 ≤ best ∧ best < μ 78 24 then μ 95 (20 * (row + 1) + best).toNat else -1) = f best.toNat := by
                rw [hw24, if_pos (by omega), ← hf best.toNat (by omega)]; congr 1; omega
            have v_46 := rg_95 hR (20 * (row + 1) + (best.toNat : Int)).toNat
            rw [hf best.toNat (by omega)] at v_46
            refine jx_top (b := f best.toNat) v_45 ?_
            refine jx_icmp_ge C dX9_below_48 (by omega) (by omega) (fun c_48 => ?_) (fun c_48 => ?_)
            · refine jx_iload_n C dX9_below_56 rfl ?_
              refine jx_istore_n (L' := [some (.inr (ad G 78)), some (.inl row), some (.inl c), some (.inl best), some (.inl cc), some (.inl v5)]) C dX9_below_57 (by decide) rfl ?_
              refine jx_iinc (L' := [some (.inr (ad G 78)), some (.inl row), some (.inl c), some (.inl best), some (.inl (cc + 1)), some (.inl v5)]) C dX9_below_58 rfl (by decide) rfl ?_
              refine jx_goto C dX9_below_61 ?_
              refine jx_fewer (L' := [some (.inr (ad G 78)), some (.inl row), some (.inl c), some (.inl best), some (.inl (cc + 1)), none]) (fun i v h => ?_) ?_
              · exact jfew_ok (by simp [jfew]) h
              exact ih_8 (x + 1) (cc + 1) best (by omega) (by omega) (by first | (rw [blw_out hc (by omega) (by omega)]; exact hb) | (rw [blw_next hc (by omega) (by omega), ← hb, ← hcc, if_neg (by omega)])) (by omega)
            · refine jx_iload C dX9_below_51 rfl ?_
              refine jx_goto C dX9_below_53 ?_
              refine jx_istore_n (L' := [some (.inr (ad G 78)), some (.inl row), some (.inl c), some (.inl cc), some (.inl cc), some (.inl v5)]) C dX9_below_57 (by decide) rfl ?_
              refine jx_iinc (L' := [some (.inr (ad G 78)), some (.inl row), some (.inl c), some (.inl cc), some (.inl (cc + 1)), some (.inl v5)]) C dX9_below_58 rfl (by decide) rfl ?_
              refine jx_goto C dX9_below_61 ?_
              refine jx_fewer (L' := [some (.inr (ad G 78)), some (.inl row), some (.inl c), some (.inl cc), some (.inl (cc + 1)), none]) (fun i v h => ?_) ?_
              · exact jfew_ok (by simp [jfew]) h
              exact ih_8 (x + 1) (cc + 1) cc (by omega) (by omega) (by first | (rw [blw_first hc (by omega) (by omega)]; exact hcc) | (rw [blw_next hc (by omega) (by omega), ← hb, ← hcc, if_pos (by omega)])) (by omega)
  exact LP_8 _ 0 (c - 1) (-6) (by omega) (by omega) (blw_0 f c w).symm (Nat.lt_succ_self _)
