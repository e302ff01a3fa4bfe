set_option maxHeartbeats 4000000 in
set_option maxRecDepth 100000 in
theorem c_X0_isOpen (l : Launch) (G : GT) (μ : Mem) (a b : Nat) (ha : a < bN (cB μ)) (hb : b < bN (cB μ)) (hab : ¬ a = b) (ai bi : Int) (hai : ai = (a : Int)) (hbi : bi = (b : Int)) (hCD : CD μ) (hR : rng μ) : MI l yX0_isOpen cX0_isOpen 6 .boolean ({ frames := 1, cells := 0, slots := 0, locals := 22 } : Room) G [.inr (ad G 2), .inl ai, .inl bi] μ (rdc μ (opn (cB μ) a b)) := by
  refine MI.of (by decide +kernel) (Nat.le_of_ble_eq_true rfl) ?_
  intro F C Yy
  show jX F G 6 0 0 (jE F G (jQi G (rdc μ (opn (cB μ) a b)))) 0 [some (.inr (ad G 2)), some (.inl ai), some (.inl bi), none, none, none] [] μ
  obtain ⟨hc1, hc2⟩ := cB_N hR
  have hn := CD_n hCD
  have hi := CD_inv hR
  have hu := hi.1
  have hA := CD_pic hCD ha
  have hB := CD_pic hCD hb
  have hP := (hCD.2.1 a b ha hb hab).2.2
  have hV := bV_rng (cB μ) (4 * a + b)
  refine jx_aload_n C dX0_isOpen_0 rfl ?_
  refine jx_get (v := .inr (ad G 5)) C 0 ft_X0 (jcl_AL G _) rfl (by decide) (by decide) wf_X0_11 dX0_isOpen_1 ?_
  refine jx_iload_n C dX0_isOpen_4 rfl ?_
  refine jx_aald (p' := a) (t0 := 1) C (jcl_5 G _) rfl (by decide) (by omega) (by omega) (by decide) dX0_isOpen_5 ?_
  refine jx_astore_n (L' := [some (.inr (ad G 2)), some (.inl ai), some (.inl bi), some (.inr (ad G (10 + a))), none, none]) C dX0_isOpen_6 (by decide) rfl ?_
  refine jx_aload_n C dX0_isOpen_7 rfl ?_
  refine jx_get (v := .inr (ad G 5)) C 0 ft_X0 (jcl_AL G _) rfl (by decide) (by decide) wf_X0_11 dX0_isOpen_8 ?_
  refine jx_iload_n C dX0_isOpen_11 rfl ?_
  refine jx_aald (p' := b) (t0 := 1) C (jcl_5 G _) rfl (by decide) (by omega) (by omega) (by decide) dX0_isOpen_12 ?_
  refine jx_astore (L' := [some (.inr (ad G 2)), some (.inl ai), some (.inl bi), some (.inr (ad G (10 + a))), some (.inr (ad G (10 + b))), none]) C dX0_isOpen_13 (by decide) rfl ?_
  refine jx_aload_n C dX0_isOpen_15 rfl ?_
  refine jx_iload_n C dX0_isOpen_16 rfl ?_
  refine jx_iload_n C dX0_isOpen_17 rfl ?_
  refine jx_cVr (as := [.inl ai, .inl bi]) (st := []) C Yy (c_X0_pairingOf l G μ a b (by omega) (by omega) ai bi (by omega) (by omega)) yb_X0_pairingOf yv_X0_pairingOf wm_X0_56 (jcl_AL G _) rfl (by decide) rfl rfl (Nat.le_of_ble_eq_true rfl) ⟨⟨rfl, rfl, Nat.le_of_ble_eq_true rfl, Nat.le_of_ble_eq_true rfl⟩, Nat.zero_le _, Nat.zero_le _⟩ dX0_isOpen_18 ?_
  rintro _ _ ⟨rfl, rfl⟩
  refine jx_astore (L' := [some (.inr (ad G 2)), some (.inl ai), some (.inl bi), some (.inr (ad G (10 + a))), some (.inr (ad G (10 + b))), some (.inr (ad G (46 + (4 * a + b))))]) C dX0_isOpen_21 (by decide) rfl ?_
  refine jx_aload_n C dX0_isOpen_23 rfl ?_
  refine jx_cVi (as := []) (st := []) C Yy (c_X5_isJoined l G μ a (by omega) hR) yb_X5_isJoined yv_X5_isJoined wm_X0_91 (jcl_PI G (by omega) _) rfl (by omega) rfl rfl (Nat.le_of_ble_eq_true rfl) ⟨⟨rfl, rfl, Nat.le_of_ble_eq_true rfl, Nat.le_of_ble_eq_true rfl⟩, Nat.zero_le _, Nat.zero_le _⟩ dX0_isOpen_24 ?_
  rintro _ _ ⟨rfl, ⟨rfl, c_24⟩ | ⟨rfl, c_24⟩⟩
  · refine jx_if_eq C dX0_isOpen_27 (by decide) (fun q => absurd q (by decide)) (fun _ => ?_)
    refine jx_aload C dX0_isOpen_30 rfl ?_
    refine jx_cVi (as := []) (st := []) C Yy (c_X5_isJoined l G μ b (by omega) hR) yb_X5_isJoined yv_X5_isJoined wm_X0_91 (jcl_PI G (by omega) _) rfl (by omega) rfl rfl (Nat.le_of_ble_eq_true rfl) ⟨⟨rfl, rfl, Nat.le_of_ble_eq_true rfl, Nat.le_of_ble_eq_true rfl⟩, Nat.zero_le _, Nat.zero_le _⟩ dX0_isOpen_32 ?_
    rintro _ _ ⟨rfl, ⟨rfl, c_32⟩ | ⟨rfl, c_32⟩⟩
    · refine jx_if_eq C dX0_isOpen_35 (by decide) (fun q => absurd q (by decide)) (fun _ => ?_)
      refine jx_aload C dX0_isOpen_38 rfl ?_
      refine jx_get (v := .inl (μ (46 + (4 * a + b)) 2)) C 2 ft_X4 (jcl_PA G (by omega) _) rfl (by decide) (by omega) wf_X0_95 dX0_isOpen_40 ?_
      have r_40 := rg_PA_2 hR (p := 4 * a + b) (by omega)
      refine jx_if_ne C dX0_isOpen_43 (by omega) (fun c_43 => ?_) (fun c_43 => ?_)
      · refine jx_aload_n C dX0_isOpen_48 rfl ?_
        refine jx_get (v := .inl (μ (10 + a) 4)) C 4 ft_X5 (jcl_PI G (by omega) _) rfl (by decide) (by omega) wf_X0_88 dX0_isOpen_49 ?_
        have r_49 := rg_PI_4 hR (p := a) (by omega)
        refine jx_iload_n C dX0_isOpen_52 rfl ?_
        refine jx_icmp_eq C dX0_isOpen_53 (by omega) (by omega) (fun c_53 => ?_) (fun c_53 => ?_)
        · refine jx_iconst C dX0_isOpen_65 ?_
          exact jx_zret C dX0_isOpen_66 (Or.inl rfl) ⟨rfl, Or.inr ⟨rfl, by (unfold opn; omega)⟩⟩
        · refine jx_aload C dX0_isOpen_56 rfl ?_
          refine jx_get (v := .inl (μ (10 + b) 4)) C 4 ft_X5 (jcl_PI G (by omega) _) rfl (by decide) (by omega) wf_X0_88 dX0_isOpen_58 ?_
          have r_58 := rg_PI_4 hR (p := b) (by omega)
          refine jx_iload_n C dX0_isOpen_61 rfl ?_
          refine jx_icmp_ne C dX0_isOpen_62 (by omega) (by omega) (fun c_62 => ?_) (fun c_62 => ?_)
          · refine jx_aload C dX0_isOpen_67 rfl ?_
            refine jx_get (v := .inl (μ (10 + b) 2)) C 2 ft_X5 (jcl_PI G (by omega) _) rfl (by decide) (by omega) wf_X0_80 dX0_isOpen_69 ?_
            have r_69 := rg_PI_2 hR (p := b) (by omega)
            refine jx_aload_n C dX0_isOpen_72 rfl ?_
            refine jx_get (v := .inl (μ (10 + a) 2)) C 2 ft_X5 (jcl_PI G (by omega) _) rfl (by decide) (by omega) wf_X0_80 dX0_isOpen_73 ?_
            have r_73 := rg_PI_2 hR (p := a) (by omega)
            refine jx_aload C dX0_isOpen_76 rfl ?_
            refine jx_get (v := .inl (μ (46 + (4 * a + b)) 3)) C 3 ft_X4 (jcl_PA G (by omega) _) rfl (by decide) (by omega) wf_X0_83 dX0_isOpen_78 ?_
            have r_78 := rg_PA_3 hR (p := 4 * a + b) (by omega)
            refine jx_iadd C dX0_isOpen_81 ?_
            refine jx_icmp_ne C dX0_isOpen_82 (by omega) (by omega) (fun c_82 => ?_) (fun c_82 => ?_)
            · refine jx_iconst C dX0_isOpen_103 ?_
              refine jx_goto C dX0_isOpen_104 ?_
              exact jx_zret C dX0_isOpen_108 (Or.inr rfl) ⟨rfl, Or.inl ⟨rfl, by (unfold opn; omega)⟩⟩
            · refine jx_aload C dX0_isOpen_85 rfl ?_
              refine jx_get (v := .inl (μ (10 + b) 3)) C 3 ft_X5 (jcl_PI G (by omega) _) rfl (by decide) (by omega) wf_X0_84 dX0_isOpen_87 ?_
              have r_87 := rg_PI_3 hR (p := b) (by omega)
              refine jx_aload_n C dX0_isOpen_90 rfl ?_
              refine jx_get (v := .inl (μ (10 + a) 3)) C 3 ft_X5 (jcl_PI G (by omega) _) rfl (by decide) (by omega) wf_X0_84 dX0_isOpen_91 ?_
              have r_91 := rg_PI_3 hR (p := a) (by omega)
              refine jx_aload C dX0_isOpen_94 rfl ?_
              refine jx_get (v := .inl (μ (46 + (4 * a + b)) 4)) C 4 ft_X4 (jcl_PA G (by omega) _) rfl (by decide) (by omega) wf_X0_87 dX0_isOpen_96 ?_
              have r_96 := rg_PA_4 hR (p := 4 * a + b) (by omega)
              refine jx_iadd C dX0_isOpen_99 ?_
              refine jx_icmp_eq C dX0_isOpen_100 (by omega) (by omega) (fun c_100 => ?_) (fun c_100 => ?_)
              · refine jx_iconst C dX0_isOpen_107 ?_
                exact jx_zret C dX0_isOpen_108 (Or.inl rfl) ⟨rfl, Or.inr ⟨rfl, by (unfold opn; omega)⟩⟩
              · refine jx_iconst C dX0_isOpen_103 ?_
                refine jx_goto C dX0_isOpen_104 ?_
                exact jx_zret C dX0_isOpen_108 (Or.inr rfl) ⟨rfl, Or.inl ⟨rfl, by (unfold opn; omega)⟩⟩
          · refine jx_iconst C dX0_isOpen_65 ?_
            exact jx_zret C dX0_isOpen_66 (Or.inl rfl) ⟨rfl, Or.inr ⟨rfl, by (unfold opn; omega)⟩⟩
      · refine jx_iconst C dX0_isOpen_46 ?_
        exact jx_zret C dX0_isOpen_47 (Or.inl rfl) ⟨rfl, Or.inr ⟨rfl, by (unfold opn; omega)⟩⟩
    · refine jx_if_eq C dX0_isOpen_35 (by decide) (fun _ => ?_) (fun q => absurd q (by decide))
      refine jx_iconst C dX0_isOpen_46 ?_
      exact jx_zret C dX0_isOpen_47 (Or.inl rfl) ⟨rfl, Or.inr ⟨rfl, by (unfold opn; omega)⟩⟩
  · refine jx_if_eq C dX0_isOpen_27 (by decide) (fun _ => ?_) (fun q => absurd q (by decide))
    refine jx_iconst C dX0_isOpen_46 ?_
    exact jx_zret C dX0_isOpen_47 (Or.inl rfl) ⟨rfl, Or.inr ⟨rfl, by (unfold opn; omega)⟩⟩
set_option maxHeartbeats 4000000 in
set_option maxRecDepth 100000 in
theorem c_X0_countOpen (l : Launch) (G : GT) (μ : Mem) (hCD : CD μ) (hR : rng μ) : MI l yX0_countOpen cX0_countOpen 4 .int ({ frames := 2, cells := 0, slots := 0, locals := 47 } : Room) G [.inr (ad G 2)] μ (rdq μ (opc (cB μ))) := by
  refine MI.of (by decide +kernel) (Nat.le_of_ble_eq_true rfl) ?_
  intro F C Yy
  show jX F G 4 0 0 (jE F G (jQi G (rdq μ (opc (cB μ))))) 0 [some (.inr (ad G 2)), none, none, none] [] μ
  obtain ⟨hc1, hc2⟩ := cB_N hR
  have hn := CD_n hCD
  have hi := CD_inv hR
  have hu := hi.1
  refine jx_iconst C dX0_countOpen_0 ?_
  refine jx_istore_n (L' := [some (.inr (ad G 2)), some (.inl 0), none, none]) C dX0_countOpen_1 (by decide) rfl ?_
  refine jx_iconst C dX0_countOpen_2 ?_
  refine jx_istore_n (L' := [some (.inr (ad G 2)), some (.inl 0), some (.inl 0), none]) C dX0_countOpen_3 (by decide) rfl ?_
  have LP_4 : ∀ (n : Nat) (a : Nat) (ai : Int) (op : Int), (ai = (a : Int)) → (a ≤ bN (cB μ)) → (op = opf (cB μ) (4 * a)) → 5 - a < n → jX F G 4 0 0 (jE F G (jQi G (rdq μ (opc (cB μ))))) 4 [some (.inr (ad G 2)), some (.inl op), some (.inl ai), none] [] μ := by
    intro n
    induction n with
    | zero =>
      intro a ai op hai hac hop hms
      exact absurd hms (Nat.not_lt_zero _)
    | succ n ih =>
      intro a ai op hai hac hop hms
      have ih_4 := ih
      clear ih
      refine jx_iload_n C dX0_countOpen_4 rfl ?_
      refine jx_aload_n C dX0_countOpen_5 rfl ?_
      refine jx_get (v := .inl (μ 2 3)) C 3 ft_X0 (jcl_AL G _) rfl (by decide) (by decide) wf_X0_33 dX0_countOpen_6 ?_
      have r_6 := rg_AL_3 hR
      refine jx_icmp_ge C dX0_countOpen_9 (by omega) (by omega) (fun c_9 => ?_) (fun c_9 => ?_)
      · refine jx_iload_n C dX0_countOpen_48 rfl ?_
        exact jx_iret C dX0_countOpen_49 ⟨by rw [hop, opc, opf_skip' (a := 4 * a) (b := 16) (by omega) (fun t h1 h2 g => by omega)], rfl⟩
      · refine jx_iload_n C dX0_countOpen_12 rfl ?_
        refine jx_iconst C dX0_countOpen_13 ?_
        refine jx_iadd C dX0_countOpen_14 ?_
        refine jx_istore_n (L' := [some (.inr (ad G 2)), some (.inl op), some (.inl ai), some (.inl (ai + 1))]) C dX0_countOpen_15 (by decide) rfl ?_
        have LP_16 : ∀ (n : Nat) (b : Nat) (bi : Int) (op2 : Int), (bi = (b : Int)) → (a < b ∧ b ≤ bN (cB μ)) → (op2 = opf (cB μ) (4 * a + b)) → 5 - b < n → jX F G 4 0 0 (jE F G (jQi G (rdq μ (opc (cB μ))))) 16 [some (.inr (ad G 2)), some (.inl op2), some (.inl ai), some (.inl bi)] [] μ := by
          intro n
          induction n with
          | zero =>
            intro b bi op2 hbi hbc hop2 hms
            exact absurd hms (Nat.not_lt_zero _)
          | succ n ih =>
            intro b bi op2 hbi hbc hop2 hms
            have ih_16 := ih
            clear ih
            refine jx_iload_n C dX0_countOpen_16 rfl ?_
            refine jx_aload_n C dX0_countOpen_17 rfl ?_
            refine jx_get (v := .inl (μ 2 3)) C 3 ft_X0 (jcl_AL G _) rfl (by decide) (by decide) wf_X0_33 dX0_countOpen_18 ?_
            have r_18 := rg_AL_3 hR
            refine jx_icmp_ge C dX0_countOpen_21 (by omega) (by omega) (fun c_21 => ?_) (fun c_21 => ?_)
            · refine jx_iinc (L' := [some (.inr (ad G 2)), some (.inl op2), some (.inl (ai + 1)), some (.inl bi)]) C dX0_countOpen_42 rfl (by decide) rfl ?_
              refine jx_goto C dX0_countOpen_45 ?_
              refine jx_fewer (L' := [some (.inr (ad G 2)), some (.inl op2), some (.inl (ai + 1)), none]) (fun i v h => ?_) ?_
              · exact jfew_ok (by simp [jfew]) h
              exact ih_4 (a + 1) (ai + 1) op2 (by omega) (by omega) (by rw [hop2, opf_skip' (a := 4 * a + b) (b := 4 * (a + 1)) (by omega) (fun t h1 h2 g => by omega)]) (by omega)
            · refine jx_aload_n C dX0_countOpen_24 rfl ?_
              refine jx_iload_n C dX0_countOpen_25 rfl ?_
              refine jx_iload_n C dX0_countOpen_26 rfl ?_
              refine jx_cVi (as := [.inl ai, .inl bi]) (st := []) C Yy (c_X0_isOpen l G μ a b (by omega) (by omega) (by omega) ai bi (by omega) (by omega) hCD hR) yb_X0_isOpen yv_X0_isOpen wm_X0_98 (jcl_AL G _) rfl (by decide) rfl rfl (Nat.le_of_ble_eq_true rfl) ⟨⟨rfl, rfl, Nat.le_of_ble_eq_true rfl, Nat.le_of_ble_eq_true rfl⟩, Nat.zero_le _, Nat.zero_le _⟩ dX0_countOpen_27 ?_
              rintro _ _ ⟨rfl, ⟨rfl, c_27⟩ | ⟨rfl, c_27⟩⟩
              · refine jx_if_eq C dX0_countOpen_30 (by decide) (fun q => absurd q (by decide)) (fun _ => ?_)
                refine jx_iinc (L' := [some (.inr (ad G 2)), some (.inl (op2 + 1)), some (.inl ai), some (.inl bi)]) C dX0_countOpen_33 rfl (by decide) rfl ?_
                refine jx_iinc (L' := [some (.inr (ad G 2)), some (.inl (op2 + 1)), some (.inl ai), some (.inl (bi + 1))]) C dX0_countOpen_36 rfl (by decide) rfl ?_
                refine jx_goto C dX0_countOpen_39 ?_
                exact ih_16 (b + 1) (bi + 1) (op2 + 1) (by omega) (by omega) (by rw [opf_yes (by omega) (by omega) (by omega) c_27, hop2]) (by omega)
              · refine jx_if_eq C dX0_countOpen_30 (by decide) (fun _ => ?_) (fun q => absurd q (by decide))
                refine jx_iinc (L' := [some (.inr (ad G 2)), some (.inl op2), some (.inl ai), some (.inl (bi + 1))]) C dX0_countOpen_36 rfl (by decide) rfl ?_
                refine jx_goto C dX0_countOpen_39 ?_
                exact ih_16 (b + 1) (bi + 1) op2 (by omega) (by omega) (by rw [opf_no (by omega) (fun g => c_27 g.2.2)]; exact hop2) (by omega)
        exact LP_16 _ (a + 1) (ai + 1) op (by omega) (by omega) (by rw [hop, opf_skip' (a := 4 * a) (b := 4 * a + (a + 1)) (by omega) (fun t h1 h2 g => by omega)]) (Nat.lt_succ_self _)
  exact LP_4 _ 0 0 0 rfl (Nat.zero_le _) rfl (Nat.lt_succ_self _)
set_option maxHeartbeats 4000000 in
set_option maxRecDepth 100000 in
theorem c_X0_firstAt (l : Launch) (G : GT) (μ : Mem) (x y : Int) (hx : InR x) (hy : InR y) (hCD : CD μ) (hR : rng μ) : MI l yX0_firstAt cX0_firstAt 4 .int ({ frames := 3, cells := 0, slots := 0, locals := 66 } : Room) G [.inr (ad G 2), .inl x, .inl y] μ (rdq μ (fat (cB μ) x y)) := by
  refine MI.of (by decide +kernel) (Nat.le_of_ble_eq_true rfl) ?_
  intro F C Yy
  show jX F G 4 0 0 (jE F G (jQi G (rdq μ (fat (cB μ) x y)))) 0 [some (.inr (ad G 2)), some (.inl x), some (.inl y), none] [] μ
  obtain ⟨hc1, hc2⟩ := cB_N hR
  have hn := CD_n hCD
  have hi := CD_inv hR
  have hu := hi.1
  refine jx_iconst C dX0_firstAt_0 ?_
  refine jx_istore_n (L' := [some (.inr (ad G 2)), some (.inl x), some (.inl y), some (.inl 0)]) C dX0_firstAt_1 (by decide) rfl ?_
  have LP_2 : ∀ (n : Nat) (k : Nat) (ki : Int), (ki = (k : Int)) → (k ≤ (bJ (cB μ)).1) → (∀ j, j < k → bdv (cB μ) x y (μ 7 j).toNat = -1) → 5 - k < n → jX F G 4 0 0 (jE F G (jQi G (rdq μ (fat (cB μ) x y)))) 2 [some (.inr (ad G 2)), some (.inl x), some (.inl y), some (.inl ki)] [] μ := by
    intro n
    induction n with
    | zero =>
      intro k ki hki hkn hno hms
      exact absurd hms (Nat.not_lt_zero _)
    | succ n ih =>
      intro k ki hki hkn hno hms
      have ih_2 := ih
      clear ih
      have ek : ki.toNat = k := by omega
      refine jx_iload_n C dX0_firstAt_2 rfl ?_
      refine jx_aload_n C dX0_firstAt_3 rfl ?_
      refine jx_get (v := .inl (μ 2 4)) C 4 ft_X0 (jcl_AL G _) rfl (by decide) (by decide) wf_X0_66 dX0_firstAt_4 ?_
      have r_4 := rg_AL_4 hR
      refine jx_icmp_ge C dX0_firstAt_7 (by omega) (by omega) (fun c_7 => ?_) (fun c_7 => ?_)
      · refine jx_bipush C dX0_firstAt_43 (by decide +kernel) ?_
        exact jx_iret C dX0_firstAt_45 ⟨CD_none hR hCD (fun j hj => hno j (by omega)), rfl⟩
      · have ho := CD_ord hCD (k := k) (by omega)
        refine jx_aload_n C dX0_firstAt_10 rfl ?_
        refine jx_get (v := .inr (ad G 5)) C 0 ft_X0 (jcl_AL G _) rfl (by decide) (by decide) wf_X0_11 dX0_firstAt_11 ?_
        refine jx_aload_n C dX0_firstAt_14 rfl ?_
        refine jx_get (v := .inr (ad G 7)) C 2 ft_X0 (jcl_AL G _) rfl (by decide) (by decide) wf_X0_23 dX0_firstAt_15 ?_
        refine jx_iload_n C dX0_firstAt_18 rfl ?_
        refine jx_iald C (jcl_7 G _) (by decide) (by omega) (by omega) (by decide) dX0_firstAt_19 ?_
        have r_19 := rg_7 hR ki.toNat
        refine jx_top (b := μ 7 k) (by rw [ek]) ?_
        refine jx_aald (p' := ((μ 7 k).toNat)) (t0 := 1) C (jcl_5 G _) rfl (by decide) (by omega) (by omega) (by decide) dX0_firstAt_20 ?_
        refine jx_iload_n C dX0_firstAt_21 rfl ?_
        refine jx_iload_n C dX0_firstAt_22 rfl ?_
        refine jx_cVi (as := [.inl x, .inl y]) (st := []) C Yy (c_X5_dotAt l G μ ((μ 7 k).toNat) (by omega) x y (by omega) (by omega) hR) yb_X5_dotAt yv_X5_dotAt wm_X0_102 (jcl_PI G (by omega) _) rfl (by omega) rfl rfl (Nat.le_of_ble_eq_true rfl) ⟨⟨rfl, rfl, Nat.le_of_ble_eq_true rfl, Nat.le_of_ble_eq_true rfl⟩, Nat.zero_le _, Nat.zero_le _⟩ dX0_firstAt_23 ?_
        rintro _ _ ⟨rfl, rfl⟩
        have r_23 := dgt_rng (W := μ (14 + ((μ 7 k).toNat)) 2) (H := μ (14 + ((μ 7 k).toNat)) 3) (v := μ (18 + ((μ 7 k).toNat))) (fun t => rg_va hR (p := ((μ 7 k).toNat)) (by omega) t) (x - μ (10 + ((μ 7 k).toNat)) 2) (y - μ (10 + ((μ 7 k).toNat)) 3)
        rw [CD_dot hCD (by omega) (by rw [ho.2.2]; omega) x y] at r_23
        refine jx_top (b := bdv (cB μ) x y (μ 7 k).toNat) (CD_dot hCD (by omega) (by rw [ho.2.2]; omega) x y) ?_
        refine jx_iconst C dX0_firstAt_26 ?_
        refine jx_icmp_eq C dX0_firstAt_27 (by omega) (by decide) (fun c_27 => ?_) (fun c_27 => ?_)
        · refine jx_iinc (L' := [some (.inr (ad G 2)), some (.inl x), some (.inl y), some (.inl (ki + 1))]) C dX0_firstAt_37 rfl (by decide) rfl ?_
          refine jx_goto C dX0_firstAt_40 ?_
          exact ih_2 (k + 1) (ki + 1) (by omega) (by omega) (jlt_s hno c_27) (by omega)
        · refine jx_aload_n C dX0_firstAt_30 rfl ?_
          refine jx_get (v := .inr (ad G 7)) C 2 ft_X0 (jcl_AL G _) rfl (by decide) (by decide) wf_X0_23 dX0_firstAt_31 ?_
          refine jx_iload_n C dX0_firstAt_34 rfl ?_
          refine jx_iald C (jcl_7 G _) (by decide) (by omega) (by omega) (by decide) dX0_firstAt_35 ?_
          have r_35 := rg_7 hR ki.toNat
          refine jx_top (b := μ 7 k) (by rw [ek]) ?_
          exact jx_iret C dX0_firstAt_36 ⟨CD_first hR hCD (by omega) c_27 hno, rfl⟩
  exact LP_2 _ 0 0 rfl (Nat.zero_le _) (fun j hj => absurd hj (Nat.not_lt_zero _)) (Nat.lt_succ_self _)
set_option maxHeartbeats 4000000 in
set_option maxRecDepth 100000 in
theorem c_X0_edge (l : Launch) (G : GT) (μ : Mem) (what : Int) (hwt : 0 ≤ what ∧ what ≤ 3) (hpos : 0 < bN (cB μ)) (hCD : CD μ) (hR : rng μ) : MI l yX0_edge cX0_edge 5 .int ({ frames := 1, cells := 0, slots := 0, locals := 21 } : Room) G [.inr (ad G 2), .inl what] μ (rdq μ (exs (cB μ) what)) := by
  refine MI.of (by decide +kernel) (Nat.le_of_ble_eq_true rfl) ?_
  intro F C Yy
  show jX F G 5 0 0 (jE F G (jQi G (rdq μ (exs (cB μ) what)))) 0 [some (.inr (ad G 2)), some (.inl what), none, none, none] [] μ
  obtain ⟨hc1, hc2⟩ := cB_N hR
  have hn := CD_n hCD
  have hi := CD_inv hR
  have hu := hi.1
  have h00 := jrk0 hpos
  have ho0 := CD_ord0 hR hCD hpos
  have hn1 := (CD_at hR hCD hpos (by omega))
  obtain ⟨k0, hk0, -⟩ := hn1
  refine jx_aload_n C dX0_edge_0 rfl ?_
  refine jx_get (v := .inr (ad G 5)) C 0 ft_X0 (jcl_AL G _) rfl (by decide) (by decide) wf_X0_11 dX0_edge_1 ?_
  refine jx_iconst C dX0_edge_4 ?_
  refine jx_aald (p' := 0) (t0 := 1) C (jcl_5 G _) rfl (by decide) rfl (by decide) (by decide) dX0_edge_5 ?_
  refine jx_iload_n C dX0_edge_6 rfl ?_
  refine jx_cVi (as := [.inl what]) (st := []) C Yy (c_X5_edge l G μ 0 (by omega) what (by omega) hR) yb_X5_edge yv_X5_edge wm_X0_106 (jcl_PI G (by omega) _) rfl (by omega) rfl rfl (Nat.le_of_ble_eq_true rfl) ⟨⟨rfl, rfl, Nat.le_of_ble_eq_true rfl, Nat.le_of_ble_eq_true rfl⟩, Nat.zero_le _, Nat.zero_le _⟩ dX0_edge_7 ?_
  rintro _ _ ⟨rfl, rfl⟩
  have r_7 := edg_rng (x := μ (10 + 0) 2) (y := μ (10 + 0) 3) (w := μ (14 + 0) 2) (h := μ (14 + 0) 3) (what := what) (rg_PI_2 hR (by omega)) (rg_PI_3 hR (by omega)) (rg_DO_2 hR (by omega)) (rg_DO_3 hR (by omega))
  rw [show edg (μ (10 + 0) 2) (μ (10 + 0) 3) (μ (14 + 0) 2) (μ (14 + 0) 3) what = bex (cB μ) what 0 from CD_edge hCD hpos (by omega) what] at r_7
  refine jx_top (b := bex (cB μ) what 0) (CD_edge hCD hpos (by omega) what) ?_
  refine jx_istore_n (L' := [some (.inr (ad G 2)), some (.inl what), some (.inl (bex (cB μ) what 0)), none, none]) C dX0_edge_10 (by decide) rfl ?_
  refine jx_iconst C dX0_edge_11 ?_
  refine jx_istore_n (L' := [some (.inr (ad G 2)), some (.inl what), some (.inl (bex (cB μ) what 0)), some (.inl 1), none]) C dX0_edge_12 (by decide) rfl ?_
  have LP_13 : ∀ (n : Nat) (k : Nat) (ki : Int) (fa : Int), (ki = (k : Int)) → (1 ≤ k) → (k ≤ (bJ (cB μ)).1) → (-1001 ≤ fa ∧ fa ≤ 1020) → (∃ p, p < bN (cB μ) ∧ ¬ jrk (cB μ) p = -6 ∧ fa = bex (cB μ) what p) → (∀ j, j < k → (what < 2 → fa ≤ bex (cB μ) what (μ 7 j).toNat) ∧ (¬ what < 2 → bex (cB μ) what (μ 7 j).toNat ≤ fa)) → 6 - k < n → jX F G 5 0 0 (jE F G (jQi G (rdq μ (exs (cB μ) what)))) 13 [some (.inr (ad G 2)), some (.inl what), some (.inl fa), some (.inl ki), none] [] μ := by
    intro n
    induction n with
    | zero =>
      intro k ki fa hki hk1 hkn hfr hex hal hms
      exact absurd hms (Nat.not_lt_zero _)
    | succ n ih =>
      intro k ki fa hki hk1 hkn hfr hex hal hms
      have ih_13 := ih
      clear ih
      have ek : ki.toNat = k := by omega
      refine jx_iload_n C dX0_edge_13 rfl ?_
      refine jx_aload_n C dX0_edge_14 rfl ?_
      refine jx_get (v := .inl (μ 2 4)) C 4 ft_X0 (jcl_AL G _) rfl (by decide) (by decide) wf_X0_66 dX0_edge_15 ?_
      have r_15 := rg_AL_4 hR
      refine jx_icmp_ge C dX0_edge_18 (by omega) (by omega) (fun c_18 => ?_) (fun c_18 => ?_)
      · refine jx_iload_n C dX0_edge_65 rfl ?_
        exact jx_iret C dX0_edge_66 ⟨by
      obtain ⟨p, hp, hr, he⟩ := hex
      refine (exf_eq (lo := what < 2) (by rw [h00]; decide) hpos hp hr he (fun q hq hqr => ?_)).symm
      obtain ⟨j, hj, g3, g4⟩ := CD_at hR hCD hq hqr
      have g5 := hal j (by omega)
      rw [g4] at g5
      exact g5, rfl⟩
      · have ho := CD_ord hCD (k := k) (by omega)
        refine jx_aload_n C dX0_edge_21 rfl ?_
        refine jx_get (v := .inr (ad G 5)) C 0 ft_X0 (jcl_AL G _) rfl (by decide) (by decide) wf_X0_11 dX0_edge_22 ?_
        refine jx_aload_n C dX0_edge_25 rfl ?_
        refine jx_get (v := .inr (ad G 7)) C 2 ft_X0 (jcl_AL G _) rfl (by decide) (by decide) wf_X0_23 dX0_edge_26 ?_
        refine jx_iload_n C dX0_edge_29 rfl ?_
        refine jx_iald C (jcl_7 G _) (by decide) (by omega) (by omega) (by decide) dX0_edge_30 ?_
        have r_30 := rg_7 hR ki.toNat
        refine jx_top (b := μ 7 k) (by rw [ek]) ?_
        refine jx_aald (p' := ((μ 7 k).toNat)) (t0 := 1) C (jcl_5 G _) rfl (by decide) (by omega) (by omega) (by decide) dX0_edge_31 ?_
        refine jx_iload_n C dX0_edge_32 rfl ?_
        refine jx_cVi (as := [.inl what]) (st := []) C Yy (c_X5_edge l G μ ((μ 7 k).toNat) (by omega) what (by omega) hR) yb_X5_edge yv_X5_edge wm_X0_106 (jcl_PI G (by omega) _) rfl (by omega) rfl rfl (Nat.le_of_ble_eq_true rfl) ⟨⟨rfl, rfl, Nat.le_of_ble_eq_true rfl, Nat.le_of_ble_eq_true rfl⟩, Nat.zero_le _, Nat.zero_le _⟩ dX0_edge_33 ?_
        rintro _ _ ⟨rfl, rfl⟩
        have r_33 := edg_rng (x := μ (10 + ((μ 7 k).toNat)) 2) (y := μ (10 + ((μ 7 k).toNat)) 3) (w := μ (14 + ((μ 7 k).toNat)) 2) (h := μ (14 + ((μ 7 k).toNat)) 3) (what := what) (rg_PI_2 hR (by omega)) (rg_PI_3 hR (by omega)) (rg_DO_2 hR (by omega)) (rg_DO_3 hR (by omega))
        rw [CD_edge hCD (by omega) (by rw [ho.2.2]; omega) what] at r_33
        refine jx_top (b := bex (cB μ) what (μ 7 k).toNat) (CD_edge hCD (by omega) (by rw [ho.2.2]; omega) what) ?_
        refine jx_istore (L' := [some (.inr (ad G 2)), some (.inl what), some (.inl fa), some (.inl ki), some (.inl (bex (cB μ) what (μ 7 k).toNat))]) C dX0_edge_36 (by decide) rfl ?_
        refine jx_iload_n C dX0_edge_38 rfl ?_
        refine jx_iconst C dX0_edge_39 ?_
        refine jx_icmp_ge C dX0_edge_40 (by omega) (by decide) (fun c_40 => ?_) (fun c_40 => ?_)
        · refine jx_iload_n C dX0_edge_52 rfl ?_
          refine jx_iload C dX0_edge_53 rfl ?_
          refine jx_max C Yy (by omega) (by omega) wm_X0_115 ws_J9_max_7cf53 wi_Math wc_J9_max_7cf53 (Nat.le_of_ble_eq_true rfl) ⟨by decide, by decide, by decide, by decide⟩ dX0_edge_55 ?_
          refine jx_istore_n (L' := [some (.inr (ad G 2)), some (.inl what), some (.inl (max fa (bex (cB μ) what (μ 7 k).toNat))), some (.inl ki), some (.inl (bex (cB μ) what (μ 7 k).toNat))]) C dX0_edge_58 (by decide) rfl ?_
          refine jx_iinc (L' := [some (.inr (ad G 2)), some (.inl what), some (.inl (max fa (bex (cB μ) what (μ 7 k).toNat))), some (.inl (ki + 1)), some (.inl (bex (cB μ) what (μ 7 k).toNat))]) C dX0_edge_59 rfl (by decide) rfl ?_
          refine jx_goto C dX0_edge_62 ?_
          refine jx_fewer (L' := [some (.inr (ad G 2)), some (.inl what), some (.inl (max fa (bex (cB μ) what (μ 7 k).toNat))), some (.inl (ki + 1)), none]) (fun i v h => ?_) ?_
          · exact jfew_ok (by simp [jfew]) h
          exact ih_13 (k + 1) (ki + 1) (max fa (bex (cB μ) what (μ 7 k).toNat)) (by omega) (by omega) (by omega) (by omega) (by
          obtain ⟨p, hp, hr, he⟩ := hex
          by_cases hm : fa ≥ bex (cB μ) what (μ 7 k).toNat
          · exact ⟨p, hp, hr, by omega⟩
          · exact ⟨(μ 7 k).toNat, by omega, by rw [ho.2.2]; omega, by omega⟩) (jlt_s (fun j hj => by have := hal j hj; exact ⟨fun g => by have := this.1 g; omega, fun g => by have := this.2 g; omega⟩) ⟨fun g => by omega, fun g => by omega⟩) (by omega)
        · refine jx_iload_n C dX0_edge_43 rfl ?_
          refine jx_iload C dX0_edge_44 rfl ?_
          refine jx_min C Yy (by omega) (by omega) wm_X0_110 ws_J9_min_7cf53 wi_Math wc_J9_min_7cf53 (Nat.le_of_ble_eq_true rfl) ⟨by decide, by decide, by decide, by decide⟩ dX0_edge_46 ?_
          refine jx_goto C dX0_edge_49 ?_
          refine jx_istore_n (L' := [some (.inr (ad G 2)), some (.inl what), some (.inl (min fa (bex (cB μ) what (μ 7 k).toNat))), some (.inl ki), some (.inl (bex (cB μ) what (μ 7 k).toNat))]) C dX0_edge_58 (by decide) rfl ?_
          refine jx_iinc (L' := [some (.inr (ad G 2)), some (.inl what), some (.inl (min fa (bex (cB μ) what (μ 7 k).toNat))), some (.inl (ki + 1)), some (.inl (bex (cB μ) what (μ 7 k).toNat))]) C dX0_edge_59 rfl (by decide) rfl ?_
          refine jx_goto C dX0_edge_62 ?_
          refine jx_fewer (L' := [some (.inr (ad G 2)), some (.inl what), some (.inl (min fa (bex (cB μ) what (μ 7 k).toNat))), some (.inl (ki + 1)), none]) (fun i v h => ?_) ?_
          · exact jfew_ok (by simp [jfew]) h
          exact ih_13 (k + 1) (ki + 1) (min fa (bex (cB μ) what (μ 7 k).toNat)) (by omega) (by omega) (by omega) (by omega) (by
          obtain ⟨p, hp, hr, he⟩ := hex
          by_cases hm : fa ≤ bex (cB μ) what (μ 7 k).toNat
          · exact ⟨p, hp, hr, by omega⟩
          · exact ⟨(μ 7 k).toNat, by omega, by rw [ho.2.2]; omega, by omega⟩) (jlt_s (fun j hj => by have := hal j hj; exact ⟨fun g => by have := this.1 g; omega, fun g => by have := this.2 g; omega⟩) ⟨fun g => by omega, fun g => by omega⟩) (by omega)
  exact LP_13 _ 1 1 (bex (cB μ) what 0) rfl (Nat.le_refl _) (by omega) (by omega) ⟨0, hpos, by omega, rfl⟩ (fun j hj => by rw [show j = 0 by omega, ho0]; exact ⟨fun _ => Int.le_refl _, fun _ => Int.le_refl _⟩) (Nat.lt_succ_self _)
set_option maxHeartbeats 4000000 in
set_option maxRecDepth 100000 in
theorem c_X0_countPlaces (l : Launch) (G : GT) (μ : Mem) (hCD : CD μ) (hR : rng μ) : MI l yX0_countPlaces cX0_countPlaces 6 .int ({ frames := 4, cells := 0, slots := 0, locals := 89 } : Room) G [.inr (ad G 2)] μ (rdq μ (cpl (cB μ))) := by
  refine MI.of (by decide +kernel) (Nat.le_of_ble_eq_true rfl) ?_
  intro F C Yy
  show jX F G 6 0 0 (jE F G (jQi G (rdq μ (cpl (cB μ))))) 0 [some (.inr (ad G 2)), none, none, none, none, none] [] μ
  obtain ⟨hc1, hc2⟩ := cB_N hR
  have hn := CD_n hCD
  have hi := CD_inv hR
  have hu := hi.1
  refine jx_iconst C dX0_countPlaces_0 ?_
  refine jx_istore_n (L' := [some (.inr (ad G 2)), some (.inl 0), none, none, none, none]) C dX0_countPlaces_1 (by decide) rfl ?_
  refine jx_iconst C dX0_countPlaces_2 ?_
  refine jx_istore_n (L' := [some (.inr (ad G 2)), some (.inl 0), some (.inl 0), none, none, none]) C dX0_countPlaces_3 (by decide) rfl ?_
  have LP_4 : ∀ (n : Nat) (k : Nat) (ki : Int) (pl : Int), (ki = (k : Int)) → (k ≤ (bJ (cB μ)).1) → (pl = csm (cpt (cB μ)) (fun k => (μ 7 k).toNat) k) → 5 - k < n → jX F G 6 0 0 (jE F G (jQi G (rdq μ (cpl (cB μ))))) 4 [some (.inr (ad G 2)), some (.inl pl), some (.inl ki), none, none, none] [] μ := by
    intro n
    induction n with
    | zero =>
      intro k ki pl hki hkn hpl hms
      exact absurd hms (Nat.not_lt_zero _)
    | succ n ih =>
      intro k ki pl hki hkn hpl hms
      have ih_4 := ih
      clear ih
      have ek : ki.toNat = k := by omega
      refine jx_iload_n C dX0_countPlaces_4 rfl ?_
      refine jx_aload_n C dX0_countPlaces_5 rfl ?_
      refine jx_get (v := .inl (μ 2 4)) C 4 ft_X0 (jcl_AL G _) rfl (by decide) (by decide) wf_X0_66 dX0_countPlaces_6 ?_
      have r_6 := rg_AL_4 hR
      refine jx_icmp_ge C dX0_countPlaces_9 (by omega) (by omega) (fun c_9 => ?_) (fun c_9 => ?_)
      · refine jx_iload_n C dX0_countPlaces_102 rfl ?_
        exact jx_iret C dX0_countPlaces_103 ⟨by rw [hpl, show k = (bJ (cB μ)).1 by omega]; exact (cpl_eq (cB_ok hR) (fun k hk => by have ho := CD_ord hCD hk; exact ⟨by omega, ho.2.2⟩)).symm, rfl⟩
      · have ho := CD_ord hCD (k := k) (by omega)
        have hpc := (CD_pic hCD (p := (μ 7 k).toNat) (by omega)).2 (by rw [ho.2.2]; omega)
        have r_w := rg_DO_2 hR (p := (μ 7 k).toNat) (by omega)
        have r_h := rg_DO_3 hR (p := (μ 7 k).toNat) (by omega)
        have hbw := cB_W (μ := μ) (p := (μ 7 k).toNat) (by omega)
        have hbh := cB_H (μ := μ) (p := (μ 7 k).toNat) (by omega)
        have hjb := hi.2.1 (μ 7 k).toNat (by omega)
        have e_1 : jxx (cB μ) (μ 7 k).toNat = (bJ (cB μ)).2.2.1 (μ 7 k).toNat := rfl
        have e_2 : jyy (cB μ) (μ 7 k).toNat = (bJ (cB μ)).2.2.2.1 (μ 7 k).toNat := rfl
        have e_3 : jrk (cB μ) (μ 7 k).toNat = (bJ (cB μ)).2.1 (μ 7 k).toNat := rfl
        refine jx_aload_n C dX0_countPlaces_12 rfl ?_
        refine jx_get (v := .inr (ad G 5)) C 0 ft_X0 (jcl_AL G _) rfl (by decide) (by decide) wf_X0_11 dX0_countPlaces_13 ?_
        refine jx_aload_n C dX0_countPlaces_16 rfl ?_
        refine jx_get (v := .inr (ad G 7)) C 2 ft_X0 (jcl_AL G _) rfl (by decide) (by decide) wf_X0_23 dX0_countPlaces_17 ?_
        refine jx_iload_n C dX0_countPlaces_20 rfl ?_
        refine jx_iald C (jcl_7 G _) (by decide) (by omega) (by omega) (by decide) dX0_countPlaces_21 ?_
        have r_21 := rg_7 hR ki.toNat
        refine jx_top (b := μ 7 k) (by rw [ek]) ?_
        refine jx_aald (p' := ((μ 7 k).toNat)) (t0 := 1) C (jcl_5 G _) rfl (by decide) (by omega) (by omega) (by decide) dX0_countPlaces_22 ?_
        refine jx_astore_n (L' := [some (.inr (ad G 2)), some (.inl pl), some (.inl ki), some (.inr (ad G (10 + ((μ 7 k).toNat)))), none, none]) C dX0_countPlaces_23 (by decide) rfl ?_
        refine jx_iconst C dX0_countPlaces_24 ?_
        refine jx_istore (L' := [some (.inr (ad G 2)), some (.inl pl), some (.inl ki), some (.inr (ad G (10 + ((μ 7 k).toNat)))), some (.inl 0), none]) C dX0_countPlaces_25 (by decide) rfl ?_
        have LP_27 : ∀ (n : Nat) (y : Nat) (j : Int) (pl2 : Int), (j = (y : Int)) → ((y : Int) ≤ μ (14 + (μ 7 k).toNat) 3) → (pl2 = csm (cpt (cB μ)) (fun k => (μ 7 k).toNat) k + rsm (fun j => rsm (fun i => ind (cB μ) (μ 7 k).toNat (jxx (cB μ) (μ 7 k).toNat + i) (jyy (cB μ) (μ 7 k).toNat + j)) (bW (cB μ) (μ 7 k).toNat).toNat) y) → 21 - y < n → jX F G 6 0 0 (jE F G (jQi G (rdq μ (cpl (cB μ))))) 27 [some (.inr (ad G 2)), some (.inl pl2), some (.inl ki), some (.inr (ad G (10 + ((μ 7 k).toNat)))), some (.inl j), none] [] μ := by
          intro n
          induction n with
          | zero =>
            intro y j pl2 hj hy hpj hms
            exact absurd hms (Nat.not_lt_zero _)
          | succ n ih =>
            intro y j pl2 hj hy hpj hms
            have ih_27 := ih
            clear ih
            refine jx_iload C dX0_countPlaces_27 rfl ?_
            refine jx_aload_n C dX0_countPlaces_29 rfl ?_
            refine jx_get (v := .inr (ad G (14 + ((μ 7 k).toNat)))) C 0 ft_X5 (jcl_PI G (by omega) _) rfl (by decide) (by omega) wf_X0_37 dX0_countPlaces_30 ?_
            refine jx_get (v := .inl (μ (14 + ((μ 7 k).toNat)) 3)) C 3 ft_X1 (jcl_DO G (by omega) _) rfl (by decide) (by omega) wf_X0_118 dX0_countPlaces_33 ?_
            have r_33 := rg_DO_3 hR (p := (μ 7 k).toNat) (by omega)
            refine jx_icmp_ge C dX0_countPlaces_36 (by omega) (by omega) (fun c_36 => ?_) (fun c_36 => ?_)
            · refine jx_iinc (L' := [some (.inr (ad G 2)), some (.inl pl2), some (.inl (ki + 1)), some (.inr (ad G (10 + ((μ 7 k).toNat)))), some (.inl j), none]) C dX0_countPlaces_96 rfl (by decide) rfl ?_
              refine jx_goto C dX0_countPlaces_99 ?_
              refine jx_fewer (L' := [some (.inr (ad G 2)), some (.inl pl2), some (.inl (ki + 1)), none, none, none]) (fun i v h => ?_) ?_
              · exact jfew_ok (by simp [jfew]) h
              exact ih_4 (k + 1) (ki + 1) pl2 (by omega) (by omega) (by rw [csm, hpj]; unfold cpt bxs; rw [show (bH (cB μ) (μ 7 k).toNat).toNat = y by omega]) (by omega)
            · refine jx_iconst C dX0_countPlaces_39 ?_
              refine jx_istore (L' := [some (.inr (ad G 2)), some (.inl pl2), some (.inl ki), some (.inr (ad G (10 + ((μ 7 k).toNat)))), some (.inl j), some (.inl 0)]) C dX0_countPlaces_40 (by decide) rfl ?_
              have LP_42 : ∀ (n : Nat) (x : Nat) (i : Int) (pl3 : Int), (i = (x : Int)) → ((x : Int) ≤ μ (14 + (μ 7 k).toNat) 2) → (pl3 = csm (cpt (cB μ)) (fun k => (μ 7 k).toNat) k + rsm (fun j => rsm (fun i => ind (cB μ) (μ 7 k).toNat (jxx (cB μ) (μ 7 k).toNat + i) (jyy (cB μ) (μ 7 k).toNat + j)) (bW (cB μ) (μ 7 k).toNat).toNat) y + rsm (fun i => ind (cB μ) (μ 7 k).toNat (jxx (cB μ) (μ 7 k).toNat + i) (jyy (cB μ) (μ 7 k).toNat + (y : Int))) x) → 21 - x < n → jX F G 6 0 0 (jE F G (jQi G (rdq μ (cpl (cB μ))))) 42 [some (.inr (ad G 2)), some (.inl pl3), some (.inl ki), some (.inr (ad G (10 + ((μ 7 k).toNat)))), some (.inl j), some (.inl i)] [] μ := by
                intro n
                induction n with
                | zero =>
                  intro x i pl3 hi2 hx hpi hms
                  exact absurd hms (Nat.not_lt_zero _)
                | succ n ih =>
                  intro x i pl3 hi2 hx hpi hms
                  have ih_42 := ih
                  clear ih
                  refine jx_iload C dX0_countPlaces_42 rfl ?_
                  refine jx_aload_n C dX0_countPlaces_44 rfl ?_
                  refine jx_get (v := .inr (ad G (14 + ((μ 7 k).toNat)))) C 0 ft_X5 (jcl_PI G (by omega) _) rfl (by decide) (by omega) wf_X0_37 dX0_countPlaces_45 ?_
                  refine jx_get (v := .inl (μ (14 + ((μ 7 k).toNat)) 2)) C 2 ft_X1 (jcl_DO G (by omega) _) rfl (by decide) (by omega) wf_X0_121 dX0_countPlaces_48 ?_
                  have r_48 := rg_DO_2 hR (p := (μ 7 k).toNat) (by omega)
                  refine jx_icmp_ge C dX0_countPlaces_51 (by omega) (by omega) (fun c_51 => ?_) (fun c_51 => ?_)
                  · refine jx_iinc (L' := [some (.inr (ad G 2)), some (.inl pl3), some (.inl ki), some (.inr (ad G (10 + ((μ 7 k).toNat)))), some (.inl (j + 1)), some (.inl i)]) C dX0_countPlaces_90 rfl (by decide) rfl ?_
                    refine jx_goto C dX0_countPlaces_93 ?_
                    refine jx_fewer (L' := [some (.inr (ad G 2)), some (.inl pl3), some (.inl ki), some (.inr (ad G (10 + ((μ 7 k).toNat)))), some (.inl (j + 1)), none]) (fun i v h => ?_) ?_
                    · exact jfew_ok (by simp [jfew]) h
                    exact ih_27 (y + 1) (j + 1) pl3 (by omega) (by omega) (by rw [hpi, rsm, Int.add_assoc, show (bW (cB μ) (μ 7 k).toNat).toNat = x by omega]) (by omega)
                  · refine jx_aload_n C dX0_countPlaces_54 rfl ?_
                    refine jx_aload_n C dX0_countPlaces_55 rfl ?_
                    refine jx_get (v := .inl (μ (10 + ((μ 7 k).toNat)) 2)) C 2 ft_X5 (jcl_PI G (by omega) _) rfl (by decide) (by omega) wf_X0_80 dX0_countPlaces_56 ?_
                    have r_56 := rg_PI_2 hR (p := (μ 7 k).toNat) (by omega)
                    refine jx_top (b := jxx (cB μ) (μ 7 k).toNat) hpc.1 ?_
                    refine jx_iload C dX0_countPlaces_59 rfl ?_
                    refine jx_iadd C dX0_countPlaces_61 ?_
                    refine jx_aload_n C dX0_countPlaces_62 rfl ?_
                    refine jx_get (v := .inl (μ (10 + ((μ 7 k).toNat)) 3)) C 3 ft_X5 (jcl_PI G (by omega) _) rfl (by decide) (by omega) wf_X0_84 dX0_countPlaces_63 ?_
                    have r_63 := rg_PI_3 hR (p := (μ 7 k).toNat) (by omega)
                    refine jx_top (b := jyy (cB μ) (μ 7 k).toNat) hpc.2.1 ?_
                    refine jx_iload C dX0_countPlaces_66 rfl ?_
                    refine jx_iadd C dX0_countPlaces_68 ?_
                    refine jx_cVi (as := [.inl (jxx (cB μ) (μ 7 k).toNat + i), .inl (jyy (cB μ) (μ 7 k).toNat + j)]) (st := []) C Yy (c_X0_firstAt l G μ (jxx (cB μ) (μ 7 k).toNat + i) (jyy (cB μ) (μ 7 k).toNat + j) (by omega) (by omega) hCD hR) yb_X0_firstAt yv_X0_firstAt wm_X0_124 (jcl_AL G _) rfl (by decide) rfl rfl (Nat.le_of_ble_eq_true rfl) ⟨⟨rfl, rfl, Nat.le_of_ble_eq_true rfl, Nat.le_of_ble_eq_true rfl⟩, Nat.zero_le _, Nat.zero_le _⟩ dX0_countPlaces_69 ?_
                    rintro _ _ ⟨rfl, rfl⟩
                    have r_69 := fat_ok (cB μ) (jxx (cB μ) (μ 7 k).toNat + i) (jyy (cB μ) (μ 7 k).toNat + j)
                    refine jx_aload_n C dX0_countPlaces_72 rfl ?_
                    refine jx_get (v := .inr (ad G 7)) C 2 ft_X0 (jcl_AL G _) rfl (by decide) (by decide) wf_X0_23 dX0_countPlaces_73 ?_
                    refine jx_iload_n C dX0_countPlaces_76 rfl ?_
                    refine jx_iald C (jcl_7 G _) (by decide) (by omega) (by omega) (by decide) dX0_countPlaces_77 ?_
                    have r_77 := rg_7 hR ki.toNat
                    refine jx_top (b := μ 7 k) (by rw [ek]) ?_
                    refine jx_icmp_ne C dX0_countPlaces_78 (by omega) (by omega) (fun c_78 => ?_) (fun c_78 => ?_)
                    · refine jx_iinc (L' := [some (.inr (ad G 2)), some (.inl pl3), some (.inl ki), some (.inr (ad G (10 + ((μ 7 k).toNat)))), some (.inl j), some (.inl (i + 1))]) C dX0_countPlaces_84 rfl (by decide) rfl ?_
                      refine jx_goto C dX0_countPlaces_87 ?_
                      exact ih_42 (x + 1) (i + 1) pl3 (by omega) (by omega) (by rw [rsm, ← Int.add_assoc, ← hpi, show ind (cB μ) (μ 7 k).toNat (jxx (cB μ) (μ 7 k).toNat + (x : Int)) (jyy (cB μ) (μ 7 k).toNat + (y : Int)) = 0 by unfold ind; rw [← hi2, ← hj]; exact if_neg (by omega)]; omega) (by omega)
                    · refine jx_iinc (L' := [some (.inr (ad G 2)), some (.inl (pl3 + 1)), some (.inl ki), some (.inr (ad G (10 + ((μ 7 k).toNat)))), some (.inl j), some (.inl i)]) C dX0_countPlaces_81 rfl (by decide) rfl ?_
                      refine jx_iinc (L' := [some (.inr (ad G 2)), some (.inl (pl3 + 1)), some (.inl ki), some (.inr (ad G (10 + ((μ 7 k).toNat)))), some (.inl j), some (.inl (i + 1))]) C dX0_countPlaces_84 rfl (by decide) rfl ?_
                      refine jx_goto C dX0_countPlaces_87 ?_
                      exact ih_42 (x + 1) (i + 1) (pl3 + 1) (by omega) (by omega) (by rw [rsm, ← Int.add_assoc, ← hpi, show ind (cB μ) (μ 7 k).toNat (jxx (cB μ) (μ 7 k).toNat + (x : Int)) (jyy (cB μ) (μ 7 k).toNat + (y : Int)) = 1 by unfold ind; rw [← hi2, ← hj]; exact if_pos (by omega)]) (by omega)
              exact LP_42 _ 0 0 pl2 rfl (by omega) (by rw [hpj, rsm, Int.add_zero]) (Nat.lt_succ_self _)
        exact LP_27 _ 0 0 pl rfl (by omega) (by rw [hpl, rsm, Int.add_zero]) (Nat.lt_succ_self _)
  exact LP_4 _ 0 0 0 rfl (Nat.zero_le _) rfl (Nat.lt_succ_self _)
