theorem jif {p q : Prop} [Decidable p] [Decidable q] {a b : Int} (h : p ↔ q) : (if p then a else b) = if q then a else b := by
  by_cases e : p
  · rw [if_pos e, if_pos (h.mp e)]
  · rw [if_neg e, if_neg (fun g => e (h.mpr g))]
set_option maxHeartbeats 4000000 in
set_option maxRecDepth 100000 in
theorem c_X9_isMark (l : Launch) (G : GT) (μ : Mem) (p : Nat) (hp : p < 4) (pi : Int) (hpi : pi = (p : Int)) (f : Int → Int → Int) (hf : ∀ x y : Int, 0 ≤ x → x < μ 79 p → 0 ≤ y → y < μ 80 p → μ 82 (400 * pi + 20 * y + x).toNat = f x y) (i j : Int) (hi : 3 ≤ i ∧ i ≤ μ 79 p - 4) (hj : 3 ≤ j ∧ j ≤ μ 80 p - 4) (hR : rng μ) : MI l yX9_isMark cX9_isMark 10 .boolean ({ frames := 0, cells := 0, slots := 0, locals := 0 } : Room) G [.inr (ad G 78), .inl pi, .inl i, .inl j] μ (rdc μ (μ 78 5 ≤ f i j ∧ pk f i j)) := by
  refine MI.of (by decide +kernel) (Nat.le_of_ble_eq_true rfl) ?_
  intro F C Yy
  show jX F G 10 0 0 (jE F G (jQi G (rdc μ (μ 78 5 ≤ f i j ∧ pk f i j)))) 0 [some (.inr (ad G 78)), some (.inl pi), some (.inl i), some (.inl j), none, none, none, none, none, none] [] μ
  have hpt : pi.toNat = p := by omega
  have r_w := rg_79 hR p
  have r_h := rg_80 hR p
  refine jx_aload_n C dX9_isMark_0 rfl ?_
  refine jx_get (v := .inr (ad G 82)) C 8 ft_X9 (jcl_MO G _) rfl (by decide) (by decide) wf_X9_26 dX9_isMark_1 ?_
  refine jx_sipush C dX9_isMark_4 (by decide +kernel) ?_
  refine jx_iload_n C dX9_isMark_7 rfl ?_
  refine jx_imul C dX9_isMark_8 ?_
  refine jx_bipush C dX9_isMark_9 (by decide +kernel) ?_
  refine jx_iload_n C dX9_isMark_11 rfl ?_
  refine jx_imul C dX9_isMark_12 ?_
  refine jx_iadd C dX9_isMark_13 ?_
  refine jx_iload_n C dX9_isMark_14 rfl ?_
  refine jx_iadd C dX9_isMark_15 ?_
  refine jx_iald C (jcl_82 G _) (by decide) (by omega) (by omega) (by decide) dX9_isMark_16 ?_
  have r_16 := rg_82 hR ((400 * pi + 20 * j + i).toNat)
  have e_16 : μ 82 (400 * pi + 20 * j + i).toNat = f i j := hf i j (by omega) (by omega) (by omega) (by omega)
  rw [e_16] at r_16
  refine jx_top (b := f i j) e_16 ?_
  refine jx_istore (L' := [some (.inr (ad G 78)), some (.inl pi), some (.inl i), some (.inl j), some (.inl (f i j)), none, none, none, none, none]) C dX9_isMark_17 (by decide) rfl ?_
  have J_33 : ∀ z : Int, z = (if μ 78 5 ≤ f i j then 1 else 0) → jX F G 10 0 0 (jE F G (jQi G (rdc μ (μ 78 5 ≤ f i j ∧ pk f i j)))) 33 [some (.inr (ad G 78)), some (.inl pi), some (.inl i), some (.inl j), some (.inl (f i j)), none, none, none, none, none] [.inl z] μ := by
    intro z5 hz5
    refine jx_istore (L' := [some (.inr (ad G 78)), some (.inl pi), some (.inl i), some (.inl j), some (.inl (f i j)), some (.inl z5), none, none, none, none]) C dX9_isMark_33 (by decide) rfl ?_
    refine jx_iconst C dX9_isMark_35 ?_
    refine jx_istore (L' := [some (.inr (ad G 78)), some (.inl pi), some (.inl i), some (.inl j), some (.inl (f i j)), some (.inl z5), some (.inl 0), none, none, none]) C dX9_isMark_36 (by decide) rfl ?_
    have LP_38 : ∀ (n : Nat) (k : Nat) (k9 : Int) (is5 : Int), (k9 = (k : Int)) → (k ≤ 25) → (is5 = 0 ∨ is5 = 1) → (is5 = 1 → μ 78 5 ≤ f i j ∧ ∀ q, q < k → pkt f i j q) → (is5 = 0 → ¬ (μ 78 5 ≤ f i j ∧ pk f i j)) → 26 - k < n → jX F G 10 0 0 (jE F G (jQi G (rdc μ (μ 78 5 ≤ f i j ∧ pk f i j)))) 38 [some (.inr (ad G 78)), some (.inl pi), some (.inl i), some (.inl j), some (.inl (f i j)), some (.inl is5), some (.inl k9), none, none, none] [] μ := by
      intro n
      induction n with
      | zero =>
        intro k k9 is5 hk9 hk hz hy hn hms
        exact absurd hms (Nat.not_lt_zero _)
      | succ n ih =>
        intro k k9 is5 hk9 hk hz hy hn hms
        have ih_38 := ih
        clear ih
        refine jx_iload C dX9_isMark_38 rfl ?_
        refine jx_bipush C dX9_isMark_40 (by decide +kernel) ?_
        refine jx_icmp_ge C dX9_isMark_42 (by omega) (by decide) (fun c_42 => ?_) (fun c_42 => ?_)
        · refine jx_iload C dX9_isMark_125 rfl ?_
          exact jx_zret C dX9_isMark_127 (by omega) ⟨rfl, hz.elim (fun h0 => Or.inr ⟨h0, hn h0⟩) (fun h1 => by first | exact Or.inl ⟨h1, (hy h1).1, fun q hq => (hy h1).2 q (by omega)⟩ | (exfalso; omega))⟩
        · refine jx_iload C dX9_isMark_45 rfl ?_
          refine jx_if_eq C dX9_isMark_47 (by omega) (fun c_47 => ?_) (fun c_47 => ?_)
          · refine jx_iload C dX9_isMark_125 rfl ?_
            exact jx_zret C dX9_isMark_127 (by omega) ⟨rfl, hz.elim (fun h0 => Or.inr ⟨h0, hn h0⟩) (fun h1 => by first | exact Or.inl ⟨h1, (hy h1).1, fun q hq => (hy h1).2 q (by omega)⟩ | (exfalso; omega))⟩
          · refine jx_iload_n C dX9_isMark_50 rfl ?_
            refine jx_iload C dX9_isMark_51 rfl ?_
            refine jx_iconst C dX9_isMark_53 ?_
            refine jx_irem (z := k9 % 5) C dX9_isMark_54 (by omega) (by decide) (by decide) (jtm (by omega)) ?_
            refine jx_iadd C dX9_isMark_55 ?_
            refine jx_iconst C dX9_isMark_56 ?_
            refine jx_isub C dX9_isMark_57 ?_
            refine jx_top (b := i - 2 + ((k % 5 : Nat) : Int)) (by omega) ?_
            refine jx_istore (L' := [some (.inr (ad G 78)), some (.inl pi), some (.inl i), some (.inl j), some (.inl (f i j)), some (.inl is5), some (.inl k9), some (.inl (i - 2 + ((k % 5 : Nat) : Int))), none, none]) C dX9_isMark_58 (by decide) rfl ?_
            refine jx_iload_n C dX9_isMark_60 rfl ?_
            refine jx_iload C dX9_isMark_61 rfl ?_
            refine jx_iconst C dX9_isMark_63 ?_
            refine jx_idiv (z := k9 / 5) C dX9_isMark_64 (by omega) (by decide) (by decide) (jtd (by omega)) ?_
            refine jx_iadd C dX9_isMark_65 ?_
            refine jx_iconst C dX9_isMark_66 ?_
            refine jx_isub C dX9_isMark_67 ?_
            refine jx_top (b := j - 2 + ((k / 5 : Nat) : Int)) (by omega) ?_
            refine jx_istore (L' := [some (.inr (ad G 78)), some (.inl pi), some (.inl i), some (.inl j), some (.inl (f i j)), some (.inl is5), some (.inl k9), some (.inl (i - 2 + ((k % 5 : Nat) : Int))), some (.inl (j - 2 + ((k / 5 : Nat) : Int))), none]) C dX9_isMark_68 (by decide) rfl ?_
            refine jx_aload_n C dX9_isMark_70 rfl ?_
            refine jx_get (v := .inr (ad G 82)) C 8 ft_X9 (jcl_MO G _) rfl (by decide) (by decide) wf_X9_26 dX9_isMark_71 ?_
            refine jx_sipush C dX9_isMark_74 (by decide +kernel) ?_
            refine jx_iload_n C dX9_isMark_77 rfl ?_
            refine jx_imul C dX9_isMark_78 ?_
            refine jx_bipush C dX9_isMark_79 (by decide +kernel) ?_
            refine jx_iload C dX9_isMark_81 rfl ?_
            refine jx_imul C dX9_isMark_83 ?_
            refine jx_iadd C dX9_isMark_84 ?_
            refine jx_iload C dX9_isMark_85 rfl ?_
            refine jx_iadd C dX9_isMark_87 ?_
            refine jx_iald C (jcl_82 G _) (by decide) (by omega) (by omega) (by decide) dX9_isMark_88 ?_
            have r_88 := rg_82 hR ((400 * pi + (20 * (j - 2 + ((k / 5 : Nat) : Int))) + (i - 2 + ((k % 5 : Nat) : Int))).toNat)
            have e_88 : μ 82 (400 * pi + (20 * (j - 2 + ((k / 5 : Nat) : Int))) + (i - 2 + ((k % 5 : Nat) : Int))).toNat = f (i - 2 + ((k % 5 : Nat) : Int)) (j - 2 + ((k / 5 : Nat) : Int)) := hf _ _ (by omega) (by omega) (by omega) (by omega)
            rw [e_88] at r_88
            refine jx_top (b := f (i - 2 + ((k % 5 : Nat) : Int)) (j - 2 + ((k / 5 : Nat) : Int))) e_88 ?_
            refine jx_istore (L' := [some (.inr (ad G 78)), some (.inl pi), some (.inl i), some (.inl j), some (.inl (f i j)), some (.inl is5), some (.inl k9), some (.inl (i - 2 + ((k % 5 : Nat) : Int))), some (.inl (j - 2 + ((k / 5 : Nat) : Int))), some (.inl (f (i - 2 + ((k % 5 : Nat) : Int)) (j - 2 + ((k / 5 : Nat) : Int))))]) C dX9_isMark_89 (by decide) rfl ?_
            refine jx_iload C dX9_isMark_91 rfl ?_
            refine jx_iload C dX9_isMark_93 rfl ?_
            refine jx_icmp_lt C dX9_isMark_95 (by omega) (by omega) (fun c_95 => ?_) (fun c_95 => ?_)
            · refine jx_iconst C dX9_isMark_112 ?_
              refine jx_goto C dX9_isMark_113 ?_
              refine jx_istore (L' := [some (.inr (ad G 78)), some (.inl pi), some (.inl i), some (.inl j), some (.inl (f i j)), some (.inl 1), some (.inl k9), some (.inl (i - 2 + ((k % 5 : Nat) : Int))), some (.inl (j - 2 + ((k / 5 : Nat) : Int))), some (.inl (f (i - 2 + ((k % 5 : Nat) : Int)) (j - 2 + ((k / 5 : Nat) : Int))))]) C dX9_isMark_117 (by decide) rfl ?_
              refine jx_iinc (L' := [some (.inr (ad G 78)), some (.inl pi), some (.inl i), some (.inl j), some (.inl (f i j)), some (.inl 1), some (.inl (k9 + 1)), some (.inl (i - 2 + ((k % 5 : Nat) : Int))), some (.inl (j - 2 + ((k / 5 : Nat) : Int))), some (.inl (f (i - 2 + ((k % 5 : Nat) : Int)) (j - 2 + ((k / 5 : Nat) : Int))))]) C dX9_isMark_119 rfl (by decide) rfl ?_
              refine jx_goto C dX9_isMark_122 ?_
              refine jx_fewer (L' := [some (.inr (ad G 78)), some (.inl pi), some (.inl i), some (.inl j), some (.inl (f i j)), some (.inl 1), some (.inl (k9 + 1)), none, none, none]) (fun i v h => ?_) ?_
              · exact jfew_ok (by simp [jfew]) h
              exact ih_38 (k + 1) (k9 + 1) 1 (by omega) (by omega) (Or.inr rfl) (fun _ => ⟨(hy (by omega)).1, jlt_s (hy (by omega)).2 ⟨by omega, fun _ => by omega⟩⟩) (fun h1 => by omega) (by omega)
            · refine jx_iload C dX9_isMark_98 rfl ?_
              refine jx_iload C dX9_isMark_100 rfl ?_
              refine jx_icmp_ne C dX9_isMark_102 (by omega) (by omega) (fun c_102 => ?_) (fun c_102 => ?_)
              · refine jx_iconst C dX9_isMark_116 ?_
                refine jx_istore (L' := [some (.inr (ad G 78)), some (.inl pi), some (.inl i), some (.inl j), some (.inl (f i j)), some (.inl 0), some (.inl k9), some (.inl (i - 2 + ((k % 5 : Nat) : Int))), some (.inl (j - 2 + ((k / 5 : Nat) : Int))), some (.inl (f (i - 2 + ((k % 5 : Nat) : Int)) (j - 2 + ((k / 5 : Nat) : Int))))]) C dX9_isMark_117 (by decide) rfl ?_
                refine jx_iinc (L' := [some (.inr (ad G 78)), some (.inl pi), some (.inl i), some (.inl j), some (.inl (f i j)), some (.inl 0), some (.inl (k9 + 1)), some (.inl (i - 2 + ((k % 5 : Nat) : Int))), some (.inl (j - 2 + ((k / 5 : Nat) : Int))), some (.inl (f (i - 2 + ((k % 5 : Nat) : Int)) (j - 2 + ((k / 5 : Nat) : Int))))]) C dX9_isMark_119 rfl (by decide) rfl ?_
                refine jx_goto C dX9_isMark_122 ?_
                refine jx_fewer (L' := [some (.inr (ad G 78)), some (.inl pi), some (.inl i), some (.inl j), some (.inl (f i j)), some (.inl 0), some (.inl (k9 + 1)), none, none, none]) (fun i v h => ?_) ?_
                · exact jfew_ok (by simp [jfew]) h
                exact ih_38 (k + 1) (k9 + 1) 0 (by omega) (by omega) (Or.inl rfl) (fun h1 => by omega) (fun _ h2 => by have h3 : f (i - 2 + ((k % 5 : Nat) : Int)) (j - 2 + ((k / 5 : Nat) : Int)) ≤ f i j ∧ (k < 12 → f (i - 2 + ((k % 5 : Nat) : Int)) (j - 2 + ((k / 5 : Nat) : Int)) ≠ f i j) := h2.2 k (by omega); omega) (by omega)
              · refine jx_iload C dX9_isMark_105 rfl ?_
                refine jx_bipush C dX9_isMark_107 (by decide +kernel) ?_
                refine jx_icmp_lt C dX9_isMark_109 (by omega) (by decide) (fun c_109 => ?_) (fun c_109 => ?_)
                · refine jx_iconst C dX9_isMark_116 ?_
                  refine jx_istore (L' := [some (.inr (ad G 78)), some (.inl pi), some (.inl i), some (.inl j), some (.inl (f i j)), some (.inl 0), some (.inl k9), some (.inl (i - 2 + ((k % 5 : Nat) : Int))), some (.inl (j - 2 + ((k / 5 : Nat) : Int))), some (.inl (f (i - 2 + ((k % 5 : Nat) : Int)) (j - 2 + ((k / 5 : Nat) : Int))))]) C dX9_isMark_117 (by decide) rfl ?_
                  refine jx_iinc (L' := [some (.inr (ad G 78)), some (.inl pi), some (.inl i), some (.inl j), some (.inl (f i j)), some (.inl 0), some (.inl (k9 + 1)), some (.inl (i - 2 + ((k % 5 : Nat) : Int))), some (.inl (j - 2 + ((k / 5 : Nat) : Int))), some (.inl (f (i - 2 + ((k % 5 : Nat) : Int)) (j - 2 + ((k / 5 : Nat) : Int))))]) C dX9_isMark_119 rfl (by decide) rfl ?_
                  refine jx_goto C dX9_isMark_122 ?_
                  refine jx_fewer (L' := [some (.inr (ad G 78)), some (.inl pi), some (.inl i), some (.inl j), some (.inl (f i j)), some (.inl 0), some (.inl (k9 + 1)), none, none, none]) (fun i v h => ?_) ?_
                  · exact jfew_ok (by simp [jfew]) h
                  exact ih_38 (k + 1) (k9 + 1) 0 (by omega) (by omega) (Or.inl rfl) (fun h1 => by omega) (fun _ h2 => by have h3 : f (i - 2 + ((k % 5 : Nat) : Int)) (j - 2 + ((k / 5 : Nat) : Int)) ≤ f i j ∧ (k < 12 → f (i - 2 + ((k % 5 : Nat) : Int)) (j - 2 + ((k / 5 : Nat) : Int)) ≠ f i j) := h2.2 k (by omega); omega) (by omega)
                · refine jx_iconst C dX9_isMark_112 ?_
                  refine jx_goto C dX9_isMark_113 ?_
                  refine jx_istore (L' := [some (.inr (ad G 78)), some (.inl pi), some (.inl i), some (.inl j), some (.inl (f i j)), some (.inl 1), some (.inl k9), some (.inl (i - 2 + ((k % 5 : Nat) : Int))), some (.inl (j - 2 + ((k / 5 : Nat) : Int))), some (.inl (f (i - 2 + ((k % 5 : Nat) : Int)) (j - 2 + ((k / 5 : Nat) : Int))))]) C dX9_isMark_117 (by decide) rfl ?_
                  refine jx_iinc (L' := [some (.inr (ad G 78)), some (.inl pi), some (.inl i), some (.inl j), some (.inl (f i j)), some (.inl 1), some (.inl (k9 + 1)), some (.inl (i - 2 + ((k % 5 : Nat) : Int))), some (.inl (j - 2 + ((k / 5 : Nat) : Int))), some (.inl (f (i - 2 + ((k % 5 : Nat) : Int)) (j - 2 + ((k / 5 : Nat) : Int))))]) C dX9_isMark_119 rfl (by decide) rfl ?_
                  refine jx_goto C dX9_isMark_122 ?_
                  refine jx_fewer (L' := [some (.inr (ad G 78)), some (.inl pi), some (.inl i), some (.inl j), some (.inl (f i j)), some (.inl 1), some (.inl (k9 + 1)), none, none, none]) (fun i v h => ?_) ?_
                  · exact jfew_ok (by simp [jfew]) h
                  exact ih_38 (k + 1) (k9 + 1) 1 (by omega) (by omega) (Or.inr rfl) (fun _ => ⟨(hy (by omega)).1, jlt_s (hy (by omega)).2 ⟨by omega, fun _ => by omega⟩⟩) (fun h1 => by omega) (by omega)
    exact LP_38 _ 0 0 z5 rfl (Nat.zero_le _) (by rw [hz5]; split <;> omega) (fun h1 => ⟨by rw [hz5] at h1; split at h1 <;> omega, fun q hq => absurd hq (Nat.not_lt_zero _)⟩) (fun h1 h2 => by rw [hz5, if_pos h2.1] at h1; omega) (Nat.lt_succ_self _)
  refine jx_iload C dX9_isMark_19 rfl ?_
  refine jx_aload_n C dX9_isMark_21 rfl ?_
  refine jx_get (v := .inl (μ 78 5)) C 5 ft_X9 (jcl_MO G _) rfl (by decide) (by decide) wf_X9_19 dX9_isMark_22 ?_
  have r_22 := rg_MO_5 hR
  refine jx_icmp_lt C dX9_isMark_25 (by omega) (by omega) (fun c_25 => ?_) (fun c_25 => ?_)
  · refine jx_iconst C dX9_isMark_32 ?_
    exact J_33 _ (by first | rw [if_pos (by omega)] | rw [if_neg (by omega)])
  · refine jx_iconst C dX9_isMark_28 ?_
    refine jx_goto C dX9_isMark_29 ?_
    exact J_33 _ (by first | rw [if_pos (by omega)] | rw [if_neg (by omega)])
set_option maxHeartbeats 4000000 in
set_option maxRecDepth 100000 in
theorem c_X9_putMark (l : Launch) (G : GT) (μ : Mem) (p : Nat) (hp : p < 4) (pi : Int) (hpi : pi = (p : Int)) (f : Int → Int → Int) (a : Mks) (t : Nat) (ai : Int) (hM : MMok μ p f a) (hai : ai = 400 * pi + (t : Int)) (ht : t < 400) (hS : μ 82 (400 * p + t) = fS f t) (hR : rng μ) : MV l yX9_putMark cX9_putMark 6 ({ frames := 0, cells := 0, slots := 0, locals := 0 } : Room) G [.inr (ad G 78), .inl pi, .inl ai] μ (fun μ' => rng μ' ∧ MMok μ' p f (ins (fS f) t a) ∧ (∀ k, k ≠ 83 → k ≠ 84 → μ' k = μ k) ∧ (∀ x, x ≠ p → μ' 83 x = μ 83 x) ∧ ∀ x, ¬ x / 16 = p → μ' 84 x = μ 84 x) := by
  refine MV.of (by decide +kernel) (Nat.le_of_ble_eq_true rfl) ?_
  intro F C Yy
  show jX F G 6 0 0 (jE F G (jQv G (fun μ' => rng μ' ∧ MMok μ' p f (ins (fS f) t a) ∧ (∀ k, k ≠ 83 → k ≠ 84 → μ' k = μ k) ∧ (∀ x, x ≠ p → μ' 83 x = μ 83 x) ∧ ∀ x, ¬ x / 16 = p → μ' 84 x = μ 84 x))) 0 [some (.inr (ad G 78)), some (.inl pi), some (.inl ai), none, none, none] [] μ
  have hpt : pi.toNat = p := by omega
  have h16 := hM.1
  refine jx_aload_n C dX9_putMark_0 rfl ?_
  refine jx_get (v := .inr (ad G 83)) C 9 ft_X9 (jcl_MO G _) rfl (by decide) (by decide) wf_X9_29 dX9_putMark_1 ?_
  refine jx_iload_n C dX9_putMark_4 rfl ?_
  refine jx_iald C (jcl_83 G _) (by decide) (by omega) (by omega) (by decide) dX9_putMark_5 ?_
  have r_5 := rg_83 hR pi.toNat
  have e_5 : μ 83 pi.toNat = (a.1 : Int) := (by rw [hpt]; exact hM.2.1)
  rw [e_5] at r_5
  refine jx_top (b := (a.1 : Int)) e_5 ?_
  refine jx_istore_n (L' := [some (.inr (ad G 78)), some (.inl pi), some (.inl ai), some (.inl (a.1 : Int)), none, none]) C dX9_putMark_6 (by decide) rfl ?_
  have CUT_44 : ∀ (sp : Nat) (k : Int), (k = (sp : Int)) → (sp ≤ a.1) → (plc (fS f) a.2 (fS f t) a.1 = sp) → jX F G 6 0 0 (jE F G (jQv G (fun μ' => rng μ' ∧ MMok μ' p f (ins (fS f) t a) ∧ (∀ k, k ≠ 83 → k ≠ 84 → μ' k = μ k) ∧ (∀ x, x ≠ p → μ' 83 x = μ 83 x) ∧ ∀ x, ¬ x / 16 = p → μ' 84 x = μ 84 x))) 44 [some (.inr (ad G 78)), some (.inl pi), some (.inl ai), some (.inl k), none, none] [] μ := by
    intro sp k hk hle hsp
    refine jx_iload_n C dX9_putMark_44 rfl ?_
    refine jx_bipush C dX9_putMark_45 (by decide +kernel) ?_
    refine jx_icmp_ge C dX9_putMark_47 (by omega) (by decide) (fun c_47 => ?_) (fun c_47 => ?_)
    · exact jx_vret C dX9_putMark_153 ⟨hR, by rw [ins, if_neg (by rw [hsp]; omega)]; exact hM, fun _ _ _ => rfl, fun _ _ => rfl, fun _ _ => rfl⟩
    · have J_72 : ∀ z : Int, z = min (a.1 : Int) 15 → jX F G 6 0 0 (jE F G (jQv G (fun μ' => rng μ' ∧ MMok μ' p f (ins (fS f) t a) ∧ (∀ k, k ≠ 83 → k ≠ 84 → μ' k = μ k) ∧ (∀ x, x ≠ p → μ' 83 x = μ 83 x) ∧ ∀ x, ¬ x / 16 = p → μ' 84 x = μ 84 x))) 72 [some (.inr (ad G 78)), some (.inl pi), some (.inl ai), some (.inl k), none, none] [.inl z] μ := by
        rintro _ rfl
        refine jx_istore (L' := [some (.inr (ad G 78)), some (.inl pi), some (.inl ai), some (.inl k), some (.inl (min (a.1 : Int) 15)), none]) C dX9_putMark_72 (by decide) rfl ?_
        refine jx_iload C dX9_putMark_74 rfl ?_
        refine jx_istore (L' := [some (.inr (ad G 78)), some (.inl pi), some (.inl ai), some (.inl k), some (.inl (min (a.1 : Int) 15)), some (.inl (min (a.1 : Int) 15))]) C dX9_putMark_76 (by decide) rfl ?_
        have LP_78 : ∀ (n : Nat) (m : Nat) (k5 : Int) (μa : Mem), (rng μa) → (k5 = (m : Int)) → (sp ≤ m ∧ m + 1 ≤ min (a.1 + 1) 16) → (∀ x, μa 84 (16 * p + x) = if m < x ∧ x < min (a.1 + 1) 16 then μ 84 (16 * p + (x - 1)) else μ 84 (16 * p + x)) → (∀ k, k ≠ 84 → μa k = μ k) → (∀ x, ¬ x / 16 = p → μa 84 x = μ 84 x) → m + 1 < n → jX F G 6 0 0 (jE F G (jQv G (fun μ' => rng μ' ∧ MMok μ' p f (ins (fS f) t a) ∧ (∀ k, k ≠ 83 → k ≠ 84 → μ' k = μ k) ∧ (∀ x, x ≠ p → μ' 83 x = μ 83 x) ∧ ∀ x, ¬ x / 16 = p → μ' 84 x = μ 84 x))) 78 [some (.inr (ad G 78)), some (.inl pi), some (.inl ai), some (.inl k), some (.inl (min (a.1 : Int) 15)), some (.inl k5)] [] μa := by
          intro n
          induction n with
          | zero =>
            intro m k5 μa hRa hk5 hm hA hfa hga hms
            exact absurd hms (Nat.not_lt_zero _)
          | succ n ih =>
            intro m k5 μa hRa hk5 hm hA hfa hga hms
            have ih_78 := ih
            clear ih
            refine jx_iload C dX9_putMark_78 rfl ?_
            refine jx_iload_n C dX9_putMark_80 rfl ?_
            refine jx_icmp_le C dX9_putMark_81 (by omega) (by omega) (fun c_81 => ?_) (fun c_81 => ?_)
            · refine jx_aload_n C dX9_putMark_116 rfl ?_
              refine jx_get (v := .inr (ad G 84)) C 10 ft_X9 (jcl_MO G _) rfl (by decide) (by decide) wf_X9_32 dX9_putMark_117 ?_
              refine jx_bipush C dX9_putMark_120 (by decide +kernel) ?_
              refine jx_iload_n C dX9_putMark_122 rfl ?_
              refine jx_imul C dX9_putMark_123 ?_
              refine jx_iload_n C dX9_putMark_124 rfl ?_
              refine jx_iadd C dX9_putMark_125 ?_
              refine jx_iload_n C dX9_putMark_126 rfl ?_
              refine jx_iast C (jcl_84 G _) (jcl_84 G _) (by decide) (by omega) (by omega) (by decide) dX9_putMark_127 ?_
              obtain ⟨μ1, eμ1⟩ : ∃ y_ : Mem, y_ = jms μa 84 ((16 * pi + k).toNat) ai := ⟨_, rfl⟩
              rw [← eμ1]
              have hR1 : rng μ1 := by rw [eμ1]; exact rs_84 hRa ((16 * pi + k).toNat) (by omega) (by omega)
              refine jx_aload_n C dX9_putMark_128 rfl ?_
              refine jx_get (v := .inr (ad G 83)) C 9 ft_X9 (jcl_MO G _) rfl (by decide) (by decide) wf_X9_29 dX9_putMark_129 ?_
              refine jx_iload_n C dX9_putMark_132 rfl ?_
              refine jx_dup2 C dX9_putMark_133 ?_
              refine jx_iald C (jcl_83 G _) (by decide) (by omega) (by omega) (by decide) dX9_putMark_134 ?_
              have r_134 := rg_83 hR1 pi.toNat
              have e_134 : μ1 83 pi.toNat = (a.1 : Int) := (by rw [eμ1, jms_cell _ _ _ _ (by omega), hfa _ (by omega), hpt]; exact hM.2.1)
              rw [e_134] at r_134
              refine jx_top (b := (a.1 : Int)) e_134 ?_
              have J_151 : ∀ z : Int, z = min ((a.1 : Int) + 1) 16 - (a.1 : Int) → jX F G 6 0 0 (jE F G (jQv G (fun μ' => rng μ' ∧ MMok μ' p f (ins (fS f) t a) ∧ (∀ k, k ≠ 83 → k ≠ 84 → μ' k = μ k) ∧ (∀ x, x ≠ p → μ' 83 x = μ 83 x) ∧ ∀ x, ¬ x / 16 = p → μ' 84 x = μ 84 x))) 151 [some (.inr (ad G 78)), some (.inl pi), some (.inl ai), some (.inl k), some (.inl (min (a.1 : Int) 15)), some (.inl k5)] [.inl z, .inl (a.1 : Int), .inl pi, .inr (ad G 83)] μ1 := by
                rintro _ rfl
                refine jx_iadd C dX9_putMark_151 ?_
                refine jx_top (b := min ((a.1 : Int) + 1) 16) (by omega) ?_
                refine jx_iast C (jcl_83 G _) (jcl_83 G _) (by decide) (by omega) (by omega) (by decide) dX9_putMark_152 ?_
                obtain ⟨μ2, eμ2⟩ : ∃ y_ : Mem, y_ = jms μ1 83 pi.toNat (min ((a.1 : Int) + 1) 16) := ⟨_, rfl⟩
                rw [← eμ2]
                have hR2 : rng μ2 := by rw [eμ2]; exact rs_83 hR1 pi.toNat (by omega) (by omega)
                exact jx_vret C dX9_putMark_153 ⟨hR2, ins_MM (sp := sp) hM ht hS hsp (by omega) (by rw [eμ2, jms_arr, if_pos (by omega)]) (by rw [eμ2, jms_cell _ _ _ _ (by omega), eμ1, jms_cell _ _ _ _ (by omega), hfa _ (by omega)]) (fun x hx => by rw [eμ2, jms_cell _ _ _ _ (by omega), eμ1, jms_arr, hA, show ai = ((400 * p + t : Nat) : Int) by omega, show m = sp by omega]; exact jif (by omega)), fun k h1 h2 => by rw [eμ2, jms_cell _ _ _ _ h1, eμ1, jms_cell _ _ _ _ h2]; exact hfa k h2, fun x hx => by rw [eμ2, jms_arr, if_neg (by omega), eμ1, jms_cell _ _ _ _ (by omega), hfa _ (by omega)], fun x hx => by rw [eμ2, jms_cell _ _ _ _ (by omega), eμ1, jms_arr, if_neg (by omega)]; exact hga x hx⟩
              refine jx_aload_n C dX9_putMark_135 rfl ?_
              refine jx_get (v := .inr (ad G 83)) C 9 ft_X9 (jcl_MO G _) rfl (by decide) (by decide) wf_X9_29 dX9_putMark_136 ?_
              refine jx_iload_n C dX9_putMark_139 rfl ?_
              refine jx_iald C (jcl_83 G _) (by decide) (by omega) (by omega) (by decide) dX9_putMark_140 ?_
              have r_140 := rg_83 hR1 pi.toNat
              have e_140 : μ1 83 pi.toNat = (a.1 : Int) := (by rw [eμ1, jms_cell _ _ _ _ (by omega), hfa _ (by omega), hpt]; exact hM.2.1)
              rw [e_140] at r_140
              refine jx_top (b := (a.1 : Int)) e_140 ?_
              refine jx_bipush C dX9_putMark_141 (by decide +kernel) ?_
              refine jx_icmp_ge C dX9_putMark_143 (by omega) (by decide) (fun c_143 => ?_) (fun c_143 => ?_)
              · refine jx_iconst C dX9_putMark_150 ?_
                exact J_151 _ (by omega)
              · refine jx_iconst C dX9_putMark_146 ?_
                refine jx_goto C dX9_putMark_147 ?_
                exact J_151 _ (by omega)
            · refine jx_aload_n C dX9_putMark_84 rfl ?_
              refine jx_get (v := .inr (ad G 84)) C 10 ft_X9 (jcl_MO G _) rfl (by decide) (by decide) wf_X9_32 dX9_putMark_85 ?_
              refine jx_bipush C dX9_putMark_88 (by decide +kernel) ?_
              refine jx_iload_n C dX9_putMark_90 rfl ?_
              refine jx_imul C dX9_putMark_91 ?_
              refine jx_iload C dX9_putMark_92 rfl ?_
              refine jx_iadd C dX9_putMark_94 ?_
              refine jx_aload_n C dX9_putMark_95 rfl ?_
              refine jx_get (v := .inr (ad G 84)) C 10 ft_X9 (jcl_MO G _) rfl (by decide) (by decide) wf_X9_32 dX9_putMark_96 ?_
              refine jx_bipush C dX9_putMark_99 (by decide +kernel) ?_
              refine jx_iload_n C dX9_putMark_101 rfl ?_
              refine jx_imul C dX9_putMark_102 ?_
              refine jx_iload C dX9_putMark_103 rfl ?_
              refine jx_iadd C dX9_putMark_105 ?_
              refine jx_iconst C dX9_putMark_106 ?_
              refine jx_isub C dX9_putMark_107 ?_
              refine jx_iald C (jcl_84 G _) (by decide) (by omega) (by omega) (by decide) dX9_putMark_108 ?_
              have r_108 := rg_84 hRa ((16 * pi + k5 - 1).toNat)
              refine jx_iast C (jcl_84 G _) (jcl_84 G _) (by decide) (by omega) (by omega) (by decide) dX9_putMark_109 ?_
              obtain ⟨μ3, eμ3⟩ : ∃ y_ : Mem, y_ = jms μa 84 ((16 * pi + k5).toNat) (μa 84 (16 * pi + k5 - 1).toNat) := ⟨_, rfl⟩
              rw [← eμ3]
              have hR3 : rng μ3 := by rw [eμ3]; exact rs_84 hRa ((16 * pi + k5).toNat) (by omega) (by omega)
              refine jx_iinc (L' := [some (.inr (ad G 78)), some (.inl pi), some (.inl ai), some (.inl k), some (.inl (min (a.1 : Int) 15)), some (.inl (k5 + (-1)))]) C dX9_putMark_110 rfl (by decide) rfl ?_
              refine jx_goto C dX9_putMark_113 ?_
              exact ih_78 (m - 1) (k5 + (-1)) μ3 hR3 (by omega) (by omega) (sh_step (μa := fun _ x => μa 84 (16 * p + x)) (μb := fun _ x => μ3 84 (16 * p + x)) (μ := fun _ x => μ 84 (16 * p + x)) (c := 0) (m := m) hA (by omega) (by omega) (fun x => by show μ3 84 (16 * p + x) = _; rw [eμ3, jms_arr, show (16 * pi + k5 - 1).toNat = 16 * p + (m - 1) by omega]; exact jif (by omega))) (fun k hk => by rw [eμ3, jms_cell _ _ _ _ hk]; exact hfa k hk) (fun x hx => by rw [eμ3, jms_arr, if_neg (by omega)]; exact hga x hx) (by omega)
        exact LP_78 _ (min (a.1 + 1) 16 - 1) (min (a.1 : Int) 15) μ hR (by omega) (by omega) (fun x => by rw [if_neg (by omega)]) (fun _ _ => rfl) (fun _ _ => rfl) (Nat.lt_succ_self _)
      refine jx_aload_n C dX9_putMark_50 rfl ?_
      refine jx_get (v := .inr (ad G 83)) C 9 ft_X9 (jcl_MO G _) rfl (by decide) (by decide) wf_X9_29 dX9_putMark_51 ?_
      refine jx_iload_n C dX9_putMark_54 rfl ?_
      refine jx_iald C (jcl_83 G _) (by decide) (by omega) (by omega) (by decide) dX9_putMark_55 ?_
      have r_55 := rg_83 hR pi.toNat
      have e_55 : μ 83 pi.toNat = (a.1 : Int) := (by rw [hpt]; exact hM.2.1)
      rw [e_55] at r_55
      refine jx_top (b := (a.1 : Int)) e_55 ?_
      refine jx_bipush C dX9_putMark_56 (by decide +kernel) ?_
      refine jx_icmp_ge C dX9_putMark_58 (by omega) (by decide) (fun c_58 => ?_) (fun c_58 => ?_)
      · refine jx_bipush C dX9_putMark_70 (by decide +kernel) ?_
        exact J_72 _ (by omega)
      · refine jx_aload_n C dX9_putMark_61 rfl ?_
        refine jx_get (v := .inr (ad G 83)) C 9 ft_X9 (jcl_MO G _) rfl (by decide) (by decide) wf_X9_29 dX9_putMark_62 ?_
        refine jx_iload_n C dX9_putMark_65 rfl ?_
        refine jx_iald C (jcl_83 G _) (by decide) (by omega) (by omega) (by decide) dX9_putMark_66 ?_
        have r_66 := rg_83 hR pi.toNat
        have e_66 : μ 83 pi.toNat = (a.1 : Int) := (by rw [hpt]; exact hM.2.1)
        rw [e_66] at r_66
        refine jx_top (b := (a.1 : Int)) e_66 ?_
        refine jx_goto C dX9_putMark_67 ?_
        exact J_72 _ (by omega)
  have LP_7 : ∀ (n : Nat) (sl : Nat) (k : Int), (k = (sl : Int)) → (sl ≤ a.1) → (plc (fS f) a.2 (fS f t) a.1 = plc (fS f) a.2 (fS f t) sl) → sl + 1 < n → jX F G 6 0 0 (jE F G (jQv G (fun μ' => rng μ' ∧ MMok μ' p f (ins (fS f) t a) ∧ (∀ k, k ≠ 83 → k ≠ 84 → μ' k = μ k) ∧ (∀ x, x ≠ p → μ' 83 x = μ 83 x) ∧ ∀ x, ¬ x / 16 = p → μ' 84 x = μ 84 x))) 7 [some (.inr (ad G 78)), some (.inl pi), some (.inl ai), some (.inl k), none, none] [] μ := by
    intro n
    induction n with
    | zero =>
      intro sl k hk hle hpl hms
      exact absurd hms (Nat.not_lt_zero _)
    | succ n ih =>
      intro sl k hk hle hpl hms
      have ih_7 := ih
      clear ih
      refine jx_iload_n C dX9_putMark_7 rfl ?_
      refine jx_if_le C dX9_putMark_8 (by omega) (fun c_8 => ?_) (fun c_8 => ?_)
      · exact CUT_44 sl k (by omega) (by omega) (by rw [hpl]; exact plc_at (by first | exact Or.inl (by omega) | exact Or.inr (by omega)))
      · have g27 := hM.2.2 (sl - 1) (by omega)
        refine jx_aload_n C dX9_putMark_11 rfl ?_
        refine jx_get (v := .inr (ad G 82)) C 8 ft_X9 (jcl_MO G _) rfl (by decide) (by decide) wf_X9_26 dX9_putMark_12 ?_
        refine jx_aload_n C dX9_putMark_15 rfl ?_
        refine jx_get (v := .inr (ad G 84)) C 10 ft_X9 (jcl_MO G _) rfl (by decide) (by decide) wf_X9_32 dX9_putMark_16 ?_
        refine jx_bipush C dX9_putMark_19 (by decide +kernel) ?_
        refine jx_iload_n C dX9_putMark_21 rfl ?_
        refine jx_imul C dX9_putMark_22 ?_
        refine jx_iload_n C dX9_putMark_23 rfl ?_
        refine jx_iadd C dX9_putMark_24 ?_
        refine jx_iconst C dX9_putMark_25 ?_
        refine jx_isub C dX9_putMark_26 ?_
        refine jx_iald C (jcl_84 G _) (by decide) (by omega) (by omega) (by decide) dX9_putMark_27 ?_
        have r_27 := rg_84 hR ((16 * pi + k - 1).toNat)
        have e_27 : μ 84 (16 * pi + k - 1).toNat = ((400 * p + a.2 (sl - 1) : Nat) : Int) := (by rw [show (16 * pi + k - 1).toNat = 16 * p + (sl - 1) by omega]; exact g27.1)
        rw [e_27] at r_27
        refine jx_top (b := ((400 * p + a.2 (sl - 1) : Nat) : Int)) e_27 ?_
        refine jx_iald C (jcl_82 G _) (by decide) (by omega) (by omega) (by decide) dX9_putMark_28 ?_
        have r_28 := rg_82 hR (((400 * p + a.2 (sl - 1) : Nat) : Int).toNat)
        have e_28 : μ 82 ((400 * p + a.2 (sl - 1) : Nat) : Int).toNat = fS f (a.2 (sl - 1)) := (by rw [show ((400 * p + a.2 (sl - 1) : Nat) : Int).toNat = 400 * p + a.2 (sl - 1) by omega]; exact g27.2.2)
        rw [e_28] at r_28
        refine jx_top (b := fS f (a.2 (sl - 1))) e_28 ?_
        refine jx_aload_n C dX9_putMark_29 rfl ?_
        refine jx_get (v := .inr (ad G 82)) C 8 ft_X9 (jcl_MO G _) rfl (by decide) (by decide) wf_X9_26 dX9_putMark_30 ?_
        refine jx_iload_n C dX9_putMark_33 rfl ?_
        refine jx_iald C (jcl_82 G _) (by decide) (by omega) (by omega) (by decide) dX9_putMark_34 ?_
        have r_34 := rg_82 hR ai.toNat
        have e_34 : μ 82 ai.toNat = fS f t := (by rw [show ai.toNat = 400 * p + t by omega]; exact hS)
        rw [e_34] at r_34
        refine jx_top (b := fS f t) e_34 ?_
        refine jx_icmp_ge C dX9_putMark_35 (by omega) (by omega) (fun c_35 => ?_) (fun c_35 => ?_)
        · exact CUT_44 sl k (by omega) (by omega) (by rw [hpl]; exact plc_at (by first | exact Or.inl (by omega) | exact Or.inr (by omega)))
        · refine jx_iinc (L' := [some (.inr (ad G 78)), some (.inl pi), some (.inl ai), some (.inl (k + (-1))), none, none]) C dX9_putMark_38 rfl (by decide) rfl ?_
          refine jx_goto C dX9_putMark_41 ?_
          exact ih_7 (sl - 1) (k + (-1)) (by omega) (by omega) (by rw [hpl, plc_go (by omega) (by omega)]) (by omega)
  exact LP_7 _ a.1 (a.1 : Int) rfl (Nat.le_refl _) rfl (Nat.lt_succ_self _)
set_option maxHeartbeats 4000000 in
set_option maxRecDepth 100000 in
theorem c_X9_layMarks (l : Launch) (G : GT) (μ : Mem) (p : Nat) (hp : p < 4) (pi : Int) (hpi : pi = (p : Int)) (d f : Int → Int → Int) (hd : d = dgt (μ 79 p) (μ 80 p) (mvv μ p)) (hf : f = msc (μ 79 p) (μ 80 p) d) (hR : rng μ) : MV l yX9_layMarks cX9_layMarks 4 ({ frames := 2, cells := 0, slots := 0, locals := 56 } : Room) G [.inr (ad G 78), .inl pi] μ (fun μ' => rng μ' ∧ MMok μ' p f (mkf f (μ 79 p) (μ 80 p) (μ 78 5) 400) ∧ (∀ m, m < (mkf f (μ 79 p) (μ 80 p) (μ 78 5) 400).1 → μ' 85 (16 * p + m) = sgn d (((mkf f (μ 79 p) (μ 80 p) (μ 78 5) 400).2 m % 20 : Nat) : Int) (((mkf f (μ 79 p) (μ 80 p) (μ 78 5) 400).2 m / 20 : Nat) : Int) 12) ∧ (∀ k, k ≠ 82 → k ≠ 83 → k ≠ 84 → k ≠ 85 → μ' k = μ k) ∧ (∀ x, ¬ x / 400 = p → μ' 82 x = μ 82 x) ∧ (∀ x, x ≠ p → μ' 83 x = μ 83 x) ∧ (∀ x, ¬ x / 16 = p → μ' 84 x = μ 84 x) ∧ (∀ x, ¬ x / 16 = p → μ' 85 x = μ 85 x)) := by
  refine MV.of (by decide +kernel) (Nat.le_of_ble_eq_true rfl) ?_
  intro F C Yy
  show jX F G 4 0 0 (jE F G (jQv G (fun μ' => rng μ' ∧ MMok μ' p f (mkf f (μ 79 p) (μ 80 p) (μ 78 5) 400) ∧ (∀ m, m < (mkf f (μ 79 p) (μ 80 p) (μ 78 5) 400).1 → μ' 85 (16 * p + m) = sgn d (((mkf f (μ 79 p) (μ 80 p) (μ 78 5) 400).2 m % 20 : Nat) : Int) (((mkf f (μ 79 p) (μ 80 p) (μ 78 5) 400).2 m / 20 : Nat) : Int) 12) ∧ (∀ k, k ≠ 82 → k ≠ 83 → k ≠ 84 → k ≠ 85 → μ' k = μ k) ∧ (∀ x, ¬ x / 400 = p → μ' 82 x = μ 82 x) ∧ (∀ x, x ≠ p → μ' 83 x = μ 83 x) ∧ (∀ x, ¬ x / 16 = p → μ' 84 x = μ 84 x) ∧ (∀ x, ¬ x / 16 = p → μ' 85 x = μ 85 x)))) 0 [some (.inr (ad G 78)), some (.inl pi), none, none] [] μ
  have hpt : pi.toNat = p := by omega
  have r_w := rg_79 hR p
  have r_h := rg_80 hR p
  have r_bar := rg_MO_5 hR
  have hsk : ∀ {a b : Nat}, a ≤ b → (∀ t, a ≤ t → t < b → ¬ (3 ≤ ((t % 20 : Nat) : Int) ∧ ((t % 20 : Nat) : Int) ≤ μ 79 p - 4 ∧ 3 ≤ ((t / 20 : Nat) : Int) ∧ ((t / 20 : Nat) : Int) ≤ μ 80 p - 4)) → mkf f (μ 79 p) (μ 80 p) (μ 78 5) b = mkf f (μ 79 p) (μ 80 p) (μ 78 5) a := fun hab h => mkf_skip' hab (fun t h1 h2 h3 => h t h1 h2 (by rw [hf] at h3; exact msc_rim r_bar.1 h3))
  refine jx_iconst C dX9_layMarks_0 ?_
  refine jx_istore_n (L' := [some (.inr (ad G 78)), some (.inl pi), some (.inl 0), none]) C dX9_layMarks_1 (by decide) rfl ?_
  have LP_2 : ∀ (n : Nat) (y2 : Nat) (j : Int) (μa : Mem), (rng μa) → (j = (y2 : Int)) → ((y2 : Int) ≤ μ 80 p) → (∀ k, k ≠ 82 → μa k = μ k) → (∀ x, ¬ x / 400 = p → μa 82 x = μ 82 x) → (∀ x y : Int, 0 ≤ x → x < μ 79 p → 0 ≤ y → y < j → μa 82 (400 * pi + 20 * y + x).toNat = f x y) → 21 - y2 < n → jX F G 4 0 0 (jE F G (jQv G (fun μ' => rng μ' ∧ MMok μ' p f (mkf f (μ 79 p) (μ 80 p) (μ 78 5) 400) ∧ (∀ m, m < (mkf f (μ 79 p) (μ 80 p) (μ 78 5) 400).1 → μ' 85 (16 * p + m) = sgn d (((mkf f (μ 79 p) (μ 80 p) (μ 78 5) 400).2 m % 20 : Nat) : Int) (((mkf f (μ 79 p) (μ 80 p) (μ 78 5) 400).2 m / 20 : Nat) : Int) 12) ∧ (∀ k, k ≠ 82 → k ≠ 83 → k ≠ 84 → k ≠ 85 → μ' k = μ k) ∧ (∀ x, ¬ x / 400 = p → μ' 82 x = μ 82 x) ∧ (∀ x, x ≠ p → μ' 83 x = μ 83 x) ∧ (∀ x, ¬ x / 16 = p → μ' 84 x = μ 84 x) ∧ (∀ x, ¬ x / 16 = p → μ' 85 x = μ 85 x)))) 2 [some (.inr (ad G 78)), some (.inl pi), some (.inl j), none] [] μa := by
    intro n
    induction n with
    | zero =>
      intro y2 j μa hRa hj hy2 hfa hga hsa hms
      exact absurd hms (Nat.not_lt_zero _)
    | succ n ih =>
      intro y2 j μa hRa hj hy2 hfa hga hsa hms
      have ih_2 := ih
      clear ih
      have w_μa : μa 79 p = μ 79 p := by rw [hfa 79 (by omega)]
      have h_μa : μa 80 p = μ 80 p := by rw [hfa 80 (by omega)]
      have b_μa : μa 78 5 = μ 78 5 := by rw [hfa 78 (by omega)]
      have d_μa : d = dgt (μa 79 p) (μa 80 p) (mvv μa p) := by unfold mvv; rw [hfa 79 (by omega), hfa 80 (by omega), hfa 81 (by omega)]; exact hd
      refine jx_iload_n C dX9_layMarks_2 rfl ?_
      refine jx_aload_n C dX9_layMarks_3 rfl ?_
      refine jx_get (v := .inr (ad G 80)) C 3 ft_X9 (jcl_MO G _) rfl (by decide) (by decide) wf_X9_13 dX9_layMarks_4 ?_
      refine jx_iload_n C dX9_layMarks_7 rfl ?_
      refine jx_iald C (jcl_80 G _) (by decide) (by omega) (by omega) (by decide) dX9_layMarks_8 ?_
      have r_8 := rg_80 hRa pi.toNat
      rw [hpt] at r_8
      refine jx_top (b := μa 80 p) (by rw [hpt]) ?_
      refine jx_icmp_ge C dX9_layMarks_9 (by omega) (by omega) (fun c_9 => ?_) (fun c_9 => ?_)
      · refine jx_aload_n C dX9_layMarks_60 rfl ?_
        refine jx_get (v := .inr (ad G 83)) C 9 ft_X9 (jcl_MO G _) rfl (by decide) (by decide) wf_X9_29 dX9_layMarks_61 ?_
        refine jx_iload_n C dX9_layMarks_64 rfl ?_
        refine jx_iconst C dX9_layMarks_65 ?_
        refine jx_iast C (jcl_83 G _) (jcl_83 G _) (by decide) (by omega) (by omega) (by decide) dX9_layMarks_66 ?_
        obtain ⟨μ1, eμ1⟩ : ∃ y_ : Mem, y_ = jms μa 83 pi.toNat 0 := ⟨_, rfl⟩
        rw [← eμ1]
        have hR1 : rng μ1 := by rw [eμ1]; exact rs_83 hRa pi.toNat (by omega) (by omega)
        refine jx_iconst C dX9_layMarks_67 ?_
        refine jx_istore_n (L' := [some (.inr (ad G 78)), some (.inl pi), some (.inl 3), none]) C dX9_layMarks_68 (by decide) rfl ?_
        have LP_69 : ∀ (n : Nat) (y3 : Nat) (j3 : Int) (μc : Mem), (rng μc) → (j3 = (y3 : Int)) → (3 ≤ y3 ∧ (y3 = 3 ∨ (y3 : Int) ≤ μ 80 p - 3)) → (MMok μc p f (mkf f (μ 79 p) (μ 80 p) (μ 78 5) (20 * y3))) → (∀ k, k ≠ 83 → k ≠ 84 → μc k = μa k) → (∀ x, x ≠ p → μc 83 x = μa 83 x) → (∀ x, ¬ x / 16 = p → μc 84 x = μa 84 x) → 21 - y3 < n → jX F G 4 0 0 (jE F G (jQv G (fun μ' => rng μ' ∧ MMok μ' p f (mkf f (μ 79 p) (μ 80 p) (μ 78 5) 400) ∧ (∀ m, m < (mkf f (μ 79 p) (μ 80 p) (μ 78 5) 400).1 → μ' 85 (16 * p + m) = sgn d (((mkf f (μ 79 p) (μ 80 p) (μ 78 5) 400).2 m % 20 : Nat) : Int) (((mkf f (μ 79 p) (μ 80 p) (μ 78 5) 400).2 m / 20 : Nat) : Int) 12) ∧ (∀ k, k ≠ 82 → k ≠ 83 → k ≠ 84 → k ≠ 85 → μ' k = μ k) ∧ (∀ x, ¬ x / 400 = p → μ' 82 x = μ 82 x) ∧ (∀ x, x ≠ p → μ' 83 x = μ 83 x) ∧ (∀ x, ¬ x / 16 = p → μ' 84 x = μ 84 x) ∧ (∀ x, ¬ x / 16 = p → μ' 85 x = μ 85 x)))) 69 [some (.inr (ad G 78)), some (.inl pi), some (.inl j3), none] [] μc := by
          intro n
          induction n with
          | zero =>
            intro y3 j3 μc hRc hj3 hy3 hMc hfc hgc hkc hms
            exact absurd hms (Nat.not_lt_zero _)
          | succ n ih =>
            intro y3 j3 μc hRc hj3 hy3 hMc hfc hgc hkc hms
            have ih_69 := ih
            clear ih
            have hfc2 : ∀ k, k ≠ 82 → k ≠ 83 → k ≠ 84 → μc k = μ k := fun k h1 h2 h3 => by rw [hfc k h2 h3, hfa k h1]
            have w_μc : μc 79 p = μ 79 p := by rw [hfc2 79 (by omega) (by omega) (by omega)]
            have h_μc : μc 80 p = μ 80 p := by rw [hfc2 80 (by omega) (by omega) (by omega)]
            have b_μc : μc 78 5 = μ 78 5 := by rw [hfc2 78 (by omega) (by omega) (by omega)]
            have d_μc : d = dgt (μc 79 p) (μc 80 p) (mvv μc p) := by unfold mvv; rw [hfc2 79 (by omega) (by omega) (by omega), hfc2 80 (by omega) (by omega) (by omega), hfc2 81 (by omega) (by omega) (by omega)]; exact hd
            refine jx_iload_n C dX9_layMarks_69 rfl ?_
            refine jx_aload_n C dX9_layMarks_70 rfl ?_
            refine jx_get (v := .inr (ad G 80)) C 3 ft_X9 (jcl_MO G _) rfl (by decide) (by decide) wf_X9_13 dX9_layMarks_71 ?_
            refine jx_iload_n C dX9_layMarks_74 rfl ?_
            refine jx_iald C (jcl_80 G _) (by decide) (by omega) (by omega) (by decide) dX9_layMarks_75 ?_
            have r_75 := rg_80 hRc pi.toNat
            rw [hpt] at r_75
            refine jx_top (b := μc 80 p) (by rw [hpt]) ?_
            refine jx_iconst C dX9_layMarks_76 ?_
            refine jx_isub C dX9_layMarks_77 ?_
            refine jx_icmp_ge C dX9_layMarks_78 (by omega) (by omega) (fun c_78 => ?_) (fun c_78 => ?_)
            · obtain ⟨A, hA⟩ : ∃ A : Mks, A = mkf f (μ 79 p) (μ 80 p) (μ 78 5) 400 := ⟨_, rfl⟩
              have hMA : MMok μc p f A := by rw [hA, hsk (a := 20 * y3) (b := 400) (by omega) (fun t h1 h2 h3 => by omega)]; exact hMc
              have hAll : ∀ m, m < A.1 → A.2 m < 400 ∧ isM f (μ 79 p) (μ 80 p) (μ 78 5) (A.2 m) := by rw [hA]; exact mkf_all _ _ _ _ 400
              have h16 := hMA.1
              refine jx_iconst C dX9_layMarks_134 ?_
              refine jx_istore_n (L' := [some (.inr (ad G 78)), some (.inl pi), some (.inl 0), none]) C dX9_layMarks_135 (by decide) rfl ?_
              have LP_136 : ∀ (n : Nat) (q : Nat) (m9 : Int) (μe : Mem), (rng μe) → (m9 = (q : Int)) → (q ≤ A.1) → (MMok μe p f A) → (∀ x, x < q → μe 85 (16 * p + x) = sgn d ((A.2 x % 20 : Nat) : Int) ((A.2 x / 20 : Nat) : Int) 12) → (∀ k, k ≠ 85 → μe k = μc k) → (∀ x, ¬ x / 16 = p → μe 85 x = μ 85 x) → A.1 + 1 - q < n → jX F G 4 0 0 (jE F G (jQv G (fun μ' => rng μ' ∧ MMok μ' p f (mkf f (μ 79 p) (μ 80 p) (μ 78 5) 400) ∧ (∀ m, m < (mkf f (μ 79 p) (μ 80 p) (μ 78 5) 400).1 → μ' 85 (16 * p + m) = sgn d (((mkf f (μ 79 p) (μ 80 p) (μ 78 5) 400).2 m % 20 : Nat) : Int) (((mkf f (μ 79 p) (μ 80 p) (μ 78 5) 400).2 m / 20 : Nat) : Int) 12) ∧ (∀ k, k ≠ 82 → k ≠ 83 → k ≠ 84 → k ≠ 85 → μ' k = μ k) ∧ (∀ x, ¬ x / 400 = p → μ' 82 x = μ 82 x) ∧ (∀ x, x ≠ p → μ' 83 x = μ 83 x) ∧ (∀ x, ¬ x / 16 = p → μ' 84 x = μ 84 x) ∧ (∀ x, ¬ x / 16 = p → μ' 85 x = μ 85 x)))) 136 [some (.inr (ad G 78)), some (.inl pi), some (.inl m9), none] [] μe := by
                intro n
                induction n with
                | zero =>
                  intro q m9 μe hRe hm9 hq hMe hse hfe hge hms
                  exact absurd hms (Nat.not_lt_zero _)
                | succ n ih =>
                  intro q m9 μe hRe hm9 hq hMe hse hfe hge hms
                  have ih_136 := ih
                  clear ih
                  have hfe2 : ∀ k, k ≠ 82 → k ≠ 83 → k ≠ 84 → k ≠ 85 → μe k = μ k := fun k h1 h2 h3 h4 => by rw [hfe k h4, hfc2 k h1 h2 h3]
                  have w_μe : μe 79 p = μ 79 p := by rw [hfe2 79 (by omega) (by omega) (by omega) (by omega)]
                  have h_μe : μe 80 p = μ 80 p := by rw [hfe2 80 (by omega) (by omega) (by omega) (by omega)]
                  have b_μe : μe 78 5 = μ 78 5 := by rw [hfe2 78 (by omega) (by omega) (by omega) (by omega)]
                  have d_μe : d = dgt (μe 79 p) (μe 80 p) (mvv μe p) := by unfold mvv; rw [hfe2 79 (by omega) (by omega) (by omega) (by omega), hfe2 80 (by omega) (by omega) (by omega) (by omega), hfe2 81 (by omega) (by omega) (by omega) (by omega)]; exact hd
                  have hcn := hMe.2.1
                  refine jx_iload_n C dX9_layMarks_136 rfl ?_
                  refine jx_aload_n C dX9_layMarks_137 rfl ?_
                  refine jx_get (v := .inr (ad G 83)) C 9 ft_X9 (jcl_MO G _) rfl (by decide) (by decide) wf_X9_29 dX9_layMarks_138 ?_
                  refine jx_iload_n C dX9_layMarks_141 rfl ?_
                  refine jx_iald C (jcl_83 G _) (by decide) (by omega) (by omega) (by decide) dX9_layMarks_142 ?_
                  have r_142 := rg_83 hRe pi.toNat
                  have e_142 : μe 83 pi.toNat = (A.1 : Int) := (by rw [hpt]; exact hcn)
                  rw [e_142] at r_142
                  refine jx_top (b := (A.1 : Int)) e_142 ?_
                  refine jx_icmp_ge C dX9_layMarks_143 (by omega) (by omega) (fun c_143 => ?_) (fun c_143 => ?_)
                  · exact jx_vret C dX9_layMarks_194 ⟨hRe, by rw [← hA]; exact hMe, by rw [← hA]; exact fun m hm => hse m (by omega), fun k h1 h2 h3 h4 => hfe2 k h1 h2 h3 h4, fun x hx => by rw [hfe 82 (by omega), hfc 82 (by omega) (by omega)]; exact hga x hx, fun x hx => by rw [hfe 83 (by omega), hgc x hx, hfa 83 (by omega)], fun x hx => by rw [hfe 84 (by omega), hkc x hx, hfa 84 (by omega)], hge⟩
                  · have gA := hAll q (by omega)
                    have gM := hMe.2.2 q (by omega)
                    have gr := msc_rim (W := μ 79 p) (H := μ 80 p) (d := d) r_bar.1 (by rw [← hf]; exact gA.2)
                    refine jx_aload_n C dX9_layMarks_146 rfl ?_
                    refine jx_get (v := .inr (ad G 84)) C 10 ft_X9 (jcl_MO G _) rfl (by decide) (by decide) wf_X9_32 dX9_layMarks_147 ?_
                    refine jx_bipush C dX9_layMarks_150 (by decide +kernel) ?_
                    refine jx_iload_n C dX9_layMarks_152 rfl ?_
                    refine jx_imul C dX9_layMarks_153 ?_
                    refine jx_iload_n C dX9_layMarks_154 rfl ?_
                    refine jx_iadd C dX9_layMarks_155 ?_
                    refine jx_iald C (jcl_84 G _) (by decide) (by omega) (by omega) (by decide) dX9_layMarks_156 ?_
                    have r_156 := rg_84 hRe ((16 * pi + m9).toNat)
                    have e_156 : μe 84 (16 * pi + m9).toNat = ((400 * p + A.2 q : Nat) : Int) := (by rw [show (16 * pi + m9).toNat = 16 * p + q by omega]; exact gM.1)
                    rw [e_156] at r_156
                    refine jx_top (b := ((400 * p + A.2 q : Nat) : Int)) e_156 ?_
                    refine jx_sipush C dX9_layMarks_157 (by decide +kernel) ?_
                    refine jx_iload_n C dX9_layMarks_160 rfl ?_
                    refine jx_imul C dX9_layMarks_161 ?_
                    refine jx_isub C dX9_layMarks_162 ?_
                    refine jx_top (b := ((A.2 q : Nat) : Int)) (by omega) ?_
                    refine jx_istore_n (L' := [some (.inr (ad G 78)), some (.inl pi), some (.inl m9), some (.inl ((A.2 q : Nat) : Int))]) C dX9_layMarks_163 (by decide) rfl ?_
                    refine jx_aload_n C dX9_layMarks_164 rfl ?_
                    refine jx_get (v := .inr (ad G 85)) C 11 ft_X9 (jcl_MO G _) rfl (by decide) (by decide) wf_X9_35 dX9_layMarks_165 ?_
                    refine jx_bipush C dX9_layMarks_168 (by decide +kernel) ?_
                    refine jx_iload_n C dX9_layMarks_170 rfl ?_
                    refine jx_imul C dX9_layMarks_171 ?_
                    refine jx_iload_n C dX9_layMarks_172 rfl ?_
                    refine jx_iadd C dX9_layMarks_173 ?_
                    refine jx_aload_n C dX9_layMarks_174 rfl ?_
                    refine jx_iload_n C dX9_layMarks_175 rfl ?_
                    refine jx_iload_n C dX9_layMarks_176 rfl ?_
                    refine jx_bipush C dX9_layMarks_177 (by decide +kernel) ?_
                    refine jx_irem (z := ((A.2 q : Nat) : Int) % 20) C dX9_layMarks_179 (by omega) (by decide) (by decide) (jtm (by omega)) ?_
                    refine jx_top (b := ((A.2 q % 20 : Nat) : Int)) (by omega) ?_
                    refine jx_iload_n C dX9_layMarks_180 rfl ?_
                    refine jx_bipush C dX9_layMarks_181 (by decide +kernel) ?_
                    refine jx_idiv (z := ((A.2 q : Nat) : Int) / 20) C dX9_layMarks_183 (by omega) (by decide) (by decide) (jtd (by omega)) ?_
                    refine jx_top (b := ((A.2 q / 20 : Nat) : Int)) (by omega) ?_
                    refine jx_cVi (as := [.inl pi, .inl ((A.2 q % 20 : Nat) : Int), .inl ((A.2 q / 20 : Nat) : Int)]) (st := [.inl (16 * pi + m9), .inr (ad G 85)]) C Yy (c_X9_signOf l G μe p (by omega) pi (by omega) d d_μe ((A.2 q % 20 : Nat) : Int) ((A.2 q / 20 : Nat) : Int) (by omega) (by omega) hRe) yb_X9_signOf yv_X9_signOf wm_X9_114 (jcl_MO G _) rfl (by decide) rfl rfl (Nat.le_of_ble_eq_true rfl) ⟨⟨rfl, rfl, Nat.le_of_ble_eq_true rfl, Nat.le_of_ble_eq_true rfl⟩, Nat.zero_le _, Nat.zero_le _⟩ dX9_layMarks_184 ?_
                    rintro _ _ ⟨rfl, rfl⟩
                    have r_184 := sgn12 d ((A.2 q % 20 : Nat) : Int) ((A.2 q / 20 : Nat) : Int)
                    refine jx_iast C (jcl_85 G _) (jcl_85 G _) (by decide) (by omega) (by omega) (by decide) dX9_layMarks_187 ?_
                    obtain ⟨μ2, eμ2⟩ : ∃ y_ : Mem, y_ = jms μe 85 ((16 * pi + m9).toNat) (sgn d ((A.2 q % 20 : Nat) : Int) ((A.2 q / 20 : Nat) : Int) 12) := ⟨_, rfl⟩
                    rw [← eμ2]
                    have hR2 : rng μ2 := by rw [eμ2]; exact rs_85 hRe ((16 * pi + m9).toNat) (by omega) (by omega)
                    refine jx_iinc (L' := [some (.inr (ad G 78)), some (.inl pi), some (.inl (m9 + 1)), some (.inl ((A.2 q : Nat) : Int))]) C dX9_layMarks_188 rfl (by decide) rfl ?_
                    refine jx_goto C dX9_layMarks_191 ?_
                    refine jx_fewer (L' := [some (.inr (ad G 78)), some (.inl pi), some (.inl (m9 + 1)), none]) (fun i v h => ?_) ?_
                    · exact jfew_ok (by simp [jfew]) h
                    exact ih_136 (q + 1) (m9 + 1) μ2 hR2 (by omega) (by omega) (MMok_fr hMe (by rw [eμ2, jms_cell _ _ _ _ (by omega)]) (fun m hm => by rw [eμ2, jms_cell _ _ _ _ (by omega)]) (fun t ht => by rw [eμ2, jms_cell _ _ _ _ (by omega)])) (fun x hx => by
        rw [eμ2, jms_arr]
        by_cases hxq : x = q
        · rw [if_pos (by omega), hxq]
        · rw [if_neg (by omega)]; exact hse x (by omega)) (fun k hk => by rw [eμ2, jms_cell _ _ _ _ hk]; exact hfe k hk) (fun x hx => by rw [eμ2, jms_arr, if_neg (by omega)]; exact hge x hx) (by omega)
              exact LP_136 _ 0 0 μc hRc rfl (Nat.zero_le _) hMA (fun x hx => absurd hx (Nat.not_lt_zero _)) (fun _ _ => rfl) (fun x hx => by rw [hfc2 85 (by omega) (by omega) (by omega)]) (Nat.lt_succ_self _)
            · refine jx_iconst C dX9_layMarks_81 ?_
              refine jx_istore_n (L' := [some (.inr (ad G 78)), some (.inl pi), some (.inl j3), some (.inl 3)]) C dX9_layMarks_82 (by decide) rfl ?_
              have LP_83 : ∀ (n : Nat) (x3 : Nat) (i3 : Int) (μd : Mem), (rng μd) → (i3 = (x3 : Int)) → (3 ≤ x3 ∧ (x3 = 3 ∨ (x3 : Int) ≤ μ 79 p - 3)) → (MMok μd p f (mkf f (μ 79 p) (μ 80 p) (μ 78 5) (20 * y3 + x3))) → (∀ k, k ≠ 83 → k ≠ 84 → μd k = μa k) → (∀ x, x ≠ p → μd 83 x = μa 83 x) → (∀ x, ¬ x / 16 = p → μd 84 x = μa 84 x) → 21 - x3 < n → jX F G 4 0 0 (jE F G (jQv G (fun μ' => rng μ' ∧ MMok μ' p f (mkf f (μ 79 p) (μ 80 p) (μ 78 5) 400) ∧ (∀ m, m < (mkf f (μ 79 p) (μ 80 p) (μ 78 5) 400).1 → μ' 85 (16 * p + m) = sgn d (((mkf f (μ 79 p) (μ 80 p) (μ 78 5) 400).2 m % 20 : Nat) : Int) (((mkf f (μ 79 p) (μ 80 p) (μ 78 5) 400).2 m / 20 : Nat) : Int) 12) ∧ (∀ k, k ≠ 82 → k ≠ 83 → k ≠ 84 → k ≠ 85 → μ' k = μ k) ∧ (∀ x, ¬ x / 400 = p → μ' 82 x = μ 82 x) ∧ (∀ x, x ≠ p → μ' 83 x = μ 83 x) ∧ (∀ x, ¬ x / 16 = p → μ' 84 x = μ 84 x) ∧ (∀ x, ¬ x / 16 = p → μ' 85 x = μ 85 x)))) 83 [some (.inr (ad G 78)), some (.inl pi), some (.inl j3), some (.inl i3)] [] μd := by
                intro n
                induction n with
                | zero =>
                  intro x3 i3 μd hRd hi3 hx3 hMd hfd hgd hkd hms
                  exact absurd hms (Nat.not_lt_zero _)
                | succ n ih =>
                  intro x3 i3 μd hRd hi3 hx3 hMd hfd hgd hkd hms
                  have ih_83 := ih
                  clear ih
                  have hfd2 : ∀ k, k ≠ 82 → k ≠ 83 → k ≠ 84 → μd k = μ k := fun k h1 h2 h3 => by rw [hfd k h2 h3, hfa k h1]
                  have w_μd : μd 79 p = μ 79 p := by rw [hfd2 79 (by omega) (by omega) (by omega)]
                  have h_μd : μd 80 p = μ 80 p := by rw [hfd2 80 (by omega) (by omega) (by omega)]
                  have b_μd : μd 78 5 = μ 78 5 := by rw [hfd2 78 (by omega) (by omega) (by omega)]
                  have d_μd : d = dgt (μd 79 p) (μd 80 p) (mvv μd p) := by unfold mvv; rw [hfd2 79 (by omega) (by omega) (by omega), hfd2 80 (by omega) (by omega) (by omega), hfd2 81 (by omega) (by omega) (by omega)]; exact hd
                  have hi4 : i3 = (x3 : Int) := hi3
                  have hj4 : j3 = (y3 : Int) := hj3
                  have hs82 : ∀ x y : Int, 0 ≤ x → x < μd 79 p → 0 ≤ y → y < μd 80 p → μd 82 (400 * pi + 20 * y + x).toNat = f x y := fun x y h1 h2 h3 h4 => by rw [hfd 82 (by omega) (by omega)]; exact hsa x y h1 (by omega) h3 (by omega)
                  refine jx_iload_n C dX9_layMarks_83 rfl ?_
                  refine jx_aload_n C dX9_layMarks_84 rfl ?_
                  refine jx_get (v := .inr (ad G 79)) C 2 ft_X9 (jcl_MO G _) rfl (by decide) (by decide) wf_X9_7 dX9_layMarks_85 ?_
                  refine jx_iload_n C dX9_layMarks_88 rfl ?_
                  refine jx_iald C (jcl_79 G _) (by decide) (by omega) (by omega) (by decide) dX9_layMarks_89 ?_
                  have r_89 := rg_79 hRd pi.toNat
                  rw [hpt] at r_89
                  refine jx_top (b := μd 79 p) (by rw [hpt]) ?_
                  refine jx_iconst C dX9_layMarks_90 ?_
                  refine jx_isub C dX9_layMarks_91 ?_
                  refine jx_icmp_ge C dX9_layMarks_92 (by omega) (by omega) (fun c_92 => ?_) (fun c_92 => ?_)
                  · refine jx_iinc (L' := [some (.inr (ad G 78)), some (.inl pi), some (.inl (j3 + 1)), some (.inl i3)]) C dX9_layMarks_128 rfl (by decide) rfl ?_
                    refine jx_goto C dX9_layMarks_131 ?_
                    refine jx_fewer (L' := [some (.inr (ad G 78)), some (.inl pi), some (.inl (j3 + 1)), none]) (fun i v h => ?_) ?_
                    · exact jfew_ok (by simp [jfew]) h
                    exact ih_69 (y3 + 1) (j3 + 1) μd hRd (by omega) (by omega) (by rw [hsk (a := 20 * y3 + x3) (b := 20 * (y3 + 1)) (by omega) (fun t h1 h2 h3 => by omega)]; exact hMd) hfd hgd hkd (by omega)
                  · refine jx_aload_n C dX9_layMarks_95 rfl ?_
                    refine jx_iload_n C dX9_layMarks_96 rfl ?_
                    refine jx_iload_n C dX9_layMarks_97 rfl ?_
                    refine jx_iload_n C dX9_layMarks_98 rfl ?_
                    refine jx_cVi (as := [.inl pi, .inl i3, .inl j3]) (st := []) C Yy (c_X9_isMark l G μd p (by omega) pi (by omega) f hs82 i3 j3 (by omega) (by omega) hRd) yb_X9_isMark yv_X9_isMark wm_X9_107 (jcl_MO G _) rfl (by decide) rfl rfl (Nat.le_of_ble_eq_true rfl) ⟨⟨rfl, rfl, Nat.le_of_ble_eq_true rfl, Nat.le_of_ble_eq_true rfl⟩, Nat.zero_le _, Nat.zero_le _⟩ dX9_layMarks_99 ?_
                    rintro _ _ ⟨rfl, ⟨rfl, c_99⟩ | ⟨rfl, c_99⟩⟩
                    · refine jx_if_eq C dX9_layMarks_102 (by decide) (fun q => absurd q (by decide)) (fun _ => ?_)
                      refine jx_aload_n C dX9_layMarks_105 rfl ?_
                      refine jx_iload_n C dX9_layMarks_106 rfl ?_
                      refine jx_sipush C dX9_layMarks_107 (by decide +kernel) ?_
                      refine jx_iload_n C dX9_layMarks_110 rfl ?_
                      refine jx_imul C dX9_layMarks_111 ?_
                      refine jx_bipush C dX9_layMarks_112 (by decide +kernel) ?_
                      refine jx_iload_n C dX9_layMarks_114 rfl ?_
                      refine jx_imul C dX9_layMarks_115 ?_
                      refine jx_iadd C dX9_layMarks_116 ?_
                      refine jx_iload_n C dX9_layMarks_117 rfl ?_
                      refine jx_iadd C dX9_layMarks_118 ?_
                      refine jx_cVv (as := [.inl pi, .inl (400 * pi + 20 * j3 + i3)]) (st := []) C Yy (c_X9_putMark l G μd p (by omega) pi (by omega) f (mkf f (μ 79 p) (μ 80 p) (μ 78 5) (20 * y3 + x3)) (20 * y3 + x3) (400 * pi + 20 * j3 + i3) hMd (by omega) (by omega) (by have h8 := hs82 i3 j3 (by omega) (by omega) (by omega) (by omega); rw [fS_at (by omega) hi4 hj4, ← h8]; congr 1; omega) hRd) yb_X9_putMark yv_X9_putMark wm_X9_110 (jcl_MO G _) rfl (by decide) rfl rfl (Nat.le_of_ble_eq_true rfl) ⟨⟨rfl, rfl, Nat.le_of_ble_eq_true rfl, Nat.le_of_ble_eq_true rfl⟩, Nat.zero_le _, Nat.zero_le _⟩ dX9_layMarks_119 ?_
                      intro μ3 hμ3
                      have hR3 := hμ3.1
                      refine jx_iinc (L' := [some (.inr (ad G 78)), some (.inl pi), some (.inl j3), some (.inl (i3 + 1))]) C dX9_layMarks_122 rfl (by decide) rfl ?_
                      refine jx_goto C dX9_layMarks_125 ?_
                      exact ih_83 (x3 + 1) (i3 + 1) μ3 hR3 (by omega) (by omega) (by rw [← Nat.add_assoc, mkf_yes ((isM_at (by omega) hi4 hj4).mpr ⟨by omega, by omega, by rw [← b_μd]; exact c_99.1, c_99.2⟩)]; exact hμ3.2.1) (fun k h1 h2 => by rw [hμ3.2.2.1 k h1 h2]; exact hfd k h1 h2) (fun x hx => by rw [hμ3.2.2.2.1 x hx]; exact hgd x hx) (fun x hx => by rw [hμ3.2.2.2.2 x hx]; exact hkd x hx) (by omega)
                    · refine jx_if_eq C dX9_layMarks_102 (by decide) (fun _ => ?_) (fun q => absurd q (by decide))
                      refine jx_iinc (L' := [some (.inr (ad G 78)), some (.inl pi), some (.inl j3), some (.inl (i3 + 1))]) C dX9_layMarks_122 rfl (by decide) rfl ?_
                      refine jx_goto C dX9_layMarks_125 ?_
                      exact ih_83 (x3 + 1) (i3 + 1) μd hRd (by omega) (by omega) (by rw [← Nat.add_assoc, mkf_no (fun h => c_99 (by have h2 := (isM_at (by omega) hi4 hj4).mp h; rw [b_μd]; exact h2.2.2))]; exact hMd) hfd hgd hkd (by omega)
              exact LP_83 _ 3 3 μc hRc rfl (by omega) (by rw [hsk (a := 20 * y3) (b := 20 * y3 + 3) (by omega) (fun t h1 h2 h3 => by omega)]; exact hMc) hfc hgc hkc (Nat.lt_succ_self _)
        have hM0 : MMok μ1 p f (mkf f (μ 79 p) (μ 80 p) (μ 78 5) (20 * 3)) := by rw [hsk (a := 0) (b := 20 * 3) (by omega) (fun t h1 h2 h3 => by omega)]; exact ⟨Nat.zero_le _, (by rw [eμ1, jms_arr, if_pos (by omega)]; rfl), fun m hm => absurd hm (Nat.not_lt_zero _)⟩
        exact LP_69 _ 3 3 μ1 hR1 rfl (by omega) hM0 (fun k h1 _ => by rw [eμ1, jms_cell _ _ _ _ h1]) (fun x hx => by rw [eμ1, jms_arr, if_neg (by omega)]) (fun x hx => by rw [eμ1, jms_cell _ _ _ _ (by omega)]) (Nat.lt_succ_self _)
      · refine jx_iconst C dX9_layMarks_12 ?_
        refine jx_istore_n (L' := [some (.inr (ad G 78)), some (.inl pi), some (.inl j), some (.inl 0)]) C dX9_layMarks_13 (by decide) rfl ?_
        have LP_14 : ∀ (n : Nat) (u : Nat) (i : Int) (μb : Mem), (rng μb) → (i = (u : Int)) → ((u : Int) ≤ μ 79 p) → (∀ k, k ≠ 82 → μb k = μ k) → (∀ x, ¬ x / 400 = p → μb 82 x = μ 82 x) → (∀ x y : Int, 0 ≤ x → x < μ 79 p → 0 ≤ y → (y < j ∨ (y = j ∧ x < i)) → μb 82 (400 * pi + 20 * y + x).toNat = f x y) → 21 - u < n → jX F G 4 0 0 (jE F G (jQv G (fun μ' => rng μ' ∧ MMok μ' p f (mkf f (μ 79 p) (μ 80 p) (μ 78 5) 400) ∧ (∀ m, m < (mkf f (μ 79 p) (μ 80 p) (μ 78 5) 400).1 → μ' 85 (16 * p + m) = sgn d (((mkf f (μ 79 p) (μ 80 p) (μ 78 5) 400).2 m % 20 : Nat) : Int) (((mkf f (μ 79 p) (μ 80 p) (μ 78 5) 400).2 m / 20 : Nat) : Int) 12) ∧ (∀ k, k ≠ 82 → k ≠ 83 → k ≠ 84 → k ≠ 85 → μ' k = μ k) ∧ (∀ x, ¬ x / 400 = p → μ' 82 x = μ 82 x) ∧ (∀ x, x ≠ p → μ' 83 x = μ 83 x) ∧ (∀ x, ¬ x / 16 = p → μ' 84 x = μ 84 x) ∧ (∀ x, ¬ x / 16 = p → μ' 85 x = μ 85 x)))) 14 [some (.inr (ad G 78)), some (.inl pi), some (.inl j), some (.inl i)] [] μb := by
          intro n
          induction n with
          | zero =>
            intro u i μb hRb hi hu hfb hgb hsb hms
            exact absurd hms (Nat.not_lt_zero _)
          | succ n ih =>
            intro u i μb hRb hi hu hfb hgb hsb hms
            have ih_14 := ih
            clear ih
            have w_μb : μb 79 p = μ 79 p := by rw [hfb 79 (by omega)]
            have h_μb : μb 80 p = μ 80 p := by rw [hfb 80 (by omega)]
            have b_μb : μb 78 5 = μ 78 5 := by rw [hfb 78 (by omega)]
            have d_μb : d = dgt (μb 79 p) (μb 80 p) (mvv μb p) := by unfold mvv; rw [hfb 79 (by omega), hfb 80 (by omega), hfb 81 (by omega)]; exact hd
            refine jx_iload_n C dX9_layMarks_14 rfl ?_
            refine jx_aload_n C dX9_layMarks_15 rfl ?_
            refine jx_get (v := .inr (ad G 79)) C 2 ft_X9 (jcl_MO G _) rfl (by decide) (by decide) wf_X9_7 dX9_layMarks_16 ?_
            refine jx_iload_n C dX9_layMarks_19 rfl ?_
            refine jx_iald C (jcl_79 G _) (by decide) (by omega) (by omega) (by decide) dX9_layMarks_20 ?_
            have r_20 := rg_79 hRb pi.toNat
            rw [hpt] at r_20
            refine jx_top (b := μb 79 p) (by rw [hpt]) ?_
            refine jx_icmp_ge C dX9_layMarks_21 (by omega) (by omega) (fun c_21 => ?_) (fun c_21 => ?_)
            · refine jx_iinc (L' := [some (.inr (ad G 78)), some (.inl pi), some (.inl (j + 1)), some (.inl i)]) C dX9_layMarks_54 rfl (by decide) rfl ?_
              refine jx_goto C dX9_layMarks_57 ?_
              refine jx_fewer (L' := [some (.inr (ad G 78)), some (.inl pi), some (.inl (j + 1)), none]) (fun i v h => ?_) ?_
              · exact jfew_ok (by simp [jfew]) h
              exact ih_2 (y2 + 1) (j + 1) μb hRb (by omega) (by omega) hfb hgb (fun x y h1 h2 h3 h4 => hsb x y h1 h2 h3 (by omega)) (by omega)
            · refine jx_aload_n C dX9_layMarks_24 rfl ?_
              refine jx_get (v := .inr (ad G 82)) C 8 ft_X9 (jcl_MO G _) rfl (by decide) (by decide) wf_X9_26 dX9_layMarks_25 ?_
              refine jx_sipush C dX9_layMarks_28 (by decide +kernel) ?_
              refine jx_iload_n C dX9_layMarks_31 rfl ?_
              refine jx_imul C dX9_layMarks_32 ?_
              refine jx_bipush C dX9_layMarks_33 (by decide +kernel) ?_
              refine jx_iload_n C dX9_layMarks_35 rfl ?_
              refine jx_imul C dX9_layMarks_36 ?_
              refine jx_iadd C dX9_layMarks_37 ?_
              refine jx_iload_n C dX9_layMarks_38 rfl ?_
              refine jx_iadd C dX9_layMarks_39 ?_
              refine jx_aload_n C dX9_layMarks_40 rfl ?_
              refine jx_iload_n C dX9_layMarks_41 rfl ?_
              refine jx_iload_n C dX9_layMarks_42 rfl ?_
              refine jx_iload_n C dX9_layMarks_43 rfl ?_
              refine jx_cVi (as := [.inl pi, .inl i, .inl j]) (st := [.inl (400 * pi + 20 * j + i), .inr (ad G 82)]) C Yy (c_X9_scoreOf l G μb p (by omega) pi (by omega) d d_μb i j (by omega) (by omega) hRb) yb_X9_scoreOf yv_X9_scoreOf wm_X9_104 (jcl_MO G _) rfl (by decide) rfl rfl (Nat.le_of_ble_eq_true rfl) ⟨⟨rfl, rfl, Nat.le_of_ble_eq_true rfl, Nat.le_of_ble_eq_true rfl⟩, Nat.zero_le _, Nat.zero_le _⟩ dX9_layMarks_44 ?_
              rintro _ _ ⟨rfl, rfl⟩
              have r_44 := sco_rng (W := μb 79 p) (H := μb 80 p) (d := d) (fun x y => by rw [d_μb]; exact md_rng hRb p x y) i j
              refine jx_iast C (jcl_82 G _) (jcl_82 G _) (by decide) (by omega) (by omega) (by decide) dX9_layMarks_47 ?_
              obtain ⟨μ4, eμ4⟩ : ∃ y_ : Mem, y_ = jms μb 82 ((400 * pi + 20 * j + i).toNat) (sco (μb 79 p) (μb 80 p) d i j) := ⟨_, rfl⟩
              rw [← eμ4]
              have hR4 : rng μ4 := by rw [eμ4]; exact rs_82 hRb ((400 * pi + 20 * j + i).toNat) (by omega) (by omega)
              refine jx_iinc (L' := [some (.inr (ad G 78)), some (.inl pi), some (.inl j), some (.inl (i + 1))]) C dX9_layMarks_48 rfl (by decide) rfl ?_
              refine jx_goto C dX9_layMarks_51 ?_
              exact ih_14 (u + 1) (i + 1) μ4 hR4 (by omega) (by omega) (fun k hk => by rw [eμ4, jms_cell _ _ _ _ hk]; exact hfb k hk) (fun x hx => by rw [eμ4, jms_arr, if_neg (by omega)]; exact hgb x hx) (fun x y h1 h2 h3 h4 => by
        rw [eμ4, jms_arr]
        by_cases e : x = (u : Int) ∧ y = (y2 : Int)
        · rw [if_pos (by omega), e.1, e.2, hf, msc_in (by omega), w_μb, h_μb, hi, hj]
        · rw [if_neg (by omega)]; exact hsb x y h1 h2 h3 (by omega)) (by omega)
        exact LP_14 _ 0 0 μa hRa rfl (by omega) hfa hga (fun x y h1 h2 h3 h4 => hsa x y h1 h2 h3 (by omega)) (Nat.lt_succ_self _)
  exact LP_2 _ 0 0 μ hR rfl (by omega) (fun _ _ => rfl) (fun _ _ => rfl) (fun x y _ _ h3 h4 => by omega) (Nat.lt_succ_self _)
