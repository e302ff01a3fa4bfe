def jPfn (G : GT) (p : Nat) : Nat → Option Nat := fun t => if p ≤ t ∧ t < 4 then none else some (ad G (10 + t))
def jQfn (G : GT) (q : Nat) : Nat → Option Nat := fun t => if q ≤ t ∧ t < 16 then none else some (ad G (46 + t))
theorem jPfn_up (G : GT) {p : Nat} (hp : p < 4) : va_up (jPfn G p) p (some (ad G (10 + p))) = jPfn G (p + 1) := by
  funext t
  unfold va_up jPfn
  by_cases h : t = p
  · subst h; rw [if_pos rfl, if_neg (by omega)]
  · rw [if_neg h]
    by_cases h2 : p ≤ t ∧ t < 4
    · rw [if_pos h2, if_pos (by omega)]
    · rw [if_neg h2, if_neg (by omega)]
theorem jQfn_up (G : GT) {q : Nat} (hq : q < 16) : va_up (jQfn G q) q (some (ad G (46 + q))) = jQfn G (q + 1) := by
  funext t
  unfold va_up jQfn
  by_cases h : t = q
  · subst h; rw [if_pos rfl, if_neg (by omega)]
  · rw [if_neg h]
    by_cases h2 : q ≤ t ∧ t < 16
    · rw [if_pos h2, if_pos (by omega)]
    · rw [if_neg h2, if_neg (by omega)]
abbrev jAlb (G : GT) : va_E := .inr (0, [jr G 5, jr G 6, jr G 7, .int 0, .int 0, .int 0])
abbrev jARm : Room := { frames := 3, cells := 71, slots := 3880, locals := 60 }
noncomputable def jW1 (G : GT) (g : Nat → Option va_E) (p : Nat) : Jw := (6 + 9 * p, jup (jadd G (jup (jup g 5 (jqn (jP G) 4 (jPfn G p))) 6 (jqn (jQ G) 16 (jQfn G 0))) (fun j => j = 7 ∨ (10 ≤ j ∧ j < 46 ∧ (j - 10) % 4 < p))) 2 (jAlb G))
noncomputable def jW2 (G : GT) (g : Nat → Option va_E) (q : Nat) : Jw := (42 + 2 * q, jup (jadd G (jup (jup g 5 (jqn (jP G) 4 (jPfn G 4))) 6 (jqn (jQ G) 16 (jQfn G q))) (fun j => j = 7 ∨ (10 ≤ j ∧ j < 46) ∨ (46 ≤ j ∧ j < 78 ∧ (j - 46) % 16 < q))) 2 (jAlb G))
set_option maxHeartbeats 4000000 in
set_option maxRecDepth 100000 in
theorem X0_pics {F : FrT} {G : GT} {l : Launch} {Q : State → Prop} (C : Cx F G yX0_init.cls cX0_init 2 none) (Yy : Cy F l jARm) (Nf : jNf F) (had : hadG G) {g : Nat → Option va_E} (kk : jY F G 2 (3 + 9 * 4) (24 + 880 * 4) Q 54 [some (.inr (ad G 2)), some (.inl ((4 : Nat) : Int))] [] (jW1 G g 4)) : ∀ d p : Nat, p + d = 4 → jY F G 2 (3 + 9 * p) (24 + 880 * p) Q 30 [some (.inr (ad G 2)), some (.inl (p : Int))] [] (jW1 G g p) := by
  intro d
  induction d with
  | zero =>
    intro p h
    obtain rfl : p = 4 := by omega
    refine jy_iload_n C dX0_init_30 rfl ?_
    refine jy_iconst C dX0_init_31 ?_
    refine jy_icmp_ge C dX0_init_32 ⟨by decide, by decide⟩ ⟨by decide, by decide⟩ (fun _ => ?_) (fun hh => absurd (by decide) hh)
    exact kk
  | succ d ih =>
    intro p h
    have hp : p < 4 := by omega
    refine jy_iload_n C dX0_init_30 rfl ?_
    refine jy_iconst C dX0_init_31 ?_
    refine jy_icmp_ge C dX0_init_32 ⟨by omega, by omega⟩ ⟨by decide, by decide⟩ (fun hh => absurd hh (by omega)) (fun _ => ?_)
    refine jy_aload_n C dX0_init_35 rfl ?_
    unfold jW1
    refine jy_get (fs := [jr G 5, jr G 6, jr G 7, .int 0, .int 0, .int 0]) (v := .inr (ad G 5)) C 0 ft_X0 (by dsimp only; rw [jup_same]) rfl (by decide) wf_X0_11 dX0_init_36 ?_
    refine jy_iload_n C dX0_init_39 rfl ?_
    refine jk_new (ci := 5) (N := 6) (nn' := 7 + 9 * p) (k' := 4 + 9 * p) (n' := 30 + 880 * p) (fs := [.null, .null, .int 0, .int 0, .int 0, .int 0]) C (10 + p) ft_X5 (by decide) (by rw [had _ (by omega), rk_fam 10 (by omega) hp]; omega) (by omega) wcl_X0_9 win_X5 wi_X5 (by rw [Yy.2]; show _ ≤ 71; omega) (by rw [Yy.2]; show _ ≤ 3880; omega) dX0_init_40 dX0_init_43 (by omega) (by omega) (by omega) ?_
    refine jy_init C Yy Nf (k_X5_init l G had hp _) yb_X5_init rfl wn_X5_init (List.mem_of_getElem? (i := 1) rfl) (by simp) ⟨rfl, rfl, Nat.le_of_ble_eq_true rfl, Nat.le_of_ble_eq_true rfl⟩ ⟨by show _ ≤ 71; omega, by show _ ≤ 3880; omega⟩ dX0_init_44 ?_
    refine jy_k (k' := 12 + 9 * p) (n' := 904 + 880 * p) (by omega) (by omega) ?_
    refine jk_sub (S'' := (fun j => j = 7 ∨ (10 ≤ j ∧ j < 46 ∧ (j - 10) % 4 < p + 1))) (by first | omega | (dsimp only; omega)) (by intro j; first | omega | (dsimp only; omega)) ?_
    refine jy_aast (q := 5) (v := (10 + p)) (f := jPfn G p) (r := (RX5, TX5, 6)) C 1 rfl (by dsimp only; rw [jup_ne _ _ (by decide), jadd_out (by first | omega | (dsimp only; omega)), jup_ne _ _ (by decide), jup_same]) (by dsimp only; rw [jup_ne _ _ (by omega), jadd_in (by first | omega | (dsimp only; omega)), jfe_PI G hp]) rfl (zI_nat p) hp (by decide) dX0_init_47 ?_
    refine jy_w (w' := jW1 G g (p + 1)) (Prod.ext (by unfold jW1; first | omega | (dsimp only; omega)) ?_) ?_
    · unfold jW1
      dsimp only
      rw [jPfn_up G hp, jup_comm (show (2 : Nat) ≠ 5 by decide), ← jadd_jup (k := 5) (by first | omega | (dsimp only; omega)), jup_comm (show (6 : Nat) ≠ 5 by decide), jup_twice]
    · refine jy_iinc C dX0_init_48 rfl (by decide) rfl ?_
      refine jy_goto C dX0_init_51 ?_
      refine jy_k (k' := 3 + 9 * (p + 1)) (n' := 24 + 880 * (p + 1)) (by omega) (by omega) ?_
      exact ih (p + 1) (by omega)
set_option maxHeartbeats 4000000 in
set_option maxRecDepth 100000 in
theorem X0_pairs {F : FrT} {G : GT} {l : Launch} {Q : State → Prop} (C : Cx F G yX0_init.cls cX0_init 2 none) (Yy : Cy F l jARm) (Nf : jNf F) (had : hadG G) {g : Nat → Option va_E} (kk : jY F G 2 (39 + 2 * 16) (3544 + 21 * 16) Q 81 [some (.inr (ad G 2)), some (.inl ((16 : Nat) : Int))] [] (jW2 G g 16)) : ∀ d q : Nat, q + d = 16 → jY F G 2 (39 + 2 * q) (3544 + 21 * q) Q 56 [some (.inr (ad G 2)), some (.inl (q : Int))] [] (jW2 G g q) := by
  intro d
  induction d with
  | zero =>
    intro q h
    obtain rfl : q = 16 := by omega
    refine jy_iload_n C dX0_init_56 rfl ?_
    refine jy_bipush C dX0_init_57 (by decide +kernel) ?_
    refine jy_icmp_ge C dX0_init_59 ⟨by decide, by decide⟩ ⟨by decide, by decide⟩ (fun _ => ?_) (fun hh => absurd (by decide) hh)
    exact kk
  | succ d ih =>
    intro q h
    have hq : q < 16 := by omega
    refine jy_iload_n C dX0_init_56 rfl ?_
    refine jy_bipush C dX0_init_57 (by decide +kernel) ?_
    refine jy_icmp_ge C dX0_init_59 ⟨by omega, by omega⟩ ⟨by decide, by decide⟩ (fun hh => absurd hh (by omega)) (fun _ => ?_)
    refine jy_aload_n C dX0_init_62 rfl ?_
    unfold jW2
    refine jy_get (fs := [jr G 5, jr G 6, jr G 7, .int 0, .int 0, .int 0]) (v := .inr (ad G 6)) C 1 ft_X0 (by dsimp only; rw [jup_same]) rfl (by decide) wf_X0_19 dX0_init_63 ?_
    refine jy_iload_n C dX0_init_66 rfl ?_
    refine jk_new (ci := 4) (N := 5) (nn' := 43 + 2 * q) (k' := 40 + 2 * q) (n' := 3549 + 21 * q) (fs := [.null, .int 0, .int 0, .int 0, .int 0]) C (46 + q) ft_X4 (by decide) (by rw [had _ (by omega), rk_fam2 46 (by omega) hq]; omega) (by omega) wcl_X0_17 win_X4 wi_X4 (by rw [Yy.2]; show _ ≤ 71; omega) (by rw [Yy.2]; show _ ≤ 3880; omega) dX0_init_67 dX0_init_70 (by omega) (by omega) (by omega) ?_
    refine jy_init C Yy Nf (k_X4_init l G had hq _) yb_X4_init rfl wn_X4_init (List.mem_of_getElem? (i := 4) rfl) (by simp) ⟨rfl, rfl, Nat.le_of_ble_eq_true rfl, Nat.le_of_ble_eq_true rfl⟩ ⟨by show _ ≤ 71; omega, by show _ ≤ 3880; omega⟩ dX0_init_71 ?_
    refine jy_k (k' := 41 + 2 * q) (n' := 3565 + 21 * q) (by omega) (by omega) ?_
    refine jk_sub (S'' := (fun j => j = 7 ∨ (10 ≤ j ∧ j < 46) ∨ (46 ≤ j ∧ j < 78 ∧ (j - 46) % 16 < q + 1))) (by first | omega | (dsimp only; omega)) (by intro j; first | omega | (dsimp only; omega)) ?_
    refine jy_aast (q := 6) (v := (46 + q)) (f := jQfn G q) (r := (RX4, TX4, 5)) C 2 rfl (by dsimp only; rw [jup_ne _ _ (by decide), jadd_out (by first | omega | (dsimp only; omega)), jup_same]) (by dsimp only; rw [jup_ne _ _ (by omega), jadd_in (by first | omega | (dsimp only; omega)), jfe_PA G hq]) rfl (zI_nat q) hq (by decide) dX0_init_74 ?_
    refine jy_w (w' := jW2 G g (q + 1)) (Prod.ext (by unfold jW2; first | omega | (dsimp only; omega)) ?_) ?_
    · unfold jW2
      dsimp only
      rw [jQfn_up G hq, jup_comm (show (2 : Nat) ≠ 6 by decide), ← jadd_jup (k := 6) (by first | omega | (dsimp only; omega)), jup_twice]
    · refine jy_iinc C dX0_init_75 rfl (by decide) rfl ?_
      refine jy_goto C dX0_init_78 ?_
      refine jy_k (k' := 39 + 2 * (q + 1)) (n' := 3544 + 21 * (q + 1)) (by omega) (by omega) ?_
      exact ih (q + 1) (by omega)
set_option maxHeartbeats 4000000 in
set_option maxRecDepth 100000 in
theorem k_X0_init (l : Launch) (G : GT) (had : hadG G) (g : Nat → Option va_E) :
    MK l yX0_init cX0_init 2 jARm G (ad G 2) (3, jup g 2 (.inr (0, [.null, .null, .null, .int 0, .int 0, .int 0]))) (74, jadd G g (fun j => j = 2 ∨ (5 ≤ j ∧ j < 8) ∨ (10 ≤ j ∧ j < 78))) 71 3880 := by
  refine MK.of (by decide +kernel) (Nat.le_of_ble_eq_true rfl) rfl ?_
  intro F C Yy Nn Nf
  have hO5 : jO F RX5 := by obtain ⟨p, l, e, R, s, m, args, below, meth, c⟩ := F; exact Nf.2.1
  have hO4 : jO F RX4 := by obtain ⟨p, l, e, R, s, m, args, below, meth, c⟩ := F; exact Nf.2.2
  refine jk_0 ?_
  refine jy_aload_n C dX0_init_0 rfl ?_
  refine jy_obj C wm_X0_3 woi woc (by rw [Yy.2]; exact Nat.le_of_ble_eq_true rfl) (by rw [Yy.2]; exact Nat.le_of_ble_eq_true rfl) rfl dX0_init_1 ?_
  refine jy_aload_n C dX0_init_4 rfl ?_
  refine jy_iconst C dX0_init_5 ?_
  refine jk_newq (N := 4) (nn' := 4) (k' := 1) (n' := 4) C 5 1 (jPfn G 0) (fun t ht => if_pos ⟨Nat.zero_le _, ht⟩) (fun h => h) (by decide) rfl (by decide +kernel) (by decide) (had 5 (by decide)) (by decide) wcl_X0_9 hO5 (by rw [Yy.2]; exact Nat.le_of_ble_eq_true rfl) (by rw [Yy.2]; exact Nat.le_of_ble_eq_true rfl) dX0_init_6 rfl rfl rfl ?_
  refine jk_put (v := .inr (ad G 5)) C 0 [jr G 5, .null, .null, .int 0, .int 0, .int 0] ft_X0 (by decide) (fun _ => ⟨Nn, rfl⟩) rfl rfl (by simp) wf_X0_11 rfl dX0_init_9 ?_
  refine jy_aload_n C dX0_init_12 rfl ?_
  refine jy_bipush C dX0_init_13 (by decide +kernel) ?_
  refine jk_newq (N := 16) (nn' := 5) (k' := 2) (n' := 20) C 6 2 (jQfn G 0) (fun t ht => if_pos ⟨Nat.zero_le _, ht⟩) (fun h => h) (by decide) rfl (by decide +kernel) (by decide) (had 6 (by decide)) (by decide) wcl_X0_17 hO4 (by rw [Yy.2]; exact Nat.le_of_ble_eq_true rfl) (by rw [Yy.2]; exact Nat.le_of_ble_eq_true rfl) dX0_init_15 rfl rfl rfl ?_
  refine jk_put (v := .inr (ad G 6)) C 1 [jr G 5, jr G 6, .null, .int 0, .int 0, .int 0] ft_X0 (by decide) (fun _ => ⟨Nn, rfl⟩) rfl rfl (by simp) wf_X0_19 rfl dX0_init_18 ?_
  refine jy_aload_n C dX0_init_21 rfl ?_
  refine jy_iconst C dX0_init_22 ?_
  refine jk_newa (N := 4) (nn' := 6) (k' := 3) (n' := 24) C 7 (fun j => j = 7 ∨ (10 ≤ j ∧ j < 46 ∧ (j - 10) % 4 < 0)) (by intro j; first | omega | (dsimp only; omega) | simp) rfl (by decide) (by decide +kernel) (by decide) (had 7 (by decide)) (by decide) wac_int (by rw [Yy.2]; exact Nat.le_of_ble_eq_true rfl) (by rw [Yy.2]; exact Nat.le_of_ble_eq_true rfl) dX0_init_23 rfl rfl rfl ?_
  refine jk_put (v := .inr (ad G 7)) C 2 [jr G 5, jr G 6, jr G 7, .int 0, .int 0, .int 0] ft_X0 (by decide) (fun _ => ⟨Nn, rfl⟩) rfl rfl (by simp) wf_X0_23 rfl dX0_init_25 ?_
  refine jy_iconst C dX0_init_28 ?_
  refine jy_istore_n C dX0_init_29 (by decide) rfl ?_
  refine X0_pics C Yy Nf had ?_ 4 0 rfl
  refine jy_iconst C dX0_init_54 ?_
  refine jy_istore_n C dX0_init_55 (by decide) rfl ?_
  refine jy_w (w' := jW2 G g 0) (Prod.ext rfl ?_) ?_
  · unfold jW1 jW2
    dsimp only
    rw [jadd_ext (S' := fun j => j = 7 ∨ (10 ≤ j ∧ j < 46) ∨ (46 ≤ j ∧ j < 78 ∧ (j - 46) % 16 < 0)) (by intro j; first | omega | (dsimp only; omega))]
  refine X0_pairs C Yy Nf had ?_ 16 0 rfl
  unfold jW2
  refine jy_w (w' := (74, jadd G g (fun j => j = 2 ∨ (5 ≤ j ∧ j < 8) ∨ (10 ≤ j ∧ j < 78)))) (Prod.ext rfl ?_) ?_
  · dsimp only
    rw [jup_fin (k := 2) (show jfe G 2 = jAlb G from rfl), jup_fin (k := 5) (show jfe G 5 = jqn (jP G) 4 (jPfn G 4) from by unfold jfe; rw [jcl_5]; exact congrArg (jqn (jP G) 4) (funext fun t => (if_neg (by omega)).symm)), jup_fin (k := 6) (show jfe G 6 = jqn (jQ G) 16 (jQfn G 16) from by unfold jfe; rw [jcl_6]; exact congrArg (jqn (jQ G) 16) (funext fun t => (if_neg (by omega)).symm)), jadd_add (S'' := fun j => j = 2 ∨ j = 7 ∨ (10 ≤ j ∧ j < 78)) (by intro j; first | omega | (dsimp only; omega)), jadd_add (S'' := fun j => j = 2 ∨ (6 ≤ j ∧ j < 8) ∨ (10 ≤ j ∧ j < 78)) (by intro j; first | omega | (dsimp only; omega)), jadd_add (S'' := fun j => j = 2 ∨ (5 ≤ j ∧ j < 8) ∨ (10 ≤ j ∧ j < 78)) (by intro j; first | omega | (dsimp only; omega))]
  exact jy_vret C Nf dX0_init_81
