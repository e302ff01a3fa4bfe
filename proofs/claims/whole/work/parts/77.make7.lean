set_option maxHeartbeats 4000000 in
set_option maxRecDepth 100000 in
theorem k_X7_init (l : Launch) (G : GT) (had : hadG G)  (g : Nat → Option va_E) :
    MK l yX7_init cX7_init 1 ({ frames := 1, cells := 0, slots := 0, locals := 20 } : Room) G (ad G 1) (2, jup g 1 (.inr (7, [.int 0]))) (2, jadd G g (fun j => j = 1)) 0 0 := by
  refine MK.of (by decide +kernel) (Nat.le_of_ble_eq_true rfl) rfl ?_
  intro F C Yy Nn Nf
  refine jk_0 ?_
  refine jy_aload_n C dX7_init_0 rfl ?_
  refine jy_obj C wm_X7_3 woi woc (by rw [Yy.2]; exact Nat.le_of_ble_eq_true rfl) (by rw [Yy.2]; exact Nat.le_of_ble_eq_true rfl) rfl dX7_init_1 ?_
  exact jk_ret C Nf rfl (by intro j; first | omega | (dsimp only; omega) | simp) rfl rfl rfl dX7_init_4
set_option maxHeartbeats 4000000 in
set_option maxRecDepth 100000 in
theorem k_X3_init (l : Launch) (G : GT) (had : hadG G)  (g : Nat → Option va_E) :
    MK l yX3_init cX3_init 1 ({ frames := 1, cells := 0, slots := 0, locals := 20 } : Room) G (ad G 3) (75, jup g 3 (.inr (3, [.int 0, .int 0, .int 0, .int 0, .int 0, .int 0, .int 0]))) (75, jadd G g (fun j => j = 3)) 0 0 := by
  refine MK.of (by decide +kernel) (Nat.le_of_ble_eq_true rfl) rfl ?_
  intro F C Yy Nn Nf
  refine jk_0 ?_
  refine jy_aload_n C dX3_init_0 rfl ?_
  refine jy_obj C wm_X3_3 woi woc (by rw [Yy.2]; exact Nat.le_of_ble_eq_true rfl) (by rw [Yy.2]; exact Nat.le_of_ble_eq_true rfl) rfl dX3_init_1 ?_
  exact jk_ret C Nf rfl (by intro j; first | omega | (dsimp only; omega) | simp) rfl rfl rfl dX3_init_4
set_option maxHeartbeats 4000000 in
set_option maxRecDepth 100000 in
theorem k_X6_init (l : Launch) (G : GT) (had : hadG G)  (g : Nat → Option va_E) :
    MK l yX6_init cX6_init 1 ({ frames := 1, cells := 2, slots := 420, locals := 20 } : Room) G (ad G 4) (76, jup g 4 (.inr (6, [.null, .null, .int 0]))) (78, jadd G g (fun j => j = 4 ∨ j = 8 ∨ j = 9)) 2 420 := by
  refine MK.of (by decide +kernel) (Nat.le_of_ble_eq_true rfl) rfl ?_
  intro F C Yy Nn Nf
  refine jk_0 ?_
  refine jy_aload_n C dX6_init_0 rfl ?_
  refine jy_obj C wm_X6_3 woi woc (by rw [Yy.2]; exact Nat.le_of_ble_eq_true rfl) (by rw [Yy.2]; exact Nat.le_of_ble_eq_true rfl) rfl dX6_init_1 ?_
  refine jy_aload_n C dX6_init_4 rfl ?_
  refine jy_sipush C dX6_init_5 (by decide +kernel) ?_
  refine jk_newa (N := 400) (nn' := 77) (k' := 1) (n' := 400) C 8 (fun j => j = 8) (by intro j; first | omega | (dsimp only; omega) | simp) rfl (by omega) (by decide +kernel) (by decide) (had 8 (by decide)) (by omega) wac_int (by rw [Yy.2]; exact Nat.le_of_ble_eq_true rfl) (by rw [Yy.2]; exact Nat.le_of_ble_eq_true rfl) dX6_init_8 (by omega) rfl rfl ?_
  refine jk_put (v := .inr (ad G 8)) C 0 [jr G 8, .null, .int 0] ft_X6 (by decide) (fun _ => ⟨Nn, rfl⟩) rfl rfl (by simp) wf_X6_9 rfl dX6_init_10 ?_
  refine jy_aload_n C dX6_init_13 rfl ?_
  refine jy_bipush C dX6_init_14 (by decide +kernel) ?_
  refine jk_newa (N := 20) (nn' := 78) (k' := 2) (n' := 420) C 9 (fun j => j = 8 ∨ j = 9) (by intro j; first | omega | (dsimp only; omega) | simp) rfl (by omega) (by decide +kernel) (by decide) (had 9 (by decide)) (by omega) wac_int (by rw [Yy.2]; exact Nat.le_of_ble_eq_true rfl) (by rw [Yy.2]; exact Nat.le_of_ble_eq_true rfl) dX6_init_16 (by omega) rfl rfl ?_
  refine jk_put (v := .inr (ad G 9)) C 1 [jr G 8, jr G 9, .int 0] ft_X6 (by decide) (fun _ => ⟨Nn, rfl⟩) rfl rfl (by simp) wf_X6_15 rfl dX6_init_18 ?_
  exact jk_ret C Nf rfl (by intro j; first | omega | (dsimp only; omega) | simp) rfl rfl rfl dX6_init_21
set_option maxHeartbeats 4000000 in
set_option maxRecDepth 100000 in
theorem k_X1_init (l : Launch) (G : GT) (had : hadG G) {p : Nat} (hp : p < 4) (g : Nat → Option va_E) :
    MK l yX1_init cX1_init 1 ({ frames := 1, cells := 2, slots := 800, locals := 20 } : Room) G (ad G (14 + p)) (8 + 9 * p, jup g (14 + p) (.inr (1, [.null, .null, .int 0, .int 0, .int 0]))) (10 + 9 * p, jadd G g (fun j => j = 14 + p ∨ j = 18 + p ∨ j = 22 + p)) 2 800 := by
  refine MK.of (by decide +kernel) (Nat.le_of_ble_eq_true rfl) rfl ?_
  intro F C Yy Nn Nf
  refine jk_0 ?_
  refine jy_aload_n C dX1_init_0 rfl ?_
  refine jy_obj C wm_X1_3 woi woc (by rw [Yy.2]; exact Nat.le_of_ble_eq_true rfl) (by rw [Yy.2]; exact Nat.le_of_ble_eq_true rfl) rfl dX1_init_1 ?_
  refine jy_aload_n C dX1_init_4 rfl ?_
  refine jy_sipush C dX1_init_5 (by decide +kernel) ?_
  refine jk_newa (N := 400) (nn' := 9 + 9 * p) (k' := 1) (n' := 400) C (18 + p) (fun j => j = 18 + p) (by intro j; first | omega | (dsimp only; omega) | simp) (jfe_va G hp) (by omega) (by decide +kernel) (by decide) (by rw [had _ (by omega), rk_fam 18 (by omega) hp]; omega) (by omega) wac_int (by rw [Yy.2]; exact Nat.le_of_ble_eq_true rfl) (by rw [Yy.2]; exact Nat.le_of_ble_eq_true rfl) dX1_init_8 (by omega) rfl rfl ?_
  refine jk_put (v := .inr (ad G (18 + p))) C 0 [jr G (18 + p), .null, .int 0, .int 0, .int 0] ft_X1 (by decide) (fun _ => ⟨Nn, rfl⟩) rfl rfl (by simp) wf_X1_9 rfl dX1_init_10 ?_
  refine jy_aload_n C dX1_init_13 rfl ?_
  refine jy_sipush C dX1_init_14 (by decide +kernel) ?_
  refine jk_newa (N := 400) (nn' := 10 + 9 * p) (k' := 2) (n' := 800) C (22 + p) (fun j => j = 18 + p ∨ j = 22 + p) (by intro j; first | omega | (dsimp only; omega) | simp) (jfe_sc G hp) (by omega) (by decide +kernel) (by decide) (by rw [had _ (by omega), rk_fam 22 (by omega) hp]; omega) (by omega) wac_int (by rw [Yy.2]; exact Nat.le_of_ble_eq_true rfl) (by rw [Yy.2]; exact Nat.le_of_ble_eq_true rfl) dX1_init_17 (by omega) rfl rfl ?_
  refine jk_put (v := .inr (ad G (22 + p))) C 1 [jr G (18 + p), jr G (22 + p), .int 0, .int 0, .int 0] ft_X1 (by decide) (fun _ => ⟨Nn, rfl⟩) rfl rfl (by simp) wf_X1_15 rfl dX1_init_19 ?_
  exact jk_ret C Nf (jfe_DO G hp) (by intro j; first | omega | (dsimp only; omega) | simp) (by omega) rfl rfl dX1_init_22
set_option maxHeartbeats 4000000 in
set_option maxRecDepth 100000 in
theorem k_X2_init (l : Launch) (G : GT) (had : hadG G) {p : Nat} (hp : p < 4) (g : Nat → Option va_E) :
    MK l yX2_init cX2_init 1 ({ frames := 1, cells := 4, slots := 64, locals := 20 } : Room) G (ad G (26 + p)) (11 + 9 * p, jup g (26 + p) (.inr (2, [.null, .null, .null, .null, .int 0]))) (15 + 9 * p, jadd G g (fun j => j = 26 + p ∨ j = 30 + p ∨ j = 34 + p ∨ j = 38 + p ∨ j = 42 + p)) 4 64 := by
  refine MK.of (by decide +kernel) (Nat.le_of_ble_eq_true rfl) rfl ?_
  intro F C Yy Nn Nf
  refine jk_0 ?_
  refine jy_aload_n C dX2_init_0 rfl ?_
  refine jy_obj C wm_X2_3 woi woc (by rw [Yy.2]; exact Nat.le_of_ble_eq_true rfl) (by rw [Yy.2]; exact Nat.le_of_ble_eq_true rfl) rfl dX2_init_1 ?_
  refine jy_aload_n C dX2_init_4 rfl ?_
  refine jy_bipush C dX2_init_5 (by decide +kernel) ?_
  refine jk_newa (N := 16) (nn' := 12 + 9 * p) (k' := 1) (n' := 16) C (30 + p) (fun j => j = 30 + p) (by intro j; first | omega | (dsimp only; omega) | simp) (jfe_co G hp) (by omega) (by decide +kernel) (by decide) (by rw [had _ (by omega), rk_fam 30 (by omega) hp]; omega) (by omega) wac_int (by rw [Yy.2]; exact Nat.le_of_ble_eq_true rfl) (by rw [Yy.2]; exact Nat.le_of_ble_eq_true rfl) dX2_init_7 (by omega) rfl rfl ?_
  refine jk_put (v := .inr (ad G (30 + p))) C 0 [jr G (30 + p), .null, .null, .null, .int 0] ft_X2 (by decide) (fun _ => ⟨Nn, rfl⟩) rfl rfl (by simp) wf_X2_9 rfl dX2_init_9 ?_
  refine jy_aload_n C dX2_init_12 rfl ?_
  refine jy_bipush C dX2_init_13 (by decide +kernel) ?_
  refine jk_newa (N := 16) (nn' := 13 + 9 * p) (k' := 2) (n' := 32) C (34 + p) (fun j => j = 30 + p ∨ j = 34 + p) (by intro j; first | omega | (dsimp only; omega) | simp) (jfe_ro G hp) (by omega) (by decide +kernel) (by decide) (by rw [had _ (by omega), rk_fam 34 (by omega) hp]; omega) (by omega) wac_int (by rw [Yy.2]; exact Nat.le_of_ble_eq_true rfl) (by rw [Yy.2]; exact Nat.le_of_ble_eq_true rfl) dX2_init_15 (by omega) rfl rfl ?_
  refine jk_put (v := .inr (ad G (34 + p))) C 1 [jr G (30 + p), jr G (34 + p), .null, .null, .int 0] ft_X2 (by decide) (fun _ => ⟨Nn, rfl⟩) rfl rfl (by simp) wf_X2_15 rfl dX2_init_17 ?_
  refine jy_aload_n C dX2_init_20 rfl ?_
  refine jy_bipush C dX2_init_21 (by decide +kernel) ?_
  refine jk_newa (N := 16) (nn' := 14 + 9 * p) (k' := 3) (n' := 48) C (38 + p) (fun j => j = 30 + p ∨ j = 34 + p ∨ j = 38 + p) (by intro j; first | omega | (dsimp only; omega) | simp) (jfe_he G hp) (by omega) (by decide +kernel) (by decide) (by rw [had _ (by omega), rk_fam 38 (by omega) hp]; omega) (by omega) wac_int (by rw [Yy.2]; exact Nat.le_of_ble_eq_true rfl) (by rw [Yy.2]; exact Nat.le_of_ble_eq_true rfl) dX2_init_23 (by omega) rfl rfl ?_
  refine jk_put (v := .inr (ad G (38 + p))) C 2 [jr G (30 + p), jr G (34 + p), jr G (38 + p), .null, .int 0] ft_X2 (by decide) (fun _ => ⟨Nn, rfl⟩) rfl rfl (by simp) wf_X2_18 rfl dX2_init_25 ?_
  refine jy_aload_n C dX2_init_28 rfl ?_
  refine jy_bipush C dX2_init_29 (by decide +kernel) ?_
  refine jk_newa (N := 16) (nn' := 15 + 9 * p) (k' := 4) (n' := 64) C (42 + p) (fun j => j = 30 + p ∨ j = 34 + p ∨ j = 38 + p ∨ j = 42 + p) (by intro j; first | omega | (dsimp only; omega) | simp) (jfe_si G hp) (by omega) (by decide +kernel) (by decide) (by rw [had _ (by omega), rk_fam 42 (by omega) hp]; omega) (by omega) wac_int (by rw [Yy.2]; exact Nat.le_of_ble_eq_true rfl) (by rw [Yy.2]; exact Nat.le_of_ble_eq_true rfl) dX2_init_31 (by omega) rfl rfl ?_
  refine jk_put (v := .inr (ad G (42 + p))) C 3 [jr G (30 + p), jr G (34 + p), jr G (38 + p), jr G (42 + p), .int 0] ft_X2 (by decide) (fun _ => ⟨Nn, rfl⟩) rfl rfl (by simp) wf_X2_21 rfl dX2_init_33 ?_
  exact jk_ret C Nf (jfe_MA G hp) (by intro j; first | omega | (dsimp only; omega) | simp) (by omega) rfl rfl dX2_init_36
set_option maxHeartbeats 4000000 in
set_option maxRecDepth 100000 in
theorem k_X4_init (l : Launch) (G : GT) (had : hadG G) {q : Nat} (hq : q < 16) (g : Nat → Option va_E) :
    MK l yX4_init cX4_init 1 ({ frames := 1, cells := 1, slots := 16, locals := 20 } : Room) G (ad G (46 + q)) (43 + 2 * q, jup g (46 + q) (.inr (4, [.null, .int 0, .int 0, .int 0, .int 0]))) (44 + 2 * q, jadd G g (fun j => j = 46 + q ∨ j = 62 + q)) 1 16 := by
  refine MK.of (by decide +kernel) (Nat.le_of_ble_eq_true rfl) rfl ?_
  intro F C Yy Nn Nf
  refine jk_0 ?_
  refine jy_aload_n C dX4_init_0 rfl ?_
  refine jy_obj C wm_X4_3 woi woc (by rw [Yy.2]; exact Nat.le_of_ble_eq_true rfl) (by rw [Yy.2]; exact Nat.le_of_ble_eq_true rfl) rfl dX4_init_1 ?_
  refine jy_aload_n C dX4_init_4 rfl ?_
  refine jy_bipush C dX4_init_5 (by decide +kernel) ?_
  refine jk_newa (N := 16) (nn' := 44 + 2 * q) (k' := 1) (n' := 16) C (62 + q) (fun j => j = 62 + q) (by intro j; first | omega | (dsimp only; omega) | simp) (jfe_pa G hq) (by omega) (by decide +kernel) (by decide) (by rw [had _ (by omega), rk_fam2 62 (by omega) hq]; omega) (by omega) wac_int (by rw [Yy.2]; exact Nat.le_of_ble_eq_true rfl) (by rw [Yy.2]; exact Nat.le_of_ble_eq_true rfl) dX4_init_7 (by omega) rfl rfl ?_
  refine jk_put (v := .inr (ad G (62 + q))) C 0 [jr G (62 + q), .int 0, .int 0, .int 0, .int 0] ft_X4 (by decide) (fun _ => ⟨Nn, rfl⟩) rfl rfl (by simp) wf_X4_9 rfl dX4_init_9 ?_
  exact jk_ret C Nf (jfe_PA G hq) (by intro j; first | omega | (dsimp only; omega) | simp) (by omega) rfl rfl dX4_init_12
set_option maxHeartbeats 4000000 in
set_option maxRecDepth 100000 in
theorem k_X5_init (l : Launch) (G : GT) (had : hadG G) {p : Nat} (hp : p < 4) (g : Nat → Option va_E) :
    MK l yX5_init cX5_init 1 ({ frames := 2, cells := 8, slots := 874, locals := 40 } : Room) G (ad G (10 + p)) (7 + 9 * p, jup g (10 + p) (.inr (5, [.null, .null, .int 0, .int 0, .int 0, .int 0]))) (15 + 9 * p, jadd G g (fun j => j = 10 + p ∨ j = 14 + p ∨ j = 18 + p ∨ j = 22 + p ∨ j = 26 + p ∨ j = 30 + p ∨ j = 34 + p ∨ j = 38 + p ∨ j = 42 + p)) 8 874 := by
  refine MK.of (by decide +kernel) (Nat.le_of_ble_eq_true rfl) rfl ?_
  intro F C Yy Nn Nf
  refine jk_0 ?_
  refine jy_aload_n C dX5_init_0 rfl ?_
  refine jy_obj C wm_X5_3 woi woc (by rw [Yy.2]; exact Nat.le_of_ble_eq_true rfl) (by rw [Yy.2]; exact Nat.le_of_ble_eq_true rfl) rfl dX5_init_1 ?_
  refine jy_aload_n C dX5_init_4 rfl ?_
  refine jk_new (ci := 1) (N := 5) (nn' := 8 + 9 * p) (k' := 1) (n' := 5) (fs := [.null, .null, .int 0, .int 0, .int 0]) C (14 + p) ft_X1 (by decide) (by rw [had _ (by omega), rk_fam 14 (by omega) hp]; omega) (by omega) wcl_X5_9 win_X1 wi_X1 (by rw [Yy.2]; exact Nat.le_of_ble_eq_true rfl) (by rw [Yy.2]; exact Nat.le_of_ble_eq_true rfl) dX5_init_5 dX5_init_8 (by omega) rfl rfl ?_
  refine jy_init C Yy Nf (k_X1_init l G had hp _) yb_X1_init rfl wn_X1_init (List.mem_of_getElem? (i := 2) rfl) (Nat.le_of_ble_eq_true rfl) ⟨rfl, rfl, Nat.le_of_ble_eq_true rfl, Nat.le_of_ble_eq_true rfl⟩ ⟨Nat.le_of_ble_eq_true rfl, Nat.le_of_ble_eq_true rfl⟩ dX5_init_9 ?_
  refine jy_k (k' := 3) (n' := 805) rfl rfl ?_
  refine jk_sub (S'' := (fun j => j = 14 + p ∨ j = 18 + p ∨ j = 22 + p)) (by first | omega | (dsimp only; omega) | simp) (by intro j; first | omega | (dsimp only; omega) | simp) ?_
  refine jk_put (v := .inr (ad G (14 + p))) C 0 [jr G (14 + p), .null, .int 0, .int 0, .int 0, .int 0] ft_X5 (by decide) (fun _ => ⟨Nn, rfl⟩) rfl rfl (by simp) wf_X5_12 rfl dX5_init_12 ?_
  refine jy_aload_n C dX5_init_15 rfl ?_
  refine jk_new (ci := 2) (N := 5) (nn' := 11 + 9 * p) (k' := 4) (n' := 810) (fs := [.null, .null, .null, .null, .int 0]) C (26 + p) ft_X2 (by decide) (by rw [had _ (by omega), rk_fam 26 (by omega) hp]; omega) (by omega) wcl_X5_18 win_X2 wi_X2 (by rw [Yy.2]; exact Nat.le_of_ble_eq_true rfl) (by rw [Yy.2]; exact Nat.le_of_ble_eq_true rfl) dX5_init_16 dX5_init_19 (by omega) rfl rfl ?_
  refine jy_init C Yy Nf (k_X2_init l G had hp _) yb_X2_init rfl wn_X2_init (List.mem_of_getElem? (i := 3) rfl) (Nat.le_of_ble_eq_true rfl) ⟨rfl, rfl, Nat.le_of_ble_eq_true rfl, Nat.le_of_ble_eq_true rfl⟩ ⟨Nat.le_of_ble_eq_true rfl, Nat.le_of_ble_eq_true rfl⟩ dX5_init_20 ?_
  refine jy_k (k' := 8) (n' := 874) rfl rfl ?_
  refine jk_sub (S'' := (fun j => j = 14 + p ∨ j = 18 + p ∨ j = 22 + p ∨ j = 26 + p ∨ j = 30 + p ∨ j = 34 + p ∨ j = 38 + p ∨ j = 42 + p)) (by first | omega | (dsimp only; omega) | simp) (by intro j; first | omega | (dsimp only; omega) | simp) ?_
  refine jk_put (v := .inr (ad G (26 + p))) C 1 [jr G (14 + p), jr G (26 + p), .int 0, .int 0, .int 0, .int 0] ft_X5 (by decide) (fun _ => ⟨Nn, rfl⟩) rfl rfl (by simp) wf_X5_21 rfl dX5_init_23 ?_
  refine jy_aload_n C dX5_init_26 rfl ?_
  refine jy_bipush C dX5_init_27 (by decide +kernel) ?_
  refine jk_put (v := .inl (-6)) C 5 [jr G (14 + p), jr G (26 + p), .int 0, .int 0, .int 0, .int (zI (-6))] ft_X5 (by decide) (fun _ => ⟨Nn, rfl⟩) rfl rfl (by simp) wf_X5_25 rfl dX5_init_29 ?_
  exact jk_ret C Nf (jfe_PI G hp) (by intro j; first | omega | (dsimp only; omega) | simp) (by omega) rfl rfl dX5_init_32
