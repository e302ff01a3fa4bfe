set_option maxHeartbeats 4000000 in
set_option maxRecDepth 100000 in
theorem k_X8_init (l : Launch) (G : GT) (had : hadG G)  (g : Nat → Option va_E) :
    MK l yX8_init cX8_init 1 ({ frames := 4, cells := 77, slots := 4317, locals := 81 } : Room) G (ad G 0) (1, jup g 0 (.inr (8, [.null, .null, .null, .null, .int 0, .int 0]))) (78, jadd G g (fun j => j < 78)) 77 4317 := by
  refine MK.of (by decide +kernel) (Nat.le_of_ble_eq_true rfl) rfl ?_
  intro F C Yy Nn Nf
  refine jk_0 ?_
  refine jy_aload_n C dX8_init_0 rfl ?_
  refine jy_obj C wm_X8_3 woi woc (by rw [Yy.2]; exact Nat.le_of_ble_eq_true rfl) (by rw [Yy.2]; exact Nat.le_of_ble_eq_true rfl) rfl dX8_init_1 ?_
  refine jy_aload_n C dX8_init_4 rfl ?_
  refine jk_new (ci := 7) (N := 1) (nn' := 2) (k' := 1) (n' := 1) (fs := [.int 0]) C 1 ft_X7 (by decide) (had 1 (by decide)) (by omega) wcl_X8_9 win_X7 wi_X7 (by rw [Yy.2]; exact Nat.le_of_ble_eq_true rfl) (by rw [Yy.2]; exact Nat.le_of_ble_eq_true rfl) dX8_init_5 dX8_init_8 (by omega) rfl rfl ?_
  refine jy_init C Yy Nf (k_X7_init l G had _) yb_X7_init rfl wn_X7_init (List.mem_of_getElem? (i := 0) rfl) (Nat.le_of_ble_eq_true rfl) ⟨rfl, rfl, Nat.le_of_ble_eq_true rfl, Nat.le_of_ble_eq_true rfl⟩ ⟨Nat.le_of_ble_eq_true rfl, Nat.le_of_ble_eq_true rfl⟩ dX8_init_9 ?_
  refine jy_k (k' := 1) (n' := 1) rfl rfl ?_
  refine jk_sub (S'' := (fun j => j = 1)) (by first | omega | (dsimp only; omega) | simp) (by intro j; first | omega | (dsimp only; omega) | simp) ?_
  refine jk_put (v := .inr (ad G 1)) C 0 [jr G 1, .null, .null, .null, .int 0, .int 0] ft_X8 (by decide) (fun _ => ⟨Nn, rfl⟩) rfl rfl (by simp) wf_X8_12 rfl dX8_init_12 ?_
  refine jy_aload_n C dX8_init_15 rfl ?_
  refine jk_new (ci := 0) (N := 6) (nn' := 3) (k' := 2) (n' := 7) (fs := [.null, .null, .null, .int 0, .int 0, .int 0]) C 2 ft_X0 (by decide) (had 2 (by decide)) (by omega) wcl_X8_16 win_X0 wi_X0 (by rw [Yy.2]; exact Nat.le_of_ble_eq_true rfl) (by rw [Yy.2]; exact Nat.le_of_ble_eq_true rfl) dX8_init_16 dX8_init_19 (by omega) rfl rfl ?_
  refine jy_initL C Yy Nf (k_X0_init l G had _) yb_X0_init rfl wn_X0_init wm_X8_18 (Nat.le_of_ble_eq_true rfl) ⟨rfl, rfl, Nat.le_of_ble_eq_true rfl, Nat.le_of_ble_eq_true rfl⟩ ⟨Nat.le_of_ble_eq_true rfl, Nat.le_of_ble_eq_true rfl⟩ dX8_init_20 ?_
  refine jy_k (k' := 73) (n' := 3887) rfl rfl ?_
  refine jk_sub (S'' := (fun j => j = 1 ∨ (j = 2 ∨ (5 ≤ j ∧ j < 8) ∨ (10 ≤ j ∧ j < 78)))) (by first | omega | (dsimp only; omega) | simp) (by intro j; first | omega | (dsimp only; omega) | simp) ?_
  refine jk_put (v := .inr (ad G 2)) C 1 [jr G 1, jr G 2, .null, .null, .int 0, .int 0] ft_X8 (by decide) (fun _ => ⟨Nn, rfl⟩) rfl rfl (by simp) wf_X8_19 rfl dX8_init_23 ?_
  refine jy_aload_n C dX8_init_26 rfl ?_
  refine jk_new (ci := 3) (N := 7) (nn' := 75) (k' := 74) (n' := 3894) (fs := [.int 0, .int 0, .int 0, .int 0, .int 0, .int 0, .int 0]) C 3 ft_X3 (by decide) (had 3 (by decide)) (by omega) wcl_X8_23 win_X3 wi_X3 (by rw [Yy.2]; exact Nat.le_of_ble_eq_true rfl) (by rw [Yy.2]; exact Nat.le_of_ble_eq_true rfl) dX8_init_27 dX8_init_30 (by omega) rfl rfl ?_
  refine jy_init C Yy Nf (k_X3_init l G had _) yb_X3_init rfl wn_X3_init (List.mem_of_getElem? (i := 5) rfl) (Nat.le_of_ble_eq_true rfl) ⟨rfl, rfl, Nat.le_of_ble_eq_true rfl, Nat.le_of_ble_eq_true rfl⟩ ⟨Nat.le_of_ble_eq_true rfl, Nat.le_of_ble_eq_true rfl⟩ dX8_init_31 ?_
  refine jy_k (k' := 74) (n' := 3894) rfl rfl ?_
  refine jk_sub (S'' := (fun j => j = 1 ∨ (j = 2 ∨ (5 ≤ j ∧ j < 8) ∨ (10 ≤ j ∧ j < 78)) ∨ j = 3)) (by first | omega | (dsimp only; omega) | simp) (by intro j; first | omega | (dsimp only; omega) | simp) ?_
  refine jk_put (v := .inr (ad G 3)) C 2 [jr G 1, jr G 2, jr G 3, .null, .int 0, .int 0] ft_X8 (by decide) (fun _ => ⟨Nn, rfl⟩) rfl rfl (by simp) wf_X8_26 rfl dX8_init_34 ?_
  refine jy_aload_n C dX8_init_37 rfl ?_
  refine jk_new (ci := 6) (N := 3) (nn' := 76) (k' := 75) (n' := 3897) (fs := [.null, .null, .int 0]) C 4 ft_X6 (by decide) (had 4 (by decide)) (by omega) wcl_X8_30 win_X6 wi_X6 (by rw [Yy.2]; exact Nat.le_of_ble_eq_true rfl) (by rw [Yy.2]; exact Nat.le_of_ble_eq_true rfl) dX8_init_38 dX8_init_41 (by omega) rfl rfl ?_
  refine jy_init C Yy Nf (k_X6_init l G had _) yb_X6_init rfl wn_X6_init (List.mem_of_getElem? (i := 6) rfl) (Nat.le_of_ble_eq_true rfl) ⟨rfl, rfl, Nat.le_of_ble_eq_true rfl, Nat.le_of_ble_eq_true rfl⟩ ⟨Nat.le_of_ble_eq_true rfl, Nat.le_of_ble_eq_true rfl⟩ dX8_init_42 ?_
  refine jy_k (k' := 77) (n' := 4317) rfl rfl ?_
  refine jk_sub (S'' := (fun j => j = 1 ∨ (j = 2 ∨ (5 ≤ j ∧ j < 8) ∨ (10 ≤ j ∧ j < 78)) ∨ j = 3 ∨ j = 4 ∨ j = 8 ∨ j = 9)) (by first | omega | (dsimp only; omega) | simp) (by intro j; first | omega | (dsimp only; omega) | simp) ?_
  refine jk_put (v := .inr (ad G 4)) C 3 [jr G 1, jr G 2, jr G 3, jr G 4, .int 0, .int 0] ft_X8 (by decide) (fun _ => ⟨Nn, rfl⟩) rfl rfl (by simp) wf_X8_33 rfl dX8_init_45 ?_
  refine jy_aload_n C dX8_init_48 rfl ?_
  refine jy_sipush C dX8_init_49 (by decide +kernel) ?_
  refine jk_put (v := .inl (5000)) C 4 [jr G 1, jr G 2, jr G 3, jr G 4, .int (zI (5000)), .int 0] ft_X8 (by decide) (fun _ => ⟨Nn, rfl⟩) rfl rfl (by simp) wf_X8_37 rfl dX8_init_52 ?_
  refine jy_aload_n C dX8_init_55 rfl ?_
  refine jy_iconst C dX8_init_56 ?_
  refine jk_put (v := .inl (2)) C 5 [jr G 1, jr G 2, jr G 3, jr G 4, .int (zI (5000)), .int (zI (2))] ft_X8 (by decide) (fun _ => ⟨Nn, rfl⟩) rfl rfl (by simp) wf_X8_41 rfl dX8_init_57 ?_
  exact jk_ret C Nf rfl (by intro j; first | omega | (dsimp only; omega) | simp) rfl rfl rfl dX8_init_60
