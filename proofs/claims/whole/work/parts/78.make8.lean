set_option maxHeartbeats 4000000 in
set_option maxRecDepth 100000 in
theorem k_X9_init (l : Launch) (G : GT) (had : hadG G)  (g : Nat → Option va_E) :
    MK l yX9_init cX9_init 1 ({ frames := 1, cells := 17, slots := 4076, locals := 20 } : Room) G (ad G 78) (79, jup g 78 (.inr (9, [.int 0, .int 0, .null, .null, .null, .int 0, .int 0, .int 0, .null, .null, .null, .null, .null, .null, .null, .null, .null, .int 0, .null, .null, .null, .null, .int 0, .int 0, .int 0, .int 0, .null]))) (96, jadd G g (fun j => 78 ≤ j ∧ j < 96)) 17 4076 := by
  refine MK.of (by decide +kernel) (Nat.le_of_ble_eq_true rfl) rfl ?_
  intro F C Yy Nn Nf
  refine jk_0 ?_
  refine jy_aload_n C dX9_init_0 rfl ?_
  refine jy_obj C wm_X9_1 woi woc (by rw [Yy.2]; exact Nat.le_of_ble_eq_true rfl) (by rw [Yy.2]; exact Nat.le_of_ble_eq_true rfl) rfl dX9_init_1 ?_
  refine jy_aload_n C dX9_init_4 rfl ?_
  refine jy_iconst C dX9_init_5 ?_
  refine jk_newa (N := 4) (nn' := 80) (k' := 1) (n' := 4) C 79 (fun j => j = 79) (by intro j; first | omega | (dsimp only; omega) | simp) rfl (by omega) (by decide +kernel) (by decide) (had 79 (by decide)) (by omega) wac_int (by rw [Yy.2]; exact Nat.le_of_ble_eq_true rfl) (by rw [Yy.2]; exact Nat.le_of_ble_eq_true rfl) dX9_init_6 (by omega) rfl rfl ?_
  refine jk_put (v := .inr (ad G 79)) C 2 [.int 0, .int 0, jr G 79, .null, .null, .int 0, .int 0, .int 0, .null, .null, .null, .null, .null, .null, .null, .null, .null, .int 0, .null, .null, .null, .null, .int 0, .int 0, .int 0, .int 0, .null] ft_X9 (by decide) (fun _ => ⟨Nn, rfl⟩) rfl rfl (by simp) wf_X9_7 rfl dX9_init_8 ?_
  refine jy_aload_n C dX9_init_11 rfl ?_
  refine jy_iconst C dX9_init_12 ?_
  refine jk_newa (N := 4) (nn' := 81) (k' := 2) (n' := 8) C 80 (fun j => j = 79 ∨ j = 80) (by intro j; first | omega | (dsimp only; omega) | simp) rfl (by omega) (by decide +kernel) (by decide) (had 80 (by decide)) (by omega) wac_int (by rw [Yy.2]; exact Nat.le_of_ble_eq_true rfl) (by rw [Yy.2]; exact Nat.le_of_ble_eq_true rfl) dX9_init_13 (by omega) rfl rfl ?_
  refine jk_put (v := .inr (ad G 80)) C 3 [.int 0, .int 0, jr G 79, jr G 80, .null, .int 0, .int 0, .int 0, .null, .null, .null, .null, .null, .null, .null, .null, .null, .int 0, .null, .null, .null, .null, .int 0, .int 0, .int 0, .int 0, .null] ft_X9 (by decide) (fun _ => ⟨Nn, rfl⟩) rfl rfl (by simp) wf_X9_13 rfl dX9_init_15 ?_
  refine jy_aload_n C dX9_init_18 rfl ?_
  refine jy_sipush C dX9_init_19 (by decide +kernel) ?_
  refine jk_newa (N := 1600) (nn' := 82) (k' := 3) (n' := 1608) C 81 (fun j => j = 79 ∨ j = 80 ∨ j = 81) (by intro j; first | omega | (dsimp only; omega) | simp) rfl (by omega) (by decide +kernel) (by decide) (had 81 (by decide)) (by omega) wac_int (by rw [Yy.2]; exact Nat.le_of_ble_eq_true rfl) (by rw [Yy.2]; exact Nat.le_of_ble_eq_true rfl) dX9_init_22 (by omega) rfl rfl ?_
  refine jk_put (v := .inr (ad G 81)) C 4 [.int 0, .int 0, jr G 79, jr G 80, jr G 81, .int 0, .int 0, .int 0, .null, .null, .null, .null, .null, .null, .null, .null, .null, .int 0, .null, .null, .null, .null, .int 0, .int 0, .int 0, .int 0, .null] ft_X9 (by decide) (fun _ => ⟨Nn, rfl⟩) rfl rfl (by simp) wf_X9_16 rfl dX9_init_24 ?_
  refine jy_aload_n C dX9_init_27 rfl ?_
  refine jy_sipush C dX9_init_28 (by decide +kernel) ?_
  refine jk_put (v := .inl (5000)) C 5 [.int 0, .int 0, jr G 79, jr G 80, jr G 81, .int (zI (5000)), .int 0, .int 0, .null, .null, .null, .null, .null, .null, .null, .null, .null, .int 0, .null, .null, .null, .null, .int 0, .int 0, .int 0, .int 0, .null] ft_X9 (by decide) (fun _ => ⟨Nn, rfl⟩) rfl rfl (by simp) wf_X9_19 rfl dX9_init_31 ?_
  refine jy_aload_n C dX9_init_34 rfl ?_
  refine jy_iconst C dX9_init_35 ?_
  refine jk_put (v := .inl (2)) C 6 [.int 0, .int 0, jr G 79, jr G 80, jr G 81, .int (zI (5000)), .int (zI (2)), .int 0, .null, .null, .null, .null, .null, .null, .null, .null, .null, .int 0, .null, .null, .null, .null, .int 0, .int 0, .int 0, .int 0, .null] ft_X9 (by decide) (fun _ => ⟨Nn, rfl⟩) rfl rfl (by simp) wf_X9_23 rfl dX9_init_36 ?_
  refine jy_aload_n C dX9_init_39 rfl ?_
  refine jy_sipush C dX9_init_40 (by decide +kernel) ?_
  refine jk_newa (N := 1600) (nn' := 83) (k' := 4) (n' := 3208) C 82 (fun j => j = 79 ∨ j = 80 ∨ j = 81 ∨ j = 82) (by intro j; first | omega | (dsimp only; omega) | simp) rfl (by omega) (by decide +kernel) (by decide) (had 82 (by decide)) (by omega) wac_int (by rw [Yy.2]; exact Nat.le_of_ble_eq_true rfl) (by rw [Yy.2]; exact Nat.le_of_ble_eq_true rfl) dX9_init_43 (by omega) rfl rfl ?_
  refine jk_put (v := .inr (ad G 82)) C 8 [.int 0, .int 0, jr G 79, jr G 80, jr G 81, .int (zI (5000)), .int (zI (2)), .int 0, jr G 82, .null, .null, .null, .null, .null, .null, .null, .null, .int 0, .null, .null, .null, .null, .int 0, .int 0, .int 0, .int 0, .null] ft_X9 (by decide) (fun _ => ⟨Nn, rfl⟩) rfl rfl (by simp) wf_X9_26 rfl dX9_init_45 ?_
  refine jy_aload_n C dX9_init_48 rfl ?_
  refine jy_iconst C dX9_init_49 ?_
  refine jk_newa (N := 4) (nn' := 84) (k' := 5) (n' := 3212) C 83 (fun j => j = 79 ∨ j = 80 ∨ j = 81 ∨ j = 82 ∨ j = 83) (by intro j; first | omega | (dsimp only; omega) | simp) rfl (by omega) (by decide +kernel) (by decide) (had 83 (by decide)) (by omega) wac_int (by rw [Yy.2]; exact Nat.le_of_ble_eq_true rfl) (by rw [Yy.2]; exact Nat.le_of_ble_eq_true rfl) dX9_init_50 (by omega) rfl rfl ?_
  refine jk_put (v := .inr (ad G 83)) C 9 [.int 0, .int 0, jr G 79, jr G 80, jr G 81, .int (zI (5000)), .int (zI (2)), .int 0, jr G 82, jr G 83, .null, .null, .null, .null, .null, .null, .null, .int 0, .null, .null, .null, .null, .int 0, .int 0, .int 0, .int 0, .null] ft_X9 (by decide) (fun _ => ⟨Nn, rfl⟩) rfl rfl (by simp) wf_X9_29 rfl dX9_init_52 ?_
  refine jy_aload_n C dX9_init_55 rfl ?_
  refine jy_bipush C dX9_init_56 (by decide +kernel) ?_
  refine jk_newa (N := 64) (nn' := 85) (k' := 6) (n' := 3276) C 84 (fun j => j = 79 ∨ j = 80 ∨ j = 81 ∨ j = 82 ∨ j = 83 ∨ j = 84) (by intro j; first | omega | (dsimp only; omega) | simp) rfl (by omega) (by decide +kernel) (by decide) (had 84 (by decide)) (by omega) wac_int (by rw [Yy.2]; exact Nat.le_of_ble_eq_true rfl) (by rw [Yy.2]; exact Nat.le_of_ble_eq_true rfl) dX9_init_58 (by omega) rfl rfl ?_
  refine jk_put (v := .inr (ad G 84)) C 10 [.int 0, .int 0, jr G 79, jr G 80, jr G 81, .int (zI (5000)), .int (zI (2)), .int 0, jr G 82, jr G 83, jr G 84, .null, .null, .null, .null, .null, .null, .int 0, .null, .null, .null, .null, .int 0, .int 0, .int 0, .int 0, .null] ft_X9 (by decide) (fun _ => ⟨Nn, rfl⟩) rfl rfl (by simp) wf_X9_32 rfl dX9_init_60 ?_
  refine jy_aload_n C dX9_init_63 rfl ?_
  refine jy_bipush C dX9_init_64 (by decide +kernel) ?_
  refine jk_newa (N := 64) (nn' := 86) (k' := 7) (n' := 3340) C 85 (fun j => j = 79 ∨ j = 80 ∨ j = 81 ∨ j = 82 ∨ j = 83 ∨ j = 84 ∨ j = 85) (by intro j; first | omega | (dsimp only; omega) | simp) rfl (by omega) (by decide +kernel) (by decide) (had 85 (by decide)) (by omega) wac_int (by rw [Yy.2]; exact Nat.le_of_ble_eq_true rfl) (by rw [Yy.2]; exact Nat.le_of_ble_eq_true rfl) dX9_init_66 (by omega) rfl rfl ?_
  refine jk_put (v := .inr (ad G 85)) C 11 [.int 0, .int 0, jr G 79, jr G 80, jr G 81, .int (zI (5000)), .int (zI (2)), .int 0, jr G 82, jr G 83, jr G 84, jr G 85, .null, .null, .null, .null, .null, .int 0, .null, .null, .null, .null, .int 0, .int 0, .int 0, .int 0, .null] ft_X9 (by decide) (fun _ => ⟨Nn, rfl⟩) rfl rfl (by simp) wf_X9_35 rfl dX9_init_68 ?_
  refine jy_aload_n C dX9_init_71 rfl ?_
  refine jy_sipush C dX9_init_72 (by decide +kernel) ?_
  refine jk_newa (N := 256) (nn' := 87) (k' := 8) (n' := 3596) C 86 (fun j => j = 79 ∨ j = 80 ∨ j = 81 ∨ j = 82 ∨ j = 83 ∨ j = 84 ∨ j = 85 ∨ j = 86) (by intro j; first | omega | (dsimp only; omega) | simp) rfl (by omega) (by decide +kernel) (by decide) (had 86 (by decide)) (by omega) wac_int (by rw [Yy.2]; exact Nat.le_of_ble_eq_true rfl) (by rw [Yy.2]; exact Nat.le_of_ble_eq_true rfl) dX9_init_75 (by omega) rfl rfl ?_
  refine jk_put (v := .inr (ad G 86)) C 12 [.int 0, .int 0, jr G 79, jr G 80, jr G 81, .int (zI (5000)), .int (zI (2)), .int 0, jr G 82, jr G 83, jr G 84, jr G 85, jr G 86, .null, .null, .null, .null, .int 0, .null, .null, .null, .null, .int 0, .int 0, .int 0, .int 0, .null] ft_X9 (by decide) (fun _ => ⟨Nn, rfl⟩) rfl rfl (by simp) wf_X9_38 rfl dX9_init_77 ?_
  refine jy_aload_n C dX9_init_80 rfl ?_
  refine jy_bipush C dX9_init_81 (by decide +kernel) ?_
  refine jk_newa (N := 16) (nn' := 88) (k' := 9) (n' := 3612) C 87 (fun j => 79 ≤ j ∧ j < 88) (by intro j; first | omega | (dsimp only; omega) | simp) rfl (by omega) (by decide +kernel) (by decide) (had 87 (by decide)) (by omega) wac_int (by rw [Yy.2]; exact Nat.le_of_ble_eq_true rfl) (by rw [Yy.2]; exact Nat.le_of_ble_eq_true rfl) dX9_init_83 (by omega) rfl rfl ?_
  refine jk_put (v := .inr (ad G 87)) C 13 [.int 0, .int 0, jr G 79, jr G 80, jr G 81, .int (zI (5000)), .int (zI (2)), .int 0, jr G 82, jr G 83, jr G 84, jr G 85, jr G 86, jr G 87, .null, .null, .null, .int 0, .null, .null, .null, .null, .int 0, .int 0, .int 0, .int 0, .null] ft_X9 (by decide) (fun _ => ⟨Nn, rfl⟩) rfl rfl (by simp) wf_X9_41 rfl dX9_init_85 ?_
  refine jy_aload_n C dX9_init_88 rfl ?_
  refine jy_bipush C dX9_init_89 (by decide +kernel) ?_
  refine jk_newa (N := 16) (nn' := 89) (k' := 10) (n' := 3628) C 88 (fun j => 79 ≤ j ∧ j < 89) (by intro j; first | omega | (dsimp only; omega) | simp) rfl (by omega) (by decide +kernel) (by decide) (had 88 (by decide)) (by omega) wac_int (by rw [Yy.2]; exact Nat.le_of_ble_eq_true rfl) (by rw [Yy.2]; exact Nat.le_of_ble_eq_true rfl) dX9_init_91 (by omega) rfl rfl ?_
  refine jk_put (v := .inr (ad G 88)) C 14 [.int 0, .int 0, jr G 79, jr G 80, jr G 81, .int (zI (5000)), .int (zI (2)), .int 0, jr G 82, jr G 83, jr G 84, jr G 85, jr G 86, jr G 87, jr G 88, .null, .null, .int 0, .null, .null, .null, .null, .int 0, .int 0, .int 0, .int 0, .null] ft_X9 (by decide) (fun _ => ⟨Nn, rfl⟩) rfl rfl (by simp) wf_X9_44 rfl dX9_init_93 ?_
  refine jy_aload_n C dX9_init_96 rfl ?_
  refine jy_bipush C dX9_init_97 (by decide +kernel) ?_
  refine jk_newa (N := 16) (nn' := 90) (k' := 11) (n' := 3644) C 89 (fun j => 79 ≤ j ∧ j < 90) (by intro j; first | omega | (dsimp only; omega) | simp) rfl (by omega) (by decide +kernel) (by decide) (had 89 (by decide)) (by omega) wac_int (by rw [Yy.2]; exact Nat.le_of_ble_eq_true rfl) (by rw [Yy.2]; exact Nat.le_of_ble_eq_true rfl) dX9_init_99 (by omega) rfl rfl ?_
  refine jk_put (v := .inr (ad G 89)) C 15 [.int 0, .int 0, jr G 79, jr G 80, jr G 81, .int (zI (5000)), .int (zI (2)), .int 0, jr G 82, jr G 83, jr G 84, jr G 85, jr G 86, jr G 87, jr G 88, jr G 89, .null, .int 0, .null, .null, .null, .null, .int 0, .int 0, .int 0, .int 0, .null] ft_X9 (by decide) (fun _ => ⟨Nn, rfl⟩) rfl rfl (by simp) wf_X9_47 rfl dX9_init_101 ?_
  refine jy_aload_n C dX9_init_104 rfl ?_
  refine jy_bipush C dX9_init_105 (by decide +kernel) ?_
  refine jk_newa (N := 16) (nn' := 91) (k' := 12) (n' := 3660) C 90 (fun j => 79 ≤ j ∧ j < 91) (by intro j; first | omega | (dsimp only; omega) | simp) rfl (by omega) (by decide +kernel) (by decide) (had 90 (by decide)) (by omega) wac_int (by rw [Yy.2]; exact Nat.le_of_ble_eq_true rfl) (by rw [Yy.2]; exact Nat.le_of_ble_eq_true rfl) dX9_init_107 (by omega) rfl rfl ?_
  refine jk_put (v := .inr (ad G 90)) C 16 [.int 0, .int 0, jr G 79, jr G 80, jr G 81, .int (zI (5000)), .int (zI (2)), .int 0, jr G 82, jr G 83, jr G 84, jr G 85, jr G 86, jr G 87, jr G 88, jr G 89, jr G 90, .int 0, .null, .null, .null, .null, .int 0, .int 0, .int 0, .int 0, .null] ft_X9 (by decide) (fun _ => ⟨Nn, rfl⟩) rfl rfl (by simp) wf_X9_50 rfl dX9_init_109 ?_
  refine jy_aload_n C dX9_init_112 rfl ?_
  refine jy_iconst C dX9_init_113 ?_
  refine jk_newa (N := 4) (nn' := 92) (k' := 13) (n' := 3664) C 91 (fun j => 79 ≤ j ∧ j < 92) (by intro j; first | omega | (dsimp only; omega) | simp) rfl (by omega) (by decide +kernel) (by decide) (had 91 (by decide)) (by omega) wac_int (by rw [Yy.2]; exact Nat.le_of_ble_eq_true rfl) (by rw [Yy.2]; exact Nat.le_of_ble_eq_true rfl) dX9_init_114 (by omega) rfl rfl ?_
  refine jk_put (v := .inr (ad G 91)) C 18 [.int 0, .int 0, jr G 79, jr G 80, jr G 81, .int (zI (5000)), .int (zI (2)), .int 0, jr G 82, jr G 83, jr G 84, jr G 85, jr G 86, jr G 87, jr G 88, jr G 89, jr G 90, .int 0, jr G 91, .null, .null, .null, .int 0, .int 0, .int 0, .int 0, .null] ft_X9 (by decide) (fun _ => ⟨Nn, rfl⟩) rfl rfl (by simp) wf_X9_53 rfl dX9_init_116 ?_
  refine jy_aload_n C dX9_init_119 rfl ?_
  refine jy_iconst C dX9_init_120 ?_
  refine jk_newa (N := 4) (nn' := 93) (k' := 14) (n' := 3668) C 92 (fun j => 79 ≤ j ∧ j < 93) (by intro j; first | omega | (dsimp only; omega) | simp) rfl (by omega) (by decide +kernel) (by decide) (had 92 (by decide)) (by omega) wac_int (by rw [Yy.2]; exact Nat.le_of_ble_eq_true rfl) (by rw [Yy.2]; exact Nat.le_of_ble_eq_true rfl) dX9_init_121 (by omega) rfl rfl ?_
  refine jk_put (v := .inr (ad G 92)) C 19 [.int 0, .int 0, jr G 79, jr G 80, jr G 81, .int (zI (5000)), .int (zI (2)), .int 0, jr G 82, jr G 83, jr G 84, jr G 85, jr G 86, jr G 87, jr G 88, jr G 89, jr G 90, .int 0, jr G 91, jr G 92, .null, .null, .int 0, .int 0, .int 0, .int 0, .null] ft_X9 (by decide) (fun _ => ⟨Nn, rfl⟩) rfl rfl (by simp) wf_X9_56 rfl dX9_init_123 ?_
  refine jy_aload_n C dX9_init_126 rfl ?_
  refine jy_iconst C dX9_init_127 ?_
  refine jk_newa (N := 4) (nn' := 94) (k' := 15) (n' := 3672) C 93 (fun j => 79 ≤ j ∧ j < 94) (by intro j; first | omega | (dsimp only; omega) | simp) rfl (by omega) (by decide +kernel) (by decide) (had 93 (by decide)) (by omega) wac_int (by rw [Yy.2]; exact Nat.le_of_ble_eq_true rfl) (by rw [Yy.2]; exact Nat.le_of_ble_eq_true rfl) dX9_init_128 (by omega) rfl rfl ?_
  refine jk_put (v := .inr (ad G 93)) C 20 [.int 0, .int 0, jr G 79, jr G 80, jr G 81, .int (zI (5000)), .int (zI (2)), .int 0, jr G 82, jr G 83, jr G 84, jr G 85, jr G 86, jr G 87, jr G 88, jr G 89, jr G 90, .int 0, jr G 91, jr G 92, jr G 93, .null, .int 0, .int 0, .int 0, .int 0, .null] ft_X9 (by decide) (fun _ => ⟨Nn, rfl⟩) rfl rfl (by simp) wf_X9_59 rfl dX9_init_130 ?_
  refine jy_aload_n C dX9_init_133 rfl ?_
  refine jy_iconst C dX9_init_134 ?_
  refine jk_newa (N := 4) (nn' := 95) (k' := 16) (n' := 3676) C 94 (fun j => 79 ≤ j ∧ j < 95) (by intro j; first | omega | (dsimp only; omega) | simp) rfl (by omega) (by decide +kernel) (by decide) (had 94 (by decide)) (by omega) wac_int (by rw [Yy.2]; exact Nat.le_of_ble_eq_true rfl) (by rw [Yy.2]; exact Nat.le_of_ble_eq_true rfl) dX9_init_135 (by omega) rfl rfl ?_
  refine jk_put (v := .inr (ad G 94)) C 21 [.int 0, .int 0, jr G 79, jr G 80, jr G 81, .int (zI (5000)), .int (zI (2)), .int 0, jr G 82, jr G 83, jr G 84, jr G 85, jr G 86, jr G 87, jr G 88, jr G 89, jr G 90, .int 0, jr G 91, jr G 92, jr G 93, jr G 94, .int 0, .int 0, .int 0, .int 0, .null] ft_X9 (by decide) (fun _ => ⟨Nn, rfl⟩) rfl rfl (by simp) wf_X9_62 rfl dX9_init_137 ?_
  refine jy_aload_n C dX9_init_140 rfl ?_
  refine jy_sipush C dX9_init_141 (by decide +kernel) ?_
  refine jk_newa (N := 400) (nn' := 96) (k' := 17) (n' := 4076) C 95 (fun j => 79 ≤ j ∧ j < 96) (by intro j; first | omega | (dsimp only; omega) | simp) rfl (by omega) (by decide +kernel) (by decide) (had 95 (by decide)) (by omega) wac_int (by rw [Yy.2]; exact Nat.le_of_ble_eq_true rfl) (by rw [Yy.2]; exact Nat.le_of_ble_eq_true rfl) dX9_init_144 (by omega) rfl rfl ?_
  refine jk_put (v := .inr (ad G 95)) C 26 [.int 0, .int 0, jr G 79, jr G 80, jr G 81, .int (zI (5000)), .int (zI (2)), .int 0, jr G 82, jr G 83, jr G 84, jr G 85, jr G 86, jr G 87, jr G 88, jr G 89, jr G 90, .int 0, jr G 91, jr G 92, jr G 93, jr G 94, .int 0, .int 0, .int 0, .int 0, jr G 95] ft_X9 (by decide) (fun _ => ⟨Nn, rfl⟩) rfl rfl (by simp) wf_X9_65 rfl dX9_init_146 ?_
  exact jk_ret C Nf rfl (by intro j; first | omega | (dsimp only; omega) | simp) rfl rfl rfl dX9_init_149
