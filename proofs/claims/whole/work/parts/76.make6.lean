set_option maxHeartbeats 4000000 in
set_option maxRecDepth 100000 in
theorem c_X2_init (l : Launch) (G : GT) (w : Jw) (had : hadG G) {p : Nat} (hp : p < 4) (hw : w.1 = 11 + 9 * p) (hc : w.2 (26 + p) = some (.inr (2, [.null, .null, .null, .null, .int 0]))) :
    MK l yX2_init cX2_init 1 ({ frames := 1, cells := 4, slots := 64, locals := 20 } : Room) G (ad G (26 + p)) w (w.1 + 1 + 1 + 1 + 1, jup (jup (jup (jup (jup (jup (jup (jup (w.2) (30 + p) (jia G 16 (fun _ => 0))) (26 + p) (.inr (2, [jr G (30 + p), .null, .null, .null, .int 0]))) (34 + p) (jia G 16 (fun _ => 0))) (26 + p) (.inr (2, [jr G (30 + p), jr G (34 + p), .null, .null, .int 0]))) (38 + p) (jia G 16 (fun _ => 0))) (26 + p) (.inr (2, [jr G (30 + p), jr G (34 + p), jr G (38 + p), .null, .int 0]))) (42 + p) (jia G 16 (fun _ => 0))) (26 + p) (.inr (2, [jr G (30 + p), jr G (34 + p), jr G (38 + p), jr G (42 + p), .int 0]))) 4 64 := by
  refine MK.of (by decide +kernel) (Nat.le_of_ble_eq_true rfl) rfl ?_
  intro F C Yy Nn Nf
  refine jy_aload_n C dX2_init_0 rfl ?_
  refine jy_obj C wm_X2_3 woi woc (by rw [Yy.2]; exact Nat.le_of_ble_eq_true rfl) (by rw [Yy.2]; exact Nat.le_of_ble_eq_true rfl) rfl dX2_init_1 ?_
  refine jy_aload_n C dX2_init_4 rfl ?_
  refine jy_bipush C dX2_init_5 (by decide +kernel) ?_
  refine jy_newa (N := 16) C (30 + p) (by decide +kernel) (by decide) (by rw [had _ (by omega), rk_fam 30 (by omega) hp]; first | omega | (dsimp only; omega)) (by omega) wac_int (by rw [Yy.2]; exact Nat.le_of_ble_eq_true rfl) (by rw [Yy.2]; exact Nat.le_of_ble_eq_true rfl) dX2_init_7 ?_
  refine jy_put (v := .inr (ad G (30 + p))) C 0 ft_X2 (by dsimp only; rw [jup_ne _ _ (by omega)]; exact hc) (by decide) (fun _ => ⟨Nn, rfl⟩) rfl rfl (by simp) wf_X2_9 dX2_init_9 ?_
  refine jy_aload_n C dX2_init_12 rfl ?_
  refine jy_bipush C dX2_init_13 (by decide +kernel) ?_
  refine jy_newa (N := 16) C (34 + p) (by decide +kernel) (by decide) (by rw [had _ (by omega), rk_fam 34 (by omega) hp]; first | omega | (dsimp only; omega)) (by omega) wac_int (by rw [Yy.2]; exact Nat.le_of_ble_eq_true rfl) (by rw [Yy.2]; exact Nat.le_of_ble_eq_true rfl) dX2_init_15 ?_
  refine jy_put (v := .inr (ad G (34 + p))) C 1 ft_X2 (by dsimp only; rw [jup_ne _ _ (by omega), jup_same]; first | done | rfl) (by decide) (fun _ => ⟨Nn, rfl⟩) rfl rfl (by simp) wf_X2_15 dX2_init_17 ?_
  refine jy_aload_n C dX2_init_20 rfl ?_
  refine jy_bipush C dX2_init_21 (by decide +kernel) ?_
  refine jy_newa (N := 16) C (38 + p) (by decide +kernel) (by decide) (by rw [had _ (by omega), rk_fam 38 (by omega) hp]; first | omega | (dsimp only; omega)) (by omega) wac_int (by rw [Yy.2]; exact Nat.le_of_ble_eq_true rfl) (by rw [Yy.2]; exact Nat.le_of_ble_eq_true rfl) dX2_init_23 ?_
  refine jy_put (v := .inr (ad G (38 + p))) C 2 ft_X2 (by dsimp only; rw [jup_ne _ _ (by omega), jup_same]; first | done | rfl) (by decide) (fun _ => ⟨Nn, rfl⟩) rfl rfl (by simp) wf_X2_18 dX2_init_25 ?_
  refine jy_aload_n C dX2_init_28 rfl ?_
  refine jy_bipush C dX2_init_29 (by decide +kernel) ?_
  refine jy_newa (N := 16) C (42 + p) (by decide +kernel) (by decide) (by rw [had _ (by omega), rk_fam 42 (by omega) hp]; first | omega | (dsimp only; omega)) (by omega) wac_int (by rw [Yy.2]; exact Nat.le_of_ble_eq_true rfl) (by rw [Yy.2]; exact Nat.le_of_ble_eq_true rfl) dX2_init_31 ?_
  refine jy_put (v := .inr (ad G (42 + p))) C 3 ft_X2 (by dsimp only; rw [jup_ne _ _ (by omega), jup_same]; first | done | rfl) (by decide) (fun _ => ⟨Nn, rfl⟩) rfl rfl (by simp) wf_X2_21 dX2_init_33 ?_
  exact jy_vret C Nf dX2_init_36
set_option maxHeartbeats 4000000 in
set_option maxRecDepth 100000 in
theorem c_X7_init (l : Launch) (G : GT) (w : Jw) (had : hadG G)  (hw : w.1 = 2) (hc : w.2 1 = some (.inr (7, [.int 0]))) :
    MK l yX7_init cX7_init 1 ({ frames := 1, cells := 0, slots := 0, locals := 20 } : Room) G (ad G 1) w (w.1, w.2) 0 0 := by
  refine MK.of (by decide +kernel) (Nat.le_of_ble_eq_true rfl) rfl ?_
  intro F C Yy Nn Nf
  refine jy_aload_n C dX7_init_0 rfl ?_
  refine jy_obj C wm_X7_3 woi woc (by rw [Yy.2]; exact Nat.le_of_ble_eq_true rfl) (by rw [Yy.2]; exact Nat.le_of_ble_eq_true rfl) rfl dX7_init_1 ?_
  exact jy_vret C Nf dX7_init_4
set_option maxHeartbeats 4000000 in
set_option maxRecDepth 100000 in
theorem c_X3_init (l : Launch) (G : GT) (w : Jw) (had : hadG G)  (hw : w.1 = 75) (hc : w.2 3 = some (.inr (3, [.int 0, .int 0, .int 0, .int 0, .int 0, .int 0, .int 0]))) :
    MK l yX3_init cX3_init 1 ({ frames := 1, cells := 0, slots := 0, locals := 20 } : Room) G (ad G 3) w (w.1, w.2) 0 0 := by
  refine MK.of (by decide +kernel) (Nat.le_of_ble_eq_true rfl) rfl ?_
  intro F C Yy Nn Nf
  refine jy_aload_n C dX3_init_0 rfl ?_
  refine jy_obj C wm_X3_3 woi woc (by rw [Yy.2]; exact Nat.le_of_ble_eq_true rfl) (by rw [Yy.2]; exact Nat.le_of_ble_eq_true rfl) rfl dX3_init_1 ?_
  exact jy_vret C Nf dX3_init_4
set_option maxHeartbeats 4000000 in
set_option maxRecDepth 100000 in
theorem c_X6_init (l : Launch) (G : GT) (w : Jw) (had : hadG G)  (hw : w.1 = 76) (hc : w.2 4 = some (.inr (6, [.null, .null, .int 0]))) :
    MK l yX6_init cX6_init 1 ({ frames := 1, cells := 2, slots := 420, locals := 20 } : Room) G (ad G 4) w (w.1 + 1 + 1, jup (jup (jup (jup (w.2) 8 (jia G 400 (fun _ => 0))) 4 (.inr (6, [jr G 8, .null, .int 0]))) 9 (jia G 20 (fun _ => 0))) 4 (.inr (6, [jr G 8, jr G 9, .int 0]))) 2 420 := by
  refine MK.of (by decide +kernel) (Nat.le_of_ble_eq_true rfl) rfl ?_
  intro F C Yy Nn Nf
  refine jy_aload_n C dX6_init_0 rfl ?_
  refine jy_obj C wm_X6_3 woi woc (by rw [Yy.2]; exact Nat.le_of_ble_eq_true rfl) (by rw [Yy.2]; exact Nat.le_of_ble_eq_true rfl) rfl dX6_init_1 ?_
  refine jy_aload_n C dX6_init_4 rfl ?_
  refine jy_sipush C dX6_init_5 (by decide +kernel) ?_
  refine jy_newa (N := 400) C 8 (by decide +kernel) (by decide) (by rw [had _ (by omega), show rk 8 = 76 from by decide]; first | omega | (dsimp only; omega)) (by omega) wac_int (by rw [Yy.2]; exact Nat.le_of_ble_eq_true rfl) (by rw [Yy.2]; exact Nat.le_of_ble_eq_true rfl) dX6_init_8 ?_
  refine jy_put (v := .inr (ad G 8)) C 0 ft_X6 (by dsimp only; rw [jup_ne _ _ (by omega)]; exact hc) (by decide) (fun _ => ⟨Nn, rfl⟩) rfl rfl (by simp) wf_X6_9 dX6_init_10 ?_
  refine jy_aload_n C dX6_init_13 rfl ?_
  refine jy_bipush C dX6_init_14 (by decide +kernel) ?_
  refine jy_newa (N := 20) C 9 (by decide +kernel) (by decide) (by rw [had _ (by omega), show rk 9 = 77 from by decide]; first | omega | (dsimp only; omega)) (by omega) wac_int (by rw [Yy.2]; exact Nat.le_of_ble_eq_true rfl) (by rw [Yy.2]; exact Nat.le_of_ble_eq_true rfl) dX6_init_16 ?_
  refine jy_put (v := .inr (ad G 9)) C 1 ft_X6 (by dsimp only; rw [jup_ne _ _ (by omega), jup_same]; first | done | rfl) (by decide) (fun _ => ⟨Nn, rfl⟩) rfl rfl (by simp) wf_X6_15 dX6_init_18 ?_
  exact jy_vret C Nf dX6_init_21
set_option maxHeartbeats 4000000 in
set_option maxRecDepth 100000 in
theorem c_X9_init (l : Launch) (G : GT) (w : Jw) (had : hadG G)  (hw : w.1 = 79) (hc : w.2 78 = some (.inr (9, [.int 0, .int 0, .null, .null, .null, .int 0, .int 0, .int 0, .null, .null, .null, .null, .null, .null, .null, .null, .null, .int 0, .null, .null, .null, .null, .int 0, .int 0, .int 0, .int 0, .null]))) :
    MK l yX9_init cX9_init 1 ({ frames := 1, cells := 17, slots := 4076, locals := 20 } : Room) G (ad G 78) w (w.1 + 1 + 1 + 1 + 1 + 1 + 1 + 1 + 1 + 1 + 1 + 1 + 1 + 1 + 1 + 1 + 1 + 1, jup (jup (jup (jup (jup (jup (jup (jup (jup (jup (jup (jup (jup (jup (jup (jup (jup (jup (jup (jup (jup (jup (jup (jup (jup (jup (jup (jup (jup (jup (jup (jup (jup (jup (jup (jup (w.2) 79 (jia G 4 (fun _ => 0))) 78 (.inr (9, [.int 0, .int 0, jr G 79, .null, .null, .int 0, .int 0, .int 0, .null, .null, .null, .null, .null, .null, .null, .null, .null, .int 0, .null, .null, .null, .null, .int 0, .int 0, .int 0, .int 0, .null]))) 80 (jia G 4 (fun _ => 0))) 78 (.inr (9, [.int 0, .int 0, jr G 79, jr G 80, .null, .int 0, .int 0, .int 0, .null, .null, .null, .null, .null, .null, .null, .null, .null, .int 0, .null, .null, .null, .null, .int 0, .int 0, .int 0, .int 0, .null]))) 81 (jia G 1600 (fun _ => 0))) 78 (.inr (9, [.int 0, .int 0, jr G 79, jr G 80, jr G 81, .int 0, .int 0, .int 0, .null, .null, .null, .null, .null, .null, .null, .null, .null, .int 0, .null, .null, .null, .null, .int 0, .int 0, .int 0, .int 0, .null]))) 78 (.inr (9, [.int 0, .int 0, jr G 79, jr G 80, jr G 81, .int (zI 5000), .int 0, .int 0, .null, .null, .null, .null, .null, .null, .null, .null, .null, .int 0, .null, .null, .null, .null, .int 0, .int 0, .int 0, .int 0, .null]))) 78 (.inr (9, [.int 0, .int 0, jr G 79, jr G 80, jr G 81, .int (zI 5000), .int (zI 2), .int 0, .null, .null, .null, .null, .null, .null, .null, .null, .null, .int 0, .null, .null, .null, .null, .int 0, .int 0, .int 0, .int 0, .null]))) 82 (jia G 1600 (fun _ => 0))) 78 (.inr (9, [.int 0, .int 0, jr G 79, jr G 80, jr G 81, .int (zI 5000), .int (zI 2), .int 0, jr G 82, .null, .null, .null, .null, .null, .null, .null, .null, .int 0, .null, .null, .null, .null, .int 0, .int 0, .int 0, .int 0, .null]))) 83 (jia G 4 (fun _ => 0))) 78 (.inr (9, [.int 0, .int 0, jr G 79, jr G 80, jr G 81, .int (zI 5000), .int (zI 2), .int 0, jr G 82, jr G 83, .null, .null, .null, .null, .null, .null, .null, .int 0, .null, .null, .null, .null, .int 0, .int 0, .int 0, .int 0, .null]))) 84 (jia G 64 (fun _ => 0))) 78 (.inr (9, [.int 0, .int 0, jr G 79, jr G 80, jr G 81, .int (zI 5000), .int (zI 2), .int 0, jr G 82, jr G 83, jr G 84, .null, .null, .null, .null, .null, .null, .int 0, .null, .null, .null, .null, .int 0, .int 0, .int 0, .int 0, .null]))) 85 (jia G 64 (fun _ => 0))) 78 (.inr (9, [.int 0, .int 0, jr G 79, jr G 80, jr G 81, .int (zI 5000), .int (zI 2), .int 0, jr G 82, jr G 83, jr G 84, jr G 85, .null, .null, .null, .null, .null, .int 0, .null, .null, .null, .null, .int 0, .int 0, .int 0, .int 0, .null]))) 86 (jia G 256 (fun _ => 0))) 78 (.inr (9, [.int 0, .int 0, jr G 79, jr G 80, jr G 81, .int (zI 5000), .int (zI 2), .int 0, jr G 82, jr G 83, jr G 84, jr G 85, jr G 86, .null, .null, .null, .null, .int 0, .null, .null, .null, .null, .int 0, .int 0, .int 0, .int 0, .null]))) 87 (jia G 16 (fun _ => 0))) 78 (.inr (9, [.int 0, .int 0, jr G 79, jr G 80, jr G 81, .int (zI 5000), .int (zI 2), .int 0, jr G 82, jr G 83, jr G 84, jr G 85, jr G 86, jr G 87, .null, .null, .null, .int 0, .null, .null, .null, .null, .int 0, .int 0, .int 0, .int 0, .null]))) 88 (jia G 16 (fun _ => 0))) 78 (.inr (9, [.int 0, .int 0, jr G 79, jr G 80, jr G 81, .int (zI 5000), .int (zI 2), .int 0, jr G 82, jr G 83, jr G 84, jr G 85, jr G 86, jr G 87, jr G 88, .null, .null, .int 0, .null, .null, .null, .null, .int 0, .int 0, .int 0, .int 0, .null]))) 89 (jia G 16 (fun _ => 0))) 78 (.inr (9, [.int 0, .int 0, jr G 79, jr G 80, jr G 81, .int (zI 5000), .int (zI 2), .int 0, jr G 82, jr G 83, jr G 84, jr G 85, jr G 86, jr G 87, jr G 88, jr G 89, .null, .int 0, .null, .null, .null, .null, .int 0, .int 0, .int 0, .int 0, .null]))) 90 (jia G 16 (fun _ => 0))) 78 (.inr (9, [.int 0, .int 0, jr G 79, jr G 80, jr G 81, .int (zI 5000), .int (zI 2), .int 0, jr G 82, jr G 83, jr G 84, jr G 85, jr G 86, jr G 87, jr G 88, jr G 89, jr G 90, .int 0, .null, .null, .null, .null, .int 0, .int 0, .int 0, .int 0, .null]))) 91 (jia G 4 (fun _ => 0))) 78 (.inr (9, [.int 0, .int 0, jr G 79, jr G 80, jr G 81, .int (zI 5000), .int (zI 2), .int 0, jr G 82, jr G 83, jr G 84, jr G 85, jr G 86, jr G 87, jr G 88, jr G 89, jr G 90, .int 0, jr G 91, .null, .null, .null, .int 0, .int 0, .int 0, .int 0, .null]))) 92 (jia G 4 (fun _ => 0))) 78 (.inr (9, [.int 0, .int 0, jr G 79, jr G 80, jr G 81, .int (zI 5000), .int (zI 2), .int 0, jr G 82, jr G 83, jr G 84, jr G 85, jr G 86, jr G 87, jr G 88, jr G 89, jr G 90, .int 0, jr G 91, jr G 92, .null, .null, .int 0, .int 0, .int 0, .int 0, .null]))) 93 (jia G 4 (fun _ => 0))) 78 (.inr (9, [.int 0, .int 0, jr G 79, jr G 80, jr G 81, .int (zI 5000), .int (zI 2), .int 0, jr G 82, jr G 83, jr G 84, jr G 85, jr G 86, jr G 87, jr G 88, jr G 89, jr G 90, .int 0, jr G 91, jr G 92, jr G 93, .null, .int 0, .int 0, .int 0, .int 0, .null]))) 94 (jia G 4 (fun _ => 0))) 78 (.inr (9, [.int 0, .int 0, jr G 79, jr G 80, jr G 81, .int (zI 5000), .int (zI 2), .int 0, jr G 82, jr G 83, jr G 84, jr G 85, jr G 86, jr G 87, jr G 88, jr G 89, jr G 90, .int 0, jr G 91, jr G 92, jr G 93, jr G 94, .int 0, .int 0, .int 0, .int 0, .null]))) 95 (jia G 400 (fun _ => 0))) 78 (.inr (9, [.int 0, .int 0, jr G 79, jr G 80, jr G 81, .int (zI 5000), .int (zI 2), .int 0, jr G 82, jr G 83, jr G 84, jr G 85, jr G 86, jr G 87, jr G 88, jr G 89, jr G 90, .int 0, jr G 91, jr G 92, jr G 93, jr G 94, .int 0, .int 0, .int 0, .int 0, jr G 95]))) 17 4076 := by
  refine MK.of (by decide +kernel) (Nat.le_of_ble_eq_true rfl) rfl ?_
  intro F C Yy Nn Nf
  refine jy_aload_n C dX9_init_0 rfl ?_
  refine jy_obj C wm_X9_1 woi woc (by rw [Yy.2]; exact Nat.le_of_ble_eq_true rfl) (by rw [Yy.2]; exact Nat.le_of_ble_eq_true rfl) rfl dX9_init_1 ?_
  refine jy_aload_n C dX9_init_4 rfl ?_
  refine jy_iconst C dX9_init_5 ?_
  refine jy_newa (N := 4) C 79 (by decide +kernel) (by decide) (by rw [had _ (by omega), show rk 79 = 79 from by decide]; first | omega | (dsimp only; omega)) (by omega) wac_int (by rw [Yy.2]; exact Nat.le_of_ble_eq_true rfl) (by rw [Yy.2]; exact Nat.le_of_ble_eq_true rfl) dX9_init_6 ?_
  refine jy_put (v := .inr (ad G 79)) C 2 ft_X9 (by dsimp only; rw [jup_ne _ _ (by omega)]; exact hc) (by decide) (fun _ => ⟨Nn, rfl⟩) rfl rfl (by simp) wf_X9_7 dX9_init_8 ?_
  refine jy_aload_n C dX9_init_11 rfl ?_
  refine jy_iconst C dX9_init_12 ?_
  refine jy_newa (N := 4) C 80 (by decide +kernel) (by decide) (by rw [had _ (by omega), show rk 80 = 80 from by decide]; first | omega | (dsimp only; omega)) (by omega) wac_int (by rw [Yy.2]; exact Nat.le_of_ble_eq_true rfl) (by rw [Yy.2]; exact Nat.le_of_ble_eq_true rfl) dX9_init_13 ?_
  refine jy_put (v := .inr (ad G 80)) C 3 ft_X9 (by dsimp only; rw [jup_ne _ _ (by omega), jup_same]; first | done | rfl) (by decide) (fun _ => ⟨Nn, rfl⟩) rfl rfl (by simp) wf_X9_13 dX9_init_15 ?_
  refine jy_aload_n C dX9_init_18 rfl ?_
  refine jy_sipush C dX9_init_19 (by decide +kernel) ?_
  refine jy_newa (N := 1600) C 81 (by decide +kernel) (by decide) (by rw [had _ (by omega), show rk 81 = 81 from by decide]; first | omega | (dsimp only; omega)) (by omega) wac_int (by rw [Yy.2]; exact Nat.le_of_ble_eq_true rfl) (by rw [Yy.2]; exact Nat.le_of_ble_eq_true rfl) dX9_init_22 ?_
  refine jy_put (v := .inr (ad G 81)) C 4 ft_X9 (by dsimp only; rw [jup_ne _ _ (by omega), jup_same]; first | done | rfl) (by decide) (fun _ => ⟨Nn, rfl⟩) rfl rfl (by simp) wf_X9_16 dX9_init_24 ?_
  refine jy_aload_n C dX9_init_27 rfl ?_
  refine jy_sipush C dX9_init_28 (by decide +kernel) ?_
  refine jy_put (v := .inl 5000) C 5 ft_X9 (by dsimp only; rw [jup_same]; first | done | rfl) (by decide) (fun _ => ⟨Nn, rfl⟩) rfl rfl (by simp) wf_X9_19 dX9_init_31 ?_
  refine jy_aload_n C dX9_init_34 rfl ?_
  refine jy_iconst C dX9_init_35 ?_
  refine jy_put (v := .inl 2) C 6 ft_X9 (by dsimp only; rw [jup_same]; first | done | rfl) (by decide) (fun _ => ⟨Nn, rfl⟩) rfl rfl (by simp) wf_X9_23 dX9_init_36 ?_
  refine jy_aload_n C dX9_init_39 rfl ?_
  refine jy_sipush C dX9_init_40 (by decide +kernel) ?_
  refine jy_newa (N := 1600) C 82 (by decide +kernel) (by decide) (by rw [had _ (by omega), show rk 82 = 82 from by decide]; first | omega | (dsimp only; omega)) (by omega) wac_int (by rw [Yy.2]; exact Nat.le_of_ble_eq_true rfl) (by rw [Yy.2]; exact Nat.le_of_ble_eq_true rfl) dX9_init_43 ?_
  refine jy_put (v := .inr (ad G 82)) C 8 ft_X9 (by dsimp only; rw [jup_ne _ _ (by omega), jup_same]; first | done | rfl) (by decide) (fun _ => ⟨Nn, rfl⟩) rfl rfl (by simp) wf_X9_26 dX9_init_45 ?_
  refine jy_aload_n C dX9_init_48 rfl ?_
  refine jy_iconst C dX9_init_49 ?_
  refine jy_newa (N := 4) C 83 (by decide +kernel) (by decide) (by rw [had _ (by omega), show rk 83 = 83 from by decide]; first | omega | (dsimp only; omega)) (by omega) wac_int (by rw [Yy.2]; exact Nat.le_of_ble_eq_true rfl) (by rw [Yy.2]; exact Nat.le_of_ble_eq_true rfl) dX9_init_50 ?_
  refine jy_put (v := .inr (ad G 83)) C 9 ft_X9 (by dsimp only; rw [jup_ne _ _ (by omega), jup_same]; first | done | rfl) (by decide) (fun _ => ⟨Nn, rfl⟩) rfl rfl (by simp) wf_X9_29 dX9_init_52 ?_
  refine jy_aload_n C dX9_init_55 rfl ?_
  refine jy_bipush C dX9_init_56 (by decide +kernel) ?_
  refine jy_newa (N := 64) C 84 (by decide +kernel) (by decide) (by rw [had _ (by omega), show rk 84 = 84 from by decide]; first | omega | (dsimp only; omega)) (by omega) wac_int (by rw [Yy.2]; exact Nat.le_of_ble_eq_true rfl) (by rw [Yy.2]; exact Nat.le_of_ble_eq_true rfl) dX9_init_58 ?_
  refine jy_put (v := .inr (ad G 84)) C 10 ft_X9 (by dsimp only; rw [jup_ne _ _ (by omega), jup_same]; first | done | rfl) (by decide) (fun _ => ⟨Nn, rfl⟩) rfl rfl (by simp) wf_X9_32 dX9_init_60 ?_
  refine jy_aload_n C dX9_init_63 rfl ?_
  refine jy_bipush C dX9_init_64 (by decide +kernel) ?_
  refine jy_newa (N := 64) C 85 (by decide +kernel) (by decide) (by rw [had _ (by omega), show rk 85 = 85 from by decide]; first | omega | (dsimp only; omega)) (by omega) wac_int (by rw [Yy.2]; exact Nat.le_of_ble_eq_true rfl) (by rw [Yy.2]; exact Nat.le_of_ble_eq_true rfl) dX9_init_66 ?_
  refine jy_put (v := .inr (ad G 85)) C 11 ft_X9 (by dsimp only; rw [jup_ne _ _ (by omega), jup_same]; first | done | rfl) (by decide) (fun _ => ⟨Nn, rfl⟩) rfl rfl (by simp) wf_X9_35 dX9_init_68 ?_
  refine jy_aload_n C dX9_init_71 rfl ?_
  refine jy_sipush C dX9_init_72 (by decide +kernel) ?_
  refine jy_newa (N := 256) C 86 (by decide +kernel) (by decide) (by rw [had _ (by omega), show rk 86 = 86 from by decide]; first | omega | (dsimp only; omega)) (by omega) wac_int (by rw [Yy.2]; exact Nat.le_of_ble_eq_true rfl) (by rw [Yy.2]; exact Nat.le_of_ble_eq_true rfl) dX9_init_75 ?_
  refine jy_put (v := .inr (ad G 86)) C 12 ft_X9 (by dsimp only; rw [jup_ne _ _ (by omega), jup_same]; first | done | rfl) (by decide) (fun _ => ⟨Nn, rfl⟩) rfl rfl (by simp) wf_X9_38 dX9_init_77 ?_
  refine jy_aload_n C dX9_init_80 rfl ?_
  refine jy_bipush C dX9_init_81 (by decide +kernel) ?_
  refine jy_newa (N := 16) C 87 (by decide +kernel) (by decide) (by rw [had _ (by omega), show rk 87 = 87 from by decide]; first | omega | (dsimp only; omega)) (by omega) wac_int (by rw [Yy.2]; exact Nat.le_of_ble_eq_true rfl) (by rw [Yy.2]; exact Nat.le_of_ble_eq_true rfl) dX9_init_83 ?_
  refine jy_put (v := .inr (ad G 87)) C 13 ft_X9 (by dsimp only; rw [jup_ne _ _ (by omega), jup_same]; first | done | rfl) (by decide) (fun _ => ⟨Nn, rfl⟩) rfl rfl (by simp) wf_X9_41 dX9_init_85 ?_
  refine jy_aload_n C dX9_init_88 rfl ?_
  refine jy_bipush C dX9_init_89 (by decide +kernel) ?_
  refine jy_newa (N := 16) C 88 (by decide +kernel) (by decide) (by rw [had _ (by omega), show rk 88 = 88 from by decide]; first | omega | (dsimp only; omega)) (by omega) wac_int (by rw [Yy.2]; exact Nat.le_of_ble_eq_true rfl) (by rw [Yy.2]; exact Nat.le_of_ble_eq_true rfl) dX9_init_91 ?_
  refine jy_put (v := .inr (ad G 88)) C 14 ft_X9 (by dsimp only; rw [jup_ne _ _ (by omega), jup_same]; first | done | rfl) (by decide) (fun _ => ⟨Nn, rfl⟩) rfl rfl (by simp) wf_X9_44 dX9_init_93 ?_
  refine jy_aload_n C dX9_init_96 rfl ?_
  refine jy_bipush C dX9_init_97 (by decide +kernel) ?_
  refine jy_newa (N := 16) C 89 (by decide +kernel) (by decide) (by rw [had _ (by omega), show rk 89 = 89 from by decide]; first | omega | (dsimp only; omega)) (by omega) wac_int (by rw [Yy.2]; exact Nat.le_of_ble_eq_true rfl) (by rw [Yy.2]; exact Nat.le_of_ble_eq_true rfl) dX9_init_99 ?_
  refine jy_put (v := .inr (ad G 89)) C 15 ft_X9 (by dsimp only; rw [jup_ne _ _ (by omega), jup_same]; first | done | rfl) (by decide) (fun _ => ⟨Nn, rfl⟩) rfl rfl (by simp) wf_X9_47 dX9_init_101 ?_
  refine jy_aload_n C dX9_init_104 rfl ?_
  refine jy_bipush C dX9_init_105 (by decide +kernel) ?_
  refine jy_newa (N := 16) C 90 (by decide +kernel) (by decide) (by rw [had _ (by omega), show rk 90 = 90 from by decide]; first | omega | (dsimp only; omega)) (by omega) wac_int (by rw [Yy.2]; exact Nat.le_of_ble_eq_true rfl) (by rw [Yy.2]; exact Nat.le_of_ble_eq_true rfl) dX9_init_107 ?_
  refine jy_put (v := .inr (ad G 90)) C 16 ft_X9 (by dsimp only; rw [jup_ne _ _ (by omega), jup_same]; first | done | rfl) (by decide) (fun _ => ⟨Nn, rfl⟩) rfl rfl (by simp) wf_X9_50 dX9_init_109 ?_
  refine jy_aload_n C dX9_init_112 rfl ?_
  refine jy_iconst C dX9_init_113 ?_
  refine jy_newa (N := 4) C 91 (by decide +kernel) (by decide) (by rw [had _ (by omega), show rk 91 = 91 from by decide]; first | omega | (dsimp only; omega)) (by omega) wac_int (by rw [Yy.2]; exact Nat.le_of_ble_eq_true rfl) (by rw [Yy.2]; exact Nat.le_of_ble_eq_true rfl) dX9_init_114 ?_
  refine jy_put (v := .inr (ad G 91)) C 18 ft_X9 (by dsimp only; rw [jup_ne _ _ (by omega), jup_same]; first | done | rfl) (by decide) (fun _ => ⟨Nn, rfl⟩) rfl rfl (by simp) wf_X9_53 dX9_init_116 ?_
  refine jy_aload_n C dX9_init_119 rfl ?_
  refine jy_iconst C dX9_init_120 ?_
  refine jy_newa (N := 4) C 92 (by decide +kernel) (by decide) (by rw [had _ (by omega), show rk 92 = 92 from by decide]; first | omega | (dsimp only; omega)) (by omega) wac_int (by rw [Yy.2]; exact Nat.le_of_ble_eq_true rfl) (by rw [Yy.2]; exact Nat.le_of_ble_eq_true rfl) dX9_init_121 ?_
  refine jy_put (v := .inr (ad G 92)) C 19 ft_X9 (by dsimp only; rw [jup_ne _ _ (by omega), jup_same]; first | done | rfl) (by decide) (fun _ => ⟨Nn, rfl⟩) rfl rfl (by simp) wf_X9_56 dX9_init_123 ?_
  refine jy_aload_n C dX9_init_126 rfl ?_
  refine jy_iconst C dX9_init_127 ?_
  refine jy_newa (N := 4) C 93 (by decide +kernel) (by decide) (by rw [had _ (by omega), show rk 93 = 93 from by decide]; first | omega | (dsimp only; omega)) (by omega) wac_int (by rw [Yy.2]; exact Nat.le_of_ble_eq_true rfl) (by rw [Yy.2]; exact Nat.le_of_ble_eq_true rfl) dX9_init_128 ?_
  refine jy_put (v := .inr (ad G 93)) C 20 ft_X9 (by dsimp only; rw [jup_ne _ _ (by omega), jup_same]; first | done | rfl) (by decide) (fun _ => ⟨Nn, rfl⟩) rfl rfl (by simp) wf_X9_59 dX9_init_130 ?_
  refine jy_aload_n C dX9_init_133 rfl ?_
  refine jy_iconst C dX9_init_134 ?_
  refine jy_newa (N := 4) C 94 (by decide +kernel) (by decide) (by rw [had _ (by omega), show rk 94 = 94 from by decide]; first | omega | (dsimp only; omega)) (by omega) wac_int (by rw [Yy.2]; exact Nat.le_of_ble_eq_true rfl) (by rw [Yy.2]; exact Nat.le_of_ble_eq_true rfl) dX9_init_135 ?_
  refine jy_put (v := .inr (ad G 94)) C 21 ft_X9 (by dsimp only; rw [jup_ne _ _ (by omega), jup_same]; first | done | rfl) (by decide) (fun _ => ⟨Nn, rfl⟩) rfl rfl (by simp) wf_X9_62 dX9_init_137 ?_
  refine jy_aload_n C dX9_init_140 rfl ?_
  refine jy_sipush C dX9_init_141 (by decide +kernel) ?_
  refine jy_newa (N := 400) C 95 (by decide +kernel) (by decide) (by rw [had _ (by omega), show rk 95 = 95 from by decide]; first | omega | (dsimp only; omega)) (by omega) wac_int (by rw [Yy.2]; exact Nat.le_of_ble_eq_true rfl) (by rw [Yy.2]; exact Nat.le_of_ble_eq_true rfl) dX9_init_144 ?_
  refine jy_put (v := .inr (ad G 95)) C 26 ft_X9 (by dsimp only; rw [jup_ne _ _ (by omega), jup_same]; first | done | rfl) (by decide) (fun _ => ⟨Nn, rfl⟩) rfl rfl (by simp) wf_X9_65 dX9_init_146 ?_
  exact jy_vret C Nf dX9_init_149
