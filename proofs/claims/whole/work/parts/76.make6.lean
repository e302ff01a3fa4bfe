set_option maxHeartbeats 4000000 in
set_option maxRecDepth 100000 in
theorem c_X2_init (l : Launch) (G : GT) (w : Jw) (had : hadG G) {p : Nat} (hp : p < 4) (hw : w.1 = 11 + 9 * p) (hc : w.2 (26 + p) = some (.inr (2, [.null, .null, .null, .null, .int 0]))) :
    MK l yX2_init cX2_init 1 ({ frames := 1, cells := 4, slots := 64, locals := 20 } : Room) G (ad G (26 + p)) w (w.1 + 1 + 1 + 1 + 1, jup (jup (jup (jup (jup (jup (jup (jup (w.2) (30 + p) (jia G 16 (fun _ => 0))) (26 + p) (.inr (2, [jr G (30 + p), .null, .null, .null, .int 0]))) (34 + p) (jia G 16 (fun _ => 0))) (26 + p) (.inr (2, [jr G (30 + p), jr G (34 + p), .null, .null, .int 0]))) (38 + p) (jia G 16 (fun _ => 0))) (26 + p) (.inr (2, [jr G (30 + p), jr G (34 + p), jr G (38 + p), .null, .int 0]))) (42 + p) (jia G 16 (fun _ => 0))) (26 + p) (.inr (2, [jr G (30 + p), jr G (34 + p), jr G (38 + p), jr G (42 + p), .int 0]))) 4 64 := by
  refine MK.of (by decide +kernel) (Nat.le_of_ble_eq_true rfl) rfl ?_
  intro F C Yy Nn Nf
  refine jy_aload_n C dX2_init_0 rfl ?_
  refine jy_obj C wm_X2_3 woi woc (by rw [Yy.2]; exact Nat.le_of_ble_eq_true rfl) (by rw [Yy.2]; exact Nat.le_of_ble_eq_true rfl) rfl dX2_init_1 ?_
  refine jy_aload_n C dX2_init_4 rfl ?_
  refine jy_bipush C dX2_init_5 (by decide +kernel) ?_
  refine jy_newa (N := 16) C (30 + p) (by decide +kernel) (by decide) (by rw [had _ (by omega), rk_fam 30 (by omega) hp]; first | omega | (dsimp only; omega)) (by omega) wac_int (by rw [Yy.2]; exact Nat.le_of_ble_eq_true rfl) (by rw [Yy.2]; exact Nat.le_of_ble_eq_true rfl) dX2_init_7 ?_
  refine jy_put (v := .inr (ad G (30 + p))) C 0 ft_X2 (by dsimp only; rw [jup_ne _ _ (by omega)]; exact hc) (by decide) (fun _ => ⟨Nn, rfl⟩) rfl rfl (by simp) wf_X2_9 dX2_init_9 ?_
  refine jy_aload_n C dX2_init_12 rfl ?_
  refine jy_bipush C dX2_init_13 (by decide +kernel) ?_
  refine jy_newa (N := 16) C (34 + p) (by decide +kernel) (by decide) (by rw [had _ (by omega), rk_fam 34 (by omega) hp]; first | omega | (dsimp only; omega)) (by omega) wac_int (by rw [Yy.2]; exact Nat.le_of_ble_eq_true rfl) (by rw [Yy.2]; exact Nat.le_of_ble_eq_true rfl) dX2_init_15 ?_
  refine jy_put (v := .inr (ad G (34 + p))) C 1 ft_X2 (by dsimp only; rw [jup_ne _ _ (by omega), jup_same]; first | done | rfl) (by decide) (fun _ => ⟨Nn, rfl⟩) rfl rfl (by simp) wf_X2_15 dX2_init_17 ?_
  refine jy_aload_n C dX2_init_20 rfl ?_
  refine jy_bipush C dX2_init_21 (by decide +kernel) ?_
  refine jy_newa (N := 16) C (38 + p) (by decide +kernel) (by decide) (by rw [had _ (by omega), rk_fam 38 (by omega) hp]; first | omega | (dsimp only; omega)) (by omega) wac_int (by rw [Yy.2]; exact Nat.le_of_ble_eq_true rfl) (by rw [Yy.2]; exact Nat.le_of_ble_eq_true rfl) dX2_init_23 ?_
  refine jy_put (v := .inr (ad G (38 + p))) C 2 ft_X2 (by dsimp only; rw [jup_ne _ _ (by omega), jup_same]; first | done | rfl) (by decide) (fun _ => ⟨Nn, rfl⟩) rfl rfl (by simp) wf_X2_18 dX2_init_25 ?_
  refine jy_aload_n C dX2_init_28 rfl ?_
  refine jy_bipush C dX2_init_29 (by decide +kernel) ?_
  refine jy_newa (N := 16) C (42 + p) (by decide +kernel) (by decide) (by rw [had _ (by omega), rk_fam 42 (by omega) hp]; first | omega | (dsimp only; omega)) (by omega) wac_int (by rw [Yy.2]; exact Nat.le_of_ble_eq_true rfl) (by rw [Yy.2]; exact Nat.le_of_ble_eq_true rfl) dX2_init_31 ?_
  refine jy_put (v := .inr (ad G (42 + p))) C 3 ft_X2 (by dsimp only; rw [jup_ne _ _ (by omega), jup_same]; first | done | rfl) (by decide) (fun _ => ⟨Nn, rfl⟩) rfl rfl (by simp) wf_X2_21 dX2_init_33 ?_
  exact jy_vret C Nf dX2_init_36
set_option maxHeartbeats 4000000 in
set_option maxRecDepth 100000 in
theorem c_X7_init (l : Launch) (G : GT) (w : Jw) (had : hadG G)  (hw : w.1 = 2) (hc : w.2 1 = some (.inr (7, [.int 0]))) :
    MK l yX7_init cX7_init 1 ({ frames := 1, cells := 0, slots := 0, locals := 20 } : Room) G (ad G 1) w (w.1, w.2) 0 0 := by
  refine MK.of (by decide +kernel) (Nat.le_of_ble_eq_true rfl) rfl ?_
  intro F C Yy Nn Nf
  refine jy_aload_n C dX7_init_0 rfl ?_
  refine jy_obj C wm_X7_3 woi woc (by rw [Yy.2]; exact Nat.le_of_ble_eq_true rfl) (by rw [Yy.2]; exact Nat.le_of_ble_eq_true rfl) rfl dX7_init_1 ?_
  exact jy_vret C Nf dX7_init_4
set_option maxHeartbeats 4000000 in
set_option maxRecDepth 100000 in
theorem c_X3_init (l : Launch) (G : GT) (w : Jw) (had : hadG G)  (hw : w.1 = 75) (hc : w.2 3 = some (.inr (3, [.int 0, .int 0, .int 0, .int 0, .int 0, .int 0, .int 0]))) :
    MK l yX3_init cX3_init 1 ({ frames := 1, cells := 0, slots := 0, locals := 20 } : Room) G (ad G 3) w (w.1, w.2) 0 0 := by
  refine MK.of (by decide +kernel) (Nat.le_of_ble_eq_true rfl) rfl ?_
  intro F C Yy Nn Nf
  refine jy_aload_n C dX3_init_0 rfl ?_
  refine jy_obj C wm_X3_3 woi woc (by rw [Yy.2]; exact Nat.le_of_ble_eq_true rfl) (by rw [Yy.2]; exact Nat.le_of_ble_eq_true rfl) rfl dX3_init_1 ?_
  exact jy_vret C Nf dX3_init_4
set_option maxHeartbeats 4000000 in
set_option maxRecDepth 100000 in
theorem c_X6_init (l : Launch) (G : GT) (w : Jw) (had : hadG G)  (hw : w.1 = 76) (hc : w.2 4 = some (.inr (6, [.null, .null, .int 0]))) :
    MK l yX6_init cX6_init 1 ({ frames := 1, cells := 2, slots := 420, locals := 20 } : Room) G (ad G 4) w (w.1 + 1 + 1, jup (jup (jup (jup (w.2) 8 (jia G 400 (fun _ => 0))) 4 (.inr (6, [jr G 8, .null, .int 0]))) 9 (jia G 20 (fun _ => 0))) 4 (.inr (6, [jr G 8, jr G 9, .int 0]))) 2 420 := by
  refine MK.of (by decide +kernel) (Nat.le_of_ble_eq_true rfl) rfl ?_
  intro F C Yy Nn Nf
  refine jy_aload_n C dX6_init_0 rfl ?_
  refine jy_obj C wm_X6_3 woi woc (by rw [Yy.2]; exact Nat.le_of_ble_eq_true rfl) (by rw [Yy.2]; exact Nat.le_of_ble_eq_true rfl) rfl dX6_init_1 ?_
  refine jy_aload_n C dX6_init_4 rfl ?_
  refine jy_sipush C dX6_init_5 (by decide +kernel) ?_
  refine jy_newa (N := 400) C 8 (by decide +kernel) (by decide) (by rw [had _ (by omega), show rk 8 = 76 from by decide]; first | omega | (dsimp only; omega)) (by omega) wac_int (by rw [Yy.2]; exact Nat.le_of_ble_eq_true rfl) (by rw [Yy.2]; exact Nat.le_of_ble_eq_true rfl) dX6_init_8 ?_
  refine jy_put (v := .inr (ad G 8)) C 0 ft_X6 (by dsimp only; rw [jup_ne _ _ (by omega)]; exact hc) (by decide) (fun _ => ⟨Nn, rfl⟩) rfl rfl (by simp) wf_X6_9 dX6_init_10 ?_
  refine jy_aload_n C dX6_init_13 rfl ?_
  refine jy_bipush C dX6_init_14 (by decide +kernel) ?_
  refine jy_newa (N := 20) C 9 (by decide +kernel) (by decide) (by rw [had _ (by omega), show rk 9 = 77 from by decide]; first | omega | (dsimp only; omega)) (by omega) wac_int (by rw [Yy.2]; exact Nat.le_of_ble_eq_true rfl) (by rw [Yy.2]; exact Nat.le_of_ble_eq_true rfl) dX6_init_16 ?_
  refine jy_put (v := .inr (ad G 9)) C 1 ft_X6 (by dsimp only; rw [jup_ne _ _ (by omega), jup_same]; first | done | rfl) (by decide) (fun _ => ⟨Nn, rfl⟩) rfl rfl (by simp) wf_X6_15 dX6_init_18 ?_
  exact jy_vret C Nf dX6_init_21
