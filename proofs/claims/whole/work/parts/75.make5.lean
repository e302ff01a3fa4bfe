/-- in which order the cells are made -/
def rk (k : Nat) : Nat := if k < 3 then k else if k = 3 then 74 else if k = 4 then 75 else if k < 8 then k - 2 else if k = 8 then 76 else if k = 9 then 77 else if k < 46 then 6 + 9 * ((k - 10) % 4) + (k - 10) / 4 else if k < 78 then 42 + 2 * ((k - 46) % 16) + (k - 46) / 16 else k
theorem rk_lt : ∀ k : Nat, k < 96 → rk k < 96 := by decide +kernel
theorem rk_inj : ∀ i : Nat, i < 96 → ∀ j : Nat, j < 96 → rk i = rk j → i = j := by decide +kernel
def hadG (G : GT) : Prop := ∀ k : Nat, k < 96 → ad G k = jz G + rk k
theorem had_ok {G : GT} (h : hadG G) : jadOK G := ⟨fun i j hi hj e => rk_inj i hi j hj (by have h1 := h i hi; have h2 := h j hj; omega), fun i hi => by rw [h i hi]; omega⟩
theorem rk_fam (b : Nat) (hb : b = 10 ∨ b = 14 ∨ b = 18 ∨ b = 22 ∨ b = 26 ∨ b = 30 ∨ b = 34 ∨ b = 38 ∨ b = 42) {p : Nat} (hp : p < 4) : rk (b + p) = 6 + 9 * p + (b - 10) / 4 := by
  unfold rk
  rcases hb with rfl | rfl | rfl | rfl | rfl | rfl | rfl | rfl | rfl <;> (rw [if_neg (by omega), if_neg (by omega), if_neg (by omega), if_neg (by omega), if_neg (by omega), if_neg (by omega), if_pos (by omega)]; omega)
theorem jup_same (f : Nat → Option va_E) (k : Nat) (e : va_E) : jup f k e k = some e := if_pos rfl
theorem jup_ne (f : Nat → Option va_E) {k j : Nat} (e : va_E) (h : j ≠ k) : jup f k e j = f j := if_neg h
set_option maxHeartbeats 4000000 in
set_option maxRecDepth 100000 in
theorem c_X1_init (l : Launch) (G : GT) (w : Jw) (had : hadG G) {p : Nat} (hp : p < 4) (hw : w.1 = 8 + 9 * p) (hc : w.2 (14 + p) = some (.inr (1, [.null, .null, .int 0, .int 0, .int 0]))) :
    MK l yX1_init cX1_init 1 ({ frames := 1, cells := 2, slots := 800, locals := 20 } : Room) G (ad G (14 + p)) w (w.1 + 1 + 1, jup (jup (jup (jup w.2 (18 + p) (jia G 400 (fun _ => 0))) (14 + p) (.inr (1, [jr G (18 + p), .null, .int 0, .int 0, .int 0]))) (22 + p) (jia G 400 (fun _ => 0))) (14 + p) (.inr (1, [jr G (18 + p), jr G (22 + p), .int 0, .int 0, .int 0]))) 2 800 := by
  refine MK.of (by decide +kernel) (Nat.le_of_ble_eq_true rfl) rfl ?_
  intro F C Yy N Nf
  refine jy_aload_n C dX1_init_0 rfl ?_
  refine jy_obj C wm_X1_3 woi woc (by rw [Yy.2]; exact Nat.le_of_ble_eq_true rfl) (by rw [Yy.2]; exact Nat.le_of_ble_eq_true rfl) rfl dX1_init_1 ?_
  refine jy_aload_n C dX1_init_4 rfl ?_
  refine jy_sipush C dX1_init_5 (by decide +kernel) ?_
  refine jy_newa (N := 400) C (18 + p) (by decide +kernel) (by decide) (by rw [had _ (by omega), rk_fam 18 (by omega) hp]; omega) (by omega) wac_int (by rw [Yy.2]; exact Nat.le_of_ble_eq_true rfl) (by rw [Yy.2]; exact Nat.le_of_ble_eq_true rfl) dX1_init_8 ?_
  refine jy_put (v := .inr (ad G (18 + p))) C 0 ft_X1 (by dsimp only; rw [jup_ne _ _ (by omega)]; exact hc) (by decide) (fun _ => ⟨N, rfl⟩) rfl rfl (by simp) wf_X1_9 dX1_init_10 ?_
  refine jy_aload_n C dX1_init_13 rfl ?_
  refine jy_sipush C dX1_init_14 (by decide +kernel) ?_
  refine jy_newa (N := 400) C (22 + p) (by decide +kernel) (by decide) (by rw [had _ (by omega), rk_fam 22 (by omega) hp]; omega) (by omega) wac_int (by rw [Yy.2]; exact Nat.le_of_ble_eq_true rfl) (by rw [Yy.2]; exact Nat.le_of_ble_eq_true rfl) dX1_init_17 ?_
  refine jy_put (v := .inr (ad G (22 + p))) C 1 ft_X1 (by dsimp only; rw [jup_ne _ _ (by omega), jup_same]; first | done | rfl) (by decide) (fun _ => ⟨N, rfl⟩) rfl rfl (by simp) wf_X1_15 dX1_init_19 ?_
  exact jy_vret C Nf dX1_init_22
