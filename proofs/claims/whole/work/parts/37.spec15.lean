theorem CI_new {μ : Mem} (h0 : μ 2 5 = 1) (h : ∀ p, p < bN (cB μ) → μ (14 + p) 4 = 0 → SVp μ (cB μ) p) : CI μ := ⟨h, fun q => by omega⟩
theorem SVp_cong {μ μ' : Mem} {B B' : Bs} {p : Nat} (h : SVp μ B p) (h0 : μ' (22 + p) = μ (22 + p)) (hW : bW B' p = bW B p) (hH : bH B' p = bH B p) (hD : bD B' p = bD B p) : SVp μ' B' p := by
  unfold SVp
  rw [h0, hW, hH, hD]
  exact h
theorem clear_end {μ μf : Mem} (hR : rng μ) (hCI : CI μ) (hf : μf = jms (jms μ 2 3 0) 2 5 1) : cB μf = b_clear (cB μ) ∧ CI μf ∧ ∀ k, k ≠ 2 → μf k = μ k := by
  have e3 : μf 2 3 = 0 := by rw [hf, jms_slot _ _ _ _ (by decide), jms_same]
  have ek : ∀ k, k ≠ 2 → μf k = μ k := fun k hk => by rw [hf, jms_cell _ _ _ _ hk, jms_cell _ _ _ _ hk]
  have hB : cB μf = b_clear (cB μ) := by
    unfold cB b_clear
    rw [e3, ek 0 (by decide)]
    refine Prod.ext rfl (Prod.ext rfl (Prod.ext rfl (Prod.ext ?_ (Prod.ext ?_ ?_))))
    · funext p; simp
    · funext p; simp
    · funext p; simp
  refine ⟨hB, CI_new (by rw [hf]; exact jms_same _ _ _ _) (fun p hp => ?_), ek⟩
  rw [hB] at hp
  exact absurd hp (Nat.not_lt_zero _)
theorem rules_end {μ μf : Mem} {b n : Int} (hR : rng μ) (hCI : CI μ) (hf : μf = jms (jms (jms μ 0 4 b) 0 5 n) 2 5 1) : cB μf = (bN (cB μ), b, n, bW (cB μ), bH (cB μ), bD (cB μ)) ∧ CI μf ∧ ∀ k, k ≠ 0 → k ≠ 2 → μf k = μ k := by
  have e3 : μf 2 3 = μ 2 3 := by rw [hf, jms_slot _ _ _ _ (by decide), jms_cell _ _ _ _ (by decide), jms_cell _ _ _ _ (by decide)]
  have ek : ∀ k, k ≠ 0 → k ≠ 2 → μf k = μ k := fun k h0 h2 => by rw [hf, jms_cell _ _ _ _ h2, jms_cell _ _ _ _ h0, jms_cell _ _ _ _ h0]
  have eb : μf 0 4 = b := by rw [hf, jms_cell _ _ _ _ (by decide), jms_slot _ _ _ _ (by decide), jms_same]
  have en : μf 0 5 = n := by rw [hf, jms_cell _ _ _ _ (by decide), jms_same]
  have hB : cB μf = (bN (cB μ), b, n, bW (cB μ), bH (cB μ), bD (cB μ)) := by
    unfold cB bN bW bH bD
    rw [e3, eb, en]
    refine Prod.ext rfl (Prod.ext rfl (Prod.ext rfl (Prod.ext ?_ (Prod.ext ?_ ?_))))
    · funext p; dsimp only; rw [ek (14 + p) (by omega) (by omega)]
    · funext p; dsimp only; rw [ek (14 + p) (by omega) (by omega)]
    · funext p; dsimp only; rw [ek (14 + p) (by omega) (by omega), ek (18 + p) (by omega) (by omega)]
  refine ⟨hB, CI_new (by rw [hf]; exact jms_same _ _ _ _) (fun p hp h0 => ?_), ek⟩
  rw [hB] at hp ⊢
  rw [ek (14 + p) (by omega) (by omega)] at h0
  exact SVp_cong (hCI.1 p hp h0) (ek (22 + p) (by omega) (by omega)) rfl rfl rfl
theorem dot_end {μ μf : Mem} {p : Nat} {i j v : Int} (hR : rng μ) (hCI : CI μ) (hp : p < bN (cB μ)) (hin : 0 ≤ i ∧ i < μ (14 + p) 2 ∧ 0 ≤ j ∧ j < μ (14 + p) 3) (hf : μf = jms (jms (jms μ (18 + p) (j * 20 + i).toNat v) (14 + p) 4 1) 2 5 1) : cB μf = b_set (cB μ) p i j v ∧ CI μf ∧ ∀ k, k ≠ 2 → k ≠ 14 + p → k ≠ 18 + p → μf k = μ k := by
  obtain ⟨hN, hN4⟩ := cB_N hR
  have r1 := rg_DO_2 hR (p := p) (by omega)
  have r2 := rg_DO_3 hR (p := p) (by omega)
  have ek : ∀ k, k ≠ 2 → k ≠ 14 + p → k ≠ 18 + p → μf k = μ k := fun k h0 h1 h2 => by rw [hf, jms_cell _ _ _ _ h0, jms_cell _ _ _ _ h1, jms_cell _ _ _ _ h2]
  have e3 : μf 2 3 = μ 2 3 := by rw [hf, jms_slot _ _ _ _ (by decide), jms_cell _ _ _ _ (by omega), jms_cell _ _ _ _ (by omega)]
  have eW : ∀ q t, q < 4 → t ≠ 4 → μf (14 + q) t = μ (14 + q) t := fun q t hq ht => by
    rw [hf, jms_cell _ _ _ _ (by omega), jms_slot _ _ _ _ ht, jms_cell _ _ _ _ (by omega)]
  have eV : ∀ t, μf (18 + p) t = if t = (j * 20 + i).toNat then v else μ (18 + p) t := fun t => by
    rw [hf, jms_cell _ _ _ _ (by omega), jms_cell _ _ _ _ (by omega), jms_arr]
  have hB : cB μf = b_set (cB μ) p i j v := by
    unfold cB b_set bN bW bH bD bBar bNear
    rw [e3, ek 0 (by omega) (by omega) (by omega)]
    refine Prod.ext rfl (Prod.ext rfl (Prod.ext rfl (Prod.ext ?_ (Prod.ext ?_ ?_))))
    · funext q
      dsimp only
      by_cases hq : q < (μ 2 3).toNat
      · rw [if_pos hq, if_pos hq, eW q 2 (by omega) (by decide)]
      · rw [if_neg hq, if_neg hq]
    · funext q
      dsimp only
      by_cases hq : q < (μ 2 3).toNat
      · rw [if_pos hq, if_pos hq, eW q 3 (by omega) (by decide)]
      · rw [if_neg hq, if_neg hq]
    · funext q
      dsimp only
      have hpc : p < (μ 2 3).toNat := by omega
      by_cases hq : q < (μ 2 3).toNat
      · rw [if_pos hq, if_pos hq, eW q 2 (by omega) (by decide), eW q 3 (by omega) (by decide)]
        by_cases hqp : q = p
        · subst hqp
          rw [if_pos rfl]
          funext x y
          rw [if_pos hpc]
          unfold dgt
          by_cases hxy : 0 ≤ x ∧ x < μ (14 + q) 2 ∧ 0 ≤ y ∧ y < μ (14 + q) 3
          · rw [if_pos hxy, if_pos hxy, eV]
            by_cases e : x = i ∧ y = j
            · rw [if_pos e, if_pos (by rw [e.1, e.2])]
            · rw [if_neg e, if_neg (by omega)]
          · rw [if_neg hxy, if_neg hxy, if_neg (by omega)]
        · rw [if_neg hqp, ek (18 + q) (by omega) (by omega) (by omega)]
      · rw [if_neg hq, if_neg hq, if_neg (by omega)]
  refine ⟨hB, CI_new (by rw [hf]; exact jms_same _ _ _ _) (fun q hq h0 => ?_), ek⟩
  rw [hB] at hq ⊢
  have hq' : q < bN (cB μ) := hq
  by_cases hqp : q = p
  · subst hqp
    rw [hf, jms_cell _ _ _ _ (by omega), jms_same] at h0
    omega
  · rw [ek (14 + q) (by omega) (by omega) (by omega)] at h0
    exact SVp_cong (hCI.1 q hq' h0) (ek (22 + q) (by omega) (by omega) (by omega)) rfl rfl (if_neg hqp)
theorem shoot_end {μ μ1 μ2 μf : Mem} {s x y g w h : Int} (hR : rng μ) (hCI : CI μ) (hc4 : bN (cB μ) < 4) (hw : 8 ≤ w ∧ w ≤ 20) (hh : 8 ≤ h ∧ h ≤ 20) (h1 : μ1 = jms (jms (jms μ (14 + bN (cB μ)) 2 w) (14 + bN (cB μ)) 3 h) (14 + bN (cB μ)) 4 1)
    (h2 : ∀ k, k ≠ 18 + bN (cB μ) → μ2 k = μ1 k) (h3 : ∀ i j : Int, 0 ≤ i → i < μ1 (14 + bN (cB μ)) 2 → 0 ≤ j → j < μ1 (14 + bN (cB μ)) 3 → μ2 (18 + bN (cB μ)) (j * 20 + i).toNat = shv s x y g i j) (hf : μf = jms (jms μ2 2 5 1) 2 3 ((bN (cB μ) : Int) + 1)) :
    cB μf = b_add (cB μ) w h (fun i j => if 0 ≤ i ∧ i < w ∧ 0 ≤ j ∧ j < h then shv s x y g i j else -1) ∧ CI μf ∧ ∀ k, k ≠ 2 → k ≠ 14 + bN (cB μ) → k ≠ 18 + bN (cB μ) → μf k = μ k := by
  obtain ⟨hN, hN4⟩ := cB_N hR
  have hNt : (μ 2 3).toNat = bN (cB μ) := by omega
  have ek : ∀ k, k ≠ 2 → k ≠ 14 + bN (cB μ) → k ≠ 18 + bN (cB μ) → μf k = μ k := fun k g0 g1 g2 => by rw [hf, jms_cell _ _ _ _ g0, jms_cell _ _ _ _ g0, h2 k g2, h1, jms_cell _ _ _ _ g1, jms_cell _ _ _ _ g1, jms_cell _ _ _ _ g1]
  have e3 : μf 2 3 = (bN (cB μ) : Int) + 1 := by rw [hf, jms_same]
  have e14 : μf (14 + bN (cB μ)) = μ1 (14 + bN (cB μ)) := by rw [hf, jms_cell _ _ _ _ (by omega), jms_cell _ _ _ _ (by omega), h2 _ (by omega)]
  have e18 : μf (18 + bN (cB μ)) = μ2 (18 + bN (cB μ)) := by rw [hf, jms_cell _ _ _ _ (by omega), jms_cell _ _ _ _ (by omega)]
  have eW : μ1 (14 + bN (cB μ)) 2 = w := by rw [h1, jms_slot _ _ _ _ (by decide), jms_slot _ _ _ _ (by decide), jms_same]
  have eH : μ1 (14 + bN (cB μ)) 3 = h := by rw [h1, jms_slot _ _ _ _ (by decide), jms_same]
  have eC : μ1 (14 + bN (cB μ)) 4 = 1 := by rw [h1, jms_same]
  have hc1 : ((bN (cB μ) : Int) + 1).toNat = bN (cB μ) + 1 := by omega
  have hB : cB μf = b_add (cB μ) w h (fun i j => if 0 ≤ i ∧ i < w ∧ 0 ≤ j ∧ j < h then shv s x y g i j else -1) := by
    have key : cB μf = (bN (cB μ) + 1, μ 0 4, μ 0 5, fun p => if p < bN (cB μ) + 1 then μf (14 + p) 2 else 0, fun p => if p < bN (cB μ) + 1 then μf (14 + p) 3 else 0, fun p => if p < bN (cB μ) + 1 then dgt (μf (14 + p) 2) (μf (14 + p) 3) (μf (18 + p)) else fun _ _ => 0) := by
      unfold cB
      rw [e3, hc1, ek 0 (by omega) (by omega) (by omega)]
      rfl
    rw [key]
    refine Prod.ext rfl (Prod.ext rfl (Prod.ext rfl (Prod.ext ?_ (Prod.ext ?_ ?_))))
    · funext q
      show (if q < bN (cB μ) + 1 then μf (14 + q) 2 else 0) = if q = bN (cB μ) then w else (if q < (μ 2 3).toNat then μ (14 + q) 2 else 0)
      rw [hNt]
      by_cases e : q = bN (cB μ)
      · rw [if_pos e, if_pos (by omega), e, e14, eW]
      · rw [if_neg e]
        by_cases hq : q < bN (cB μ)
        · rw [if_pos hq, if_pos (by omega), ek (14 + q) (by omega) (by omega) (by omega)]
        · rw [if_neg hq, if_neg (by omega)]
    · funext q
      show (if q < bN (cB μ) + 1 then μf (14 + q) 3 else 0) = if q = bN (cB μ) then h else (if q < (μ 2 3).toNat then μ (14 + q) 3 else 0)
      rw [hNt]
      by_cases e : q = bN (cB μ)
      · rw [if_pos e, if_pos (by omega), e, e14, eH]
      · rw [if_neg e]
        by_cases hq : q < bN (cB μ)
        · rw [if_pos hq, if_pos (by omega), ek (14 + q) (by omega) (by omega) (by omega)]
        · rw [if_neg hq, if_neg (by omega)]
    · funext q
      show (if q < bN (cB μ) + 1 then dgt (μf (14 + q) 2) (μf (14 + q) 3) (μf (18 + q)) else fun _ _ => 0) = if q = bN (cB μ) then (fun i j => if 0 ≤ i ∧ i < w ∧ 0 ≤ j ∧ j < h then shv s x y g i j else -1) else (if q < (μ 2 3).toNat then dgt (μ (14 + q) 2) (μ (14 + q) 3) (μ (18 + q)) else fun _ _ => 0)
      rw [hNt]
      by_cases e : q = bN (cB μ)
      · rw [if_pos e, if_pos (by omega), e, e14, e18, eW, eH]
        funext i j
        unfold dgt
        by_cases hij : 0 ≤ i ∧ i < w ∧ 0 ≤ j ∧ j < h
        · rw [if_pos hij, if_pos hij]
          exact h3 i j hij.1 (by rw [eW]; exact hij.2.1) hij.2.2.1 (by rw [eH]; exact hij.2.2.2)
        · rw [if_neg hij, if_neg hij]
      · rw [if_neg e]
        by_cases hq : q < bN (cB μ)
        · rw [if_pos hq, if_pos (by omega), ek (14 + q) (by omega) (by omega) (by omega), ek (18 + q) (by omega) (by omega) (by omega)]
        · rw [if_neg hq, if_neg (by omega)]
  refine ⟨hB, CI_new (by rw [hf, jms_slot _ _ _ _ (by decide), jms_same]) (fun q hq h0 => ?_), ek⟩
  rw [hB] at hq ⊢
  have hq' : q < bN (cB μ) + 1 := hq
  by_cases e : q = bN (cB μ)
  · rw [e, e14, eC] at h0
    omega
  · rw [ek (14 + q) (by omega) (by omega) (by omega)] at h0
    exact SVp_cong (hCI.1 q (by omega) h0) (ek (22 + q) (by omega) (by omega) (by omega)) (if_neg e) (if_neg e) (if_neg e)
