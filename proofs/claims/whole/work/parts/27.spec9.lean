theorem settle_end {μ μa μc μj μf : Mem} (hR : rng μ) (hfa : (∀ k, (k < 14 ∨ (18 ≤ k ∧ k < 22) ∨ 46 ≤ k) → μa k = μ k) ∧ ∀ x j, x < 4 → j ≠ 4 → μa (14 + x) j = μ (14 + x) j) (hma : ∀ x, x < bN (cB μ) → MKp μa (cB μ) x) (hsa : ∀ x, x < bN (cB μ) → μa (14 + x) 4 = 0 → SVp μa (cB μ) x)
    (hpr : ∀ x y, x < bN (cB μ) → y < bN (cB μ) → ¬ x = y → PRp μc (cB μ) x y) (hfc : ∀ k, (k < 46 ∨ 78 ≤ k) → μc k = μa k) (hj : JOk μj (bN (cB μ)) (jn (bN (cB μ)) (bV (cB μ)) (bX (cB μ)) (bY (cB μ)) (bN (cB μ) - 1)))
    (hfj : (∀ k, k ≠ 2 → k ≠ 7 → (k < 10 ∨ 14 ≤ k) → μj k = μc k) ∧ ∀ j, j ≠ 4 → μj 2 j = μc 2 j) (hf : μf = jms μj 2 5 0) :
    μf 2 5 = 0 ∧ CI μf ∧ CD μf ∧ cB μf = cB μ ∧ ∀ k, (k < 2 ∨ k = 3 ∨ k = 4 ∨ k = 8 ∨ k = 9 ∨ 78 ≤ k) → μf k = μ k := by
  obtain ⟨hc1, hc2⟩ := cB_N hR
  have e1 : ∀ k, k ≠ 2 → k ≠ 7 → (k < 10 ∨ 14 ≤ k) → μf k = μc k := fun k h1 h2 h3 => by rw [hf, jms_cell _ _ _ _ h1]; exact hfj.1 k h1 h2 h3
  have e2 : ∀ k, k ≠ 2 → k ≠ 7 → (k < 10 ∨ 14 ≤ k) → (k < 46 ∨ 78 ≤ k) → μf k = μa k := fun k h1 h2 h3 h4 => by rw [e1 k h1 h2 h3]; exact hfc k h4
  have hB : cB μf = cB μ := by
    refine cB_fr ?_ ?_ ?_ (fun p hp => ?_)
    · rw [hf, jms_slot _ _ _ _ (by decide), hfj.2 3 (by decide), hfc 2 (by omega), hfa.1 2 (by omega)]
    · rw [e2 0 (by omega) (by omega) (by omega) (by omega), hfa.1 0 (by omega)]
    · rw [e2 0 (by omega) (by omega) (by omega) (by omega), hfa.1 0 (by omega)]
    · have hp4 : p < 4 := by omega
      rw [e2 (14 + p) (by omega) (by omega) (by omega) (by omega), e2 (18 + p) (by omega) (by omega) (by omega) (by omega)]
      exact ⟨hfa.2 p 2 hp4 (by decide), hfa.2 p 3 hp4 (by decide), hfa.1 (18 + p) (by omega)⟩
  have hS : ∀ p, p < bN (cB μ) → μf (14 + p) 4 = 0 → SVp μf (cB μ) p := by
    intro p hp h0
    rw [e2 (14 + p) (by omega) (by omega) (by omega) (by omega)] at h0
    exact SVp_fr (hsa p hp h0) (e2 (22 + p) (by omega) (by omega) (by omega) (by omega))
  have hCD : CD μf := by
    unfold CD
    rw [hB]
    refine ⟨fun p hp => ?_, fun a b ha hb hab => ?_, ?_⟩
    · exact MKp_fr (hma p hp) (e2 _ (by omega) (by omega) (by omega) (by omega)) (e2 _ (by omega) (by omega) (by omega) (by omega)) (e2 _ (by omega) (by omega) (by omega) (by omega)) (e2 _ (by omega) (by omega) (by omega) (by omega)) (e2 _ (by omega) (by omega) (by omega) (by omega))
    · exact PRp_fr (hpr a b ha hb hab) (e1 _ (by omega) (by omega) (by omega)) (e1 _ (by omega) (by omega) (by omega))
    · refine JOk_fr hj ?_ ?_ (fun p hp => ?_)
      · rw [hf]; exact jms_slot _ _ _ _ (by decide)
      · rw [hf]; exact jms_cell _ _ _ _ (by decide)
      · rw [hf]; exact jms_cell _ _ _ _ (by omega)
  refine ⟨by rw [hf]; exact jms_same _ _ _ _, ⟨by rw [hB]; exact hS, fun _ => hCD⟩, hCD, hB, fun k hk => ?_⟩
  rw [e2 k (by omega) (by omega) (by omega) (by omega)]
  exact hfa.1 k (by omega)
