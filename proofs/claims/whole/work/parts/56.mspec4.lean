/-- laid: what holds behind it -/
def LTp (μ μ' : Mem) : Prop := rng μ' ∧ μ' 78 7 = 1 ∧ MDn μ' ∧ mB μ' = mB μ ∧ (∀ k, (k < 78 ∨ k = 79 ∨ k = 80 ∨ k = 81 ∨ k = 95) → μ' k = μ k) ∧ ∀ j, j ≠ 7 → j ≠ 17 → μ' 78 j = μ 78 j
theorem bJ_def (B : Bs) : bJ B = jn (bN B) (bV B) (bX B) (bY B) (bN B - 1) := rfl
theorem lay_end {μ μa μc μf : Mem} (hR : rng μ) (hRf : rng μf) (h78 : ∀ j, j ≠ 7 → μa 78 j = μ 78 j) (h7 : μa 78 7 = 1) (hfa : ∀ k, k ≠ 78 → k ≠ 82 → k ≠ 83 → k ≠ 84 → k ≠ 85 → μa k = μ k) (hma : ∀ x, x < bN (mB μ) → MKm μa (mB μ) x)
    (hpr : ∀ x y, x < bN (mB μ) → y < bN (mB μ) → ¬ x = y → PRm μc (mB μ) x y) (hfc : ∀ k, k ≠ 86 → k ≠ 87 → k ≠ 88 → k ≠ 89 → k ≠ 90 → μc k = μa k)
    (hj : JOm μf (bN (mB μ)) (jn (bN (mB μ)) (bV (mB μ)) (bX (mB μ)) (bY (mB μ)) (bN (mB μ) - 1))) (hff : ∀ k, k ≠ 78 → k ≠ 91 → k ≠ 92 → k ≠ 93 → k ≠ 94 → μf k = μc k) (hf78 : ∀ j, j ≠ 17 → μf 78 j = μc 78 j) : LTp μ μf := by
  have e2 : ∀ k, k ≠ 78 → k ≠ 91 → k ≠ 92 → k ≠ 93 → k ≠ 94 → k ≠ 86 → k ≠ 87 → k ≠ 88 → k ≠ 89 → k ≠ 90 → μf k = μa k := fun k h0 h1 h2 h3 h4 h5 h6 h7 h8 h9 => by rw [hff k h0 h1 h2 h3 h4, hfc k h5 h6 h7 h8 h9]
  have e78 : ∀ j, j ≠ 7 → j ≠ 17 → μf 78 j = μ 78 j := fun j h1 h2 => by rw [hf78 j h2, hfc 78 (by decide) (by decide) (by decide) (by decide) (by decide), h78 j h1]
  have e3 : ∀ k, (k < 78 ∨ k = 79 ∨ k = 80 ∨ k = 81 ∨ k = 95) → μf k = μ k := fun k hk => by rw [e2 k (by omega) (by omega) (by omega) (by omega) (by omega) (by omega) (by omega) (by omega) (by omega) (by omega), hfa k (by omega) (by omega) (by omega) (by omega) (by omega)]
  have hB : mB μf = mB μ := mB_fr (e78 1 (by decide) (by decide)) (e78 5 (by decide) (by decide)) (e78 6 (by decide) (by decide)) (e3 79 (by decide)) (e3 80 (by decide)) (e3 81 (by decide))
  refine ⟨hRf, ?_, ?_, hB, e3, e78⟩
  · rw [hf78 7 (by decide), hfc 78 (by decide) (by decide) (by decide) (by decide) (by decide)]; exact h7
  · unfold MDn
    rw [hB]
    refine ⟨fun p hp => ?_, fun a b ha hb hab => ?_, ?_⟩
    · have g : ∀ k, (k = 82 ∨ k = 83 ∨ k = 84 ∨ k = 85) → μf k = μa k := fun k hk => e2 k (by omega) (by omega) (by omega) (by omega) (by omega) (by omega) (by omega) (by omega) (by omega) (by omega)
      exact MKm_fr (hma p hp) (by rw [g 83 (by decide)]) (fun m _ => by rw [g 84 (by decide)]) (fun m _ => by rw [g 82 (by decide)]) (fun m _ => by rw [g 85 (by decide)])
    · have g : ∀ k, (k = 86 ∨ k = 87 ∨ k = 88 ∨ k = 89 ∨ k = 90) → μf k = μc k := fun k hk => hff k (by omega) (by omega) (by omega) (by omega) (by omega)
      exact PRm_fr (hpr a b ha hb hab) (fun m _ => by rw [g 86 (by decide)]) ⟨by rw [g 87 (by decide)], by rw [g 88 (by decide)], by rw [g 89 (by decide)], by rw [g 90 (by decide)]⟩
    · exact hj
theorem LTp_id {μ : Mem} (hR : rng μ) (h7 : μ 78 7 = 1) (h : MIv μ) : LTp μ μ := ⟨hR, h7, h h7, rfl, fun _ _ => rfl, fun _ _ _ => rfl⟩
