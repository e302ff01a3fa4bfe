theorem CD_ovr {μ : Mem} (h : CD μ) {a b : Nat} (ha : a < bN (cB μ)) (hb : b < bN (cB μ)) (ja : ¬ jrk (cB μ) a = -6) (jb : ¬ jrk (cB μ) b = -6) : ovr (μ (10 + a) 2) (μ (10 + a) 3) (μ (14 + a) 2) (μ (14 + a) 3) (μ (10 + b) 2) (μ (10 + b) 3) (μ (14 + b) 2) (μ (14 + b) 3) = bov (cB μ) a b := by
  obtain ⟨g1, g2, -⟩ := (CD_pic h ha).2 ja
  obtain ⟨g3, g4, -⟩ := (CD_pic h hb).2 jb
  unfold bov
  rw [cB_W ha, cB_H ha, cB_W hb, cB_H hb, g1, g2, g3, g4]
theorem bda_rng {B : Bs} (hB : Bok B) {a : Nat} (ha : a < bN B) (x y : Int) : -1 ≤ bda B a x y ∧ bda B a x y ≤ 255 := (hB.2 a ha).2.2.1 _ _
theorem CD_bda {μ μ2 : Mem} (h : CD μ) (hf : ∀ k, k ≠ 3 → μ2 k = μ k) {a : Nat} (ha : a < bN (cB μ)) (ja : ¬ jrk (cB μ) a = -6) (x y : Int) : dgt (μ2 (14 + a) 2) (μ2 (14 + a) 3) (μ2 (18 + a)) (x - μ2 (10 + a) 2) (y - μ2 (10 + a) 3) = bda (cB μ) a x y := by
  rw [hf (14 + a) (by omega), hf (18 + a) (by omega), hf (10 + a) (by omega)]
  exact CD_dot h ha ja x y
theorem bov_rng {B : Bs} (hB : Bok B) {a b : Nat} (ha : a < bN B) : 0 ≤ (bov B a b).2.2.1 ∧ (bov B a b).2.2.1 ≤ 20 ∧ 0 ≤ (bov B a b).2.2.2 ∧ (bov B a b).2.2.2 ≤ 20 := ovr_rng (hB.2 a ha).1.2 (hB.2 a ha).2.1.2
