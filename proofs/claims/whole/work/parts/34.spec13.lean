/-- what the settled memory says of a picture, of a place in the order -/
theorem CD_pic {μ : Mem} (h : CD μ) {p : Nat} (hp : p < bN (cB μ)) : μ (10 + p) 5 = jrk (cB μ) p ∧ (¬ jrk (cB μ) p = -6 → μ (10 + p) 2 = jxx (cB μ) p ∧ μ (10 + p) 3 = jyy (cB μ) p ∧ μ (10 + p) 4 = jbb (cB μ) p) := h.2.2.2.1 p hp
theorem CD_ord {μ : Mem} (h : CD μ) {k : Nat} (hk : k < (bJ (cB μ)).1) : 0 ≤ μ 7 k ∧ μ 7 k < bN (cB μ) ∧ jrk (cB μ) (μ 7 k).toNat = (k : Int) := h.2.2.2.2 k hk
theorem CD_n {μ : Mem} (h : CD μ) : μ 2 4 = ((bJ (cB μ)).1 : Int) := h.2.2.1
theorem CD_dot {μ : Mem} (h : CD μ) {p : Nat} (hp : p < bN (cB μ)) (hr : ¬ jrk (cB μ) p = -6) (x y : Int) : dgt (μ (14 + p) 2) (μ (14 + p) 3) (μ (18 + p)) (x - μ (10 + p) 2) (y - μ (10 + p) 3) = bdv (cB μ) x y p := by
  obtain ⟨h1, h2, -⟩ := (CD_pic h hp).2 hr
  unfold bdv
  rw [cB_D hp, h1, h2]
theorem CD_edge {μ : Mem} (h : CD μ) {p : Nat} (hp : p < bN (cB μ)) (hr : ¬ jrk (cB μ) p = -6) (what : Int) : edg (μ (10 + p) 2) (μ (10 + p) 3) (μ (14 + p) 2) (μ (14 + p) 3) what = bex (cB μ) what p := by
  obtain ⟨h1, h2, -⟩ := (CD_pic h hp).2 hr
  unfold bex
  rw [cB_W hp, cB_H hp, h1, h2]
theorem CD_inv {μ : Mem} (hR : rng μ) : jinv (bN (cB μ)) (bJ (cB μ)) := bJ_inv (cB_ok hR)
/-- each joined picture stands in the order, once -/
theorem CD_at {μ : Mem} (hR : rng μ) (h : CD μ) {p : Nat} (hp : p < bN (cB μ)) (hr : ¬ jrk (cB μ) p = -6) : ∃ k : Nat, k < (bJ (cB μ)).1 ∧ jrk (cB μ) p = (k : Int) ∧ (μ 7 k).toNat = p := by
  have hi := CD_inv hR
  have g := hi.2.1 p hp
  have e : jrk (cB μ) p = (bJ (cB μ)).2.1 p := rfl
  obtain ⟨k, hk⟩ : ∃ k : Nat, jrk (cB μ) p = (k : Int) := ⟨(jrk (cB μ) p).toNat, by omega⟩
  have ho := CD_ord h (k := k) (by omega)
  refine ⟨k, by omega, hk, ?_⟩
  exact (hi.2.2 p _ hp (by omega) hr (by show jrk _ _ = jrk _ _; rw [hk, ho.2.2])).symm
theorem CD_first {μ : Mem} (hR : rng μ) (h : CD μ) {x y : Int} {k : Nat} (hk : k < (bJ (cB μ)).1) (h1 : ¬ bdv (cB μ) x y (μ 7 k).toNat = -1) (h2 : ∀ j, j < k → bdv (cB μ) x y (μ 7 j).toNat = -1) : fat (cB μ) x y = μ 7 k := by
  have hi := CD_inv hR
  have ho := CD_ord h hk
  have e := pat_eq (rk := jrk (cB μ)) (dv := bdv (cB μ) x y) (c := bN (cB μ)) (p := (μ 7 k).toNat) (fun p q hp hq g1 g2 => hi.2.2 p q hp hq g1 g2) (by omega) (by rw [ho.2.2]; omega) h1 (fun q hq g1 g2 => by
    obtain ⟨j, hj, g3, g4⟩ := CD_at hR h hq g1
    rw [ho.2.2, g3]
    by_cases hjk : j < k
    · have := h2 j hjk
      rw [g4] at this
      exact absurd this g2
    · omega)
  unfold fat
  rw [e]
  omega
theorem CD_none {μ : Mem} (hR : rng μ) (h : CD μ) {x y : Int} (h2 : ∀ j, j < (bJ (cB μ)).1 → bdv (cB μ) x y (μ 7 j).toNat = -1) : fat (cB μ) x y = -6 :=
  pat_none (fun p hp g1 => by
    obtain ⟨j, hj, g3, g4⟩ := CD_at hR h hp g1
    have := h2 j hj
    rwa [g4] at this)
theorem CD_ord0 {μ : Mem} (hR : rng μ) (h : CD μ) (hc : 0 < bN (cB μ)) : (μ 7 0).toNat = 0 := by
  obtain ⟨k, hk, g3, g4⟩ := CD_at hR h hc (by rw [jrk0 hc]; decide)
  rw [jrk0 hc] at g3
  have : k = 0 := by omega
  rw [this] at g4
  exact g4
