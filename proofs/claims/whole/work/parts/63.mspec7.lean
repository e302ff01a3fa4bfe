/-- in the overlap of two pictures the places of both lie -/
theorem OV_in {μ : Mem} {a b : Nat} (h : (μ 78 22, μ 78 23, μ 78 24, μ 78 25) = ovr (μ 91 a) (μ 92 a) (μ 79 a) (μ 80 a) (μ 91 b) (μ 92 b) (μ 79 b) (μ 80 b)) {x y : Int} (hx : 0 ≤ x ∧ x < μ 78 24) (hy : 0 ≤ y ∧ y < μ 78 25) :
    ((0 ≤ μ 78 22 + x - μ 91 a ∧ μ 78 22 + x - μ 91 a < μ 79 a) ∧ 0 ≤ μ 78 23 + y - μ 92 a ∧ μ 78 23 + y - μ 92 a < μ 80 a) ∧ ((0 ≤ μ 78 22 + x - μ 91 b ∧ μ 78 22 + x - μ 91 b < μ 79 b) ∧ 0 ≤ μ 78 23 + y - μ 92 b ∧ μ 78 23 + y - μ 92 b < μ 80 b) := by
  have e0 := congrArg (fun z => z.1) h
  have e1 := congrArg (fun z => z.2.1) h
  have e2 := congrArg (fun z => z.2.2.1) h
  have e3 := congrArg (fun z => z.2.2.2) h
  unfold ovr at e0 e1 e2 e3
  by_cases g : 0 < min (μ 91 a + μ 79 a - 1) (μ 91 b + μ 79 b - 1) - max (μ 91 a) (μ 91 b) + 1 ∧ 0 < min (μ 92 a + μ 80 a - 1) (μ 92 b + μ 80 b - 1) - max (μ 92 a) (μ 92 b) + 1
  · rw [if_pos g] at e0 e1 e2 e3
    dsimp only at e0 e1 e2 e3
    omega
  · rw [if_neg g] at e0 e1 e2 e3
    dsimp only at e0 e1 e2 e3
    omega
/-- the least of a row's three columns around c, x of them seen -/
def blw (f : Nat → Int) (c : Int) (w x : Nat) : Int := if c - 1 + (x : Int) ≤ max (c - 1) 0 then -6 else ((chg f (max (c - 1) 0).toNat (min (c - 2 + (x : Int)) ((w : Int) - 1) - max (c - 1) 0).toNat : Nat) : Int)
theorem blw_0 (f : Nat → Int) (c : Int) (w : Nat) : blw f c w 0 = -6 := by
  unfold blw
  rw [if_pos (by omega)]
theorem blw_rng {f : Nat → Int} {c : Int} {w x : Nat} (hc : 0 ≤ c ∧ c < w) : blw f c w x = -6 ∨ (0 ≤ blw f c w x ∧ blw f c w x < w ∧ blw f c w x < c - 1 + (x : Int)) := by
  unfold blw
  split
  · exact Or.inl rfl
  · have := chg_rng f (max (c - 1) 0).toNat (min (c - 2 + (x : Int)) ((w : Int) - 1) - max (c - 1) 0).toNat
    right
    omega
theorem blw_out {f : Nat → Int} {c : Int} {w x : Nat} (hc : 0 ≤ c ∧ c < w) (hx : x < 3) (h : ¬ (0 ≤ c - 1 + (x : Int) ∧ c - 1 + (x : Int) < w)) : blw f c w (x + 1) = blw f c w x := by
  unfold blw
  by_cases g : c - 1 + (x : Int) ≤ max (c - 1) 0
  · rw [if_pos g, if_pos (by omega)]
  · rw [if_neg g, if_neg (by omega)]
    congr 2
    omega
theorem blw_first {f : Nat → Int} {c : Int} {w x : Nat} (hc : 0 ≤ c ∧ c < w) (h : 0 ≤ c - 1 + (x : Int) ∧ c - 1 + (x : Int) < w) (h6 : blw f c w x = -6) : blw f c w (x + 1) = c - 1 + (x : Int) := by
  unfold blw at h6 ⊢
  by_cases g : c - 1 + (x : Int) ≤ max (c - 1) 0
  · rw [if_neg (by omega), show (min (c - 2 + ((x + 1 : Nat) : Int)) ((w : Int) - 1) - max (c - 1) 0).toNat = 0 by omega]
    show (((max (c - 1) 0).toNat : Nat) : Int) = _
    omega
  · rw [if_neg g] at h6
    omega
theorem blw_next {f : Nat → Int} {c : Int} {w x : Nat} (hc : 0 ≤ c ∧ c < w) (h : 0 ≤ c - 1 + (x : Int) ∧ c - 1 + (x : Int) < w) (h6 : ¬ blw f c w x = -6) : blw f c w (x + 1) = if f (c - 1 + (x : Int)).toNat < f (blw f c w x).toNat then c - 1 + (x : Int) else blw f c w x := by
  unfold blw at h6 ⊢
  by_cases g : c - 1 + (x : Int) ≤ max (c - 1) 0
  · rw [if_pos g] at h6
    exact absurd rfl h6
  · rw [if_neg g, if_neg (by omega)]
    obtain ⟨n, hn⟩ : ∃ n, n = (min (c - 2 + (x : Int)) ((w : Int) - 1) - max (c - 1) 0).toNat := ⟨_, rfl⟩
    have e1 : (min (c - 2 + ((x + 1 : Nat) : Int)) ((w : Int) - 1) - max (c - 1) 0).toNat = n + 1 := by omega
    rw [e1, ← hn, chg, Int.toNat_natCast]
    have e2 : (max (c - 1) 0).toNat + n + 1 = (c - 1 + (x : Int)).toNat := by omega
    rw [e2]
    split
    · omega
    · rfl
theorem blw_end (f : Nat → Int) {c : Int} {w : Nat} (hc : 0 ≤ c ∧ c < w) : blw f c w 3 = ((chp f (c - 1) (c + 1) w : Nat) : Int) := by
  unfold blw chp
  rw [if_neg (by omega)]
  congr 2
  omega
theorem chp_row (f : Nat → Int) {w : Nat} (hw : 0 < w) : chp f 0 ((w : Int) - 1) w = chg f 0 (w - 1) := by
  unfold chp
  rw [show (max (0 : Int) 0).toNat = 0 by omega, show (min ((w : Int) - 1) ((w : Int) - 1) - max (0 : Int) 0).toNat = w - 1 by omega]
theorem chg_s {f : Nat → Int} {n : Nat} : chg f 0 (n + 1) = if f (n + 1) < f (chg f 0 n) then n + 1 else chg f 0 n := by
  rw [chg, Nat.zero_add]
