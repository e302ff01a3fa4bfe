theorem bov_wh {B : Bs} {a b : Nat} : 0 < (bov B a b).2.2.1 ↔ 0 < (bov B a b).2.2.2 := by
  unfold bov ovr
  by_cases g : 0 < min (jxx B a + bW B a - 1) (jxx B b + bW B b - 1) - max (jxx B a) (jxx B b) + 1 ∧ 0 < min (jyy B a + bH B a - 1) (jyy B b + bH B b - 1) - max (jyy B a) (jyy B b) + 1
  · rw [if_pos g]
    dsimp only
    exact ⟨fun _ => g.2, fun _ => g.1⟩
  · rw [if_neg g]
theorem bou_rng {B : Bs} (hB : Bok B) {a b : Nat} (ha : a < bN B) (hb : b < bN B) (r c : Nat) : 0 ≤ bou B a b r c ∧ bou B a b r c ≤ 255 := oun_rng (fun x y => bda_rng hB ha x y) (fun x y => bda_rng hB hb x y) _ _ r c
theorem scl_0 {own : Nat → Nat → Int} {w h : Nat} : scl own w h 0 = chp (cso own w h (h - 1)) 0 ((w : Int) - 1) w := rfl
