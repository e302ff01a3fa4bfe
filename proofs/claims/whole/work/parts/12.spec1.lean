/-! what dots, scores and signs are, over Int -/
def dgt (W H : Int) (v : Nat → Int) (i j : Int) : Int := if 0 ≤ i ∧ i < W ∧ 0 ≤ j ∧ j < H then v (j * 20 + i).toNat else -1
theorem dgt_in {W H : Int} {v : Nat → Int} {i j : Int} (h : 0 ≤ i ∧ i < W ∧ 0 ≤ j ∧ j < H) : dgt W H v i j = v (j * 20 + i).toNat := if_pos h
theorem dgt_out {W H : Int} {v : Nat → Int} {i j : Int} (h : ¬ (0 ≤ i ∧ i < W ∧ 0 ≤ j ∧ j < H)) : dgt W H v i j = -1 := if_neg h
theorem dgt_rng {W H : Int} {v : Nat → Int} (h : ∀ t, -1 ≤ v t ∧ v t ≤ 255) (i j : Int) : -1 ≤ dgt W H v i j ∧ dgt W H v i j ≤ 255 := by
  unfold dgt
  split
  · exact h _
  · omega
def wayx (w : Nat) : Int := if w = 1 then 0 else 1
def wayy (w : Nat) : Int := if w = 0 then 0 else if w = 3 then -1 else 1
/-- the k-th of the nine terms of a way's sum; -1: lost -/
def cht (d : Int → Int → Int) (i j wx wy : Int) (k : Nat) : Int :=
  if d (i - 1 + ((k % 3 : Nat) : Int)) (j - 1 + ((k / 3 : Nat) : Int)) = -1 ∨ d (i - 1 + ((k % 3 : Nat) : Int) + wx) (j - 1 + ((k / 3 : Nat) : Int) + wy) = -1 then -1
  else (d (i - 1 + ((k % 3 : Nat) : Int)) (j - 1 + ((k / 3 : Nat) : Int)) - d (i - 1 + ((k % 3 : Nat) : Int) + wx) (j - 1 + ((k / 3 : Nat) : Int) + wy)) * (d (i - 1 + ((k % 3 : Nat) : Int)) (j - 1 + ((k / 3 : Nat) : Int)) - d (i - 1 + ((k % 3 : Nat) : Int) + wx) (j - 1 + ((k / 3 : Nat) : Int) + wy))
def chs (d : Int → Int → Int) (i j wx wy : Int) : Nat → Int
  | 0 => 0
  | k + 1 => if chs d i j wx wy k = -1 ∨ cht d i j wx wy k = -1 then -1 else chs d i j wx wy k + cht d i j wx wy k
theorem sq_le {a b : Int} (ha : 0 ≤ a ∧ a ≤ 255) (hb : 0 ≤ b ∧ b ≤ 255) : 0 ≤ (a - b) * (a - b) ∧ (a - b) * (a - b) ≤ 65025 := by
  have h1 : (a - b).natAbs ≤ 255 := by omega
  have h2 : (a - b) * (a - b) = (((a - b).natAbs * (a - b).natAbs : Nat) : Int) := by
    rw [Int.natCast_mul, Int.natAbs_mul_self']
  have h3 : (a - b).natAbs * (a - b).natAbs ≤ 255 * 255 := Nat.mul_le_mul h1 h1
  rw [h2]
  omega
theorem cht_rng {d : Int → Int → Int} (hd : ∀ x y, -1 ≤ d x y ∧ d x y ≤ 255) (i j wx wy : Int) (k : Nat) : -1 ≤ cht d i j wx wy k ∧ cht d i j wx wy k ≤ 65025 := by
  unfold cht
  split
  · omega
  · rename_i h
    have h1 := hd (i - 1 + ((k % 3 : Nat) : Int)) (j - 1 + ((k / 3 : Nat) : Int))
    have h2 := hd (i - 1 + ((k % 3 : Nat) : Int) + wx) (j - 1 + ((k / 3 : Nat) : Int) + wy)
    have := sq_le (a := d (i - 1 + ((k % 3 : Nat) : Int)) (j - 1 + ((k / 3 : Nat) : Int))) (b := d (i - 1 + ((k % 3 : Nat) : Int) + wx) (j - 1 + ((k / 3 : Nat) : Int) + wy)) (by omega) (by omega)
    omega
theorem chs_rng {d : Int → Int → Int} (hd : ∀ x y, -1 ≤ d x y ∧ d x y ≤ 255) (i j wx wy : Int) : ∀ k : Nat, -1 ≤ chs d i j wx wy k ∧ chs d i j wx wy k ≤ k * 65025
  | 0 => by simp [chs]
  | k + 1 => by
    have h1 := chs_rng hd i j wx wy k
    have h2 := cht_rng hd i j wx wy k
    unfold chs
    split
    · omega
    · rename_i h
      omega
theorem chs_step {d : Int → Int → Int} {i j wx wy : Int} {k : Nat} (h0 : chs d i j wx wy k ≠ -1) (h1 : cht d i j wx wy k ≠ -1) : chs d i j wx wy (k + 1) = chs d i j wx wy k + cht d i j wx wy k := by
  rw [chs, if_neg (fun h => h.elim h0 h1)]
theorem chs_lost {d : Int → Int → Int} {i j wx wy : Int} {k : Nat} (h : chs d i j wx wy k = -1 ∨ cht d i j wx wy k = -1) : chs d i j wx wy (k + 1) = -1 := by
  rw [chs, if_pos h]
theorem chs_stays {d : Int → Int → Int} {i j wx wy : Int} {k : Nat} (h : chs d i j wx wy k = -1) : ∀ n, chs d i j wx wy (k + n) = -1
  | 0 => h
  | n + 1 => chs_lost (Or.inl (chs_stays h n))
/-- a way's sum; -1: one of its dots is lost -/
def chv (d : Int → Int → Int) (i j : Int) (w : Nat) : Int := chs d i j (wayx w) (wayy w) 9
def scv (d : Int → Int → Int) (i j : Int) : Int := if chv d i j 0 = -1 ∨ chv d i j 1 = -1 ∨ chv d i j 2 = -1 ∨ chv d i j 3 = -1 then 0 else min (min (min (chv d i j 0) (chv d i j 1)) (chv d i j 2)) (chv d i j 3)
theorem chv_rng {d : Int → Int → Int} (hd : ∀ x y, -1 ≤ d x y ∧ d x y ≤ 255) (i j : Int) (w : Nat) : -1 ≤ chv d i j w ∧ chv d i j w ≤ 585225 := by
  have := chs_rng hd i j (wayx w) (wayy w) 9
  unfold chv
  omega
/-- the score of a dot: 0 at the rim -/
def sco (W H : Int) (d : Int → Int → Int) (i j : Int) : Int := if 3 ≤ i ∧ i ≤ W - 4 ∧ 3 ≤ j ∧ j ≤ H - 4 then scv d i j else 0
theorem scv_rng {d : Int → Int → Int} (hd : ∀ x y, -1 ≤ d x y ∧ d x y ≤ 255) (i j : Int) : 0 ≤ scv d i j ∧ scv d i j ≤ 585225 := by
  have h0 := chv_rng hd i j 0
  have h1 := chv_rng hd i j 1
  have h2 := chv_rng hd i j 2
  have h3 := chv_rng hd i j 3
  unfold scv
  split <;> omega
theorem sco_rng {W H : Int} {d : Int → Int → Int} (hd : ∀ x y, -1 ≤ d x y ∧ d x y ≤ 255) (i j : Int) : 0 ≤ sco W H d i j ∧ sco W H d i j ≤ 585225 := by
  unfold sco
  split
  · exact scv_rng hd i j
  · omega
