/-! what dots, scores and signs are, over Int -/
def dgt (W H : Int) (v : Nat → Int) (i j : Int) : Int := if 0 ≤ i ∧ i < W ∧ 0 ≤ j ∧ j < H then v (j * 20 + i).toNat else -1
theorem dgt_in {W H : Int} {v : Nat → Int} {i j : Int} (h : 0 ≤ i ∧ i < W ∧ 0 ≤ j ∧ j < H) : dgt W H v i j = v (j * 20 + i).toNat := if_pos h
theorem dgt_out {W H : Int} {v : Nat → Int} {i j : Int} (h : ¬ (0 ≤ i ∧ i < W ∧ 0 ≤ j ∧ j < H)) : dgt W H v i j = -1 := if_neg h
theorem dgt_rng {W H : Int} {v : Nat → Int} (h : ∀ t, -1 ≤ v t ∧ v t ≤ 255) (i j : Int) : -1 ≤ dgt W H v i j ∧ dgt W H v i j ≤ 255 := by
  unfold dgt
  split
  · exact h _
  · omega
def wayx (w : Nat) : Int := if w = 1 then 0 else 1
def wayy (w : Nat) : Int := if w = 0 then 0 else if w = 3 then -1 else 1
/-- the k-th of the nine terms of a way's sum; -1: lost -/
def cht (d : Int → Int → Int) (i j wx wy : Int) (k : Nat) : Int :=
  if d (i - 1 + ((k % 3 : Nat) : Int)) (j - 1 + ((k / 3 : Nat) : Int)) = -1 ∨ d (i - 1 + ((k % 3 : Nat) : Int) + wx) (j - 1 + ((k / 3 : Nat) : Int) + wy) = -1 then -1
  else (d (i - 1 + ((k % 3 : Nat) : Int)) (j - 1 + ((k / 3 : Nat) : Int)) - d (i - 1 + ((k % 3 : Nat) : Int) + wx) (j - 1 + ((k / 3 : Nat) : Int) + wy)) * (d (i - 1 + ((k % 3 : Nat) : Int)) (j - 1 + ((k / 3 : Nat) : Int)) - d (i - 1 + ((k % 3 : Nat) : Int) + wx) (j - 1 + ((k / 3 : Nat) : Int) + wy))
def chs (d : Int → Int → Int) (i j wx wy : Int) : Nat → Int
  | 0 => 0
  | k + 1 => if chs d i j wx wy k = -1 ∨ cht d i j wx wy k = -1 then -1 else chs d i j wx wy k + cht d i j wx wy k
theorem sq_le {a b : Int} (ha : 0 ≤ a ∧ a ≤ 255) (hb : 0 ≤ b ∧ b ≤ 255) : 0 ≤ (a - b) * (a - b) ∧ (a - b) * (a - b) ≤ 65025 := by
  have h1 : (a - b).natAbs ≤ 255 := by omega
  have h2 : (a - b) * (a - b) = (((a - b).natAbs * (a - b).natAbs : Nat) : Int) := by
    rw [Int.natCast_mul, Int.natAbs_mul_self']
  have h3 : (a - b).natAbs * (a - b).natAbs ≤ 255 * 255 := Nat.mul_le_mul h1 h1
  rw [h2]
  omega
theorem cht_rng {d : Int → Int → Int} (hd : ∀ x y, -1 ≤ d x y ∧ d x y ≤ 255) (i j wx wy : Int) (k : Nat) : -1 ≤ cht d i j wx wy k ∧ cht d i j wx wy k ≤ 65025 := by
  unfold cht
  split
  · omega
  · rename_i h
    have h1 := hd (i - 1 + ((k % 3 : Nat) : Int)) (j - 1 + ((k / 3 : Nat) : Int))
    have h2 := hd (i - 1 + ((k % 3 : Nat) : Int) + wx) (j - 1 + ((k / 3 : Nat) : Int) + wy)
    have := sq_le (a := d (i - 1 + ((k % 3 : Nat) : Int)) (j - 1 + ((k / 3 : Nat) : Int))) (b := d (i - 1 + ((k % 3 : Nat) : Int) + wx) (j - 1 + ((k / 3 : Nat) : Int) + wy)) (by omega) (by omega)
    omega
theorem chs_rng {d : Int → Int → Int} (hd : ∀ x y, -1 ≤ d x y ∧ d x y ≤ 255) (i j wx wy : Int) : ∀ k : Nat, -1 ≤ chs d i j wx wy k ∧ chs d i j wx wy k ≤ k * 65025
  | 0 => by simp [chs]
  | k + 1 => by
    have h1 := chs_rng hd i j wx wy k
    have h2 := cht_rng hd i j wx wy k
    unfold chs
    split
    · omega
    · rename_i h
      omega
theorem chs_step {d : Int → Int → Int} {i j wx wy : Int} {k : Nat} (h0 : chs d i j wx wy k ≠ -1) (h1 : cht d i j wx wy k ≠ -1) : chs d i j wx wy (k + 1) = chs d i j wx wy k + cht d i j wx wy k := by
  rw [chs, if_neg (fun h => h.elim h0 h1)]
theorem chs_lost {d : Int → Int → Int} {i j wx wy : Int} {k : Nat} (h : chs d i j wx wy k = -1 ∨ cht d i j wx wy k = -1) : chs d i j wx wy (k + 1) = -1 := by
  rw [chs, if_pos h]
theorem chs_stays {d : Int → Int → Int} {i j wx wy : Int} {k : Nat} (h : chs d i j wx wy k = -1) : ∀ n, chs d i j wx wy (k + n) = -1
  | 0 => h
  | n + 1 => chs_lost (Or.inl (chs_stays h n))
/-- a way's sum; -1: one of its dots is lost -/
def chv (d : Int → Int → Int) (i j : Int) (w : Nat) : Int := chs d i j (wayx w) (wayy w) 9
def scv (d : Int → Int → Int) (i j : Int) : Int := if chv d i j 0 = -1 ∨ chv d i j 1 = -1 ∨ chv d i j 2 = -1 ∨ chv d i j 3 = -1 then 0 else min (min (min (chv d i j 0) (chv d i j 1)) (chv d i j 2)) (chv d i j 3)
theorem chv_rng {d : Int → Int → Int} (hd : ∀ x y, -1 ≤ d x y ∧ d x y ≤ 255) (i j : Int) (w : Nat) : -1 ≤ chv d i j w ∧ chv d i j w ≤ 585225 := by
  have := chs_rng hd i j (wayx w) (wayy w) 9
  unfold chv
  omega
/-- the score of a dot: 0 at the rim -/
def sco (W H : Int) (d : Int → Int → Int) (i j : Int) : Int := if 3 ≤ i ∧ i ≤ W - 4 ∧ 3 ≤ j ∧ j ≤ H - 4 then scv d i j else 0
theorem scv_rng {d : Int → Int → Int} (hd : ∀ x y, -1 ≤ d x y ∧ d x y ≤ 255) (i j : Int) : 0 ≤ scv d i j ∧ scv d i j ≤ 585225 := by
  have h0 := chv_rng hd i j 0
  have h1 := chv_rng hd i j 1
  have h2 := chv_rng hd i j 2
  have h3 := chv_rng hd i j 3
  unfold scv
  split <;> omega
theorem sco_rng {W H : Int} {d : Int → Int → Int} (hd : ∀ x y, -1 ≤ d x y ∧ d x y ≤ 255) (i j : Int) : 0 ≤ sco W H d i j ∧ sco W H d i j ≤ 585225 := by
  unfold sco
  split
  · exact scv_rng hd i j
  · omega
theorem cht_at {d : Int → Int → Int} {i j wx wy col row : Int} {r c : Nat} (hcol : col = i - 1 + (c : Int)) (hrow : row = j - 1 + (r : Int)) (hc : c < 3) : cht d i j wx wy (3 * r + c) = if d col row = -1 ∨ d (col + wx) (row + wy) = -1 then -1 else (d col row - d (col + wx) (row + wy)) * (d col row - d (col + wx) (row + wy)) := by
  unfold cht
  rw [show (3 * r + c) % 3 = c by omega, show (3 * r + c) / 3 = r by omega, ← hcol, ← hrow]
theorem chs_next {d : Int → Int → Int} (hd : ∀ x y, -1 ≤ d x y ∧ d x y ≤ 255) {i j wx wy col row : Int} {r c : Nat} (hne : chs d i j wx wy (3 * r + c) ≠ -1) (hcol : col = i - 1 + (c : Int)) (hrow : row = j - 1 + (r : Int)) (hc : c < 3) (h1 : ¬ d col row = -1) (h2 : ¬ d (col + wx) (row + wy) = -1) : chs d i j wx wy (3 * r + (c + 1)) = chs d i j wx wy (3 * r + c) + (d col row - d (col + wx) (row + wy)) * (d col row - d (col + wx) (row + wy)) ∧ chs d i j wx wy (3 * r + (c + 1)) ≠ -1 := by
  have e := cht_at (d := d) (wx := wx) (wy := wy) hcol hrow hc
  rw [if_neg (fun h => h.elim h1 h2)] at e
  have g1 := hd col row
  have g2 := hd (col + wx) (row + wy)
  have g3 := sq_le (a := d col row) (b := d (col + wx) (row + wy)) (by omega) (by omega)
  have g4 := chs_rng hd i j wx wy (3 * r + c)
  have g5 := chs_step (k := 3 * r + c) hne (by rw [e]; omega)
  rw [e] at g5
  rw [show 3 * r + (c + 1) = 3 * r + c + 1 from rfl, g5]
  exact ⟨rfl, by omega⟩
theorem chs_lostat {d : Int → Int → Int} {i j wx wy col row : Int} {r c : Nat} (hcol : col = i - 1 + (c : Int)) (hrow : row = j - 1 + (r : Int)) (hc : c < 3) (hr : r < 3) (h : d col row = -1 ∨ d (col + wx) (row + wy) = -1) : chs d i j wx wy 9 = -1 := by
  have e := cht_at (d := d) (wx := wx) (wy := wy) hcol hrow hc
  rw [if_pos h] at e
  have := chs_stays (chs_lost (Or.inr e)) (8 - (3 * r + c))
  rwa [show 3 * r + c + 1 + (8 - (3 * r + c)) = 9 by omega] at this
/-- a kept score: 0 outside -/
def kgt (W H : Int) (v : Nat → Int) (i j : Int) : Int := if 0 ≤ i ∧ i < W ∧ 0 ≤ j ∧ j < H then v (j * 20 + i).toNat else 0
theorem kgt_in {W H : Int} {v : Nat → Int} {i j : Int} (h : 0 ≤ i ∧ i < W ∧ 0 ≤ j ∧ j < H) : kgt W H v i j = v (j * 20 + i).toNat := if_pos h
theorem kgt_out {W H : Int} {v : Nat → Int} {i j : Int} (h : ¬ (0 ≤ i ∧ i < W ∧ 0 ≤ j ∧ j < H)) : kgt W H v i j = 0 := if_neg h
theorem kgt_rng {W H : Int} {v : Nat → Int} (h : ∀ t, 0 ≤ v t ∧ v t ≤ 585225) (i j : Int) : 0 ≤ kgt W H v i j ∧ kgt W H v i j ≤ 585225 := by
  unfold kgt
  split
  · exact h _
  · omega
/-- the k-th of the 25 dots about one: not greater, and not the same if it comes ahead -/
def pkt (f : Int → Int → Int) (i j : Int) (k : Nat) : Prop := f (i - 2 + ((k % 5 : Nat) : Int)) (j - 2 + ((k / 5 : Nat) : Int)) ≤ f i j ∧ (k < 12 → f (i - 2 + ((k % 5 : Nat) : Int)) (j - 2 + ((k / 5 : Nat) : Int)) ≠ f i j)
def pk (f : Int → Int → Int) (i j : Int) : Prop := ∀ k : Nat, k < 25 → pkt f i j k
theorem pkt_at {f : Int → Int → Int} {i j col row : Int} {r c : Nat} (hcol : col = i - 2 + (c : Int)) (hrow : row = j - 2 + (r : Int)) (hc : c < 5) : pkt f i j (5 * r + c) ↔ f col row ≤ f i j ∧ ((row < j ∨ (row = j ∧ col < i)) → f col row ≠ f i j) := by
  unfold pkt
  rw [show (5 * r + c) % 5 = c by omega, show (5 * r + c) / 5 = r by omega, ← hcol, ← hrow]
  exact ⟨fun h => ⟨h.1, fun g => h.2 (by omega)⟩, fun h => ⟨h.1, fun g => h.2 (by omega)⟩⟩
theorem jlt_s {P : Nat → Prop} {n : Nat} (h : ∀ k, k < n → P k) (hn : P n) : ∀ k, k < n + 1 → P k := by
  intro k hk
  rcases Nat.lt_succ_iff_lt_or_eq.mp hk with h1 | rfl
  · exact h k h1
  · exact hn
def sgn (d : Int → Int → Int) (i j : Int) : Nat → Int
  | 0 => 0
  | n + 1 => if d (i + (n : Int) % 5 - 2) (j + (n : Int) % 3 - 1) < d (i + 2 - (n : Int) % 4) (j + (n : Int) % 5 - 2) then zor (sgn d i j n) (zshl 1 (n : Int)) else sgn d i j n
theorem zshl1 : ∀ n : Nat, n < 12 → zshl 1 (n : Int) = ((2 ^ n : Nat) : Int) := by decide +kernel
theorem zI_nat (n : Nat) : zI (n : Int) = Int32.ofNat n := Int32.ofInt_eq_ofNat
theorem zor_nat {a b : Nat} (h : a ||| b < 2147483648) : zor (a : Int) (b : Int) = ((a ||| b : Nat) : Int) := by
  unfold zor
  rw [zI_nat, zI_nat]
  have e : Int32.ofNat a ||| Int32.ofNat b = Int32.ofNat (a ||| b) := by
    apply Int32.toBitVec_inj.mp
    rw [Int32.toBitVec_or, Int32.toBitVec_ofNat', Int32.toBitVec_ofNat', Int32.toBitVec_ofNat']
    apply BitVec.eq_of_getLsbD_eq
    intro i hi
    simp [BitVec.getLsbD_or, BitVec.getLsbD_ofNat, hi, Nat.testBit_or]
  rw [e, ← zI_nat, zI_toInt ⟨by omega, by omega⟩]
theorem sgn_rng (d : Int → Int → Int) (i j : Int) : ∀ n : Nat, n ≤ 12 → ∃ m : Nat, sgn d i j n = (m : Int) ∧ m < 2 ^ n
  | 0, _ => ⟨0, rfl, by decide⟩
  | n + 1, h => by
    obtain ⟨m, e, hm⟩ := sgn_rng d i j n (by omega)
    have hp : 2 ^ n < 2 ^ (n + 1) := Nat.pow_lt_pow_right (by decide) (by omega)
    unfold sgn
    split
    · have h1 : m ||| 2 ^ n < 2 ^ (n + 1) := Nat.or_lt_two_pow (by omega) hp
      have h2 : 2 ^ (n + 1) ≤ 2 ^ 12 := Nat.pow_le_pow_right (by decide) h
      rw [e, zshl1 n (by omega), zor_nat (by omega)]
      exact ⟨_, rfl, h1⟩
    · exact ⟨m, e, by omega⟩
theorem sgn12 (d : Int → Int → Int) (i j : Int) : 0 ≤ sgn d i j 12 ∧ sgn d i j 12 ≤ 4095 := by
  obtain ⟨m, e, h⟩ := sgn_rng d i j 12 (by omega)
  rw [e]
  omega
theorem jms_arr (μ : Mem) (k a : Nat) (z : Int) (b : Nat) : jms μ k a z k b = if b = a then z else μ k b := by simp [jms]
/-- what a method that changes nothing answers -/
def rdq (μ : Mem) (v : Int) : Int → Mem → Prop := fun z μ' => v = z ∧ μ = μ'
/-- an answer yes or no, nothing changed -/
def rdc (μ : Mem) (c : Prop) : Int → Mem → Prop := fun z μ' => μ = μ' ∧ ((z = 1 ∧ c) ∨ (z = 0 ∧ ¬ c))
theorem chs_0 (d : Int → Int → Int) (i j wx wy : Int) : chs d i j wx wy 0 ≠ -1 := by simp [chs]
