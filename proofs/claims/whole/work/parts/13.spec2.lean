/-! light, bits -/
def lg0 (s x y : Int) : Int := x / 3 * 73856093 + y / 3 * 19349663 + s * 83492791
def lgm (m : Int) : Int := zxor m (zushr m 15) * 739982445
def lgt (s x y : Int) : Int := zand (zushr (lgm (lgm (lg0 s x y))) 16) 255
theorem zand255 (a : Int) : 0 ≤ zand a 255 ∧ zand a 255 ≤ 255 := by
  obtain ⟨j, hj, e⟩ := pk_andE (zI a) (m := zI 255) 8 (by decide +kernel)
  unfold zand
  rw [e, nI_toInt (by omega)]
  omega
theorem lgt_rng (s x y : Int) : 0 ≤ lgt s x y ∧ lgt s x y ≤ 255 := zand255 _
theorem gl_rng {g l : Int} (hg : 1 ≤ g ∧ g ≤ 64) (hl : 0 ≤ l ∧ l ≤ 255) : 0 ≤ g * l ∧ g * l ≤ 16320 := by
  have h1 : 0 ≤ g * l := Int.mul_nonneg (by omega) hl.1
  have h2 : g * l ≤ 64 * 255 := Int.mul_le_mul hg.2 hl.2 hl.1 (by omega)
  omega
/-- a shot dot -/
def shv (s x y g i j : Int) : Int := min 255 (g * lgt s (x + i) (y + j) / 16)
theorem shv_rng {s x y g i j : Int} (hg : 1 ≤ g ∧ g ≤ 64) : 0 ≤ shv s x y g i j ∧ shv s x y g i j ≤ 255 := by
  have := gl_rng hg (lgt_rng s (x + i) (y + j))
  unfold shv
  omega
theorem zxor_nat {a b : Nat} (h : a ^^^ b < 2147483648) : zxor (a : Int) (b : Int) = ((a ^^^ b : Nat) : Int) := by
  unfold zxor
  rw [zI_nat, zI_nat]
  have e : Int32.ofNat a ^^^ Int32.ofNat b = Int32.ofNat (a ^^^ b) := by
    apply Int32.toBitVec_inj.mp
    rw [Int32.toBitVec_xor, Int32.toBitVec_ofNat', Int32.toBitVec_ofNat', Int32.toBitVec_ofNat']
    apply BitVec.eq_of_getLsbD_eq
    intro i hi
    simp [BitVec.getLsbD_xor, BitVec.getLsbD_ofNat, hi, Nat.testBit_xor]
  rw [e, ← zI_nat, zI_toInt ⟨by omega, by omega⟩]
theorem zxor_sg {a b : Int} (ha : 0 ≤ a ∧ a ≤ 4095) (hb : 0 ≤ b ∧ b ≤ 4095) : 0 ≤ zxor a b ∧ zxor a b ≤ 4095 := by
  obtain ⟨m, rfl⟩ := Int.eq_ofNat_of_zero_le ha.1
  obtain ⟨k, rfl⟩ := Int.eq_ofNat_of_zero_le hb.1
  have h := Nat.xor_lt_two_pow (n := 12) (x := m) (y := k) (by omega) (by omega)
  rw [zxor_nat (by omega)]
  omega
/-- the bits of a set, one by one -/
def bts (z : Int) : Nat → Int
  | 0 => 0
  | k + 1 => bts z k + zand (zshr z (k : Int)) 1
theorem zand1 (a : Int) : 0 ≤ zand a 1 ∧ zand a 1 ≤ 1 := by
  obtain ⟨j, hj, e⟩ := pk_andE (zI a) (m := zI 1) 1 (by decide +kernel)
  unfold zand
  rw [e, nI_toInt (by omega)]
  omega
theorem bts_rng (z : Int) : ∀ k : Nat, 0 ≤ bts z k ∧ bts z k ≤ k
  | 0 => by simp [bts]
  | k + 1 => by
    have h1 := bts_rng z k
    have h2 := zand1 (zshr z (k : Int))
    unfold bts
    omega
/-- what Integer.bitCount works out -/
def bc1 (z : Int) : Int := z - zand (zushr z 1) 1431655765
def bc2 (z : Int) : Int := zand z 858993459 + zand (zushr z 2) 858993459
def bc3 (z : Int) : Int := zand (z + zushr z 4) 252645135
def bc4 (z : Int) : Int := z + zushr z 8
def bc5 (z : Int) : Int := z + zushr z 16
def bcf (z : Int) : Int := zand (bc5 (bc4 (bc3 (bc2 (bc1 z))))) 63
theorem bcf_bts0 : ∀ a : Nat, a < 64 → ∀ b : Nat, b < 64 → bcf ((64 * a + b : Nat) : Int) = bts ((64 * a + b : Nat) : Int) 12 := by decide +kernel
theorem bcf_bts (n : Nat) (h : n < 4096) : bcf (n : Int) = bts (n : Int) 12 := by
  have := bcf_bts0 (n / 64) (by omega) (n % 64) (by omega)
  rwa [show 64 * (n / 64) + n % 64 = n by omega] at this
/-- how many bits two signs differ by -/
def dst (a b : Int) : Int := bts (zxor a b) 12
theorem dst_rng (a b : Int) : 0 ≤ dst a b ∧ dst a b ≤ 12 := by
  have := bts_rng (zxor a b) 12
  unfold dst
  omega
theorem bcf_dst {a b : Int} (ha : 0 ≤ a ∧ a ≤ 4095) (hb : 0 ≤ b ∧ b ≤ 4095) : bcf (zxor a b) = dst a b := by
  have h := zxor_sg ha hb
  unfold dst
  obtain ⟨m, e⟩ := Int.eq_ofNat_of_zero_le h.1
  rw [e] at h ⊢
  exact bcf_bts m (by omega)
