/-! the model: its dots, its marks -/
def mvv (μ : Mem) (p : Nat) : Nat → Int := fun t => μ 81 (400 * p + t)
theorem md_in {μ : Mem} (hR : rng μ) {p : Nat} {pi i j : Int} (hpi : pi = (p : Int)) (hin : 0 ≤ i ∧ i < μ 79 p ∧ 0 ≤ j ∧ j < μ 80 p) : μ 81 (400 * pi + 20 * j + i).toNat = dgt (μ 79 p) (μ 80 p) (mvv μ p) i j := by
  rw [dgt_in hin]
  unfold mvv
  congr 1
  omega
theorem md_rng {μ : Mem} (hR : rng μ) (p : Nat) (i j : Int) : -1 ≤ dgt (μ 79 p) (μ 80 p) (mvv μ p) i j ∧ dgt (μ 79 p) (μ 80 p) (mvv μ p) i j ≤ 255 := dgt_rng (fun t => rg_81 hR _) i j
theorem zxor_comm (a b : Int) : zxor a b = zxor b a := by
  unfold zxor
  rw [Int32.xor_comm]
theorem dst_comm (a b : Int) : dst a b = dst b a := by
  unfold dst
  rw [zxor_comm]
theorem zor_0 {b : Int} (h : InR b) : zor b 0 = b := by
  unfold zor
  rw [zI_0, Int32.or_zero, zI_toInt h]
/-- the model's marks hold these -/
def MMok (μ : Mem) (p : Nat) (f : Int → Int → Int) (a : Mks) : Prop := a.1 ≤ 16 ∧ μ 83 p = (a.1 : Int) ∧ ∀ m, m < a.1 → μ 84 (16 * p + m) = ((400 * p + a.2 m : Nat) : Int) ∧ a.2 m < 400 ∧ μ 82 (400 * p + a.2 m) = fS f (a.2 m)
theorem ins_MM {μ μf : Mem} {p t : Nat} {f : Int → Int → Int} {a : Mks} {sp : Nat} (hM : MMok μ p f a) (ht : t < 400) (hS : μ 82 (400 * p + t) = fS f t) (hsp : plc (fS f) a.2 (fS f t) a.1 = sp) (h16 : sp < 16) (hc : μf 83 p = min ((a.1 : Int) + 1) 16) (h82 : μf 82 = μ 82)
    (h0 : ∀ x, x < 16 → μf 84 (16 * p + x) = if x = sp then ((400 * p + t : Nat) : Int) else if sp < x ∧ x < min (a.1 + 1) 16 then μ 84 (16 * p + (x - 1)) else μ 84 (16 * p + x)) : MMok μf p f (ins (fS f) t a) := by
  have hle := plc_le (fS f) a.2 (fS f t) a.1
  rw [hsp] at hle
  have hi : ins (fS f) t a = (min (a.1 + 1) 16, fun m => if m < sp then a.2 m else if m = sp then t else a.2 (m - 1)) := by
    unfold ins
    rw [hsp, if_pos h16]
  rw [hi]
  refine ⟨Nat.min_le_right _ _, by rw [hc]; omega, fun m hm => ?_⟩
  dsimp only at hm ⊢
  have hmin := Nat.min_le_left (a.1 + 1) 16
  rw [h0 m (by omega), h82]
  by_cases e1 : m = sp
  · rw [if_pos e1, if_neg (by omega), if_pos e1]
    exact ⟨rfl, ht, hS⟩
  · simp only [if_neg e1]
    by_cases e2 : m < sp
    · have n1 : ¬ (sp < m ∧ m < min (a.1 + 1) 16) := by omega
      simp only [if_pos e2, if_neg n1]
      exact hM.2.2 m (by omega)
    · have n1 : sp < m ∧ m < min (a.1 + 1) 16 := by omega
      simp only [if_neg e2, if_pos n1]
      exact hM.2.2 (m - 1) (by omega)
theorem MMok_fr {μ μ' : Mem} {p : Nat} {f : Int → Int → Int} {a : Mks} (h : MMok μ p f a) (h3 : μ' 83 p = μ 83 p) (h4 : ∀ m, m < 16 → μ' 84 (16 * p + m) = μ 84 (16 * p + m)) (h2 : ∀ t, t < 400 → μ' 82 (400 * p + t) = μ 82 (400 * p + t)) : MMok μ' p f a := by
  refine ⟨h.1, by rw [h3]; exact h.2.1, fun m hm => ?_⟩
  have h16 := h.1
  have g := h.2.2 m hm
  rw [h4 m (by omega), h2 _ g.2.1]
  exact g
/-- a score: the rim and what's outside are 0 -/
def msc (W H : Int) (d : Int → Int → Int) : Int → Int → Int := fun i j => if 0 ≤ i ∧ i < W ∧ 0 ≤ j ∧ j < H then sco W H d i j else 0
theorem msc_rim {W H : Int} {d : Int → Int → Int} {bar : Int} (hb : 1 ≤ bar) {t : Nat} (h : isM (msc W H d) W H bar t) : 3 ≤ ((t % 20 : Nat) : Int) ∧ ((t % 20 : Nat) : Int) ≤ W - 4 ∧ 3 ≤ ((t / 20 : Nat) : Int) ∧ ((t / 20 : Nat) : Int) ≤ H - 4 := by
  have h1 := h.2.2.1
  unfold fS msc at h1
  by_cases e : 0 ≤ ((t % 20 : Nat) : Int) ∧ ((t % 20 : Nat) : Int) < W ∧ 0 ≤ ((t / 20 : Nat) : Int) ∧ ((t / 20 : Nat) : Int) < H
  · rw [if_pos e] at h1
    unfold sco at h1
    by_cases e2 : 3 ≤ ((t % 20 : Nat) : Int) ∧ ((t % 20 : Nat) : Int) ≤ W - 4 ∧ 3 ≤ ((t / 20 : Nat) : Int) ∧ ((t / 20 : Nat) : Int) ≤ H - 4
    · exact e2
    · rw [if_neg e2] at h1; omega
  · rw [if_neg e] at h1; omega
theorem msc_in {W H : Int} {d : Int → Int → Int} {i j : Int} (h : 0 ≤ i ∧ i < W ∧ 0 ≤ j ∧ j < H) : msc W H d i j = sco W H d i j := if_pos h
theorem chs_nextk {d : Int → Int → Int} (hd : ∀ x y, -1 ≤ d x y ∧ d x y ≤ 255) {i j wx wy x y : Int} {k : Nat} (hne : chs d i j wx wy k ≠ -1) (hx : x = i - 1 + ((k % 3 : Nat) : Int)) (hy : y = j - 1 + ((k / 3 : Nat) : Int)) (h1 : ¬ d x y = -1) (h2 : ¬ d (x + wx) (y + wy) = -1) : chs d i j wx wy (k + 1) = chs d i j wx wy k + (d x y - d (x + wx) (y + wy)) * (d x y - d (x + wx) (y + wy)) ∧ chs d i j wx wy (k + 1) ≠ -1 := by
  have e : cht d i j wx wy k = (d x y - d (x + wx) (y + wy)) * (d x y - d (x + wx) (y + wy)) := by
    unfold cht
    rw [← hx, ← hy, if_neg (fun h => h.elim h1 h2)]
  have g1 := hd x y
  have g2 := hd (x + wx) (y + wy)
  have g3 := sq_le (a := d x y) (b := d (x + wx) (y + wy)) (by omega) (by omega)
  have g4 := chs_rng hd i j wx wy k
  rw [chs_step hne (by rw [e]; omega), e]
  exact ⟨rfl, by omega⟩
theorem chs_lostk {d : Int → Int → Int} {i j wx wy x y : Int} {k : Nat} (hk : k < 9) (hx : x = i - 1 + ((k % 3 : Nat) : Int)) (hy : y = j - 1 + ((k / 3 : Nat) : Int)) (h : d x y = -1 ∨ d (x + wx) (y + wy) = -1) : chs d i j wx wy 9 = -1 := by
  have e : cht d i j wx wy k = -1 := by
    unfold cht
    rw [← hx, ← hy, if_pos h]
  have := chs_stays (chs_lost (Or.inr e)) (8 - k)
  rwa [show k + 1 + (8 - k) = 9 by omega] at this
