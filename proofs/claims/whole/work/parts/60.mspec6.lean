/-- the model has done what it does first: laid, maybe an overlap found -/
def MPx (μ μ' : Mem) : Prop := rng μ' ∧ MIv μ' ∧ mB μ' = mB μ ∧ μ' 78 0 = μ 78 0 ∧ ∀ k, k < 78 → μ' k = μ k
theorem MP_x {μ μ' : Mem} {v z : Int} (h1 : MPx μ μ') (h : v = z) : MP μ v (mB μ) (μ 78 0) z μ' := ⟨h, h1⟩
theorem MPx_id {μ : Mem} (hR : rng μ) (hMI : MIv μ) : MPx μ μ := ⟨hR, hMI, rfl, rfl, fun _ _ => rfl⟩
theorem MPx_lt {μ μ1 : Mem} (h1 : LTp μ μ1) : MPx μ μ1 := (MP_lt (v := 0) (z := 0) h1 rfl).2
theorem MPx_ov {μ μ1 μ2 : Mem} (h1 : LTp μ μ1) (hR2 : rng μ2) (hf : ∀ k, k ≠ 78 → k ≠ 95 → μ2 k = μ1 k) (h78 : ∀ j, j < 22 → μ2 78 j = μ1 78 j) : MPx μ μ2 := (MP_ov (v := 0) (z := 0) h1 hR2 hf h78 rfl).2
theorem MPx_95 {μ μ1 μ2 : Mem} (h1 : MPx μ μ1) (hR2 : rng μ2) (hf : ∀ k, k ≠ 95 → μ2 k = μ1 k) : MPx μ μ2 := by
  have g := MDn_fr (μ := μ1) (μ' := μ2) (fun k _ hk => hf k hk) (fun j _ _ => by rw [hf 78 (by decide)])
  refine ⟨hR2, fun h7 => g.2 (h1.2.1 ?_), g.1.trans h1.2.2.1, ?_, fun k hk => ?_⟩
  · rw [hf 78 (by decide)] at h7; exact h7
  · rw [hf 78 (by decide)]; exact h1.2.2.2.1
  · rw [hf k (by omega)]; exact h1.2.2.2.2 k hk
/-- an overlap has been found -/
def OVm (μ μ' : Mem) (u w : Int) : Prop := ∃ a b : Nat, u = (a : Int) ∧ w = (b : Int) ∧ a < bN (mB μ) ∧ b < bN (mB μ) ∧ ¬ a = b ∧ ¬ jrk (mB μ) a = -6 ∧ ¬ jrk (mB μ) b = -6 ∧ MDn μ' ∧ (μ' 78 22, μ' 78 23, μ' 78 24, μ' 78 25) = bov (mB μ) a b
theorem MD_ovr {μ : Mem} (h : MDn μ) {a b : Nat} (ha : a < bN (mB μ)) (hb : b < bN (mB μ)) (ja : ¬ jrk (mB μ) a = -6) (jb : ¬ jrk (mB μ) b = -6) : ovr (μ 91 a) (μ 92 a) (μ 79 a) (μ 80 a) (μ 91 b) (μ 92 b) (μ 79 b) (μ 80 b) = bov (mB μ) a b := by
  obtain ⟨a1, a2, -⟩ := (MD_pic h ha).2 ja
  obtain ⟨b1, b2, -⟩ := (MD_pic h hb).2 jb
  unfold bov
  rw [mB_W ha, mB_H ha, mB_W hb, mB_H hb, a1, a2, b1, b2]
theorem MD_bda {μ : Mem} (h : MDn μ) {a : Nat} (ha : a < bN (mB μ)) (ja : ¬ jrk (mB μ) a = -6) (x y : Int) : dgt (μ 79 a) (μ 80 a) (mvv μ a) (x - μ 91 a) (y - μ 92 a) = bda (mB μ) a x y := by
  obtain ⟨a1, a2, -⟩ := (MD_pic h ha).2 ja
  unfold bda bdv
  rw [mB_D ha, a1, a2]
theorem MD_j6 {μ : Mem} (hR : rng μ) {p : Nat} (hp : p < bN (mB μ)) : jrk (mB μ) p = -6 ∨ (0 ≤ jrk (mB μ) p ∧ jrk (mB μ) p ≤ 3 ∧ -60 ≤ jxx (mB μ) p ∧ jxx (mB μ) p ≤ 60 ∧ -60 ≤ jyy (mB μ) p ∧ jyy (mB μ) p ≤ 60) := by
  have h := MD_inv hR
  have h1 := h.1
  have h2 := h.2.1 p hp
  have h4 := (mB_N hR).2
  have e1 : jrk (mB μ) p = (bJ (mB μ)).2.1 p := rfl
  have e2 : jxx (mB μ) p = (bJ (mB μ)).2.2.1 p := rfl
  have e3 : jyy (mB μ) p = (bJ (mB μ)).2.2.2.1 p := rfl
  omega
def ltt (t : Int) (dA dB : Int → Int → Int) (x0 y0 x y : Int) : Int := if dA (x0 + x) (y0 + y) = -1 ∨ dB (x0 + x) (y0 + y) = -1 then 0 else if t = 0 then dA (x0 + x) (y0 + y) else if t = 1 then dB (x0 + x) (y0 + y) else 1
theorem ltt_0 {t : Int} (h : t = 0) : ltt t = lta := by
  funext dA dB x0 y0 x y
  unfold ltt lta
  rw [if_pos h]
theorem ltt_1 {t : Int} (h : t = 1) : ltt t = ltb := by
  funext dA dB x0 y0 x y
  unfold ltt ltb
  rw [if_neg (show ¬ t = 0 by omega), if_pos h]
theorem ltt_2 {t : Int} (h : ¬ t = 0) (h1 : ¬ t = 1) : ltt t = ltc := by
  funext dA dB x0 y0 x y
  unfold ltt ltc
  rw [if_neg h, if_neg h1]
theorem ltt_rng {t : Int} {dA dB : Int → Int → Int} (hA : ∀ x y, -1 ≤ dA x y ∧ dA x y ≤ 255) (hB : ∀ x y, -1 ≤ dB x y ∧ dB x y ≤ 255) (x0 y0 x y : Int) : 0 ≤ ltt t dA dB x0 y0 x y ∧ ltt t dA dB x0 y0 x y ≤ 255 := by
  have h1 := hA (x0 + x) (y0 + y)
  have h2 := hB (x0 + x) (y0 + y)
  unfold ltt
  split
  · omega
  · split
    · omega
    · split <;> omega
