/-! the model: what it reads of marks and matches -/
def msg (μ : Mem) (p : Nat) : Nat → Int := fun m => μ 85 (16 * p + m)
def mcx (μ : Mem) (p m : Nat) : Int := μ 84 (16 * p + m) % 400 % 20
def mcy (μ : Mem) (p m : Nat) : Int := μ 84 (16 * p + m) % 400 / 20
def mpt (μ : Mem) (a b : Nat) : Nat → Int := fun m => μ 86 (16 * (4 * a + b) + m)
def msx (μ : Mem) (a b : Nat) : Nat → Int := fun m => mcx μ a m - mcx μ b (mpt μ a b m).toNat
def msy (μ : Mem) (a b : Nat) : Nat → Int := fun m => mcy μ a m - mcy μ b (mpt μ a b m).toNat
theorem msg_fr {μ μ' : Mem} (h : μ' 85 = μ 85) (p : Nat) : msg μ' p = msg μ p := by unfold msg; rw [h]
theorem mcx_fr {μ μ' : Mem} (h : μ' 84 = μ 84) (p m : Nat) : mcx μ' p m = mcx μ p m := by unfold mcx; rw [h]
theorem mcy_fr {μ μ' : Mem} (h : μ' 84 = μ 84) (p m : Nat) : mcy μ' p m = mcy μ p m := by unfold mcy; rw [h]
theorem msg_rng {μ : Mem} (hR : rng μ) (p m : Nat) : 0 ≤ msg μ p m ∧ msg μ p m ≤ 4095 := rg_85 hR _
theorem mcx_rng (μ : Mem) (p m : Nat) : 0 ≤ mcx μ p m ∧ mcx μ p m ≤ 19 := by unfold mcx; omega
theorem mcy_rng (μ : Mem) (p m : Nat) : 0 ≤ mcy μ p m ∧ mcy μ p m ≤ 19 := by unfold mcy; omega
theorem nbr_d (sg : Nat → Int) (s : Int) : ∀ n : Nat, ((nbr sg s n).1 = -6 ∧ (nbr sg s n).2 = 13) ∨ (0 ≤ (nbr sg s n).1 ∧ (nbr sg s n).1 < n ∧ (nbr sg s n).2 = dst (sg (nbr sg s n).1.toNat) s)
  | 0 => Or.inl ⟨rfl, rfl⟩
  | k + 1 => by
    have h := nbr_d sg s k
    unfold nbr
    split
    · refine Or.inr ⟨by dsimp only; omega, by dsimp only; omega, ?_⟩
      dsimp only
      rw [show ((k : Nat) : Int).toNat = k by omega]
    · exact h.imp id (fun g => ⟨g.1, by omega, g.2.2⟩)
theorem ptn_val {sa sb : Nat → Int} {na nb m : Nat} {near : Int} (h : ¬ ptn sa na sb nb near m = -6) : ptn sa na sb nb near m = nrs sb (sa m) nb := by
  unfold ptn at h ⊢
  split
  · rename_i g; rw [if_pos g] at h; exact absurd rfl h
  · rename_i g
    rw [if_neg g] at h
    split
    · rfl
    · rename_i g2; rw [if_neg g2] at h; exact absurd rfl h
theorem ptn_no {sa sb : Nat → Int} {na nb m : Nat} {near : Int} (h : nrs sb (sa m) nb = -6 ∨ ¬ nrs sa (sb (nrs sb (sa m) nb).toNat) na = (m : Int) ∨ near < dst (sa m) (sb (nrs sb (sa m) nb).toNat)) : ptn sa na sb nb near m = -6 := by
  unfold ptn
  split
  · rfl
  · rw [if_neg (by omega)]
theorem ptn_yes {sa sb : Nat → Int} {na nb m : Nat} {near : Int} (h1 : ¬ nrs sb (sa m) nb = -6) (h2 : nrs sa (sb (nrs sb (sa m) nb).toNat) na = (m : Int)) (h3 : dst (sa m) (sb (nrs sb (sa m) nb).toNat) ≤ near) : ¬ ptn sa na sb nb near m = -6 := by
  have := nrs_rng sb (sa m) nb
  unfold ptn
  rw [if_neg (by omega), if_pos h3]
  exact h1
theorem msx_rng (μ : Mem) (a b m : Nat) : -19 ≤ msx μ a b m ∧ msx μ a b m ≤ 19 := by
  have h1 := mcx_rng μ a m
  have h2 := mcx_rng μ b (mpt μ a b m).toNat
  show -19 ≤ mcx μ a m - mcx μ b (mpt μ a b m).toNat ∧ mcx μ a m - mcx μ b (mpt μ a b m).toNat ≤ 19
  omega
theorem msy_rng (μ : Mem) (a b m : Nat) : -19 ≤ msy μ a b m ∧ msy μ a b m ≤ 19 := by
  have h1 := mcy_rng μ a m
  have h2 := mcy_rng μ b (mpt μ a b m).toNat
  show -19 ≤ mcy μ a m - mcy μ b (mpt μ a b m).toNat ∧ mcy μ a m - mcy μ b (mpt μ a b m).toNat ≤ 19
  omega
theorem vts_mem {μ μd : Mem} {a b n : Nat} {P SX SY : Nat → Int} (hpp : ∀ m, m < n → mpt μd a b m = P m) (h84 : μd 84 = μ 84) (hSX : SX = fun m => mcx μ a m - mcx μ b (P m).toNat) (hSY : SY = fun m => mcy μ a m - mcy μ b (P m).toNat) (vx vy : Int) : vts (mpt μd a b) (msx μd a b) (msy μd a b) vx vy n = vts P SX SY vx vy n := by
  refine vts_cong _ hpp (fun m hm => ?_) (fun m hm => ?_)
  · show mcx μd a m - mcx μd b (mpt μd a b m).toNat = SX m
    rw [hpp m hm, mcx_fr h84, mcx_fr h84, hSX]
  · show mcy μd a m - mcy μd b (mpt μd a b m).toNat = SY m
    rw [hpp m hm, mcy_fr h84, mcy_fr h84, hSY]
theorem is6_0 {x z : Int} (h : z = if x = -6 then 0 else 1) (h0 : z = 0) : x = -6 := by
  by_cases e : x = -6
  · exact e
  · rw [if_neg e] at h; omega
theorem is6_1 {x z : Int} (h : z = if x = -6 then 0 else 1) (h0 : ¬ z = 0) : ¬ x = -6 := by
  intro e
  rw [if_pos e] at h
  omega
