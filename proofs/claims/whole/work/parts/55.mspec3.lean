/-! the model: what its memory says of the base, and what it keeps of it -/
def mB (μ : Mem) : Bs := ((μ 78 1).toNat, μ 78 5, μ 78 6, fun p => if p < (μ 78 1).toNat then μ 79 p else 0, fun p => if p < (μ 78 1).toNat then μ 80 p else 0, fun p => if p < (μ 78 1).toNat then dgt (μ 79 p) (μ 80 p) (mvv μ p) else fun _ _ => 0)
theorem mB_W {μ : Mem} {p : Nat} (h : p < bN (mB μ)) : bW (mB μ) p = μ 79 p := if_pos h
theorem mB_H {μ : Mem} {p : Nat} (h : p < bN (mB μ)) : bH (mB μ) p = μ 80 p := if_pos h
theorem mB_D {μ : Mem} {p : Nat} (h : p < bN (mB μ)) : bD (mB μ) p = dgt (μ 79 p) (μ 80 p) (mvv μ p) := if_pos h
theorem mB_N {μ : Mem} (h : rng μ) : μ 78 1 = (bN (mB μ) : Int) ∧ bN (mB μ) ≤ 4 := by
  have := rg_MO_1 h
  show μ 78 1 = (((μ 78 1).toNat : Nat) : Int) ∧ (μ 78 1).toNat ≤ 4
  omega
theorem mB_fr {μ μ' : Mem} (h1 : μ' 78 1 = μ 78 1) (h2 : μ' 78 5 = μ 78 5) (h3 : μ' 78 6 = μ 78 6) (h4 : μ' 79 = μ 79) (h5 : μ' 80 = μ 80) (h6 : μ' 81 = μ 81) : mB μ' = mB μ := by
  unfold mB mvv
  rw [h1, h2, h3, h4, h5, h6]
theorem mB_ok {μ : Mem} (h : rng μ) : Bok (mB μ) := by
  refine ⟨(mB_N h).2, fun p hp => ?_⟩
  rw [mB_W hp, mB_H hp, mB_D hp]
  exact ⟨rg_79 h p, rg_80 h p, fun i j => dgt_rng (fun t => rg_81 h _) i j, fun i j hn => if_neg hn⟩
def MKm (μ : Mem) (B : Bs) (p : Nat) : Prop := MMok μ p (bfn B p) (bmk B p) ∧ ∀ m, m < (bmk B p).1 → μ 85 (16 * p + m) = bsg B p m
def PRm (μ : Mem) (B : Bs) (a b : Nat) : Prop := (∀ m, m < (bmk B a).1 → mpt μ a b m = bpt B a b m) ∧ μ 90 (4 * a + b) = bmc B a b ∧ μ 89 (4 * a + b) = bV B (4 * a + b) ∧ (0 < bV B (4 * a + b) → μ 87 (4 * a + b) = bX B (4 * a + b) ∧ μ 88 (4 * a + b) = bY B (4 * a + b))
def JOm (μ : Mem) (c : Nat) (J : Jst) : Prop := μ 78 17 = (J.1 : Int) ∧ ∀ p, p < c → μ 94 p = J.2.1 p ∧ (¬ J.2.1 p = -6 → μ 91 p = J.2.2.1 p ∧ μ 92 p = J.2.2.2.1 p ∧ μ 93 p = J.2.2.2.2 p)
def MDn (μ : Mem) : Prop := (∀ p, p < bN (mB μ) → MKm μ (mB μ) p) ∧ (∀ a b, a < bN (mB μ) → b < bN (mB μ) → ¬ a = b → PRm μ (mB μ) a b) ∧ JOm μ (bN (mB μ)) (bJ (mB μ))
def MIv (μ : Mem) : Prop := μ 78 7 = 1 → MDn μ
theorem mcx_of {μ : Mem} {p : Nat} {f : Int → Int → Int} {a : Mks} (h : MMok μ p f a) {m : Nat} (hm : m < a.1) : mcx μ p m = ((a.2 m % 20 : Nat) : Int) ∧ mcy μ p m = ((a.2 m / 20 : Nat) : Int) := by
  have g := h.2.2 m hm
  unfold mcx mcy
  rw [g.1]
  omega
theorem MKm_fr {μ μ' : Mem} {B : Bs} {p : Nat} (h : MKm μ B p) (h3 : μ' 83 p = μ 83 p) (h4 : ∀ m, m < 16 → μ' 84 (16 * p + m) = μ 84 (16 * p + m)) (h2 : ∀ t, t < 400 → μ' 82 (400 * p + t) = μ 82 (400 * p + t)) (h5 : ∀ m, m < 16 → μ' 85 (16 * p + m) = μ 85 (16 * p + m)) : MKm μ' B p := by
  refine ⟨MMok_fr h.1 h3 h4 h2, fun m hm => ?_⟩
  have := bmk_le B p
  rw [h5 m (by omega)]
  exact h.2 m hm
theorem PRm_fr {μ μ' : Mem} {B : Bs} {a b : Nat} (h : PRm μ B a b) (h0 : ∀ m, m < 16 → μ' 86 (16 * (4 * a + b) + m) = μ 86 (16 * (4 * a + b) + m)) (h1 : μ' 87 (4 * a + b) = μ 87 (4 * a + b) ∧ μ' 88 (4 * a + b) = μ 88 (4 * a + b) ∧ μ' 89 (4 * a + b) = μ 89 (4 * a + b) ∧ μ' 90 (4 * a + b) = μ 90 (4 * a + b)) : PRm μ' B a b := by
  refine ⟨fun m hm => ?_, ?_, ?_, ?_⟩
  · have := bmk_le B a
    unfold mpt
    rw [h0 m (by omega)]
    exact h.1 m hm
  · rw [h1.2.2.2]; exact h.2.1
  · rw [h1.2.2.1]; exact h.2.2.1
  · rw [h1.1, h1.2.1]; exact h.2.2.2
theorem JOm_fr {μ μ' : Mem} {c : Nat} {J : Jst} (h : JOm μ c J) (h0 : μ' 78 17 = μ 78 17) (h1 : μ' 91 = μ 91) (h2 : μ' 92 = μ 92) (h3 : μ' 93 = μ 93) (h4 : μ' 94 = μ 94) : JOm μ' c J := by
  unfold JOm
  rw [h0, h1, h2, h3, h4]
  exact h
theorem PRm_of {μ μ' : Mem} {B : Bs} {a b : Nat} {P SX SY : Nat → Int} (ha : a < 4) (hb : b < 4) (hA : MKm μ B a) (hB : MKm μ B b) (hn : μ 78 6 = bNear B)
    (hPe : P = ptn (msg μ a) (μ 83 a).toNat (msg μ b) (μ 83 b).toNat (μ 78 6)) (hSX : SX = fun m => mcx μ a m - mcx μ b (P m).toNat) (hSY : SY = fun m => mcy μ a m - mcy μ b (P m).toNat)
    (h1 : ∀ x : Nat, (x : Int) < μ 83 a → μ' 86 (16 * (4 * a + b) + x) = P x) (h2 : μ' 90 (4 * a + b) = mct P (μ 83 a).toNat)
    (h3 : (μ' 89 (4 * a + b), μ' 87 (4 * a + b), μ' 88 (4 * a + b)) = prf P SX SY (μ 83 a).toNat (0, μ 87 (4 * a + b), μ 88 (4 * a + b)) (μ 83 a).toNat) : PRm μ' B a b := by
  have ea : (μ 83 a).toNat = (bmk B a).1 := by rw [hA.1.2.1]; omega
  have eb : (μ 83 b).toNat = (bmk B b).1 := by rw [hB.1.2.1]; omega
  rw [ea] at h2 h3
  rw [ea, eb, hn] at hPe
  have eP : ∀ m, m < (bmk B a).1 → P m = bpt B a b m := fun m hm => by rw [hPe]; exact ptn_cong hA.2 hB.2 hm
  have hv : bV B (4 * a + b) = (bpr B a b).1 := by unfold bV; rw [show (4 * a + b) / 4 = a by omega, show (4 * a + b) % 4 = b by omega]
  have hx : bX B (4 * a + b) = (bpr B a b).2.1 := by unfold bX; rw [show (4 * a + b) / 4 = a by omega, show (4 * a + b) % 4 = b by omega]
  have hy : bY B (4 * a + b) = (bpr B a b).2.2 := by unfold bY; rw [show (4 * a + b) / 4 = a by omega, show (4 * a + b) % 4 = b by omega]
  have hpr : prf P SX SY (bmk B a).1 (0, μ 87 (4 * a + b), μ 88 (4 * a + b)) (bmk B a).1 = prf (bpt B a b) (bsx B a b) (bsy B a b) (bmk B a).1 (0, μ 87 (4 * a + b), μ 88 (4 * a + b)) (bmk B a).1 := by
    refine prf_cong eP (fun m hm hP => ?_) (fun m hm hP => ?_) _ (Nat.le_refl _)
    · have h4 := bpt_rng B a b m
      rw [hSX]
      dsimp only
      rw [eP m hm, (mcx_of hA.1 hm).1, (mcx_of hB.1 (m := (bpt B a b m).toNat) (by omega)).1]
      rfl
    · have h4 := bpt_rng B a b m
      rw [hSY]
      dsimp only
      rw [eP m hm, (mcx_of hA.1 hm).2, (mcx_of hB.1 (m := (bpt B a b m).toNat) (by omega)).2]
      rfl
  rw [hpr] at h3
  have hind := prf_ind (P := bpt B a b) (SX := bsx B a b) (SY := bsy B a b) (n := (bmk B a).1) (μ 87 (4 * a + b)) (μ 88 (4 * a + b)) (bmk B a).1
  refine ⟨fun m hm => ?_, by rw [h2]; exact mct_cong _ eP, ?_, fun h0 => ?_⟩
  · unfold mpt
    rw [h1 m (by rw [hA.1.2.1]; omega), eP m hm]
  · rw [hv]
    have := congrArg Prod.fst h3
    dsimp only at this
    rw [this]
    exact hind.2.1
  · rw [hv] at h0
    have h5 := h3.trans (hind.2.2 h0)
    rw [hx, hy]
    exact ⟨congrArg (fun z => z.2.1) h5, congrArg (fun z => z.2.2) h5⟩
theorem ite_1 {p : Prop} [Decidable p] {z : Int} (h : z = if p then 1 else 0) (h0 : ¬ z = 0) : p := by
  by_cases e : p
  · exact e
  · rw [if_neg e] at h; omega
theorem ite_0 {p : Prop} [Decidable p] {z : Int} (h : z = if p then 1 else 0) (h0 : z = 0) : ¬ p := by
  intro e
  rw [if_pos e] at h
  omega
theorem JOm_nil0 {μ : Mem} {c : Nat} (hc : c = 0) (h : μ 78 17 = 0) : JOm μ c (jnil c) := by
  subst hc
  exact ⟨h, fun p hp => absurd hp (Nat.not_lt_zero _)⟩
theorem JOm_nil1 {μ : Mem} {c : Nat} (hc : 0 < c) (h : ∀ x, x < c → μ 94 x = -6 ∧ μ 93 x = -6) : JOm (jms (jms (jms (jms μ 91 0 0) 92 0 0) 94 0 0) 78 17 1) c (jnil c) := by
  have hc0 : ¬ c = 0 := by omega
  unfold jnil
  refine ⟨by rw [jms_same, if_neg hc0]; rfl, fun p hp => ?_⟩
  dsimp only
  rw [if_neg hc0]
  have g91 : (jms (jms (jms (jms μ 91 0 0) 92 0 0) 94 0 0) 78 17 1) 91 p = if p = 0 then 0 else μ 91 p := by
    rw [jms_cell _ _ _ _ (by decide), jms_cell _ _ _ _ (by decide), jms_cell _ _ _ _ (by decide), jms_arr]
  have g92 : (jms (jms (jms (jms μ 91 0 0) 92 0 0) 94 0 0) 78 17 1) 92 p = if p = 0 then 0 else μ 92 p := by
    rw [jms_cell _ _ _ _ (by decide), jms_cell _ _ _ _ (by decide), jms_arr, jms_cell _ _ _ _ (by decide)]
  have g93 : (jms (jms (jms (jms μ 91 0 0) 92 0 0) 94 0 0) 78 17 1) 93 p = μ 93 p := by
    rw [jms_cell _ _ _ _ (by decide), jms_cell _ _ _ _ (by decide), jms_cell _ _ _ _ (by decide), jms_cell _ _ _ _ (by decide)]
  have g94 : (jms (jms (jms (jms μ 91 0 0) 92 0 0) 94 0 0) 78 17 1) 94 p = if p = 0 then 0 else μ 94 p := by
    rw [jms_cell _ _ _ _ (by decide), jms_arr, jms_cell _ _ _ _ (by decide), jms_cell _ _ _ _ (by decide)]
  rw [g91, g92, g93, g94]
  have g := h p hp
  by_cases e : p = 0
  · simp only [if_pos e]
    exact ⟨trivial, fun _ => ⟨trivial, trivial, g.2⟩⟩
  · simp only [if_neg e]
    exact ⟨g.1, fun q => absurd trivial q⟩
theorem JOm_put {μ : Mem} {c : Nat} {J : Jst} (h : JOm μ c J) {b : Nat} (x y a : Int) : JOm (jms (jms (jms (jms (jms μ 91 b x) 92 b y) 93 b a) 94 b (J.1 : Int)) 78 17 ((J.1 : Int) + 1)) c (jput J b x y a) := by
  refine ⟨by rw [jms_same]; show (J.1 : Int) + 1 = ((J.1 + 1 : Nat) : Int); omega, fun p hp => ?_⟩
  unfold jput
  dsimp only
  have g91 : jms (jms (jms (jms (jms μ 91 b x) 92 b y) 93 b a) 94 b (J.1 : Int)) 78 17 ((J.1 : Int) + 1) 91 p = if p = b then x else μ 91 p := by
    rw [jms_cell _ _ _ _ (by decide), jms_cell _ _ _ _ (by decide), jms_cell _ _ _ _ (by decide), jms_cell _ _ _ _ (by decide), jms_arr]
  have g92 : jms (jms (jms (jms (jms μ 91 b x) 92 b y) 93 b a) 94 b (J.1 : Int)) 78 17 ((J.1 : Int) + 1) 92 p = if p = b then y else μ 92 p := by
    rw [jms_cell _ _ _ _ (by decide), jms_cell _ _ _ _ (by decide), jms_cell _ _ _ _ (by decide), jms_arr, jms_cell _ _ _ _ (by decide)]
  have g93 : jms (jms (jms (jms (jms μ 91 b x) 92 b y) 93 b a) 94 b (J.1 : Int)) 78 17 ((J.1 : Int) + 1) 93 p = if p = b then a else μ 93 p := by
    rw [jms_cell _ _ _ _ (by decide), jms_cell _ _ _ _ (by decide), jms_arr, jms_cell _ _ _ _ (by decide), jms_cell _ _ _ _ (by decide)]
  have g94 : jms (jms (jms (jms (jms μ 91 b x) 92 b y) 93 b a) 94 b (J.1 : Int)) 78 17 ((J.1 : Int) + 1) 94 p = if p = b then (J.1 : Int) else μ 94 p := by
    rw [jms_cell _ _ _ _ (by decide), jms_arr, jms_cell _ _ _ _ (by decide), jms_cell _ _ _ _ (by decide), jms_cell _ _ _ _ (by decide)]
  rw [g91, g92, g93, g94]
  unfold zup
  by_cases e : p = b
  · simp only [if_pos e]
    exact ⟨trivial, fun _ => ⟨trivial, trivial, trivial⟩⟩
  · simp only [if_neg e]
    exact h.2 p hp
