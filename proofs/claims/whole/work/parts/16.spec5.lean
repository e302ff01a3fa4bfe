/-! what all of it rests on: how many pictures, BAR, NEAR, width, height, dots of each -/
abbrev Bs : Type := Nat × Int × Int × (Nat → Int) × (Nat → Int) × (Nat → Int → Int → Int)
def bN (B : Bs) : Nat := B.1
def bBar (B : Bs) : Int := B.2.1
def bNear (B : Bs) : Int := B.2.2.1
def bW (B : Bs) : Nat → Int := B.2.2.2.1
def bH (B : Bs) : Nat → Int := B.2.2.2.2.1
def bD (B : Bs) : Nat → Int → Int → Int := B.2.2.2.2.2
def bfn (B : Bs) (p : Nat) : Int → Int → Int := fun i j => if 0 ≤ i ∧ i < bW B p ∧ 0 ≤ j ∧ j < bH B p then sco (bW B p) (bH B p) (bD B p) i j else 0
noncomputable def bmk (B : Bs) (p : Nat) : Mks := mkf (bfn B p) (bW B p) (bH B p) (bBar B) 400
noncomputable def bsg (B : Bs) (p : Nat) (m : Nat) : Int := sgn (bD B p) (((bmk B p).2 m % 20 : Nat) : Int) (((bmk B p).2 m / 20 : Nat) : Int) 12
noncomputable def bcx (B : Bs) (p m : Nat) : Int := (((bmk B p).2 m % 20 : Nat) : Int)
noncomputable def bcy (B : Bs) (p m : Nat) : Int := (((bmk B p).2 m / 20 : Nat) : Int)
noncomputable def bpt (B : Bs) (a b m : Nat) : Int := ptn (bsg B a) (bmk B a).1 (bsg B b) (bmk B b).1 (bNear B) m
noncomputable def bmc (B : Bs) (a b : Nat) : Int := mct (bpt B a b) (bmk B a).1
noncomputable def bsx (B : Bs) (a b m : Nat) : Int := bcx B a m - bcx B b (bpt B a b m).toNat
noncomputable def bsy (B : Bs) (a b m : Nat) : Int := bcy B a m - bcy B b (bpt B a b m).toNat
noncomputable def bpr (B : Bs) (a b : Nat) : Vxy := prf (bpt B a b) (bsx B a b) (bsy B a b) (bmk B a).1 (0, 0, 0) (bmk B a).1
noncomputable def bV (B : Bs) (t : Nat) : Int := (bpr B (t / 4) (t % 4)).1
noncomputable def bX (B : Bs) (t : Nat) : Int := (bpr B (t / 4) (t % 4)).2.1
noncomputable def bY (B : Bs) (t : Nat) : Int := (bpr B (t / 4) (t % 4)).2.2
/-! joining -/
abbrev Jst : Type := Nat × (Nat → Int) × (Nat → Int) × (Nat → Int) × (Nat → Int)
def zup (f : Nat → Int) (k : Nat) (v : Int) : Nat → Int := fun j => if j = k then v else f j
theorem zup_same (f : Nat → Int) (k : Nat) (v : Int) : zup f k v k = v := by simp [zup]
theorem zup_ne (f : Nat → Int) {k j : Nat} (v : Int) (h : j ≠ k) : zup f k v j = f j := by simp [zup, h]
def bsf (c : Nat) (rk V : Nat → Int) : Nat → Int × Int
  | 0 => (-6, 0)
  | t + 1 => if t / 4 < c ∧ t % 4 < c ∧ ¬ rk (t / 4) = -6 ∧ rk (t % 4) = -6 ∧ (bsf c rk V t).2 < V t then ((t : Int), V t) else bsf c rk V t
def bst (c : Nat) (rk V : Nat → Int) : Int := (bsf c rk V 16).1
theorem bsf_skip {c : Nat} {rk V : Nat → Int} (a : Nat) : ∀ n : Nat, (∀ t, a ≤ t → t < a + n → ¬ (t / 4 < c ∧ t % 4 < c)) → bsf c rk V (a + n) = bsf c rk V a
  | 0, _ => rfl
  | n + 1, h => by
    rw [← Nat.add_assoc, bsf, if_neg (fun q => h (a + n) (by omega) (by omega) ⟨q.1, q.2.1⟩), bsf_skip a n (fun t h1 h2 => h t h1 (by omega))]
theorem bsf_skip' {c : Nat} {rk V : Nat → Int} {a b : Nat} (hab : a ≤ b) (h : ∀ t, a ≤ t → t < b → ¬ (t / 4 < c ∧ t % 4 < c)) : bsf c rk V b = bsf c rk V a := by
  obtain ⟨n, rfl⟩ : ∃ n, b = a + n := ⟨b - a, by omega⟩
  exact bsf_skip a n h
/-- the best pair so far: one that fits, of pictures there are -/
theorem bsf_ok {c : Nat} {rk V : Nat → Int} : ∀ t : Nat, ((bsf c rk V t).1 = -6 ∧ (bsf c rk V t).2 = 0) ∨ (0 ≤ (bsf c rk V t).1 ∧ (bsf c rk V t).1 < t ∧ 0 < (bsf c rk V t).2 ∧ (bsf c rk V t).2 = V (bsf c rk V t).1.toNat ∧ (bsf c rk V t).1.toNat / 4 < c ∧ (bsf c rk V t).1.toNat % 4 < c ∧ ¬ rk ((bsf c rk V t).1.toNat / 4) = -6 ∧ rk ((bsf c rk V t).1.toNat % 4) = -6)
  | 0 => Or.inl ⟨rfl, rfl⟩
  | t + 1 => by
    have h := bsf_ok (c := c) (rk := rk) (V := V) t
    rw [bsf]
    split
    · rename_i g
      refine Or.inr ⟨by dsimp only; omega, by dsimp only; omega, by dsimp only; omega, ?_⟩
      dsimp only
      rw [Int.toNat_natCast]
      exact ⟨rfl, g.1, g.2.1, g.2.2.1, g.2.2.2.1⟩
    · rcases h with h | h
      · exact Or.inl h
      · exact Or.inr ⟨h.1, by omega, h.2.2⟩
theorem bsf_cong {c : Nat} {rk rk' V V' : Nat → Int} (hr : ∀ p, p < c → rk p = rk' p) (hV : ∀ t, t / 4 < c → t % 4 < c → ¬ t / 4 = t % 4 → V t = V' t) : ∀ t : Nat, bsf c rk V t = bsf c rk' V' t
  | 0 => rfl
  | t + 1 => by
    rw [bsf, bsf, bsf_cong hr hV t]
    by_cases h : t / 4 < c ∧ t % 4 < c
    · rw [hr _ h.1, hr _ h.2]
      by_cases e : t / 4 = t % 4
      · rw [if_neg (fun g => by rw [e] at g; exact g.2.2.1 g.2.2.2.1), if_neg (fun g => by rw [e] at g; exact g.2.2.1 g.2.2.2.1)]
      · rw [hV t h.1 h.2 e]
    · rw [if_neg (fun g => h ⟨g.1, g.2.1⟩), if_neg (fun g => h ⟨g.1, g.2.1⟩)]
def jput (J : Jst) (b : Nat) (x y a : Int) : Jst := (J.1 + 1, zup J.2.1 b (J.1 : Int), zup J.2.2.1 b x, zup J.2.2.2.1 b y, zup J.2.2.2.2 b a)
def jstp (c : Nat) (V X Y : Nat → Int) (J : Jst) : Jst := if bst c J.2.1 V = -6 then J else jput J ((bst c J.2.1 V).toNat % 4) (J.2.2.1 ((bst c J.2.1 V).toNat / 4) + X (bst c J.2.1 V).toNat) (J.2.2.2.1 ((bst c J.2.1 V).toNat / 4) + Y (bst c J.2.1 V).toNat) (((bst c J.2.1 V).toNat / 4 : Nat) : Int)
def jnil (c : Nat) : Jst := (if c = 0 then 0 else 1, fun p => if c = 0 then -6 else if p = 0 then 0 else -6, fun _ => 0, fun _ => 0, fun _ => -6)
def jn (c : Nat) (V X Y : Nat → Int) : Nat → Jst
  | 0 => jnil c
  | k + 1 => jstp c V X Y (jn c V X Y k)
noncomputable def bJ (B : Bs) : Jst := jn (bN B) (bV B) (bX B) (bY B) (bN B - 1)
/-- how many are not joined -/
def unj (c : Nat) (rk : Nat → Int) : Nat := (if 0 < c ∧ rk 0 = -6 then 1 else 0) + (if 1 < c ∧ rk 1 = -6 then 1 else 0) + (if 2 < c ∧ rk 2 = -6 then 1 else 0) + (if 3 < c ∧ rk 3 = -6 then 1 else 0)
theorem unj_put {c : Nat} (hc : c ≤ 4) {rk : Nat → Int} {b : Nat} (hb : b < c) (h : rk b = -6) {z : Int} (hz : 0 ≤ z) : unj c (zup rk b z) + 1 = unj c rk := by
  unfold unj zup
  rcases (show b = 0 ∨ b = 1 ∨ b = 2 ∨ b = 3 by omega) with rfl | rfl | rfl | rfl
  · have e : ¬ z = -6 := by omega
    simp [h, e, hb]
    try omega
  · have e : ¬ z = -6 := by omega
    simp [h, e, hb]
    try omega
  · have e : ¬ z = -6 := by omega
    simp [h, e, hb]
    try omega
  · have e : ¬ z = -6 := by omega
    simp [h, e, hb]
    try omega
theorem unj_pos {c : Nat} (hc : c ≤ 4) {rk : Nat → Int} {b : Nat} (hb : b < c) (h : rk b = -6) : 0 < unj c rk := by
  unfold unj
  rcases (show b = 0 ∨ b = 1 ∨ b = 2 ∨ b = 3 by omega) with rfl | rfl | rfl | rfl
  · rw [if_pos ⟨hb, h⟩]; omega
  · rw [if_pos (show 1 < c ∧ rk 1 = -6 from ⟨hb, h⟩)]; omega
  · rw [if_pos (show 2 < c ∧ rk 2 = -6 from ⟨hb, h⟩)]; omega
  · rw [if_pos (show 3 < c ∧ rk 3 = -6 from ⟨hb, h⟩)]; omega
/-- what holds of a joining as it goes -/
def jinv (c : Nat) (J : Jst) : Prop := J.1 + unj c J.2.1 = c ∧ (∀ p, p < c → J.2.1 p = -6 ∨ (0 ≤ J.2.1 p ∧ J.2.1 p < J.1 ∧ -(20 * J.2.1 p) ≤ J.2.2.1 p ∧ J.2.2.1 p ≤ 20 * J.2.1 p ∧ -(20 * J.2.1 p) ≤ J.2.2.2.1 p ∧ J.2.2.2.1 p ≤ 20 * J.2.1 p ∧ -6 ≤ J.2.2.2.2 p ∧ J.2.2.2.2 p ≤ 3)) ∧ (∀ p q, p < c → q < c → ¬ J.2.1 p = -6 → J.2.1 p = J.2.1 q → p = q)
theorem jnil_inv {c : Nat} (hc : c ≤ 4) : jinv c (jnil c) := by
  rcases (show c = 0 ∨ c = 1 ∨ c = 2 ∨ c = 3 ∨ c = 4 by omega) with rfl | rfl | rfl | rfl | rfl
  · exact ⟨by decide, fun p hp => absurd hp (Nat.not_lt_zero _), fun p q hp => absurd hp (Nat.not_lt_zero _)⟩
  all_goals
    refine ⟨by decide, fun p hp => ?_, fun p q hp hq h1 h2 => ?_⟩
    · by_cases e : p = 0
      · subst e; right; decide
      · left; simp [jnil, e]
    · simp only [jnil] at h1 h2
      by_cases e : p = 0
      · by_cases e2 : q = 0
        · omega
        · simp [e, e2] at h2
      · simp [e] at h1
theorem jstp_inv {c : Nat} (hc : c ≤ 4) {V X Y : Nat → Int} (hX : ∀ t, t / 4 < c → t % 4 < c → 0 < V t → -20 ≤ X t ∧ X t ≤ 20 ∧ -20 ≤ Y t ∧ Y t ≤ 20) {J : Jst} (h : jinv c J) : jinv c (jstp c V X Y J) := by
  have hb := bsf_ok (c := c) (rk := J.2.1) (V := V) 16
  unfold jstp
  by_cases e : bst c J.2.1 V = -6
  · rw [if_pos e]; exact h
  · rw [if_neg e]
    unfold bst at e ⊢
    generalize bsf c J.2.1 V 16 = u at hb e ⊢
    rcases hb with hb | hb
    · exact absurd hb.1 e
    · obtain ⟨g1, g2, g3, g4, g5, g6, g7, g8⟩ := hb
      have gx := hX u.1.toNat g5 g6 (by omega)
      have ha := h.2.1 _ g5
      have hu := unj_put hc g6 g8 (z := (J.1 : Int)) (by omega)
      refine ⟨?_, fun p hp => ?_, fun p q hp hq h1 h2 => ?_⟩
      · have := h.1
        show J.1 + 1 + unj c (zup J.2.1 (u.1.toNat % 4) (J.1 : Int)) = c
        omega
      · show zup J.2.1 (u.1.toNat % 4) (J.1 : Int) p = -6 ∨ (0 ≤ zup J.2.1 (u.1.toNat % 4) (J.1 : Int) p ∧ zup J.2.1 (u.1.toNat % 4) (J.1 : Int) p < ((J.1 + 1 : Nat) : Int) ∧ -(20 * zup J.2.1 (u.1.toNat % 4) (J.1 : Int) p) ≤ zup J.2.2.1 (u.1.toNat % 4) (J.2.2.1 (u.1.toNat / 4) + X u.1.toNat) p ∧ zup J.2.2.1 (u.1.toNat % 4) (J.2.2.1 (u.1.toNat / 4) + X u.1.toNat) p ≤ 20 * zup J.2.1 (u.1.toNat % 4) (J.1 : Int) p ∧ -(20 * zup J.2.1 (u.1.toNat % 4) (J.1 : Int) p) ≤ zup J.2.2.2.1 (u.1.toNat % 4) (J.2.2.2.1 (u.1.toNat / 4) + Y u.1.toNat) p ∧ zup J.2.2.2.1 (u.1.toNat % 4) (J.2.2.2.1 (u.1.toNat / 4) + Y u.1.toNat) p ≤ 20 * zup J.2.1 (u.1.toNat % 4) (J.1 : Int) p ∧ -6 ≤ zup J.2.2.2.2 (u.1.toNat % 4) ((u.1.toNat / 4 : Nat) : Int) p ∧ zup J.2.2.2.2 (u.1.toNat % 4) ((u.1.toNat / 4 : Nat) : Int) p ≤ 3)
        by_cases ep : p = u.1.toNat % 4
        · subst ep
          simp only [zup_same]
          omega
        · simp only [zup_ne _ _ ep]
          have := h.2.1 p hp
          omega
      · show p = q
        replace h1 : ¬ zup J.2.1 (u.1.toNat % 4) (J.1 : Int) p = -6 := h1
        replace h2 : zup J.2.1 (u.1.toNat % 4) (J.1 : Int) p = zup J.2.1 (u.1.toNat % 4) (J.1 : Int) q := h2
        have hp2 := h.2.1 p hp
        have hq2 := h.2.1 q hq
        by_cases ep : p = u.1.toNat % 4
        · by_cases eq : q = u.1.toNat % 4
          · omega
          · rw [ep, zup_same, zup_ne _ _ eq] at h2
            omega
        · rw [zup_ne _ _ ep] at h1 h2
          by_cases eq : q = u.1.toNat % 4
          · rw [eq, zup_same] at h2
            omega
          · rw [zup_ne _ _ eq] at h2
            exact h.2.2 p q hp hq h1 h2
theorem jn_inv {c : Nat} (hc : c ≤ 4) {V X Y : Nat → Int} (hX : ∀ t, t / 4 < c → t % 4 < c → 0 < V t → -20 ≤ X t ∧ X t ≤ 20 ∧ -20 ≤ Y t ∧ Y t ≤ 20) : ∀ k, jinv c (jn c V X Y k)
  | 0 => jnil_inv hc
  | k + 1 => jstp_inv hc hX (jn_inv hc hX k)
theorem jn_fix {c : Nat} {V X Y : Nat → Int} {k : Nat} (h : bst c (jn c V X Y k).2.1 V = -6) : ∀ n, jn c V X Y (k + n) = jn c V X Y k
  | 0 => rfl
  | n + 1 => by
    rw [← Nat.add_assoc, jn, jn_fix h n, jstp, if_pos h]
/-- the class's joining as the memory has it -/
def JOk (μ : Mem) (c : Nat) (J : Jst) : Prop := μ 2 4 = (J.1 : Int) ∧ (∀ p, p < c → μ (10 + p) 5 = J.2.1 p ∧ (¬ J.2.1 p = -6 → μ (10 + p) 2 = J.2.2.1 p ∧ μ (10 + p) 3 = J.2.2.2.1 p ∧ μ (10 + p) 4 = J.2.2.2.2 p)) ∧ ∀ k, k < J.1 → 0 ≤ μ 7 k ∧ μ 7 k < c ∧ J.2.1 (μ 7 k).toNat = (k : Int)
