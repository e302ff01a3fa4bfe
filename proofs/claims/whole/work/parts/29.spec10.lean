/-! overlaps, lights, seams -/
def ovr (xa ya wa ha xb yb wb hb : Int) : Int × Int × Int × Int := if 0 < min (xa + wa - 1) (xb + wb - 1) - max xa xb + 1 ∧ 0 < min (ya + ha - 1) (yb + hb - 1) - max ya yb + 1 then (max xa xb, max ya yb, min (xa + wa - 1) (xb + wb - 1) - max xa xb + 1, min (ya + ha - 1) (yb + hb - 1) - max ya yb + 1) else (0, 0, 0, 0)
/-- a sum over the first n of the places of a rectangle of width w, by rows -/
def lsm (t : Int → Int → Int) (w : Nat) : Nat → Int
  | 0 => 0
  | k + 1 => lsm t w k + t ((k % w : Nat) : Int) ((k / w : Nat) : Int)
theorem lsm_at (t : Int → Int → Int) {w r c : Nat} (hc : c < w) : lsm t w (w * r + (c + 1)) = lsm t w (w * r + c) + t (c : Int) (r : Int) := by
  rw [← Nat.add_assoc, lsm, Nat.mul_add_mod, Nat.mod_eq_of_lt hc, Nat.mul_add_div (by omega), Nat.div_eq_of_lt hc, Nat.add_zero]
theorem lsm_rng {t : Int → Int → Int} {w : Nat} {b : Int} (hb : 0 ≤ b) (h : ∀ x y, 0 ≤ t x y ∧ t x y ≤ b) : ∀ n : Nat, 0 ≤ lsm t w n ∧ lsm t w n ≤ n * b
  | 0 => by simp [lsm]
  | n + 1 => by
    have h1 := lsm_rng hb h (w := w) n
    have h2 := h ((n % w : Nat) : Int) ((n / w : Nat) : Int)
    rw [lsm]
    have h3 : ((n + 1 : Nat) : Int) * b = n * b + b := by rw [Int.natCast_add, Int.add_mul]; simp
    omega
def lta (dA dB : Int → Int → Int) (x0 y0 : Int) : Int → Int → Int := fun x y => if dA (x0 + x) (y0 + y) = -1 ∨ dB (x0 + x) (y0 + y) = -1 then 0 else dA (x0 + x) (y0 + y)
def ltb (dA dB : Int → Int → Int) (x0 y0 : Int) : Int → Int → Int := fun x y => if dA (x0 + x) (y0 + y) = -1 ∨ dB (x0 + x) (y0 + y) = -1 then 0 else dB (x0 + x) (y0 + y)
def ltc (dA dB : Int → Int → Int) (x0 y0 : Int) : Int → Int → Int := fun x y => if dA (x0 + x) (y0 + y) = -1 ∨ dB (x0 + x) (y0 + y) = -1 then 0 else 1
theorem lta_rng {dA dB : Int → Int → Int} (h : ∀ x y, -1 ≤ dA x y ∧ dA x y ≤ 255) (x0 y0 x y : Int) : 0 ≤ lta dA dB x0 y0 x y ∧ lta dA dB x0 y0 x y ≤ 255 := by
  have := h (x0 + x) (y0 + y)
  unfold lta; split <;> omega
theorem ltb_rng {dA dB : Int → Int → Int} (h : ∀ x y, -1 ≤ dB x y ∧ dB x y ≤ 255) (x0 y0 x y : Int) : 0 ≤ ltb dA dB x0 y0 x y ∧ ltb dA dB x0 y0 x y ≤ 255 := by
  have := h (x0 + x) (y0 + y)
  unfold ltb; split <;> omega
theorem ltc_rng {dA dB : Int → Int → Int} (x0 y0 x y : Int) : 0 ≤ ltc dA dB x0 y0 x y ∧ ltc dA dB x0 y0 x y ≤ 1 := by
  unfold ltc; split <;> omega
/-- of the columns from b on, n more, the first of the cheapest -/
def chg (f : Nat → Int) (b : Nat) : Nat → Nat
  | 0 => b
  | n + 1 => if f (b + n + 1) < f (chg f b n) then b + n + 1 else chg f b n
theorem chg_rng (f : Nat → Int) (b : Nat) : ∀ n, b ≤ chg f b n ∧ chg f b n ≤ b + n
  | 0 => ⟨Nat.le_refl _, Nat.le_refl _⟩
  | n + 1 => by
    have := chg_rng f b n
    unfold chg
    split <;> omega
theorem chg_cong {f g : Nat → Int} {b : Nat} : ∀ n, (∀ c, b ≤ c → c ≤ b + n → f c = g c) → chg f b n = chg g b n
  | 0, _ => rfl
  | n + 1, h => by
    have e := chg_cong n (fun c h1 h2 => h c h1 (by omega))
    have r := chg_rng g b n
    unfold chg
    rw [e, h (b + n + 1) (by omega) (by omega), h (chg g b n) r.1 (by omega)]
/-- between two columns, of a row of w -/
def chp (f : Nat → Int) (lo hi : Int) (w : Nat) : Nat := chg f (max lo 0).toNat (min hi ((w : Int) - 1) - max lo 0).toNat
theorem chp_rng (f : Nat → Int) {lo hi : Int} {w : Nat} (h : max lo 0 < w) : ((max lo 0).toNat ≤ chp f lo hi w) ∧ chp f lo hi w < w := by
  have := chg_rng f (max lo 0).toNat (min hi ((w : Int) - 1) - max lo 0).toNat
  unfold chp
  omega
theorem chp_cong {f g : Nat → Int} {lo hi : Int} {w : Nat} (hw : max lo 0 < w) (h : ∀ c, c < w → f c = g c) : chp f lo hi w = chp g lo hi w :=
  chg_cong _ (fun c h1 h2 => h c (by omega))
def unl (p q : Int) : Int := if p = -1 ∨ q = -1 then 255 else if 0 ≤ p - q then p - q else 0 - (p - q)
theorem unl_rng {p q : Int} (hp : -1 ≤ p ∧ p ≤ 255) (hq : -1 ≤ q ∧ q ≤ 255) : 0 ≤ unl p q ∧ unl p q ≤ 255 := by
  unfold unl
  split
  · omega
  · split <;> omega
/-- what the way down costs from a column of the k-th row from below -/
def cso (own : Nat → Nat → Int) (w h : Nat) : Nat → Nat → Int
  | 0 => fun c => own (h - 1) c
  | k + 1 => fun c => own (h - 1 - (k + 1)) c + cso own w h k (chp (cso own w h k) ((c : Int) - 1) ((c : Int) + 1) w)
theorem cso_rng {own : Nat → Nat → Int} (ho : ∀ r c, 0 ≤ own r c ∧ own r c ≤ 255) (w h : Nat) : ∀ (k c : Nat), 0 ≤ cso own w h k c ∧ cso own w h k c ≤ 255 * (k + 1)
  | 0, c => by have := ho (h - 1) c; simp only [cso]; omega
  | k + 1, c => by
    have h1 := ho (h - 1 - (k + 1)) c
    have h2 := cso_rng ho w h k (chp (cso own w h k) ((c : Int) - 1) ((c : Int) + 1) w)
    simp only [cso]
    omega
/-- the seam's column in a row -/
def scl (own : Nat → Nat → Int) (w h : Nat) : Nat → Nat
  | 0 => chp (cso own w h (h - 1)) 0 ((w : Int) - 1) w
  | r + 1 => chp (cso own w h (h - 1 - (r + 1))) ((scl own w h r : Int) - 1) ((scl own w h r : Int) + 1) w
theorem scl_lt {own : Nat → Nat → Int} {w h : Nat} (hw : 0 < w) : ∀ r, scl own w h r < w
  | 0 => (chp_rng _ (by omega)).2
  | r + 1 => by
    have := scl_lt (own := own) (h := h) hw r
    exact (chp_rng _ (by omega)).2
/-! which picture tells the dot of a place -/
def pat (rk dv : Nat → Int) : Nat → Int
  | 0 => -6
  | p + 1 => if ¬ rk p = -6 ∧ ¬ dv p = -1 ∧ (pat rk dv p < 0 ∨ rk p < rk (pat rk dv p).toNat) then (p : Int) else pat rk dv p
theorem pat_ok (rk dv : Nat → Int) : ∀ n : Nat, (pat rk dv n = -6 ∧ ∀ p, p < n → rk p = -6 ∨ dv p = -1) ∨ (0 ≤ pat rk dv n ∧ pat rk dv n < n ∧ ¬ rk (pat rk dv n).toNat = -6 ∧ ¬ dv (pat rk dv n).toNat = -1 ∧ ∀ p, p < n → ¬ rk p = -6 → ¬ dv p = -1 → rk (pat rk dv n).toNat ≤ rk p)
  | 0 => Or.inl ⟨rfl, fun p hp => absurd hp (Nat.not_lt_zero _)⟩
  | n + 1 => by
    have h := pat_ok rk dv n
    rw [pat]
    by_cases e : ¬ rk n = -6 ∧ ¬ dv n = -1 ∧ (pat rk dv n < 0 ∨ rk n < rk (pat rk dv n).toNat)
    · rw [if_pos e]
      right
      rw [Int.toNat_natCast]
      refine ⟨by omega, by omega, e.1, e.2.1, fun p hp h1 h2 => ?_⟩
      by_cases ep : p = n
      · rw [ep]; exact Int.le_refl _
      · rcases h with h | h
        · rcases h.2 p (by omega) with h3 | h3
          · exact absurd h3 h1
          · exact absurd h3 h2
        · have := h.2.2.2.2 p (by omega) h1 h2
          omega
    · rw [if_neg e]
      rcases h with h | h
      · left
        refine ⟨h.1, fun p hp => ?_⟩
        by_cases ep : p = n
        · rw [ep]; omega
        · exact h.2 p (by omega)
      · right
        refine ⟨h.1, by omega, h.2.2.1, h.2.2.2.1, fun p hp h1 h2 => ?_⟩
        by_cases ep : p = n
        · rw [ep]; rw [ep] at h1 h2; omega
        · exact h.2.2.2.2 p (by omega) h1 h2
theorem pat_cong {rk rk' dv dv' : Nat → Int} : ∀ n : Nat, (∀ p, p < n → rk p = rk' p) → (∀ p, p < n → ¬ rk' p = -6 → dv p = dv' p) → pat rk dv n = pat rk' dv' n
  | 0, _, _ => rfl
  | n + 1, h1, h2 => by
    have e := pat_cong n (fun p hp => h1 p (by omega)) (fun p hp => h2 p (by omega))
    have h := pat_ok rk' dv' n
    rw [pat, pat, e, h1 n (by omega)]
    by_cases g : rk' n = -6
    · rw [if_neg (fun q => q.1 g), if_neg (fun q => q.1 g)]
    · rw [h2 n (by omega) g]
      rcases h with h | h
      · rw [h.1]
        simp
      · rw [h1 (pat rk' dv' n).toNat (by omega)]
theorem pat_eq {rk dv : Nat → Int} {c p : Nat} (hinj : ∀ p q, p < c → q < c → ¬ rk p = -6 → rk p = rk q → p = q) (hp : p < c) (h1 : ¬ rk p = -6) (h2 : ¬ dv p = -1) (h3 : ∀ q, q < c → ¬ rk q = -6 → ¬ dv q = -1 → rk p ≤ rk q) : pat rk dv c = (p : Int) := by
  rcases pat_ok rk dv c with h | h
  · rcases h.2 p hp with h4 | h4
    · exact absurd h4 h1
    · exact absurd h4 h2
  · have h4 := h.2.2.2.2 p hp h1 h2
    have h5 := h3 (pat rk dv c).toNat (by omega) h.2.2.1 h.2.2.2.1
    have := hinj p (pat rk dv c).toNat hp (by omega) h1 (by omega)
    omega
theorem pat_none {rk dv : Nat → Int} {c : Nat} (h : ∀ p, p < c → ¬ rk p = -6 → dv p = -1) : pat rk dv c = -6 := by
  rcases pat_ok rk dv c with g | g
  · exact g.1
  · exact absurd (h (pat rk dv c).toNat (by omega) g.2.2.1) g.2.2.2.1
/-- the farthest edge of those joined -/
def exf (rk e : Nat → Int) (lo : Prop) [Decidable lo] : Nat → Int
  | 0 => 0
  | p + 1 => if rk p = -6 then exf rk e lo p else if p = 0 ∨ (lo ∧ e p < exf rk e lo p) ∨ (¬ lo ∧ exf rk e lo p < e p) then e p else exf rk e lo p
/-- it lies out at least as far as each, and is one's -/
theorem exf_ok {rk e : Nat → Int} {lo : Prop} [Decidable lo] (h0 : ¬ rk 0 = -6) : ∀ n : Nat, 0 < n → (∃ p, p < n ∧ ¬ rk p = -6 ∧ exf rk e lo n = e p) ∧ ∀ p, p < n → ¬ rk p = -6 → (lo → exf rk e lo n ≤ e p) ∧ (¬ lo → e p ≤ exf rk e lo n)
  | 0, h => absurd h (Nat.lt_irrefl _)
  | 1, _ => by
    have e1 : exf rk e lo 1 = e 0 := by rw [exf, if_neg h0, if_pos (Or.inl rfl)]
    rw [e1]
    refine ⟨⟨0, Nat.zero_lt_one, h0, rfl⟩, fun p hp _ => ?_⟩
    have : p = 0 := by omega
    subst this
    exact ⟨fun _ => Int.le_refl _, fun _ => Int.le_refl _⟩
  | n + 2, _ => by
    obtain ⟨⟨p, hp, h1, h2⟩, h3⟩ := exf_ok (rk := rk) (e := e) (lo := lo) h0 (n + 1) (by omega)
    rw [exf]
    by_cases g : rk (n + 1) = -6
    · rw [if_pos g]
      refine ⟨⟨p, by omega, h1, h2⟩, fun q hq hr => ?_⟩
      by_cases eq : q = n + 1
      · rw [eq] at hr; exact absurd g hr
      · exact h3 q (by omega) hr
    · rw [if_neg g]
      by_cases g2 : n + 1 = 0 ∨ (lo ∧ e (n + 1) < exf rk e lo (n + 1)) ∨ (¬ lo ∧ exf rk e lo (n + 1) < e (n + 1))
      · rw [if_pos g2]
        refine ⟨⟨n + 1, by omega, g, rfl⟩, fun q hq hr => ?_⟩
        by_cases eq : q = n + 1
        · rw [eq]; exact ⟨fun _ => Int.le_refl _, fun _ => Int.le_refl _⟩
        · have h4 := h3 q (by omega) hr
          refine ⟨fun hl => ?_, fun hl => ?_⟩
          · have h5 := h4.1 hl
            rcases g2 with g2 | ⟨_, g2⟩ | ⟨g2, _⟩
            · omega
            · omega
            · exact absurd hl g2
          · have h5 := h4.2 hl
            rcases g2 with g2 | ⟨g2, _⟩ | ⟨_, g2⟩
            · omega
            · exact absurd g2 hl
            · omega
      · rw [if_neg g2]
        refine ⟨⟨p, by omega, h1, h2⟩, fun q hq hr => ?_⟩
        by_cases eq : q = n + 1
        · rw [eq]
          refine ⟨fun hl => ?_, fun hl => ?_⟩
          · exact Int.not_lt.mp (fun z => g2 (Or.inr (Or.inl ⟨hl, z⟩)))
          · exact Int.not_lt.mp (fun z => g2 (Or.inr (Or.inr ⟨hl, z⟩)))
        · exact h3 q (by omega) hr
theorem exf_eq {rk e : Nat → Int} {lo : Prop} [Decidable lo] (h0 : ¬ rk 0 = -6) {c : Nat} (hc : 0 < c) {v : Int} {p : Nat} (hp : p < c) (hr : ¬ rk p = -6) (hv : v = e p) (h : ∀ q, q < c → ¬ rk q = -6 → (lo → v ≤ e q) ∧ (¬ lo → e q ≤ v)) : v = exf rk e lo c := by
  obtain ⟨⟨p2, h1, h2, h3⟩, h4⟩ := exf_ok (rk := rk) (e := e) (lo := lo) h0 c hc
  have h5 := h p2 h1 h2
  have h6 := h4 p hp hr
  by_cases hl : lo
  · have := h5.1 hl
    have := h6.1 hl
    omega
  · have := h5.2 hl
    have := h6.2 hl
    omega
