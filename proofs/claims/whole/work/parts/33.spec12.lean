/-! open pairs, the whole, its edges, its places -/
noncomputable def jrk (B : Bs) (p : Nat) : Int := (bJ B).2.1 p
noncomputable def jxx (B : Bs) (p : Nat) : Int := (bJ B).2.2.1 p
noncomputable def jyy (B : Bs) (p : Nat) : Int := (bJ B).2.2.2.1 p
noncomputable def jbb (B : Bs) (p : Nat) : Int := (bJ B).2.2.2.2 p
def Bok (B : Bs) : Prop := bN B ≤ 4 ∧ ∀ p, p < bN B → (0 ≤ bW B p ∧ bW B p ≤ 20) ∧ (0 ≤ bH B p ∧ bH B p ≤ 20) ∧ (∀ i j, -1 ≤ bD B p i j ∧ bD B p i j ≤ 255) ∧ ∀ i j, ¬ (0 ≤ i ∧ i < bW B p ∧ 0 ≤ j ∧ j < bH B p) → bD B p i j = -1
theorem cB_ok {μ : Mem} (h : rng μ) : Bok (cB μ) := by
  have hN := cB_N h
  refine ⟨hN.2, fun p hp => ?_⟩
  rw [cB_W hp, cB_H hp, cB_D hp]
  exact ⟨rg_DO_2 h (by omega), rg_DO_3 h (by omega), fun i j => dgt_rng (fun t => rg_va h (by omega) t) i j, fun i j g => dgt_out g⟩
theorem bJ_inv {B : Bs} (h : Bok B) : jinv (bN B) (bJ B) := jn_inv h.1 (fun t _ _ _ => bXY_rng B t) _
theorem jn_rk0 {c : Nat} (hc : 0 < c) {V X Y : Nat → Int} : ∀ k, (jn c V X Y k).2.1 0 = 0
  | 0 => by
    have e : ¬ c = 0 := by omega
    simp [jn, jnil, e]
  | k + 1 => by
    have h := jn_rk0 hc (V := V) (X := X) (Y := Y) k
    have hb := bst_rng (c := c) (rk := (jn c V X Y k).2.1) (V := V)
    rw [jn, jstp]
    split
    · exact h
    · rename_i e
      rcases hb with hb | hb
      · exact absurd hb e
      · have hne : ¬ 0 = (bst c (jn c V X Y k).2.1 V).toNat % 4 := by
          intro q
          rw [← q, h] at hb
          omega
        show zup _ _ _ 0 = 0
        rw [zup_ne _ _ hne]
        exact h
theorem jrk0 {B : Bs} (h : 0 < bN B) : jrk B 0 = 0 := jn_rk0 h _
def opn (B : Bs) (a b : Nat) : Prop := ¬ jrk B a = -6 ∧ ¬ jrk B b = -6 ∧ ¬ bV B (4 * a + b) = 0 ∧ ¬ jbb B a = (b : Int) ∧ ¬ jbb B b = (a : Int) ∧ ¬ (jxx B b = jxx B a + bX B (4 * a + b) ∧ jyy B b = jyy B a + bY B (4 * a + b))
noncomputable def opf (B : Bs) : Nat → Int
  | 0 => 0
  | t + 1 => opf B t + @ite _ (t / 4 < t % 4 ∧ t % 4 < bN B ∧ opn B (t / 4) (t % 4)) (Classical.propDecidable _) 1 0
noncomputable def opc (B : Bs) : Int := opf B 16
theorem opf_yes {B : Bs} {a b : Nat} (hb : b < 4) (hab : a < b) (hbc : b < bN B) (h : opn B a b) : opf B (4 * a + (b + 1)) = opf B (4 * a + b) + 1 := by
  rw [← Nat.add_assoc, opf, show (4 * a + b) / 4 = a by omega, show (4 * a + b) % 4 = b by omega, if_pos ⟨hab, hbc, h⟩]
theorem opf_no {B : Bs} {a b : Nat} (hb : b < 4) (h : ¬ (a < b ∧ b < bN B ∧ opn B a b)) : opf B (4 * a + (b + 1)) = opf B (4 * a + b) := by
  rw [← Nat.add_assoc, opf, show (4 * a + b) / 4 = a by omega, show (4 * a + b) % 4 = b by omega, if_neg h, Int.add_zero]
theorem opf_skip {B : Bs} (a : Nat) : ∀ n : Nat, (∀ t, a ≤ t → t < a + n → ¬ (t / 4 < t % 4 ∧ t % 4 < bN B)) → opf B (a + n) = opf B a
  | 0, _ => rfl
  | n + 1, h => by
    rw [← Nat.add_assoc, opf, if_neg (fun q => h (a + n) (by omega) (by omega) ⟨q.1, q.2.1⟩), Int.add_zero, opf_skip a n (fun t h1 h2 => h t h1 (by omega))]
theorem opf_skip' {B : Bs} {a b : Nat} (hab : a ≤ b) (h : ∀ t, a ≤ t → t < b → ¬ (t / 4 < t % 4 ∧ t % 4 < bN B)) : opf B b = opf B a := by
  obtain ⟨n, rfl⟩ : ∃ n, b = a + n := ⟨b - a, by omega⟩
  exact opf_skip a n h
/-- the dot that a picture has at a place -/
noncomputable def bdv (B : Bs) (x y : Int) (p : Nat) : Int := bD B p (x - jxx B p) (y - jyy B p)
noncomputable def fat (B : Bs) (x y : Int) : Int := pat (jrk B) (bdv B x y) (bN B)
theorem fat_ok (B : Bs) (x y : Int) : (fat B x y = -6 ∧ ∀ p, p < bN B → jrk B p = -6 ∨ bdv B x y p = -1) ∨ (0 ≤ fat B x y ∧ fat B x y < bN B ∧ ¬ jrk B (fat B x y).toNat = -6 ∧ ¬ bdv B x y (fat B x y).toNat = -1 ∧ ∀ p, p < bN B → ¬ jrk B p = -6 → ¬ bdv B x y p = -1 → jrk B (fat B x y).toNat ≤ jrk B p) := pat_ok _ _ _
noncomputable def bex (B : Bs) (what : Int) (p : Nat) : Int := edg (jxx B p) (jyy B p) (bW B p) (bH B p) what
noncomputable def exs (B : Bs) (what : Int) : Int := exf (jrk B) (bex B what) (what < 2) (bN B)
/-! sums over rectangles -/
def rsm (g : Int → Int) : Nat → Int
  | 0 => 0
  | n + 1 => rsm g n + g (n : Int)
def bxs (f : Int → Int → Int) (x0 y0 : Int) (w h : Nat) : Int := rsm (fun j => rsm (fun i => f (x0 + i) (y0 + j)) w) h
theorem rsm_cong {g g' : Int → Int} : ∀ n : Nat, (∀ i : Nat, i < n → g (i : Int) = g' (i : Int)) → rsm g n = rsm g' n
  | 0, _ => rfl
  | n + 1, h => by rw [rsm, rsm, h n (by omega), rsm_cong n (fun i hi => h i (by omega))]
theorem rsm_zero {g : Int → Int} (n : Nat) (h : ∀ i : Nat, i < n → g (i : Int) = 0) : rsm g n = 0 := by
  induction n with
  | zero => rfl
  | succ n ih => rw [rsm, h n (by omega), ih (fun i hi => h i (by omega))]; rfl
theorem rsm_add (g g' : Int → Int) : ∀ n : Nat, rsm (fun i => g i + g' i) n = rsm g n + rsm g' n
  | 0 => rfl
  | n + 1 => by rw [rsm, rsm, rsm, rsm_add g g' n]; omega
theorem rsm_split (g : Int → Int) (m : Nat) : ∀ n : Nat, rsm g (m + n) = rsm g m + rsm (fun i => g ((m : Int) + i)) n
  | 0 => by rw [Nat.add_zero, rsm, Int.add_zero]
  | n + 1 => by
    rw [← Nat.add_assoc, rsm, rsm_split g m n, rsm, Int.add_assoc, show ((m + n : Nat) : Int) = (m : Int) + (n : Int) from Int.natCast_add m n]
theorem rsm_win {g : Int → Int} {n a w : Nat} (haw : a + w ≤ n) (h : ∀ i : Nat, i < n → (i < a ∨ a + w ≤ i) → g (i : Int) = 0) : rsm g n = rsm (fun i => g ((a : Int) + i)) w := by
  obtain ⟨r, rfl⟩ : ∃ r, n = a + w + r := ⟨n - (a + w), by omega⟩
  rw [rsm_split g (a + w) r, rsm_split g a w, rsm_zero a (fun i hi => h i (by omega) (Or.inl hi)), rsm_zero r (fun i hi => by
    rw [← Int.natCast_add]; exact h _ (by omega) (Or.inr (by omega)))]
  omega
theorem bxs_win {f : Int → Int → Int} {x0 y0 x1 y1 : Int} {w h w1 h1 : Nat} (hx : x0 ≤ x1) (hxw : x1 + (w1 : Int) ≤ x0 + (w : Int)) (hy : y0 ≤ y1) (hyh : y1 + (h1 : Int) ≤ y0 + (h : Int)) (hf : ∀ x y, ¬ (x1 ≤ x ∧ x < x1 + (w1 : Int) ∧ y1 ≤ y ∧ y < y1 + (h1 : Int)) → f x y = 0) : bxs f x0 y0 w h = bxs f x1 y1 w1 h1 := by
  unfold bxs
  rw [rsm_win (a := (y1 - y0).toNat) (w := h1) (by omega) (fun j hj ho => rsm_zero _ (fun i hi => hf (x0 + (i : Int)) (y0 + (j : Int)) (by omega)))]
  refine rsm_cong _ (fun j hj => ?_)
  rw [rsm_win (a := (x1 - x0).toNat) (w := w1) (by omega) (fun i hi ho => hf (x0 + (i : Int)) _ (by omega))]
  refine rsm_cong _ (fun i hi => ?_)
  congr 1
  · omega
  · omega
theorem bxs_add (f g : Int → Int → Int) (x0 y0 : Int) (w h : Nat) : bxs (fun x y => f x y + g x y) x0 y0 w h = bxs f x0 y0 w h + bxs g x0 y0 w h := by
  unfold bxs
  rw [← rsm_add]
  exact rsm_cong _ (fun j hj => rsm_add _ _ w)
theorem bxs_cong {f g : Int → Int → Int} {x0 y0 : Int} {w h : Nat} (e : ∀ x y, f x y = g x y) : bxs f x0 y0 w h = bxs g x0 y0 w h := by
  rw [show f = g from funext fun x => funext fun y => e x y]
theorem bxs_zero (x0 y0 : Int) (w h : Nat) : bxs (fun _ _ => 0) x0 y0 w h = 0 := rsm_zero _ (fun j hj => rsm_zero _ (fun i hi => rfl))
noncomputable def ind (B : Bs) (p : Nat) : Int → Int → Int := fun x y => if fat B x y = (p : Int) then 1 else 0
noncomputable def cpl (B : Bs) : Int := bxs (fun x y => if fat B x y = -6 then 0 else 1) (-100) (-100) 200 200
def csm (T : Nat → Int) (o : Nat → Nat) : Nat → Int
  | 0 => 0
  | k + 1 => csm T o k + T (o k)
noncomputable def cpt (B : Bs) (p : Nat) : Int := bxs (ind B p) (jxx B p) (jyy B p) (bW B p).toNat (bH B p).toNat
theorem cpl_eq {B : Bs} (hB : Bok B) {o : Nat → Nat} (ho : ∀ k, k < (bJ B).1 → o k < bN B ∧ jrk B (o k) = (k : Int)) : csm (cpt B) o (bJ B).1 = cpl B := by
  have hi := bJ_inv hB
  have h1 : ∀ k, k < (bJ B).1 → cpt B (o k) = bxs (ind B (o k)) (-100) (-100) 200 200 := by
    intro k hk
    obtain ⟨g1, g2⟩ := ho k hk
    have g3 := hB.2 (o k) g1
    have g4 := hi.2.1 (o k) g1
    have g5 := hi.1
    have g6 := hB.1
    have e1 : jrk B (o k) = (bJ B).2.1 (o k) := rfl
    have e2 : jxx B (o k) = (bJ B).2.2.1 (o k) := rfl
    have e3 : jyy B (o k) = (bJ B).2.2.2.1 (o k) := rfl
    refine (bxs_win (by omega) (by omega) (by omega) (by omega) (fun x y hxy => ?_)).symm
    unfold ind
    refine if_neg (fun q => ?_)
    rcases fat_ok B x y with g | g
    · omega
    · rw [q, Int.toNat_natCast] at g
      exact g.2.2.2.1 (g3.2.2.2 _ _ (by omega))
  have h2 : ∀ n, n ≤ (bJ B).1 → csm (cpt B) o n = bxs (fun x y => csm (fun p => ind B p x y) o n) (-100) (-100) 200 200 := by
    intro n
    induction n with
    | zero => intro _; exact (bxs_zero _ _ _ _).symm
    | succ n ih =>
      intro hn
      rw [csm, ih (by omega), h1 n (by omega), ← bxs_add]
      rfl
  rw [h2 _ (Nat.le_refl _)]
  refine bxs_cong (fun x y => ?_)
  have h3 : ∀ n, csm (fun p => ind B p x y) o n = 0 ∨ ∃ k, k < n ∧ fat B x y = (o k : Int) := by
    intro n
    induction n with
    | zero => exact Or.inl rfl
    | succ n ih =>
      rcases ih with ih | ⟨k, h4, h5⟩
      · by_cases q : fat B x y = (o n : Int)
        · exact Or.inr ⟨n, by omega, q⟩
        · left
          rw [csm, ih]
          unfold ind
          rw [if_neg q]; rfl
      · exact Or.inr ⟨k, by omega, h5⟩
  rcases fat_ok B x y with g | g
  · rw [if_pos g.1]
    rcases h3 (bJ B).1 with h4 | ⟨k, _, h5⟩
    · exact h4
    · omega
  · rw [if_neg (by omega)]
    have g2 := hi.2.1 (fat B x y).toNat (by omega)
    have e1 : jrk B (fat B x y).toNat = (bJ B).2.1 (fat B x y).toNat := rfl
    obtain ⟨r, hr⟩ : ∃ r : Nat, jrk B (fat B x y).toNat = (r : Int) := ⟨(jrk B (fat B x y).toNat).toNat, by omega⟩
    have hor := ho r (by omega)
    have e2 : (fat B x y).toNat = o r := hi.2.2 _ _ (by omega) hor.1 g.2.2.1 (by show jrk B _ = jrk B _; rw [hr, hor.2])
    have key : ∀ k, k < (bJ B).1 → (fat B x y = (o k : Int) ↔ k = r) := by
      intro k hk
      constructor
      · intro q
        have h6 := (ho k hk).2
        have h7 : o k = o r := by omega
        rw [h7, hor.2] at h6
        omega
      · rintro rfl
        omega
    have h8 : ∀ n, n ≤ (bJ B).1 → csm (fun p => ind B p x y) o n = if r < n then 1 else 0 := by
      intro n
      induction n with
      | zero => intro _; rfl
      | succ n ih =>
        intro hn
        rw [csm, ih (by omega)]
        unfold ind
        by_cases q : n = r
        · rw [if_pos ((key n (by omega)).mpr q), if_neg (by omega), if_pos (by omega)]; rfl
        · rw [if_neg (fun z => q ((key n (by omega)).mp z))]
          by_cases q2 : r < n
          · rw [if_pos q2, if_pos (by omega)]; rfl
          · rw [if_neg q2, if_neg (by omega)]; rfl
    rw [h8 _ (Nat.le_refl _), if_pos (by omega)]
