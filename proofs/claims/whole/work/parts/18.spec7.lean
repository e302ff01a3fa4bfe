theorem jn_put {c : Nat} {V X Y : Nat → Int} {k t : Nat} (h : bst c (jn c V X Y k).2.1 V = (t : Int)) : jn c V X Y (k + 1) = jput (jn c V X Y k) (t % 4) ((jn c V X Y k).2.2.1 (t / 4) + X t) ((jn c V X Y k).2.2.2.1 (t / 4) + Y t) ((t / 4 : Nat) : Int) := by
  rw [jn, jstp, h, if_neg (by omega), Int.toNat_natCast]
/-! the same marks, signs, partners, the same of what rests on them -/
theorem nbr_cong {sg sg' : Nat → Int} {s : Int} : ∀ n : Nat, (∀ k, k < n → sg k = sg' k) → nbr sg s n = nbr sg' s n
  | 0, _ => rfl
  | n + 1, h => by rw [nbr, nbr, h n (by omega), nbr_cong n (fun k hk => h k (by omega))]
theorem nrs_cong {sg sg' : Nat → Int} {s : Int} {n : Nat} (h : ∀ k, k < n → sg k = sg' k) : nrs sg s n = nrs sg' s n := by
  unfold nrs; rw [nbr_cong n h]
theorem ptn_cong {sa sa' sb sb' : Nat → Int} {na nb : Nat} {near : Int} {m : Nat} (ha : ∀ k, k < na → sa k = sa' k) (hb : ∀ k, k < nb → sb k = sb' k) (hm : m < na) : ptn sa na sb nb near m = ptn sa' na sb' nb near m := by
  have h1 := nrs_rng sb' (sa' m) nb
  unfold ptn
  rw [ha m hm, nrs_cong hb]
  rcases h1 with h1 | h1
  · rw [if_pos (Or.inl h1), if_pos (Or.inl h1)]
  · rw [hb _ (by omega), nrs_cong ha]
theorem mct_cong {P P' : Nat → Int} : ∀ n : Nat, (∀ k, k < n → P k = P' k) → mct P n = mct P' n
  | 0, _ => rfl
  | n + 1, h => by rw [mct, mct, h n (by omega), mct_cong n (fun k hk => h k (by omega))]
theorem prf_cong {P P' SX SX' SY SY' : Nat → Int} {n : Nat} {a0 : Vxy} (h1 : ∀ m, m < n → P m = P' m) (h2 : ∀ m, m < n → ¬ P' m = -6 → SX m = SX' m) (h3 : ∀ m, m < n → ¬ P' m = -6 → SY m = SY' m) : ∀ m : Nat, m ≤ n → prf P SX SY n a0 m = prf P' SX' SY' n a0 m
  | 0, _ => rfl
  | m + 1, h => by
    rw [prf, prf, prf_cong h1 h2 h3 m (by omega), h1 m (by omega)]
    by_cases e : P' m = -6
    · rw [if_pos e, if_pos e]
    · rw [if_neg e, if_neg e, h2 m (by omega) e, h3 m (by omega) e]
      congr 1
      have key : ∀ j, j ≤ n → vts P SX SY (SX' m) (SY' m) j = vts P' SX' SY' (SX' m) (SY' m) j := by
        intro j
        induction j with
        | zero => intro _; rfl
        | succ j ih =>
          intro hj
          rw [vts, vts, ih (by omega), h1 j (by omega)]
          by_cases e2 : P' j = -6
          · rw [if_neg (fun g => g.1 e2), if_neg (fun g => g.1 e2)]
          · rw [h2 j (by omega) e2, h3 j (by omega) e2]
      exact key n (Nat.le_refl _)
/-- where it starts from doesn't show -/
theorem prf_ind {P SX SY : Nat → Int} {n : Nat} (x0 y0 : Int) : ∀ m : Nat, 0 ≤ (prf P SX SY n (0, 0, 0) m).1 ∧ (prf P SX SY n (0, x0, y0) m).1 = (prf P SX SY n (0, 0, 0) m).1 ∧ (0 < (prf P SX SY n (0, 0, 0) m).1 → prf P SX SY n (0, x0, y0) m = prf P SX SY n (0, 0, 0) m)
  | 0 => by simp [prf]
  | m + 1 => by
    obtain ⟨h1, h2, h3⟩ := prf_ind (P := P) (SX := SX) (SY := SY) (n := n) x0 y0 m
    have hv := vts_rng P SX SY (SX m) (SY m) n
    rw [prf, prf]
    by_cases e : P m = -6
    · rw [if_pos e, if_pos e]; exact ⟨h1, h2, h3⟩
    · rw [if_neg e, if_neg e]
      by_cases h0 : 0 < (prf P SX SY n (0, 0, 0) m).1
      · rw [h3 h0]
        refine ⟨?_, rfl, fun _ => rfl⟩
        unfold prq
        split
        · exact hv.1
        · exact h1
      · unfold prq
        rw [h2]
        by_cases h4 : 2 ≤ vts P SX SY (SX m) (SY m) n
        · rw [if_pos ⟨h4, Or.inl (by omega)⟩, if_pos ⟨h4, Or.inl (by omega)⟩]
          exact ⟨hv.1, rfl, fun _ => rfl⟩
        · rw [if_neg (fun g => h4 g.1), if_neg (fun g => h4 g.1)]
          exact ⟨h1, h2, h3⟩
theorem prf_rng' {P SX SY : Nat → Int} {n : Nat} (hn : n ≤ 16) (hx : ∀ m, m < n → ¬ P m = -6 → -20 ≤ SX m ∧ SX m ≤ 20 ∧ -20 ≤ SY m ∧ SY m ≤ 20) : ∀ m : Nat, m ≤ n → 0 ≤ (prf P SX SY n (0, 0, 0) m).1 ∧ (prf P SX SY n (0, 0, 0) m).1 ≤ 16 ∧ -20 ≤ (prf P SX SY n (0, 0, 0) m).2.1 ∧ (prf P SX SY n (0, 0, 0) m).2.1 ≤ 20 ∧ -20 ≤ (prf P SX SY n (0, 0, 0) m).2.2 ∧ (prf P SX SY n (0, 0, 0) m).2.2 ≤ 20
  | 0, _ => by simp [prf]
  | m + 1, h => by
    have h1 := prf_rng' hn hx m (by omega)
    have h2 := vts_rng P SX SY (SX m) (SY m) n
    rw [prf]
    split
    · exact h1
    · rename_i hP
      have h3 := hx m (by omega) hP
      unfold prq
      split
      · dsimp only; omega
      · exact h1
theorem bmk_le (B : Bs) (p : Nat) : (bmk B p).1 ≤ 16 := mkf_le _ _ _ _ _
theorem bmk_lt (B : Bs) (p : Nat) {m : Nat} (h : m < (bmk B p).1) : (bmk B p).2 m < 400 := (mkf_all _ _ _ _ 400 m h).1
theorem bpt_rng (B : Bs) (a b m : Nat) : bpt B a b m = -6 ∨ (0 ≤ bpt B a b m ∧ bpt B a b m < (bmk B b).1) := ptn_rng _ _ _ _ _ _
theorem bsg_rng (B : Bs) (p m : Nat) : 0 ≤ bsg B p m ∧ bsg B p m ≤ 4095 := sgn12 _ _ _
theorem bpr_rng (B : Bs) (a b : Nat) : 0 ≤ (bpr B a b).1 ∧ (bpr B a b).1 ≤ 16 ∧ -20 ≤ (bpr B a b).2.1 ∧ (bpr B a b).2.1 ≤ 20 ∧ -20 ≤ (bpr B a b).2.2 ∧ (bpr B a b).2.2 ≤ 20 := by
  refine prf_rng' (bmk_le B a) (fun m hm hP => ?_) _ (Nat.le_refl _)
  have h1 := bpt_rng B a b m
  have h2 := bmk_lt B a hm
  have h3 := bmk_lt B b (m := (bpt B a b m).toNat) (by omega)
  unfold bsx bsy bcx bcy
  omega
theorem bV_rng (B : Bs) (t : Nat) : 0 ≤ bV B t ∧ bV B t ≤ 16 := ⟨(bpr_rng B _ _).1, (bpr_rng B _ _).2.1⟩
theorem bXY_rng (B : Bs) (t : Nat) : -20 ≤ bX B t ∧ bX B t ≤ 20 ∧ -20 ≤ bY B t ∧ bY B t ≤ 20 := (bpr_rng B _ _).2.2
/-! the class: what its memory says of that base, and what it keeps of it -/
def cB (μ : Mem) : Bs := ((μ 2 3).toNat, μ 0 4, μ 0 5, fun p => if p < (μ 2 3).toNat then μ (14 + p) 2 else 0, fun p => if p < (μ 2 3).toNat then μ (14 + p) 3 else 0, fun p => if p < (μ 2 3).toNat then dgt (μ (14 + p) 2) (μ (14 + p) 3) (μ (18 + p)) else fun _ _ => 0)
theorem cB_W {μ : Mem} {p : Nat} (h : p < bN (cB μ)) : bW (cB μ) p = μ (14 + p) 2 := if_pos h
theorem cB_H {μ : Mem} {p : Nat} (h : p < bN (cB μ)) : bH (cB μ) p = μ (14 + p) 3 := if_pos h
theorem cB_D {μ : Mem} {p : Nat} (h : p < bN (cB μ)) : bD (cB μ) p = dgt (μ (14 + p) 2) (μ (14 + p) 3) (μ (18 + p)) := if_pos h
theorem cB_N {μ : Mem} (h : rng μ) : μ 2 3 = (bN (cB μ) : Int) ∧ bN (cB μ) ≤ 4 := by
  have := rg_AL_3 h
  unfold bN cB
  dsimp only
  omega
theorem cB_fr {μ μ' : Mem} (h1 : μ' 2 3 = μ 2 3) (h2 : μ' 0 4 = μ 0 4) (h3 : μ' 0 5 = μ 0 5) (h4 : ∀ p, p < (μ 2 3).toNat → μ' (14 + p) 2 = μ (14 + p) 2 ∧ μ' (14 + p) 3 = μ (14 + p) 3 ∧ μ' (18 + p) = μ (18 + p)) : cB μ' = cB μ := by
  unfold cB
  rw [h1, h2, h3]
  refine congrArg (fun x => ((μ 2 3).toNat, μ 0 4, μ 0 5, x)) ?_
  refine Prod.ext ?_ (Prod.ext ?_ ?_)
  · funext p
    by_cases h : p < (μ 2 3).toNat
    · simp only [if_pos h, (h4 p h).1]
    · simp only [if_neg h]
  · funext p
    by_cases h : p < (μ 2 3).toNat
    · simp only [if_pos h, (h4 p h).2.1]
    · simp only [if_neg h]
  · funext p
    by_cases h : p < (μ 2 3).toNat
    · simp only [if_pos h, (h4 p h).1, (h4 p h).2.1, (h4 p h).2.2]
    · simp only [if_neg h]
/-- kept scores are those of the dots -/
def SVp (μ : Mem) (B : Bs) (p : Nat) : Prop := ∀ x y : Int, 0 ≤ x → x < bW B p → 0 ≤ y → y < bH B p → μ (22 + p) (y * 20 + x).toNat = sco (bW B p) (bH B p) (bD B p) x y
def MKp (μ : Mem) (B : Bs) (p : Nat) : Prop := MAok μ p (bfn B p) (bmk B p) ∧ ∀ m, m < (bmk B p).1 → μ (42 + p) m = bsg B p m
def PRp (μ : Mem) (B : Bs) (a b : Nat) : Prop := (∀ m, m < (bmk B a).1 → μ (62 + (4 * a + b)) m = bpt B a b m) ∧ μ (46 + (4 * a + b)) 1 = bmc B a b ∧ μ (46 + (4 * a + b)) 2 = bV B (4 * a + b) ∧ (0 < bV B (4 * a + b) → μ (46 + (4 * a + b)) 3 = bX B (4 * a + b) ∧ μ (46 + (4 * a + b)) 4 = bY B (4 * a + b))
def CD (μ : Mem) : Prop := (∀ p, p < bN (cB μ) → MKp μ (cB μ) p) ∧ (∀ a b, a < bN (cB μ) → b < bN (cB μ) → ¬ a = b → PRp μ (cB μ) a b) ∧ JOk μ (bN (cB μ)) (bJ (cB μ))
def CI (μ : Mem) : Prop := (∀ p, p < bN (cB μ) → μ (14 + p) 4 = 0 → SVp μ (cB μ) p) ∧ (μ 2 5 = 0 → CD μ)
theorem bfn_kgt {B : Bs} {p : Nat} {μ : Mem} {W H : Int} (hW : bW B p = W) (hH : bH B p = H) (h : SVp μ B p) : bfn B p = kgt W H (μ (22 + p)) := by
  funext i j
  unfold bfn kgt
  rw [hW, hH]
  by_cases e : 0 ≤ i ∧ i < W ∧ 0 ≤ j ∧ j < H
  · rw [if_pos e, if_pos e, h i j e.1 (by rw [hW]; exact e.2.1) e.2.2.1 (by rw [hH]; exact e.2.2.2), hW, hH]
  · rw [if_neg e, if_neg e]
/-- what Pairing.find has worked out, in the words of the base -/
theorem PRp_of {μ μ' : Mem} {B : Bs} {a b : Nat} (ha : a < 4) (hb : b < 4) (hA : MKp μ B a) (hB : MKp μ B b)
    (h1 : ∀ m : Nat, (m : Int) < μ (26 + a) 4 → μ' (62 + (4 * a + b)) m = (ptn (μ (42 + a)) (μ (26 + a) 4).toNat (μ (42 + b)) (μ (26 + b) 4).toNat (bNear B)) m)
    (h2 : μ' (46 + (4 * a + b)) 1 = mct (ptn (μ (42 + a)) (μ (26 + a) 4).toNat (μ (42 + b)) (μ (26 + b) 4).toNat (bNear B)) (μ (26 + a) 4).toNat)
    (h3 : (μ' (46 + (4 * a + b)) 2, μ' (46 + (4 * a + b)) 3, μ' (46 + (4 * a + b)) 4) = prf (ptn (μ (42 + a)) (μ (26 + a) 4).toNat (μ (42 + b)) (μ (26 + b) 4).toNat (bNear B)) (fun m => μ (30 + a) m - μ (30 + b) ((ptn (μ (42 + a)) (μ (26 + a) 4).toNat (μ (42 + b)) (μ (26 + b) 4).toNat (bNear B)) m).toNat) (fun m => μ (34 + a) m - μ (34 + b) ((ptn (μ (42 + a)) (μ (26 + a) 4).toNat (μ (42 + b)) (μ (26 + b) 4).toNat (bNear B)) m).toNat) (μ (26 + a) 4).toNat (0, μ (46 + (4 * a + b)) 3, μ (46 + (4 * a + b)) 4) (μ (26 + a) 4).toNat) : PRp μ' B a b := by
  have ea : (μ (26 + a) 4).toNat = (bmk B a).1 := by rw [hA.1.2.1]; omega
  have eb : (μ (26 + b) 4).toNat = (bmk B b).1 := by rw [hB.1.2.1]; omega
  rw [ea, eb] at h1 h2 h3
  have eP : ∀ m, m < (bmk B a).1 → ptn (μ (42 + a)) (bmk B a).1 (μ (42 + b)) (bmk B b).1 (bNear B) m = bpt B a b m := fun m hm => ptn_cong hA.2 hB.2 hm
  have hv : bV B (4 * a + b) = (bpr B a b).1 := by unfold bV; rw [show (4 * a + b) / 4 = a by omega, show (4 * a + b) % 4 = b by omega]
  have hx : bX B (4 * a + b) = (bpr B a b).2.1 := by unfold bX; rw [show (4 * a + b) / 4 = a by omega, show (4 * a + b) % 4 = b by omega]
  have hy : bY B (4 * a + b) = (bpr B a b).2.2 := by unfold bY; rw [show (4 * a + b) / 4 = a by omega, show (4 * a + b) % 4 = b by omega]
  have hpr : prf (ptn (μ (42 + a)) (bmk B a).1 (μ (42 + b)) (bmk B b).1 (bNear B)) (fun m => μ (30 + a) m - μ (30 + b) ((ptn (μ (42 + a)) (bmk B a).1 (μ (42 + b)) (bmk B b).1 (bNear B)) m).toNat) (fun m => μ (34 + a) m - μ (34 + b) ((ptn (μ (42 + a)) (bmk B a).1 (μ (42 + b)) (bmk B b).1 (bNear B)) m).toNat) (bmk B a).1 (0, μ (46 + (4 * a + b)) 3, μ (46 + (4 * a + b)) 4) (bmk B a).1 = prf (bpt B a b) (bsx B a b) (bsy B a b) (bmk B a).1 (0, μ (46 + (4 * a + b)) 3, μ (46 + (4 * a + b)) 4) (bmk B a).1 := by
    refine prf_cong eP (fun m hm hP => ?_) (fun m hm hP => ?_) _ (Nat.le_refl _)
    · have h4 := bpt_rng B a b m
      rw [eP m hm, (hA.1.2.2 m hm).1, (hB.1.2.2 (bpt B a b m).toNat (by omega)).1]
      rfl
    · have h4 := bpt_rng B a b m
      rw [eP m hm, (hA.1.2.2 m hm).2.1, (hB.1.2.2 (bpt B a b m).toNat (by omega)).2.1]
      rfl
  rw [hpr] at h3
  have hind := prf_ind (P := bpt B a b) (SX := bsx B a b) (SY := bsy B a b) (n := (bmk B a).1) (μ (46 + (4 * a + b)) 3) (μ (46 + (4 * a + b)) 4) (bmk B a).1
  refine ⟨fun m hm => by rw [h1 m (by rw [hA.1.2.1]; omega), eP m hm], by rw [h2]; exact mct_cong _ eP, ?_, fun h0 => ?_⟩
  · rw [hv]
    have := congrArg Prod.fst h3
    dsimp only at this
    rw [this]
    exact hind.2.1
  · rw [hv] at h0
    have h5 := h3.trans (hind.2.2 h0)
    rw [hx, hy]
    exact ⟨congrArg (fun z => z.2.1) h5, congrArg (fun z => z.2.2) h5⟩
