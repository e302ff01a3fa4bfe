/-! every call's answer, in the words of the base; and what it makes of the base -/
abbrev isp (B : Bs) (p : Int) : Prop := 0 ≤ p ∧ p < (bN B : Int)
abbrev isd (B : Bs) (p i j : Int) : Prop := isp B p ∧ 0 ≤ i ∧ i < bW B p.toNat ∧ 0 ≤ j ∧ j < bH B p.toNat
abbrev two (B : Bs) (a b : Int) : Prop := isp B a ∧ isp B b ∧ ¬ a = b
abbrev fits5 (w h x y g : Int) : Prop := (8 ≤ w ∧ w ≤ 20) ∧ (8 ≤ h ∧ h ≤ 20) ∧ (0 ≤ x ∧ x ≤ 1900) ∧ (0 ≤ y ∧ y ≤ 1900) ∧ 1 ≤ g ∧ g ≤ 64
abbrev ism (B : Bs) (p m : Int) : Prop := isp B p ∧ 0 ≤ m ∧ m < ((bmk B p.toNat).1 : Int)
def a_light (s x y : Int) : Int := if (0 ≤ x ∧ x ≤ 2000) ∧ 0 ≤ y ∧ y ≤ 2000 then lgt s x y else -2
def a_shoot (B : Bs) (w h x y g : Int) : Int := if fits5 w h x y g then (if bN B < 4 then (bN B : Int) else -4) else -2
def b_add (B : Bs) (w h : Int) (f : Int → Int → Int) : Bs := (bN B + 1, bBar B, bNear B, fun p => if p = bN B then w else bW B p, fun p => if p = bN B then h else bH B p, fun p => if p = bN B then f else bD B p)
def b_shoot (B : Bs) (s w h x y g : Int) : Bs := if fits5 w h x y g ∧ bN B < 4 then b_add B w h (fun i j => if 0 ≤ i ∧ i < w ∧ 0 ≤ j ∧ j < h then shv s x y g i j else -1) else B
def b_clear (B : Bs) : Bs := (0, bBar B, bNear B, fun _ => 0, fun _ => 0, fun _ _ _ => 0)
def a_dot (B : Bs) (p i j v : Int) : Int := if ¬ isd B p i j then -1000001 else if ¬ (-1 ≤ v ∧ v ≤ 255) then -1000002 else bD B p.toNat i j
def b_set (B : Bs) (p : Nat) (i j v : Int) : Bs := (bN B, bBar B, bNear B, bW B, bH B, fun q => if q = p then (fun x y => if x = i ∧ y = j then v else bD B p x y) else bD B q)
def b_dot (B : Bs) (p i j v : Int) : Bs := if isd B p i j ∧ -1 ≤ v ∧ v ≤ 255 then b_set B p.toNat i j v else B
def a_at (B : Bs) (p i j : Int) : Int := if isd B p i j then bD B p.toNat i j else -1000001
abbrev rok (b n : Int) : Prop := (1 ≤ b ∧ b ≤ 1000000) ∧ 0 ≤ n ∧ n ≤ 12
def a_rules (b n : Int) : Int := if rok b n then 1 else -2
def b_rules (B : Bs) (b n : Int) : Bs := if rok b n then (bN B, b, n, bW B, bH B, bD B) else B
def a_score (B : Bs) (p i j : Int) : Int := if isd B p i j then sco (bW B p.toNat) (bH B p.toNat) (bD B p.toNat) i j else -1
noncomputable def a_marks (B : Bs) (p : Int) : Int := if isp B p then ((bmk B p.toNat).1 : Int) else -1
noncomputable def a_mark (B : Bs) (p m what : Int) : Int := if ¬ ism B p m then -1 else if what = 0 then bcx B p.toNat m.toNat else if what = 1 then bcy B p.toNat m.toNat else if what = 2 then fS (bfn B p.toNat) ((bmk B p.toNat).2 m.toNat) else if what = 3 then bsg B p.toNat m.toNat else -2
noncomputable def a_match (B : Bs) (a m b : Int) : Int := if ¬ ism B a m ∨ ¬ two B a b then -1 else bpt B a.toNat b.toNat m.toNat
noncomputable def a_shift (B : Bs) (a b what : Int) : Int := if ¬ two B a b then -1000001 else if ¬ (0 ≤ what ∧ what ≤ 3) then -1000002 else if what = 3 then bmc B a.toNat b.toNat else if what = 2 then bV B (4 * a.toNat + b.toNat) else if bV B (4 * a.toNat + b.toNat) = 0 then -1000005 else if what = 0 then bX B (4 * a.toNat + b.toNat) else bY B (4 * a.toNat + b.toNat)
noncomputable def a_place (B : Bs) (p what : Int) : Int := if ¬ isp B p then -1000001 else if ¬ (0 ≤ what ∧ what ≤ 5) then -1000002 else if what = 4 then bW B p.toNat else if what = 5 then bH B p.toNat else if jrk B p.toNat = -6 then -1000005 else if what = 0 then jxx B p.toNat else if what = 1 then jyy B p.toNat else if what = 2 then jbb B p.toNat else jrk B p.toNat
noncomputable def rof (B : Bs) (a b : Int) (f : Prop) [Decidable f] : Int := if ¬ two B a b then -1 else if ¬ f then -2 else if jrk B a.toNat = -6 ∨ jrk B b.toNat = -6 then -5 else 0
theorem rof_cong {B : Bs} {a b : Int} {f g : Prop} [Decidable f] [Decidable g] (h : f ↔ g) : rof B a b f = rof B a b g := by
  unfold rof
  by_cases e2 : f
  · have e3 := h.mp e2
    simp only [e2, e3]
  · have e3 : ¬ g := fun q => e2 (h.mpr q)
    simp only [e2, e3]
theorem rof_rng (B : Bs) (a b : Int) (f : Prop) [Decidable f] : -5 ≤ rof B a b f ∧ rof B a b f ≤ 0 := by
  unfold rof
  split
  · omega
  · split
    · omega
    · split <;> omega
theorem rof_0 {B : Bs} {a b : Int} {f : Prop} [Decidable f] (h : rof B a b f = 0) : two B a b ∧ f ∧ ¬ jrk B a.toNat = -6 ∧ ¬ jrk B b.toNat = -6 := by
  unfold rof at h
  by_cases e : two B a b
  · rw [if_neg (fun q => q e)] at h
    by_cases e2 : f
    · rw [if_neg (fun q => q e2)] at h
      by_cases e3 : jrk B a.toNat = -6 ∨ jrk B b.toNat = -6
      · rw [if_pos e3] at h; omega
      · exact ⟨e, e2, fun q => e3 (Or.inl q), fun q => e3 (Or.inr q)⟩
    · rw [if_pos e2] at h; omega
  · rw [if_pos e] at h; omega
noncomputable def bov (B : Bs) (a b : Nat) : Int × Int × Int × Int := ovr (jxx B a) (jyy B a) (bW B a) (bH B a) (jxx B b) (jyy B b) (bW B b) (bH B b)
noncomputable def bda (B : Bs) (a : Nat) : Int → Int → Int := fun x y => bdv B x y a
noncomputable def a_overlap (B : Bs) (a b what : Int) : Int := if ¬ rof B a b (0 ≤ what ∧ what ≤ 3) = 0 then -1000000 + rof B a b (0 ≤ what ∧ what ≤ 3) else if what = 0 then (bov B a.toNat b.toNat).1 else if what = 1 then (bov B a.toNat b.toNat).2.1 else if what = 2 then (bov B a.toNat b.toNat).2.2.1 else (bov B a.toNat b.toNat).2.2.2
noncomputable def bls (B : Bs) (t : (Int → Int → Int) → (Int → Int → Int) → Int → Int → Int → Int → Int) (a b : Nat) : Int := lsm (t (bda B a) (bda B b) (bov B a b).1 (bov B a b).2.1) (bov B a b).2.2.1.toNat ((bov B a b).2.2.1.toNat * (bov B a b).2.2.2.toNat)
noncomputable def a_lights (B : Bs) (a b what : Int) : Int := if ¬ rof B a b (0 ≤ what ∧ what ≤ 2) = 0 then -1000000 + rof B a b (0 ≤ what ∧ what ≤ 2) else if what = 0 then bls B lta a.toNat b.toNat else if what = 1 then bls B ltb a.toNat b.toNat else bls B ltc a.toNat b.toNat
noncomputable def bou (B : Bs) (a b : Nat) : Nat → Nat → Int := oun (bda B a) (bda B b) (bov B a b).1 (bov B a b).2.1
noncomputable def a_seam (B : Bs) (a b i : Int) : Int := if ¬ rof B a b True = 0 then rof B a b True else if ¬ (0 < (bov B a.toNat b.toNat).2.2.1 ∧ 0 < (bov B a.toNat b.toNat).2.2.2) ∨ ¬ (-1 ≤ i ∧ i ≤ (bov B a.toNat b.toNat).2.2.2 - 1) then -6
  else if i = -1 then cso (bou B a.toNat b.toNat) (bov B a.toNat b.toNat).2.2.1.toNat (bov B a.toNat b.toNat).2.2.2.toNat ((bov B a.toNat b.toNat).2.2.2.toNat - 1) (scl (bou B a.toNat b.toNat) (bov B a.toNat b.toNat).2.2.1.toNat (bov B a.toNat b.toNat).2.2.2.toNat 0)
  else ((scl (bou B a.toNat b.toNat) (bov B a.toNat b.toNat).2.2.1.toNat (bov B a.toNat b.toNat).2.2.2.toNat i.toNat : Nat) : Int)
noncomputable def a_whole (B : Bs) (x y what : Int) : Int := if ¬ (0 ≤ what ∧ what ≤ 1) then -2 else if fat B x y = -6 then -6 else if what = 0 then bdv B x y (fat B x y).toNat else fat B x y
noncomputable def a_extent (B : Bs) (what : Int) : Int := if ¬ (0 ≤ what ∧ what ≤ 4) then -1000002 else if bN B = 0 then -1000005 else if what = 4 then cpl B else exs B what
def a_told (B : Bs) (s what : Int) : Int := if what = 0 then (bN B : Int) else if what = 1 then bBar B else if what = 2 then bNear B else if what = 3 then s else -1000002
theorem ovr_rng {xa ya wa ha xb yb wb hb : Int} (h1 : wa ≤ 20) (h2 : ha ≤ 20) : 0 ≤ (ovr xa ya wa ha xb yb wb hb).2.2.1 ∧ (ovr xa ya wa ha xb yb wb hb).2.2.1 ≤ 20 ∧ 0 ≤ (ovr xa ya wa ha xb yb wb hb).2.2.2 ∧ (ovr xa ya wa ha xb yb wb hb).2.2.2 ≤ 20 := by
  unfold ovr
  split
  · dsimp only; omega
  · decide
/-! a call of the class: its answer, the base behind it, the model untouched -/
def AP (μ : Mem) (v : Int) (B' : Bs) (s' : Int) : Int → Mem → Prop := fun z μ' => v = z ∧ rng μ' ∧ CI μ' ∧ cB μ' = B' ∧ μ' 1 0 = s' ∧ ∀ k, 78 ≤ k → μ' k = μ k
def STp (μ μ' : Mem) : Prop := rng μ' ∧ μ' 2 5 = 0 ∧ CI μ' ∧ CD μ' ∧ cB μ' = cB μ ∧ ∀ k, (k < 2 ∨ k = 3 ∨ k = 4 ∨ k = 8 ∨ k = 9 ∨ 78 ≤ k) → μ' k = μ k
theorem CDI_fr {μ μ' : Mem} (hR : rng μ) (h : ∀ k, k < 78 → k ≠ 1 → k ≠ 3 → k ≠ 4 → k ≠ 8 → k ≠ 9 → μ' k = μ k) : cB μ' = cB μ ∧ (CI μ → CI μ') ∧ (CD μ → CD μ') := by
  have hN := cB_N hR
  have hB : cB μ' = cB μ := by
    refine cB_fr (by rw [h 2 (by omega) (by omega) (by omega) (by omega) (by omega) (by omega)]) (by rw [h 0 (by omega) (by omega) (by omega) (by omega) (by omega) (by omega)]) (by rw [h 0 (by omega) (by omega) (by omega) (by omega) (by omega) (by omega)]) (fun p hp => ?_)
    rw [h (14 + p) (by omega) (by omega) (by omega) (by omega) (by omega) (by omega), h (18 + p) (by omega) (by omega) (by omega) (by omega) (by omega) (by omega)]
    exact ⟨rfl, rfl, rfl⟩
  have hCD : CD μ → CD μ' := by
    intro hC
    unfold CD
    rw [hB]
    refine ⟨fun p hp => ?_, fun a b ha hb hab => ?_, ?_⟩
    · exact MKp_fr (hC.1 p hp) (h _ (by omega) (by omega) (by omega) (by omega) (by omega) (by omega)) (h _ (by omega) (by omega) (by omega) (by omega) (by omega) (by omega)) (h _ (by omega) (by omega) (by omega) (by omega) (by omega) (by omega)) (h _ (by omega) (by omega) (by omega) (by omega) (by omega) (by omega)) (h _ (by omega) (by omega) (by omega) (by omega) (by omega) (by omega))
    · exact PRp_fr (hC.2.1 a b ha hb hab) (h _ (by omega) (by omega) (by omega) (by omega) (by omega) (by omega)) (h _ (by omega) (by omega) (by omega) (by omega) (by omega) (by omega))
    · exact JOk_fr hC.2.2 (by rw [h 2 (by omega) (by omega) (by omega) (by omega) (by omega) (by omega)]) (h 7 (by omega) (by omega) (by omega) (by omega) (by omega) (by omega)) (fun p hp => h _ (by omega) (by omega) (by omega) (by omega) (by omega) (by omega))
  refine ⟨hB, fun hC => ⟨?_, fun h0 => hCD (hC.2 (by rw [h 2 (by omega) (by omega) (by omega) (by omega) (by omega) (by omega)] at h0; exact h0))⟩, hCD⟩
  rw [hB]
  intro p hp h0
  rw [h (14 + p) (by omega) (by omega) (by omega) (by omega) (by omega) (by omega)] at h0
  exact SVp_fr (hC.1 p hp h0) (h (22 + p) (by omega) (by omega) (by omega) (by omega) (by omega) (by omega))
theorem AP_rd {μ : Mem} {v z : Int} (hR : rng μ) (hCI : CI μ) (h : v = z) : AP μ v (cB μ) (μ 1 0) z μ := ⟨h, hR, hCI, rfl, rfl, fun _ _ => rfl⟩
theorem AP_st {μ μ1 : Mem} {v z : Int} (h1 : STp μ μ1) (h : v = z) : AP μ v (cB μ) (μ 1 0) z μ1 := ⟨h, h1.1, h1.2.2.1, h1.2.2.2.2.1, by rw [h1.2.2.2.2.2 1 (by omega)], fun k hk => h1.2.2.2.2.2 k (by omega)⟩
theorem AP_ov {μ μ1 μ2 : Mem} {v z : Int} (h1 : STp μ μ1) (hR2 : rng μ2) (hf : ∀ k, k ≠ 3 → k ≠ 4 → k ≠ 8 → k ≠ 9 → μ2 k = μ1 k) (h : v = z) : AP μ v (cB μ) (μ 1 0) z μ2 := by
  have g := CDI_fr (μ' := μ2) h1.1 (fun k _ _ h3 h4 h5 h6 => hf k h3 h4 h5 h6)
  exact ⟨h, hR2, g.2.1 h1.2.2.1, by rw [g.1]; exact h1.2.2.2.2.1, by rw [hf 1 (by omega) (by omega) (by omega) (by omega), h1.2.2.2.2.2 1 (by omega)], fun k hk => by rw [hf k (by omega) (by omega) (by omega) (by omega)]; exact h1.2.2.2.2.2 k (by omega)⟩
