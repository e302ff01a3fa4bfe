theorem Bj6 {B : Bs} (hB : Bok B) {p : Nat} (hp : p < bN B) : jrk B p = -6 ∨ (0 ≤ jrk B p ∧ jrk B p ≤ 3 ∧ -60 ≤ jxx B p ∧ jxx B p ≤ 60 ∧ -60 ≤ jyy B p ∧ jyy B p ≤ 60) := by
  have h := bJ_inv hB
  have h1 := h.1
  have h2 := h.2.1 p hp
  have h4 := hB.1
  have e1 : jrk B p = (bJ B).2.1 p := rfl
  have e2 : jxx B p = (bJ B).2.2.1 p := rfl
  have e3 : jyy B p = (bJ B).2.2.2.1 p := rfl
  omega
/-- a dot that there is lies in its picture -/
theorem bdv_in {B : Bs} (hB : Bok B) {x y : Int} {p : Nat} (hp : p < bN B) (h : ¬ bdv B x y p = -1) : 0 ≤ x - jxx B p ∧ x - jxx B p < bW B p ∧ 0 ≤ y - jyy B p ∧ y - jyy B p < bH B p := by
  by_cases g : 0 ≤ x - jxx B p ∧ x - jxx B p < bW B p ∧ 0 ≤ y - jyy B p ∧ y - jyy B p < bH B p
  · exact g
  · exact absurd ((hB.2 p hp).2.2.2 _ _ g) h
theorem fat_far {B : Bs} (hB : Bok B) {x y : Int} (h : ¬ ((-1000 ≤ x ∧ x ≤ 1000) ∧ -1000 ≤ y ∧ y ≤ 1000)) : fat B x y = -6 := by
  refine pat_none (fun p hp hr => ?_)
  by_cases g : bdv B x y p = -1
  · exact g
  · have h1 := bdv_in hB hp g
    have h2 := Bj6 hB hp
    have h3 := (hB.2 p hp).1
    have h4 := (hB.2 p hp).2.1
    omega
noncomputable def one (B : Bs) : Int → Int → Int := fun x y => if fat B x y = -6 then 0 else 1
theorem exs_all {B : Bs} (hN : 0 < bN B) (what : Int) : (∃ p, p < bN B ∧ ¬ jrk B p = -6 ∧ exs B what = bex B what p) ∧ ∀ p, p < bN B → ¬ jrk B p = -6 → (what < 2 → exs B what ≤ bex B what p) ∧ (¬ what < 2 → bex B what p ≤ exs B what) := exf_ok (by rw [jrk0 hN]; decide) (bN B) hN
theorem ext_cpl {B : Bs} (hB : Bok B) (hN : 0 < bN B) : (-100 ≤ exs B 0 ∧ exs B 0 ≤ 100) ∧ (-100 ≤ exs B 1 ∧ exs B 1 ≤ 100) ∧ (-101 ≤ exs B 2 ∧ exs B 2 ≤ 80) ∧ (-101 ≤ exs B 3 ∧ exs B 3 ≤ 80) ∧ cpl B = bxs (one B) (exs B 0) (exs B 1) (exs B 2 - exs B 0 + 1).toNat (exs B 3 - exs B 1 + 1).toNat := by
  obtain ⟨⟨p0, hp0, hr0, e0⟩, a0⟩ := exs_all hN 0
  obtain ⟨⟨p1, hp1, hr1, e1⟩, a1⟩ := exs_all hN 1
  obtain ⟨⟨p2, hp2, hr2, e2⟩, a2⟩ := exs_all hN 2
  obtain ⟨⟨p3, hp3, hr3, e3⟩, a3⟩ := exs_all hN 3
  have j0 := Bj6 hB hp0
  have j1 := Bj6 hB hp1
  have j2 := Bj6 hB hp2
  have j3 := Bj6 hB hp3
  have w2 := (hB.2 p2 hp2).1
  have w3 := (hB.2 p3 hp3).2.1
  have b0 : ∀ p, bex B 0 p = jxx B p := fun p => by unfold bex edg; rw [if_pos rfl]
  have b1 : ∀ p, bex B 1 p = jyy B p := fun p => by unfold bex edg; rw [if_neg (by decide), if_pos rfl]
  have b2 : ∀ p, bex B 2 p = jxx B p + bW B p - 1 := fun p => by unfold bex edg; rw [if_neg (by decide), if_neg (by decide), if_pos rfl]
  have b3 : ∀ p, bex B 3 p = jyy B p + bH B p - 1 := fun p => by unfold bex edg; rw [if_neg (by decide), if_neg (by decide), if_neg (by decide)]
  rw [b0] at e0
  rw [b1] at e1
  rw [b2] at e2
  rw [b3] at e3
  refine ⟨by omega, by omega, by omega, by omega, ?_⟩
  by_cases hpos : 0 ≤ exs B 2 - exs B 0 + 1 ∧ 0 ≤ exs B 3 - exs B 1 + 1
  · refine bxs_win (f := one B) (by omega) (by omega) (by omega) (by omega) (fun x y hn => ?_)
    unfold one
    by_cases g : fat B x y = -6
    · rw [if_pos g]
    · exfalso
      apply hn
      rcases fat_ok B x y with q | q
      · exact absurd q.1 g
      · have hp : (fat B x y).toNat < bN B := by omega
        have h1 := bdv_in hB hp q.2.2.2.1
        have g0 := (a0 _ hp q.2.2.1).1 (by decide)
        have g1 := (a1 _ hp q.2.2.1).1 (by decide)
        have g2 := (a2 _ hp q.2.2.1).2 (by decide)
        have g3 := (a3 _ hp q.2.2.1).2 (by decide)
        rw [b0] at g0
        rw [b1] at g1
        rw [b2] at g2
        rw [b3] at g3
        omega
  · -- no dot at all
    have hz : ∀ x y, one B x y = 0 := fun x y => by
      unfold one
      by_cases g : fat B x y = -6
      · rw [if_pos g]
      · exfalso
        rcases fat_ok B x y with q | q
        · exact absurd q.1 g
        · have hp : (fat B x y).toNat < bN B := by omega
          have h1 := bdv_in hB hp q.2.2.2.1
          have g0 := (a0 _ hp q.2.2.1).1 (by decide)
          have g1 := (a1 _ hp q.2.2.1).1 (by decide)
          have g2 := (a2 _ hp q.2.2.1).2 (by decide)
          have g3 := (a3 _ hp q.2.2.1).2 (by decide)
          rw [b0] at g0
          rw [b1] at g1
          rw [b2] at g2
          rw [b3] at g3
          omega
    have hz2 : (one B) = fun _ _ => 0 := funext fun x => funext fun y => hz x y
    show bxs (one B) (-100) (-100) 200 200 = _
    rw [hz2, bxs_zero, bxs_zero]
