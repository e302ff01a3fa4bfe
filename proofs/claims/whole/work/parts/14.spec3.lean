/-! marks: put in by their scores, 16 at most; matches and shifts -/
def plc (S : Nat → Int) (mk : Nat → Nat) (h : Int) : Nat → Nat
  | 0 => 0
  | k + 1 => if S (mk k) < h then plc S mk h k else k + 1
theorem plc_le (S : Nat → Int) (mk : Nat → Nat) (h : Int) : ∀ n, plc S mk h n ≤ n
  | 0 => Nat.le_refl _
  | n + 1 => by
    have := plc_le S mk h n
    unfold plc
    split <;> omega
theorem plc_go {S : Nat → Int} {mk : Nat → Nat} {h : Int} {k : Nat} (hk : 0 < k) (hlt : S (mk (k - 1)) < h) : plc S mk h k = plc S mk h (k - 1) := by
  obtain ⟨j, rfl⟩ : ∃ j, k = j + 1 := ⟨k - 1, by omega⟩
  rw [Nat.add_sub_cancel] at hlt ⊢
  rw [plc, if_pos hlt]
theorem plc_at {S : Nat → Int} {mk : Nat → Nat} {h : Int} {k : Nat} (hk : k = 0 ∨ ¬ S (mk (k - 1)) < h) : plc S mk h k = k := by
  cases k with
  | zero => rfl
  | succ j =>
    rcases hk with h0 | h0
    · omega
    · rw [Nat.add_sub_cancel] at h0
      rw [plc, if_neg h0]
abbrev Mks : Type := Nat × (Nat → Nat)
def ins (S : Nat → Int) (t : Nat) (a : Mks) : Mks := if plc S a.2 (S t) a.1 < 16 then (min (a.1 + 1) 16, fun m => if m < plc S a.2 (S t) a.1 then a.2 m else if m = plc S a.2 (S t) a.1 then t else a.2 (m - 1)) else a
theorem ins_le {S : Nat → Int} {t : Nat} {a : Mks} (h : a.1 ≤ 16) : (ins S t a).1 ≤ 16 := by
  unfold ins
  split
  · exact Nat.min_le_right _ _
  · exact h
theorem ins_all {S : Nat → Int} {t : Nat} {a : Mks} {P : Nat → Prop} (ht : P t) (h : ∀ m, m < a.1 → P (a.2 m)) : ∀ m, m < (ins S t a).1 → P ((ins S t a).2 m) := by
  unfold ins
  have hp := plc_le S a.2 (S t) a.1
  split
  · intro m hm
    dsimp only at hm ⊢
    have := Nat.min_le_left (a.1 + 1) 16
    split
    · exact h m (by omega)
    · split
      · exact ht
      · exact h _ (by omega)
  · exact h
/-- the score of the dot numbered t, by rows -/
def fS (f : Int → Int → Int) (t : Nat) : Int := f ((t % 20 : Nat) : Int) ((t / 20 : Nat) : Int)
def isM (f : Int → Int → Int) (W H bar : Int) (t : Nat) : Prop := ((t % 20 : Nat) : Int) < W ∧ ((t / 20 : Nat) : Int) < H ∧ bar ≤ fS f t ∧ pk f ((t % 20 : Nat) : Int) ((t / 20 : Nat) : Int)
noncomputable def mkf (f : Int → Int → Int) (W H bar : Int) : Nat → Mks
  | 0 => (0, fun _ => 0)
  | t + 1 => @ite _ (isM f W H bar t) (Classical.propDecidable _) (ins (fS f) t (mkf f W H bar t)) (mkf f W H bar t)
theorem mkf_yes {f : Int → Int → Int} {W H bar : Int} {t : Nat} (h : isM f W H bar t) : mkf f W H bar (t + 1) = ins (fS f) t (mkf f W H bar t) := by
  rw [mkf]; exact if_pos h
theorem mkf_no {f : Int → Int → Int} {W H bar : Int} {t : Nat} (h : ¬ isM f W H bar t) : mkf f W H bar (t + 1) = mkf f W H bar t := by
  rw [mkf]; exact if_neg h
theorem mkf_skip {f : Int → Int → Int} {W H bar : Int} (a : Nat) : ∀ n : Nat, (∀ t, a ≤ t → t < a + n → ¬ isM f W H bar t) → mkf f W H bar (a + n) = mkf f W H bar a
  | 0, _ => rfl
  | n + 1, h => by
    rw [← Nat.add_assoc, mkf_no (h _ (by omega) (by omega)), mkf_skip a n (fun t h1 h2 => h t h1 (by omega))]
theorem mkf_skip' {f : Int → Int → Int} {W H bar : Int} {a b : Nat} (hab : a ≤ b) (h : ∀ t, a ≤ t → t < b → ¬ isM f W H bar t) : mkf f W H bar b = mkf f W H bar a := by
  obtain ⟨n, rfl⟩ : ∃ n, b = a + n := ⟨b - a, by omega⟩
  exact mkf_skip a n h
theorem mkf_le (f : Int → Int → Int) (W H bar : Int) : ∀ t, (mkf f W H bar t).1 ≤ 16
  | 0 => by simp [mkf]
  | t + 1 => by
    by_cases h : isM f W H bar t
    · rw [mkf_yes h]; exact ins_le (mkf_le f W H bar t)
    · rw [mkf_no h]; exact mkf_le f W H bar t
theorem mkf_all (f : Int → Int → Int) (W H bar : Int) : ∀ t m, m < (mkf f W H bar t).1 → (mkf f W H bar t).2 m < t ∧ isM f W H bar ((mkf f W H bar t).2 m)
  | 0, m, h => by simp [mkf] at h
  | t + 1, m, h => by
    by_cases hM : isM f W H bar t
    · rw [mkf_yes hM] at h ⊢
      exact ins_all (P := fun x => x < t + 1 ∧ isM f W H bar x) ⟨by omega, hM⟩ (fun m hm => ⟨by have := (mkf_all f W H bar t m hm).1; omega, (mkf_all f W H bar t m hm).2⟩) m h
    · rw [mkf_no hM] at h ⊢
      have := mkf_all f W H bar t m h
      exact ⟨by omega, this.2⟩
/-- the class's marks hold these -/
def MAok (μ : Mem) (p : Nat) (f : Int → Int → Int) (a : Mks) : Prop := a.1 ≤ 16 ∧ μ (26 + p) 4 = (a.1 : Int) ∧ ∀ m, m < a.1 → μ (30 + p) m = ((a.2 m % 20 : Nat) : Int) ∧ μ (34 + p) m = ((a.2 m / 20 : Nat) : Int) ∧ μ (38 + p) m = fS f (a.2 m)
/-- the nearest of n signs: number and distance -/
def nbr (sg : Nat → Int) (s : Int) : Nat → Int × Int
  | 0 => (-6, 13)
  | k + 1 => if dst (sg k) s < (nbr sg s k).2 then ((k : Int), dst (sg k) s) else nbr sg s k
def nrs (sg : Nat → Int) (s : Int) (n : Nat) : Int := (nbr sg s n).1
theorem nbr_rng (sg : Nat → Int) (s : Int) : ∀ n : Nat, ((nbr sg s n).1 = -6 ∨ (0 ≤ (nbr sg s n).1 ∧ (nbr sg s n).1 < n)) ∧ 0 ≤ (nbr sg s n).2 ∧ (nbr sg s n).2 ≤ 13
  | 0 => by simp [nbr]
  | k + 1 => by
    have h := nbr_rng sg s k
    have hd := dst_rng (sg k) s
    unfold nbr
    split
    · dsimp only; omega
    · omega
theorem nrs_rng (sg : Nat → Int) (s : Int) (n : Nat) : nrs sg s n = -6 ∨ (0 ≤ nrs sg s n ∧ nrs sg s n < n) := (nbr_rng sg s n).1
def ptn (sa : Nat → Int) (na : Nat) (sb : Nat → Int) (nb : Nat) (near : Int) (m : Nat) : Int :=
  if nrs sb (sa m) nb = -6 ∨ ¬ nrs sa (sb (nrs sb (sa m) nb).toNat) na = (m : Int) then -6
  else if dst (sa m) (sb (nrs sb (sa m) nb).toNat) ≤ near then nrs sb (sa m) nb else -6
theorem ptn_rng (sa : Nat → Int) (na : Nat) (sb : Nat → Int) (nb : Nat) (near : Int) (m : Nat) : ptn sa na sb nb near m = -6 ∨ (0 ≤ ptn sa na sb nb near m ∧ ptn sa na sb nb near m < nb) := by
  have := nrs_rng sb (sa m) nb
  unfold ptn
  split
  · exact Or.inl rfl
  · split
    · exact this
    · exact Or.inl rfl
def mct (P : Nat → Int) : Nat → Int
  | 0 => 0
  | m + 1 => if P m = -6 then mct P m else mct P m + 1
theorem mct_rng (P : Nat → Int) : ∀ n : Nat, 0 ≤ mct P n ∧ mct P n ≤ n
  | 0 => by simp [mct]
  | n + 1 => by
    have := mct_rng P n
    unfold mct
    split <;> omega
def vts (P SX SY : Nat → Int) (X Y : Int) : Nat → Int
  | 0 => 0
  | m + 1 => if ¬ P m = -6 ∧ SX m = X ∧ SY m = Y then vts P SX SY X Y m + 1 else vts P SX SY X Y m
theorem vts_rng (P SX SY : Nat → Int) (X Y : Int) : ∀ n : Nat, 0 ≤ vts P SX SY X Y n ∧ vts P SX SY X Y n ≤ n
  | 0 => by simp [vts]
  | n + 1 => by
    have := vts_rng P SX SY X Y n
    unfold vts
    split <;> omega
abbrev Vxy : Type := Int × Int × Int
def prq (nv X Y : Int) (a : Vxy) : Vxy := if 2 ≤ nv ∧ (a.1 < nv ∨ (nv = a.1 ∧ (X < a.2.1 ∨ (X = a.2.1 ∧ Y < a.2.2)))) then (nv, X, Y) else a
def prf (P SX SY : Nat → Int) (n : Nat) (a0 : Vxy) : Nat → Vxy
  | 0 => a0
  | m + 1 => if P m = -6 then prf P SX SY n a0 m else prq (vts P SX SY (SX m) (SY m) n) (SX m) (SY m) (prf P SX SY n a0 m)
theorem prf_rng {P SX SY : Nat → Int} {n : Nat} {a0 : Vxy} (hn : n ≤ 16) (h0 : 0 ≤ a0.1 ∧ a0.1 ≤ 16 ∧ -20 ≤ a0.2.1 ∧ a0.2.1 ≤ 20 ∧ -20 ≤ a0.2.2 ∧ a0.2.2 ≤ 20) (hx : ∀ m, ¬ P m = -6 → -20 ≤ SX m ∧ SX m ≤ 20 ∧ -20 ≤ SY m ∧ SY m ≤ 20) : ∀ m : Nat, 0 ≤ (prf P SX SY n a0 m).1 ∧ (prf P SX SY n a0 m).1 ≤ 16 ∧ -20 ≤ (prf P SX SY n a0 m).2.1 ∧ (prf P SX SY n a0 m).2.1 ≤ 20 ∧ -20 ≤ (prf P SX SY n a0 m).2.2 ∧ (prf P SX SY n a0 m).2.2 ≤ 20
  | 0 => h0
  | m + 1 => by
    have h1 := prf_rng hn h0 hx m
    have h2 := vts_rng P SX SY (SX m) (SY m) n
    rw [prf]
    split
    · exact h1
    · rename_i hP
      have h3 := hx m hP
      unfold prq
      split
      · dsimp only; omega
      · exact h1
