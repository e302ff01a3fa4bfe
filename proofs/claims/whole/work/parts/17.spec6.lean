/-! an int that has wrapped around -/
def wrp (a : Int) : Int := (zI a).toInt
theorem wrp_eq (a : Int) : zI a = zI (wrp a) := (zI_of (zI a)).symm
theorem wrp_in (a : Int) : InR (wrp a) := zI_in _
theorem wrp_of {a : Int} (h : InR a) : wrp a = a := zI_toInt h
theorem wrp_far {x q : Int} (hx : InR x) (hq : -1000 ≤ q ∧ q ≤ 1000) : wrp (x - q) = x - q ∨ ((wrp (x - q) < 0 ∨ 100 < wrp (x - q)) ∧ (x - q < 0 ∨ 100 < x - q)) := by
  by_cases h : InR (x - q)
  · exact Or.inl (wrp_of h)
  · right
    have e : wrp (x - q) = (x - q).bmod 4294967296 := Int32.toInt_ofInt
    have hb1 : (x - q).bmod 4294967296 = (if (x - q) % 4294967296 < (4294967296 + 1) / 2 then (x - q) % 4294967296 else (x - q) % 4294967296 - 4294967296) := rfl
    rw [e, hb1]
    by_cases h3 : (x - q) % 4294967296 < (4294967296 + 1) / 2
    · rw [if_pos h3]; omega
    · rw [if_neg h3]; omega
theorem dgt_wrp {W H : Int} {v : Nat → Int} {x y qx qy : Int} (hW : W ≤ 20) (hH : H ≤ 20) (hx : InR x) (hy : InR y) (hqx : -1000 ≤ qx ∧ qx ≤ 1000) (hqy : -1000 ≤ qy ∧ qy ≤ 1000) : dgt W H v (wrp (x - qx)) (wrp (y - qy)) = dgt W H v (x - qx) (y - qy) := by
  rcases wrp_far hx hqx with h1 | h1
  · rcases wrp_far hy hqy with h2 | h2
    · rw [h1, h2]
    · rw [dgt_out (by omega), dgt_out (by omega)]
  · rw [dgt_out (by omega), dgt_out (by omega)]
theorem jx_w {F : FrT} {G : GT} {nL k n : Nat} {Q : State → Prop} {pc : Nat} {L : List (Option Sv)} {st : List Sv} {μ : Mem} {a b : Int} (h : zI a = zI b) (kk : jX F G nL k n Q pc L (.inl b :: st) μ) : jX F G nL k n Q pc L (.inl a :: st) μ := by
  obtain ⟨p, l, e, R, s, m, args, below, meth, c⟩ := F
  intro H locs ls hw hS hl
  have h2 := kk H locs ls hw hS hl
  rw [List.map_cons, show vv (.inl b) = vv (.inl a) by show Value.int (zI b) = Value.int (zI a); rw [h]] at h2
  exact h2
def edg (x y w h what : Int) : Int := if what = 0 then x else if what = 1 then y else if what = 2 then x + w - 1 else y + h - 1
theorem edg_rng {x y w h what : Int} (hx : -1000 ≤ x ∧ x ≤ 1000) (hy : -1000 ≤ y ∧ y ≤ 1000) (hw : 0 ≤ w ∧ w ≤ 20) (hh : 0 ≤ h ∧ h ≤ 20) : -1001 ≤ edg x y w h what ∧ edg x y w h what ≤ 1020 := by
  unfold edg
  split
  · omega
  · split
    · omega
    · split <;> omega
theorem bsf_yes {c : Nat} {rk V : Nat → Int} {a b : Nat} (hb : b < 4) (ha : a < c) (hbc : b < c) (h1 : ¬ rk a = -6) (h2 : rk b = -6) (h3 : (bsf c rk V (4 * a + b)).2 < V (4 * a + b)) : bsf c rk V (4 * a + (b + 1)) = (((4 * a + b : Nat) : Int), V (4 * a + b)) := by
  rw [← Nat.add_assoc, bsf, show (4 * a + b) / 4 = a by omega, show (4 * a + b) % 4 = b by omega, if_pos ⟨ha, hbc, h1, h2, h3⟩]
theorem bsf_no {c : Nat} {rk V : Nat → Int} {a b : Nat} (hb : b < 4) (h : ¬ (¬ rk a = -6 ∧ rk b = -6 ∧ (bsf c rk V (4 * a + b)).2 < V (4 * a + b))) : bsf c rk V (4 * a + (b + 1)) = bsf c rk V (4 * a + b) := by
  rw [← Nat.add_assoc, bsf, show (4 * a + b) / 4 = a by omega, show (4 * a + b) % 4 = b by omega, if_neg (fun g => h g.2.2)]
theorem bsf_row {c : Nat} {rk V : Nat → Int} {a b : Nat} (hb : b ≤ 4) (hc : c ≤ b) : bsf c rk V (4 * (a + 1)) = bsf c rk V (4 * a + b) :=
  bsf_skip' (by omega) (fun t h1 h2 g => by omega)
theorem bsf_end {c : Nat} {rk V : Nat → Int} {a : Nat} (ha : a ≤ 4) (hc : c ≤ a) : bst c rk V = (bsf c rk V (4 * a)).1 := by
  unfold bst
  rw [bsf_skip' (a := 4 * a) (b := 16) (by omega) (fun t h1 h2 g => by omega)]
theorem bst_rng {c : Nat} {rk V : Nat → Int} : bst c rk V = -6 ∨ (0 ≤ bst c rk V ∧ bst c rk V < 16 ∧ 0 < V (bst c rk V).toNat ∧ (bst c rk V).toNat / 4 < c ∧ (bst c rk V).toNat % 4 < c ∧ ¬ rk ((bst c rk V).toNat / 4) = -6 ∧ rk ((bst c rk V).toNat % 4) = -6) := by
  rcases bsf_ok (c := c) (rk := rk) (V := V) 16 with h | h
  · exact Or.inl h.1
  · exact Or.inr ⟨h.1, h.2.1, by have := h.2.2; unfold bst; omega, h.2.2.2.2.1, h.2.2.2.2.2.1, h.2.2.2.2.2.2.1, h.2.2.2.2.2.2.2⟩
/-- a picture is joined -/
theorem JOk_put' {μ : Mem} {c : Nat} {J : Jst} (h : JOk μ c J) {b : Nat} (hb : b < c) (hr : J.2.1 b = -6) (x y a : Int) : JOk (jms (jms (jms (jms (jms (jms μ (10 + b) 2 x) (10 + b) 3 y) (10 + b) 4 a) (10 + b) 5 (μ 2 4)) 7 (μ 2 4).toNat (b : Int)) 2 4 (μ 2 4 + 1)) c (jput J b x y a) := by
  obtain ⟨h1, h2, h3⟩ := h
  refine ⟨by rw [jms_same, h1]; rfl, fun p hp => ?_, fun k hk => ?_⟩
  · rw [jms_cell _ _ _ _ (show 10 + p ≠ 2 by omega), jms_cell _ _ _ _ (show 10 + p ≠ 7 by omega)]
    by_cases e : p = b
    · subst e
      rw [jms_same, jms_slot _ _ _ _ (show (2 : Nat) ≠ 5 by decide), jms_slot _ _ _ _ (show (2 : Nat) ≠ 4 by decide), jms_slot _ _ _ _ (show (2 : Nat) ≠ 3 by decide), jms_same, jms_slot _ _ _ _ (show (3 : Nat) ≠ 5 by decide), jms_slot _ _ _ _ (show (3 : Nat) ≠ 4 by decide), jms_same, jms_slot _ _ _ _ (show (4 : Nat) ≠ 5 by decide), jms_same]
      refine ⟨?_, fun _ => ⟨?_, ?_, ?_⟩⟩
      · rw [h1]; exact (zup_same _ _ _).symm
      · exact (zup_same _ _ _).symm
      · exact (zup_same _ _ _).symm
      · exact (zup_same _ _ _).symm
    · rw [jms_cell _ _ _ _ (show 10 + p ≠ 10 + b by omega), jms_cell _ _ _ _ (show 10 + p ≠ 10 + b by omega), jms_cell _ _ _ _ (show 10 + p ≠ 10 + b by omega), jms_cell _ _ _ _ (show 10 + p ≠ 10 + b by omega)]
      have := h2 p hp
      unfold jput
      dsimp only
      rw [zup_ne _ _ e, zup_ne _ _ e, zup_ne _ _ e, zup_ne _ _ e]
      exact this
  · rw [jms_cell _ _ _ _ (show (7 : Nat) ≠ 2 by decide), jms_arr, h1, Int.toNat_natCast]
    by_cases e : k = J.1
    · rw [if_pos e]
      refine ⟨by omega, by omega, ?_⟩
      rw [Int.toNat_natCast, e]
      exact zup_same _ _ _
    · rw [if_neg e, jms_cell _ _ _ _ (show (7 : Nat) ≠ 10 + b by omega), jms_cell _ _ _ _ (show (7 : Nat) ≠ 10 + b by omega), jms_cell _ _ _ _ (show (7 : Nat) ≠ 10 + b by omega), jms_cell _ _ _ _ (show (7 : Nat) ≠ 10 + b by omega)]
      have hk2 : k < J.1 := by
        have : k < J.1 + 1 := hk
        omega
      obtain ⟨g1, g2, g3⟩ := h3 k hk2
      refine ⟨g1, g2, ?_⟩
      have e2 : (μ 7 k).toNat ≠ b := by
        intro e3
        rw [e3, hr] at g3
        omega
      show zup J.2.1 b (J.1 : Int) (μ 7 k).toNat = k
      rw [zup_ne _ _ e2]
      exact g3
theorem JOk_put {μ : Mem} {c : Nat} (hc : c ≤ 4) {J : Jst} (h : JOk μ c J) (hi : jinv c J) {b : Nat} (hb : b < c) (hr : J.2.1 b = -6) (x y a : Int) : JOk (jms (jms (jms (jms (jms (jms μ (10 + b) 2 x) (10 + b) 3 y) (10 + b) 4 a) (10 + b) 5 (μ 2 4)) 7 (μ 2 4).toNat (b : Int)) 2 4 (μ 2 4 + 1)) c (jput J b x y a) := JOk_put' h hb hr x y a
