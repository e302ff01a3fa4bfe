/-! the law: the two memories side by side -/
theorem MIv_hi {μ μ' : Mem} (h : ∀ k, 78 ≤ k → μ' k = μ k) (g : MIv μ) : MIv μ' := by
  have hB : mB μ' = mB μ := mB_fr (by rw [h 78 (by decide)]) (by rw [h 78 (by decide)]) (by rw [h 78 (by decide)]) (h 79 (by decide)) (h 80 (by decide)) (h 81 (by decide))
  unfold MIv MDn MKm PRm JOm MMok mpt at g ⊢
  rw [hB, h 78 (by decide)]
  simp only [h 82 (by decide), h 83 (by decide), h 84 (by decide), h 85 (by decide), h 86 (by decide), h 87 (by decide), h 88 (by decide), h 89 (by decide), h 90 (by decide), h 91 (by decide), h 92 (by decide), h 93 (by decide), h 94 (by decide)]
  exact g
theorem mB_hi {μ μ' : Mem} (h : ∀ k, 78 ≤ k → μ' k = μ k) : mB μ' = mB μ := mB_fr (by rw [h 78 (by decide)]) (by rw [h 78 (by decide)]) (by rw [h 78 (by decide)]) (h 79 (by decide)) (h 80 (by decide)) (h 81 (by decide))
theorem cB_lo {μ μ' : Mem} (hR : rng μ) (h : ∀ k, k < 78 → μ' k = μ k) : cB μ' = cB μ := by
  have hN := cB_N hR
  refine cB_fr (by rw [h 2 (by decide)]) (by rw [h 0 (by decide)]) (by rw [h 0 (by decide)]) (fun p hp => ?_)
  have hp4 : p < 4 := by omega
  exact ⟨by rw [h (14 + p) (by omega)], by rw [h (14 + p) (by omega)], h (18 + p) (by omega)⟩
theorem CI_lo {μ μ' : Mem} (hR : rng μ) (h : ∀ k, k < 78 → μ' k = μ k) (g : CI μ) : CI μ' := by
  have hN := (cB_N hR).2
  have hB := cB_lo hR h
  unfold CI CD
  rw [hB]
  refine ⟨fun p hp hs => SVp_fr (g.1 p hp (by rw [← h (14 + p) (by omega)]; exact hs)) (h _ (by omega)), fun hs => ?_⟩
  have g2 := g.2 (by rw [← h 2 (by decide)]; exact hs)
  exact ⟨fun p hp => MKp_fr (g2.1 p hp) (h _ (by omega)) (h _ (by omega)) (h _ (by omega)) (h _ (by omega)) (h _ (by omega)), fun a b ha hb hab => PRp_fr (g2.2.1 a b ha hb hab) (h _ (by omega)) (h _ (by omega)), JOk_fr g2.2.2 (by rw [h 2 (by decide)]) (h 7 (by decide)) (fun p hp => h _ (by omega))⟩
/-- what holds at the loop's head -/
def LI (μ : Mem) : Prop := rng μ ∧ CI μ ∧ MIv μ ∧ cB μ = mB μ ∧ μ 1 0 = μ 78 0
theorem LI_step {μ μ1 μ2 : Mem} (V : Bs → Int → Int) (Bf : Bs → Int → Bs) (Sf : Int → Int) (h : LI μ) {z1 z2 : Int} (h1 : AP μ (V (cB μ) (μ 1 0)) (Bf (cB μ) (μ 1 0)) (Sf (μ 1 0)) z1 μ1) (h2 : MP μ1 (V (mB μ1) (μ1 78 0)) (Bf (mB μ1) (μ1 78 0)) (Sf (μ1 78 0)) z2 μ2) : z1 = z2 ∧ LI μ2 := by
  obtain ⟨hR, hC, hM, hB, hS⟩ := h
  obtain ⟨a1, a2, a3, a4, a5, a6⟩ := h1
  obtain ⟨b1, b2, b3, b4, b5, b6⟩ := h2
  have e1 : mB μ1 = cB μ := (mB_hi a6).trans hB.symm
  have e2 : μ1 78 0 = μ 1 0 := by rw [a6 78 (by decide), hS]
  rw [e1, e2] at b1 b4
  rw [e2] at b5
  refine ⟨a1.symm.trans b1, b2, CI_lo a2 b6 a3, b3, ?_, ?_⟩
  · rw [cB_lo a2 b6, a4, b4]
  · rw [b6 1 (by decide), a5, b5]
theorem LI_mid {μ μ1 : Mem} (h : LI μ) {v z : Int} {B : Bs} {t : Int} (h1 : AP μ v B t z μ1) : MIv μ1 ∧ rng μ1 := ⟨MIv_hi h1.2.2.2.2.2 h.2.2.1, h1.2.1⟩
/-- the first memory -/
theorem jm0_rng : rng jm0 := by
  intro k j
  unfold jm0
  split
  · rename_i h
    rcases h with ⟨rfl, rfl⟩ | ⟨rfl, rfl⟩ <;> decide +kernel
  · split
    · rename_i h
      rcases h with ⟨rfl, rfl⟩ | ⟨rfl, rfl⟩ <;> decide +kernel
    · split
      · rename_i h
        obtain ⟨⟨h1, h2⟩, rfl⟩ := h
        rcases (show k = 10 ∨ k = 11 ∨ k = 12 ∨ k = 13 by omega) with rfl | rfl | rfl | rfl <;> decide +kernel
      · rename_i n1 n2 n3
        constructor
        · unfold rgl
          repeat' split
          all_goals first | decide | omega
        · unfold rgh
          repeat' split
          all_goals first | decide | omega
theorem jm0_LI : LI jm0 := by
  have hN : bN (cB jm0) = 0 := rfl
  refine ⟨jm0_rng, ⟨fun p hp => ?_, fun _ => ⟨fun p hp => ?_, fun a b ha => ?_, ?_⟩⟩, MIv_new rfl, ?_, rfl⟩
  · rw [hN] at hp; omega
  · rw [hN] at hp; omega
  · rw [hN] at ha; omega
  · rw [hN]
    unfold bJ
    rw [hN]
    exact ⟨rfl, fun p hp => by omega, fun k hk => by have : k < 0 := hk; omega⟩
  · unfold cB mB
    have e1 : (jm0 2 3).toNat = 0 := rfl
    have e2 : (jm0 78 1).toNat = 0 := rfl
    rw [e1, e2]
    simp only [Nat.not_lt_zero, if_false]
    rfl
theorem jhw_first {G : GT} {f : Nat → Option va_E} {H : Heap} (h : jhp G (96, jadd G (jadd G f (fun j => j < 78)) (fun j => 78 ≤ j ∧ j < 96)) H) : jhw G jm0 H := fun k hk => by
  have key : jadd G (jadd G f (fun j => j < 78)) (fun j => 78 ≤ j ∧ j < 96) k = some (jfe G k) := by
    by_cases h1 : 78 ≤ k
    · exact jadd_in (S := fun j => 78 ≤ j ∧ j < 96) ⟨h1, hk⟩
    · rw [jadd_out (S := fun j => 78 ≤ j ∧ j < 96) (fun h2 => h1 h2.1)]
      exact jadd_in (S := fun j => j < 78) (Nat.lt_of_not_le h1)
  exact (h.2 k (jfe G k) key).2
/-! rows of the law -/
section LAW
variable {F : FrT} {G : GT} {own : String} {cc : ByteArray} {nL k n : Nat} {ret : Option FieldType} {Q : State → Prop} {pc pc2 pc3 pc4 pc5 pc6 : Nat} {L L' : List (Option Sv)} {st : List Sv} {w : Jw} {μ : Mem}
theorem jy_astore_n (C : Cx F G own cc nL ret) {q : Fin 4} (hd : Dn cc pc (.astore_n q) 1 pc2) {a : Nat} (hi : (q : Nat) < nL) (hL : L.set (q : Nat) (some (.inr a)) = L') (kk : jY F G nL k n Q pc2 L' st w) : jY F G nL k n Q pc L (.inr a :: st) w := by
  obtain ⟨p, l, e, R, s, m, args, below, meth, c⟩ := F
  obtain ⟨hx, hb, -⟩ := C
  obtain ⟨hd, rfl⟩ := hd
  intro H locs ls hw hS h
  exact lv_astore_n hx hb hd rfl h hi rfl (fun ls' h' => kk H locs ls' hw hS (vLi_set (v := .inr a) hL h'))
theorem jY_toX (h : ∀ H, jhp G w H → jhw G μ H) (kk : jX F G nL k n Q pc L st μ) : jY F G nL k n Q pc L st w := by
  obtain ⟨p, l, e, R, s, m, args, below, meth, c⟩ := F
  intro H locs ls hw hS hl
  exact kk H locs ls (h H hw) hS hl
/-- the script's cell -/
def jSc (F : FrT) (G : GT) (b N : Nat) (xs : Nat → Int32) : Prop := match F with
  | (_, _, _, _, s, _, _, _, _, _) => va_X b N xs s s.heap ∧ b < s.heap.size ∧ ¬ jA G b
def jsv (xs : Nat → Int32) (i : Int) : Int := (xs i.toNat).toInt
theorem jsv_in (xs : Nat → Int32) (i : Int) : InR (jsv xs i) := zI_in _
theorem jx_slen (C : Cx F G own cc nL ret) {b N : Nat} {xs : Nat → Int32} (hX : jSc F G b N xs) (hd : Dn cc pc .arraylength 1 pc2) (kk : jX F G nL k n Q pc2 L (.inl (N : Int) :: st) μ) : jX F G nL k n Q pc L (.inr b :: st) μ := by
  obtain ⟨p, l, e, R, s, m, args, below, meth, c⟩ := F
  obtain ⟨hx, hb, -⟩ := C
  obtain ⟨hd, rfl⟩ := hd
  intro H locs ls hw hS h
  refine va_slen hx hb hX.1 hX.2.1 hX.2.2 hS hd ?_
  rw [← zI_nat]
  exact kk H locs ls hw hS h
theorem jx_sld (C : Cx F G own cc nL ret) {b N : Nat} {xs : Nat → Int32} (hX : jSc F G b N xs) {i : Int} (h0 : 0 ≤ i) (h1 : i < N) (hN : N < 2147483648) (hd : Dn cc pc .iaload 1 pc2) (kk : jX F G nL k n Q pc2 L (.inl (jsv xs i) :: st) μ) : jX F G nL k n Q pc L (.inl i :: .inr b :: st) μ := by
  obtain ⟨p, l, e, R, s, m, args, below, meth, c⟩ := F
  obtain ⟨hx, hb, -⟩ := C
  obtain ⟨hd, rfl⟩ := hd
  intro H locs ls hw hS h
  refine va_sld hx hb hX.1 hX.2.1 hX.2.2 hS (zI_vpin h0 h1 hN) hd ?_
  rw [zI_clamp ⟨by omega, by omega⟩, ← zI_of (xs i.toNat)]
  exact kk H locs ls hw hS h
/-- script[i + c] on the stack -/
theorem jl_arg (C : Cx F G own cc nL ret) {b N : Nat} {xs : Nat → Int32} (hX : jSc F G b N xs) {x m : Nat} {i d : Int} (h0 : 0 ≤ i) (hd0 : 0 ≤ d) (h1 : i + d < N) (hN : N < 2147483648) (d1 : Dn cc pc (.aload_n 0) 1 pc2) (d2 : Dn cc pc2 (.iload_n 3) 1 pc3) (d3 : Dn cc pc3 (.iconst d) 1 pc4) (d4 : Dn cc pc4 .iadd 1 pc5) (d5 : Dn cc pc5 .iaload 1 pc6) (kk : jX F G nL k n Q pc6 [some (.inr b), some (.inr x), some (.inr m), some (.inl i)] (.inl (jsv xs (i + d)) :: st) μ) : jX F G nL k n Q pc [some (.inr b), some (.inr x), some (.inr m), some (.inl i)] st μ :=
  jx_aload_n C d1 rfl (jx_iload_n C d2 rfl (jx_iconst C d3 (jx_iadd C d4 (jx_sld C hX (by omega) h1 hN d5 kk))))
end LAW
