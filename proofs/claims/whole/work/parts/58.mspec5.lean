/-- what a call of the model leaves: the answer, the base, the seed; below nothing changes -/
def MP (μ : Mem) (v : Int) (B' : Bs) (s' : Int) : Int → Mem → Prop := fun z μ' => v = z ∧ rng μ' ∧ MIv μ' ∧ mB μ' = B' ∧ μ' 78 0 = s' ∧ ∀ k, k < 78 → μ' k = μ k
theorem MP_rd {μ : Mem} {v z : Int} (hR : rng μ) (hMI : MIv μ) (h : v = z) : MP μ v (mB μ) (μ 78 0) z μ := ⟨h, hR, hMI, rfl, rfl, fun _ _ => rfl⟩
theorem MP_lt {μ μ1 : Mem} {v z : Int} (h1 : LTp μ μ1) (h : v = z) : MP μ v (mB μ) (μ 78 0) z μ1 := ⟨h, h1.1, fun _ => h1.2.2.1, h1.2.2.2.1, h1.2.2.2.2.2 0 (by decide) (by decide), fun k hk => h1.2.2.2.2.1 k (Or.inl hk)⟩
theorem MDn_fr {μ μ' : Mem} (h : ∀ k, k ≠ 78 → k ≠ 95 → μ' k = μ k) (h78 : ∀ j, 0 < j → j < 22 → μ' 78 j = μ 78 j) : mB μ' = mB μ ∧ (MDn μ → MDn μ') := by
  have hB : mB μ' = mB μ := mB_fr (h78 1 (by decide) (by decide)) (h78 5 (by decide) (by decide)) (h78 6 (by decide) (by decide)) (h 79 (by decide) (by decide)) (h 80 (by decide) (by decide)) (h 81 (by decide) (by decide))
  refine ⟨hB, fun hD => ?_⟩
  unfold MDn
  rw [hB]
  refine ⟨fun p hp => ?_, fun a b ha hb hab => ?_, ?_⟩
  · exact MKm_fr (hD.1 p hp) (by rw [h 83 (by decide) (by decide)]) (fun m _ => by rw [h 84 (by decide) (by decide)]) (fun m _ => by rw [h 82 (by decide) (by decide)]) (fun m _ => by rw [h 85 (by decide) (by decide)])
  · exact PRm_fr (hD.2.1 a b ha hb hab) (fun m _ => by rw [h 86 (by decide) (by decide)]) ⟨by rw [h 87 (by decide) (by decide)], by rw [h 88 (by decide) (by decide)], by rw [h 89 (by decide) (by decide)], by rw [h 90 (by decide) (by decide)]⟩
  · exact JOm_fr hD.2.2 (h78 17 (by decide) (by decide)) (h 91 (by decide) (by decide)) (h 92 (by decide) (by decide)) (h 93 (by decide) (by decide)) (h 94 (by decide) (by decide))
theorem MP_ov {μ μ1 μ2 : Mem} {v z : Int} (h1 : LTp μ μ1) (hR2 : rng μ2) (hf : ∀ k, k ≠ 78 → k ≠ 95 → μ2 k = μ1 k) (h78 : ∀ j, j < 22 → μ2 78 j = μ1 78 j) (h : v = z) : MP μ v (mB μ) (μ 78 0) z μ2 := by
  have g := MDn_fr hf (fun j _ hj => h78 j hj)
  refine ⟨h, hR2, fun _ => g.2 h1.2.2.1, g.1.trans h1.2.2.2.1, ?_, fun k hk => ?_⟩
  · rw [h78 0 (by decide)]; exact h1.2.2.2.2.2 0 (by decide) (by decide)
  · rw [hf k (by omega) (by omega)]; exact h1.2.2.2.2.1 k (Or.inl hk)
theorem MIv_new {μ : Mem} (h : μ 78 7 = 0) : MIv μ := fun g => by omega
theorem seed_mend {μ μf : Mem} {s : Int} (hf : μf = jms μ 78 0 s) (hMI : MIv μ) : mB μf = mB μ ∧ MIv μf ∧ μf 78 0 = s ∧ ∀ k, k < 78 → μf k = μ k := by
  have g := MDn_fr (μ := μ) (μ' := μf) (fun k hk _ => by rw [hf, jms_cell _ _ _ _ hk]) (fun j h0 _ => by rw [hf, jms_slot _ _ _ _ (by omega)])
  refine ⟨g.1, fun h7 => g.2 (hMI ?_), by rw [hf, jms_same], fun k hk => by rw [hf, jms_cell _ _ _ _ (by omega)]⟩
  rw [hf, jms_slot _ _ _ _ (by decide)] at h7
  exact h7
theorem clear_mend {μ μf : Mem} (hf : μf = jms (jms μ 78 1 0) 78 7 0) : mB μf = b_clear (mB μ) ∧ MIv μf ∧ μf 78 0 = μ 78 0 ∧ ∀ k, k < 78 → μf k = μ k := by
  have e1 : μf 78 1 = 0 := by rw [hf, jms_slot _ _ _ _ (by decide), jms_same]
  have e5 : ∀ j, j ≠ 1 → j ≠ 7 → μf 78 j = μ 78 j := fun j h1 h2 => by rw [hf, jms_slot _ _ _ _ h2, jms_slot _ _ _ _ h1]
  refine ⟨?_, MIv_new (by rw [hf, jms_same]), e5 0 (by decide) (by decide), fun k hk => by rw [hf, jms_cell _ _ _ _ (by omega), jms_cell _ _ _ _ (by omega)]⟩
  unfold mB b_clear
  rw [e1, e5 5 (by decide) (by decide), e5 6 (by decide) (by decide)]
  refine Prod.ext rfl (Prod.ext rfl (Prod.ext rfl (Prod.ext ?_ (Prod.ext ?_ ?_))))
  · funext p; simp
  · funext p; simp
  · funext p; simp
theorem rules_mend {μ μf : Mem} {b n : Int} (hf : μf = jms (jms (jms μ 78 5 b) 78 6 n) 78 7 0) : mB μf = (bN (mB μ), b, n, bW (mB μ), bH (mB μ), bD (mB μ)) ∧ MIv μf ∧ μf 78 0 = μ 78 0 ∧ ∀ k, k < 78 → μf k = μ k := by
  have e5 : ∀ j, j ≠ 5 → j ≠ 6 → j ≠ 7 → μf 78 j = μ 78 j := fun j h1 h2 h3 => by rw [hf, jms_slot _ _ _ _ h3, jms_slot _ _ _ _ h2, jms_slot _ _ _ _ h1]
  have eb : μf 78 5 = b := by rw [hf, jms_slot _ _ _ _ (by decide), jms_slot _ _ _ _ (by decide), jms_same]
  have en : μf 78 6 = n := by rw [hf, jms_slot _ _ _ _ (by decide), jms_same]
  have ek : ∀ k, k ≠ 78 → μf k = μ k := fun k hk => by rw [hf, jms_cell _ _ _ _ hk, jms_cell _ _ _ _ hk, jms_cell _ _ _ _ hk]
  refine ⟨?_, MIv_new (by rw [hf, jms_same]), e5 0 (by decide) (by decide) (by decide), fun k hk => ek k (by omega)⟩
  unfold mB bN bW bH bD mvv
  rw [e5 1 (by decide) (by decide) (by decide), eb, en, ek 79 (by decide), ek 80 (by decide), ek 81 (by decide)]
theorem dot_mend {μ μf : Mem} {p : Nat} {pi i j v : Int} (hR : rng μ) (hpi : pi = (p : Int)) (hp : p < bN (mB μ)) (hin : 0 ≤ i ∧ i < μ 79 p ∧ 0 ≤ j ∧ j < μ 80 p) (hf : μf = jms (jms μ 81 (400 * pi + 20 * j + i).toNat v) 78 7 0) : mB μf = b_set (mB μ) p i j v ∧ MIv μf ∧ μf 78 0 = μ 78 0 ∧ ∀ k, k < 78 → μf k = μ k := by
  obtain ⟨hN, hN4⟩ := mB_N hR
  have r1 := rg_79 hR p
  have r2 := rg_80 hR p
  have e5 : ∀ j, j ≠ 7 → μf 78 j = μ 78 j := fun j h1 => by rw [hf, jms_slot _ _ _ _ h1, jms_cell _ _ _ _ (by decide)]
  have ek : ∀ k, k ≠ 78 → k ≠ 81 → μf k = μ k := fun k h0 h1 => by rw [hf, jms_cell _ _ _ _ h0, jms_cell _ _ _ _ h1]
  have eV : ∀ q t, mvv μf q t = if 400 * q + t = (400 * pi + 20 * j + i).toNat then v else mvv μ q t := fun q t => by
    show μf 81 (400 * q + t) = _
    rw [hf, jms_cell _ _ _ _ (by decide), jms_arr]
    rfl
  refine ⟨?_, MIv_new (by rw [hf, jms_same]), e5 0 (by decide), fun k hk => ek k (by omega) (by omega)⟩
  unfold mB b_set bN bW bH bD bBar bNear
  rw [e5 1 (by decide), e5 5 (by decide), e5 6 (by decide), ek 79 (by decide) (by decide), ek 80 (by decide) (by decide)]
  refine Prod.ext rfl (Prod.ext rfl (Prod.ext rfl (Prod.ext rfl (Prod.ext rfl ?_))))
  funext q
  dsimp only
  have hpc : p < (μ 78 1).toNat := by omega
  by_cases hq : q < (μ 78 1).toNat
  · have r3 := rg_79 hR q
    have r4 := rg_80 hR q
    rw [if_pos hq, if_pos hq]
    by_cases hqp : q = p
    · subst hqp
      rw [if_pos rfl]
      funext x y
      rw [if_pos hpc]
      unfold dgt
      by_cases hxy : 0 ≤ x ∧ x < μ 79 q ∧ 0 ≤ y ∧ y < μ 80 q
      · rw [if_pos hxy, if_pos hxy, eV]
        by_cases e : x = i ∧ y = j
        · rw [if_pos e, if_pos (by rw [e.1, e.2]; omega)]
        · rw [if_neg e, if_neg (by omega)]
      · rw [if_neg hxy, if_neg hxy, if_neg (by omega)]
    · rw [if_neg hqp]
      funext x y
      unfold dgt
      by_cases hxy : 0 ≤ x ∧ x < μ 79 q ∧ 0 ≤ y ∧ y < μ 80 q
      · rw [if_pos hxy, if_pos hxy, eV, if_neg (by omega)]
      · rw [if_neg hxy, if_neg hxy]
  · rw [if_neg hq, if_neg hq, if_neg (by omega)]
theorem shoot_mend {μ μ2 μf : Mem} {s x y g w h : Int} (hR : rng μ) (hw : 8 ≤ w ∧ w ≤ 20) (hh : 8 ≤ h ∧ h ≤ 20)
    (h2 : ∀ k, k ≠ 79 → k ≠ 80 → k ≠ 81 → μ2 k = μ k) (h79 : ∀ q, μ2 79 q = if q = bN (mB μ) then w else μ 79 q) (h80 : ∀ q, μ2 80 q = if q = bN (mB μ) then h else μ 80 q) (h81 : ∀ t, ¬ t / 400 = bN (mB μ) → μ2 81 t = μ 81 t)
    (h3 : ∀ i j : Int, 0 ≤ i → i < w → 0 ≤ j → j < h → μ2 81 (400 * (bN (mB μ) : Int) + 20 * j + i).toNat = shv s x y g i j) (hf : μf = jms (jms μ2 78 1 ((bN (mB μ) : Int) + 1)) 78 7 0) :
    mB μf = b_add (mB μ) w h (fun i j => if 0 ≤ i ∧ i < w ∧ 0 ≤ j ∧ j < h then shv s x y g i j else -1) ∧ MIv μf ∧ μf 78 0 = μ 78 0 ∧ ∀ k, k < 78 → μf k = μ k := by
  obtain ⟨hN, hN4⟩ := mB_N hR
  have hNt : (μ 78 1).toNat = bN (mB μ) := by omega
  have e1 : μf 78 1 = (bN (mB μ) : Int) + 1 := by rw [hf, jms_slot _ _ _ _ (by decide), jms_same]
  have e5 : ∀ j, j ≠ 1 → j ≠ 7 → μf 78 j = μ 78 j := fun j h1 h3 => by rw [hf, jms_slot _ _ _ _ h3, jms_slot _ _ _ _ h1, h2 78 (by decide) (by decide) (by decide)]
  have ek : ∀ k, k ≠ 78 → μf k = μ2 k := fun k h0 => by rw [hf, jms_cell _ _ _ _ h0, jms_cell _ _ _ _ h0]
  have hc1 : ((bN (mB μ) : Int) + 1).toNat = bN (mB μ) + 1 := by omega
  refine ⟨?_, MIv_new (by rw [hf, jms_same]), e5 0 (by decide) (by decide), fun k hk => by rw [ek k (by omega), h2 k (by omega) (by omega) (by omega)]⟩
  have key : mB μf = (bN (mB μ) + 1, μ 78 5, μ 78 6, fun p => if p < bN (mB μ) + 1 then μ2 79 p else 0, fun p => if p < bN (mB μ) + 1 then μ2 80 p else 0, fun p => if p < bN (mB μ) + 1 then dgt (μ2 79 p) (μ2 80 p) (mvv μ2 p) else fun _ _ => 0) := by
    unfold mB mvv
    rw [e1, hc1, e5 5 (by decide) (by decide), e5 6 (by decide) (by decide), ek 79 (by decide), ek 80 (by decide), ek 81 (by decide)]
    rfl
  rw [key]
  refine Prod.ext rfl (Prod.ext rfl (Prod.ext rfl (Prod.ext ?_ (Prod.ext ?_ ?_))))
  · funext q
    show (if q < bN (mB μ) + 1 then μ2 79 q else 0) = if q = bN (mB μ) then w else (if q < (μ 78 1).toNat then μ 79 q else 0)
    rw [hNt, h79]
    by_cases e : q = bN (mB μ)
    · rw [if_pos e, if_pos (by omega), if_pos e]
    · rw [if_neg e, if_neg e]
      by_cases hq : q < bN (mB μ)
      · rw [if_pos hq, if_pos (by omega)]
      · rw [if_neg hq, if_neg (by omega)]
  · funext q
    show (if q < bN (mB μ) + 1 then μ2 80 q else 0) = if q = bN (mB μ) then h else (if q < (μ 78 1).toNat then μ 80 q else 0)
    rw [hNt, h80]
    by_cases e : q = bN (mB μ)
    · rw [if_pos e, if_pos (by omega), if_pos e]
    · rw [if_neg e, if_neg e]
      by_cases hq : q < bN (mB μ)
      · rw [if_pos hq, if_pos (by omega)]
      · rw [if_neg hq, if_neg (by omega)]
  · funext q
    show (if q < bN (mB μ) + 1 then dgt (μ2 79 q) (μ2 80 q) (mvv μ2 q) else fun _ _ => 0) = if q = bN (mB μ) then (fun i j => if 0 ≤ i ∧ i < w ∧ 0 ≤ j ∧ j < h then shv s x y g i j else -1) else (if q < (μ 78 1).toNat then dgt (μ 79 q) (μ 80 q) (mvv μ q) else fun _ _ => 0)
    rw [hNt, h79, h80]
    have r3 := rg_79 hR q
    have r4 := rg_80 hR q
    by_cases e : q = bN (mB μ)
    · rw [if_pos e, if_pos (by omega), if_pos e, if_pos e]
      funext i j
      unfold dgt
      by_cases hij : 0 ≤ i ∧ i < w ∧ 0 ≤ j ∧ j < h
      · rw [if_pos hij, if_pos hij, ← h3 i j hij.1 hij.2.1 hij.2.2.1 hij.2.2.2]
        show μ2 81 (400 * q + (j * 20 + i).toNat) = _
        congr 1
        omega
      · rw [if_neg hij, if_neg hij]
    · rw [if_neg e, if_neg e, if_neg e]
      by_cases hq : q < bN (mB μ)
      · rw [if_pos hq, if_pos (by omega)]
        funext i j
        unfold dgt
        by_cases hij : 0 ≤ i ∧ i < μ 79 q ∧ 0 ≤ j ∧ j < μ 80 q
        · rw [if_pos hij, if_pos hij]
          show μ2 81 (400 * q + (j * 20 + i).toNat) = μ 81 (400 * q + (j * 20 + i).toNat)
          exact h81 _ (by omega)
        · rw [if_neg hij, if_neg hij]
      · rw [if_neg hq, if_neg (by omega)]
theorem MD_pic {μ : Mem} (h : MDn μ) {p : Nat} (hp : p < bN (mB μ)) : μ 94 p = jrk (mB μ) p ∧ (¬ jrk (mB μ) p = -6 → μ 91 p = jxx (mB μ) p ∧ μ 92 p = jyy (mB μ) p ∧ μ 93 p = jbb (mB μ) p) := h.2.2.2 p hp
theorem MD_n {μ : Mem} (h : MDn μ) : μ 78 17 = ((bJ (mB μ)).1 : Int) := h.2.2.1
theorem MD_inv {μ : Mem} (hR : rng μ) : jinv (bN (mB μ)) (bJ (mB μ)) := bJ_inv (mB_ok hR)
