theorem sh_step {μa μb μ : Mem} {c n m : Nat} (hA : ∀ x, μa c x = if m < x ∧ x < n then μ c (x - 1) else μ c x) (hm : 0 < m) (hmn : m < n) (hb : ∀ x, μb c x = if x = m then μa c (m - 1) else μa c x) : ∀ x, μb c x = if m - 1 < x ∧ x < n then μ c (x - 1) else μ c x := by
  intro x
  rw [hb]
  by_cases h : x = m
  · rw [if_pos h, hA, if_neg (by omega), if_pos (by omega), h]
  · rw [if_neg h, hA]
    by_cases h2 : m < x ∧ x < n
    · rw [if_pos h2, if_pos (by omega)]
    · rw [if_neg h2, if_neg (by omega)]
theorem ins_MA {μ μf : Mem} {p t : Nat} {f : Int → Int → Int} {a : Mks} {sp : Nat} (hM : MAok μ p f a) (hsp : plc (fS f) a.2 (fS f t) a.1 = sp) (h16 : sp < 16) (hc : μf (26 + p) 4 = min ((a.1 : Int) + 1) 16)
    (h0 : ∀ x, μf (30 + p) x = if x = sp then ((t % 20 : Nat) : Int) else if sp < x ∧ x < min (a.1 + 1) 16 then μ (30 + p) (x - 1) else μ (30 + p) x)
    (h1 : ∀ x, μf (34 + p) x = if x = sp then ((t / 20 : Nat) : Int) else if sp < x ∧ x < min (a.1 + 1) 16 then μ (34 + p) (x - 1) else μ (34 + p) x)
    (h2 : ∀ x, μf (38 + p) x = if x = sp then fS f t else if sp < x ∧ x < min (a.1 + 1) 16 then μ (38 + p) (x - 1) else μ (38 + p) x) : MAok μf p f (ins (fS f) t a) := by
  have hle := plc_le (fS f) a.2 (fS f t) a.1
  rw [hsp] at hle
  have hi : ins (fS f) t a = (min (a.1 + 1) 16, fun m => if m < sp then a.2 m else if m = sp then t else a.2 (m - 1)) := by
    unfold ins
    rw [hsp, if_pos h16]
  rw [hi]
  refine ⟨Nat.min_le_right _ _, by rw [hc]; omega, fun m hm => ?_⟩
  dsimp only at hm ⊢
  have hmin := Nat.min_le_left (a.1 + 1) 16
  rw [h0, h1, h2]
  by_cases e1 : m = sp
  · rw [if_pos e1, if_pos e1, if_pos e1, if_neg (by omega), if_pos e1]
    exact ⟨rfl, rfl, rfl⟩
  · simp only [if_neg e1]
    by_cases e2 : m < sp
    · have n1 : ¬ (sp < m ∧ m < min (a.1 + 1) 16) := by omega
      simp only [if_pos e2, if_neg n1]
      exact hM.2.2 m (by omega)
    · have n1 : sp < m ∧ m < min (a.1 + 1) 16 := by omega
      simp only [if_neg e2, if_pos n1]
      exact hM.2.2 (m - 1) (by omega)
theorem fS_at {f : Int → Int → Int} {i j : Int} {x y : Nat} (hx : x < 20) (hi : i = (x : Int)) (hj : j = (y : Int)) : fS f (20 * y + x) = f i j := by
  unfold fS
  rw [show (20 * y + x) % 20 = x by omega, show (20 * y + x) / 20 = y by omega, ← hi, ← hj]
theorem isM_at {f : Int → Int → Int} {W H bar i j : Int} {x y : Nat} (hx : x < 20) (hi : i = (x : Int)) (hj : j = (y : Int)) : isM f W H bar (20 * y + x) ↔ i < W ∧ j < H ∧ bar ≤ f i j ∧ pk f i j := by
  unfold isM
  rw [fS_at hx hi hj, show (20 * y + x) % 20 = x by omega, show (20 * y + x) / 20 = y by omega, ← hi, ← hj]
theorem mkf_row {f : Int → Int → Int} {W H bar : Int} {x y : Nat} (hx : x ≤ 20) (hw : W ≤ (x : Int)) : mkf f W H bar (20 * (y + 1)) = mkf f W H bar (20 * y + x) :=
  mkf_skip' (by omega) (fun t h1 h2 h => by have := h.1; omega)
theorem mkf_end {f : Int → Int → Int} {W H bar : Int} {y : Nat} (hy : y ≤ 20) (hh : H ≤ (y : Int)) : mkf f W H bar 400 = mkf f W H bar (20 * y) :=
  mkf_skip' (by omega) (fun t h1 h2 h => by have := h.2.1; omega)
theorem MAok_fr {μ μ' : Mem} {p : Nat} {f : Int → Int → Int} {a : Mks} (h : MAok μ p f a) (h0 : μ' (26 + p) = μ (26 + p)) (h1 : μ' (30 + p) = μ (30 + p)) (h2 : μ' (34 + p) = μ (34 + p)) (h3 : μ' (38 + p) = μ (38 + p)) : MAok μ' p f a := by
  unfold MAok
  rw [h0, h1, h2, h3]
  exact h
theorem nat_cast_lt {m : Int} {n : Nat} (h : ¬ (n : Int) ≤ m) : m < n := by omega
theorem vts_cong {P P' SX SX' SY SY' : Nat → Int} {X Y : Int} : ∀ n : Nat, (∀ m, m < n → P m = P' m) → (∀ m, m < n → SX m = SX' m) → (∀ m, m < n → SY m = SY' m) → vts P SX SY X Y n = vts P' SX' SY' X Y n
  | 0, _, _, _ => rfl
  | n + 1, h1, h2, h3 => by
    rw [vts, vts, h1 n (by omega), h2 n (by omega), h3 n (by omega), vts_cong n (fun m hm => h1 m (by omega)) (fun m hm => h2 m (by omega)) (fun m hm => h3 m (by omega))]
theorem prq_cong {μ μd : Mem} {p a b k : Nat} {P : Nat → Int} {A : Vxy} (hP : ∀ x : Nat, (x : Int) < μ (26 + a) 4 → μd (62 + p) x = P x) (h0 : μd (26 + a) = μ (26 + a)) (h1 : μd (30 + a) = μ (30 + a)) (h2 : μd (30 + b) = μ (30 + b)) (h3 : μd (34 + a) = μ (34 + a)) (h4 : μd (34 + b) = μ (34 + b)) (hk : (k : Int) < μ (26 + a) 4) :
    prq (vts (μd (62 + p)) (fun m => μd (30 + a) m - μd (30 + b) (μd (62 + p) m).toNat) (fun m => μd (34 + a) m - μd (34 + b) (μd (62 + p) m).toNat) (μd (30 + a) k - μd (30 + b) (μd (62 + p) k).toNat) (μd (34 + a) k - μd (34 + b) (μd (62 + p) k).toNat) (μd (26 + a) 4).toNat) (μd (30 + a) k - μd (30 + b) (μd (62 + p) k).toNat) (μd (34 + a) k - μd (34 + b) (μd (62 + p) k).toNat) A
    = prq (vts P (fun m => μ (30 + a) m - μ (30 + b) (P m).toNat) (fun m => μ (34 + a) m - μ (34 + b) (P m).toNat) (μ (30 + a) k - μ (30 + b) (P k).toNat) (μ (34 + a) k - μ (34 + b) (P k).toNat) (μ (26 + a) 4).toNat) (μ (30 + a) k - μ (30 + b) (P k).toNat) (μ (34 + a) k - μ (34 + b) (P k).toNat) A := by
  rw [h0, h1, h2, h3, h4, hP k hk]
  congr 1
  exact vts_cong _ (fun m hm => hP m (by omega)) (fun m hm => by rw [hP m (by omega)]) (fun m hm => by rw [hP m (by omega)])
