def oun (dA dB : Int → Int → Int) (x0 y0 : Int) (r c : Nat) : Int := unl (dA (x0 + (c : Int)) (y0 + (r : Int))) (dB (x0 + (c : Int)) (y0 + (r : Int)))
theorem oun_rng {dA dB : Int → Int → Int} (ha : ∀ x y, -1 ≤ dA x y ∧ dA x y ≤ 255) (hb : ∀ x y, -1 ≤ dB x y ∧ dB x y ≤ 255) (x0 y0 : Int) (r c : Nat) : 0 ≤ oun dA dB x0 y0 r c ∧ oun dA dB x0 y0 r c ≤ 255 := unl_rng (ha _ _) (hb _ _)
theorem oun_at {dA dB : Int → Int → Int} {x0 y0 px py : Int} {r c : Nat} (hx : px = x0 + (c : Int)) (hy : py = y0 + (r : Int)) : unl (dA px py) (dB px py) = oun dA dB x0 y0 r c := by
  rw [hx, hy]; rfl
theorem cso_0 {own : Nat → Nat → Int} {w h k c : Nat} (hk : k = 0) : cso own w h k c = own (h - 1 - k) c + 0 := by
  subst hk; simp [cso]
theorem cso_s {own : Nat → Nat → Int} {w h k c : Nat} (hk : 0 < k) : cso own w h k c = own (h - 1 - k) c + cso own w h (k - 1) (chp (cso own w h (k - 1)) ((c : Int) - 1) ((c : Int) + 1) w) := by
  obtain ⟨j, rfl⟩ : ∃ j, k = j + 1 := ⟨k - 1, by omega⟩
  rw [Nat.add_sub_cancel]
  rfl
theorem scl_s {own : Nat → Nat → Int} {w h r : Nat} (hr : 0 < r) : scl own w h r = chp (cso own w h (h - 1 - r)) ((scl own w h (r - 1) : Int) - 1) ((scl own w h (r - 1) : Int) + 1) w := by
  obtain ⟨j, rfl⟩ : ∃ j, r = j + 1 := ⟨r - 1, by omega⟩
  rw [Nat.add_sub_cancel]
  rfl
