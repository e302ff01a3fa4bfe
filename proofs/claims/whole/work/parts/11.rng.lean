def rgl (k j : Nat) : Int := if k = 0 then (if j = 4 then 1 else if j = 5 then 0 else (-2147483648)) else 
  if k = 1 then (if j = 0 then (-2147483648) else (-2147483648)) else 
  if k = 2 then (if j = 3 then 0 else if j = 4 then 0 else if j = 5 then 0 else (-2147483648)) else 
  if k = 3 then (if j = 0 then (-3000) else if j = 1 then (-3000) else if j = 2 then (-6000) else if j = 3 then (-6000) else if j = 4 then 0 else if j = 5 then 0 else if j = 6 then 0 else (-2147483648)) else 
  if k = 4 then (if j = 2 then 0 else (-2147483648)) else 
  if k = 7 then (0) else 
  if k = 8 then (0) else 
  if k = 9 then (0) else 
  if k < 14 then (if j = 2 then (-1000) else if j = 3 then (-1000) else if j = 4 then (-6) else if j = 5 then (-6) else (-2147483648)) else 
  if k < 18 then (if j = 2 then 0 else if j = 3 then 0 else if j = 4 then 0 else (-2147483648)) else 
  if k < 22 then ((-1)) else 
  if k < 26 then (0) else 
  if k < 30 then (if j = 4 then 0 else (-2147483648)) else 
  if k < 34 then (0) else 
  if k < 38 then (0) else 
  if k < 42 then (0) else 
  if k < 46 then (0) else 
  if k < 62 then (if j = 1 then 0 else if j = 2 then 0 else if j = 3 then (-20) else if j = 4 then (-20) else (-2147483648)) else 
  if k < 78 then ((-6)) else 
  if k = 78 then (if j = 0 then (-2147483648) else if j = 1 then 0 else if j = 5 then 1 else if j = 6 then 0 else if j = 7 then 0 else if j = 17 then 0 else if j = 22 then (-3000) else if j = 23 then (-3000) else if j = 24 then (-6000) else if j = 25 then (-6000) else (-2147483648)) else 
  if k = 79 then (0) else 
  if k = 80 then (0) else 
  if k = 81 then ((-1)) else 
  if k = 82 then (0) else 
  if k = 83 then (0) else 
  if k = 84 then (0) else 
  if k = 85 then (0) else 
  if k = 86 then ((-6)) else 
  if k = 87 then ((-20)) else 
  if k = 88 then ((-20)) else 
  if k = 89 then (0) else 
  if k = 90 then (0) else 
  if k = 91 then ((-1000)) else 
  if k = 92 then ((-1000)) else 
  if k = 93 then ((-6)) else 
  if k = 94 then ((-6)) else 
  if k = 95 then (0) else (-2147483648)
def rgh (k j : Nat) : Int := if k = 0 then (if j = 4 then 1000000 else if j = 5 then 12 else 2147483647) else 
  if k = 1 then (if j = 0 then 2147483647 else 2147483647) else 
  if k = 2 then (if j = 3 then 4 else if j = 4 then 4 else if j = 5 then 1 else 2147483647) else 
  if k = 3 then (if j = 0 then 3000 else if j = 1 then 3000 else if j = 2 then 6000 else if j = 3 then 6000 else if j = 4 then 102000 else if j = 5 then 102000 else if j = 6 then 400 else 2147483647) else 
  if k = 4 then (if j = 2 then 5100 else 2147483647) else 
  if k = 7 then (3) else 
  if k = 8 then (5100) else 
  if k = 9 then (19) else 
  if k < 14 then (if j = 2 then 1000 else if j = 3 then 1000 else if j = 4 then 3 else if j = 5 then 3 else 2147483647) else 
  if k < 18 then (if j = 2 then 20 else if j = 3 then 20 else if j = 4 then 1 else 2147483647) else 
  if k < 22 then (255) else 
  if k < 26 then (585225) else 
  if k < 30 then (if j = 4 then 16 else 2147483647) else 
  if k < 34 then (19) else 
  if k < 38 then (19) else 
  if k < 42 then (585225) else 
  if k < 46 then (4095) else 
  if k < 62 then (if j = 1 then 16 else if j = 2 then 16 else if j = 3 then 20 else if j = 4 then 20 else 2147483647) else 
  if k < 78 then (15) else 
  if k = 78 then (if j = 0 then 2147483647 else if j = 1 then 4 else if j = 5 then 1000000 else if j = 6 then 12 else if j = 7 then 1 else if j = 17 then 4 else if j = 22 then 3000 else if j = 23 then 3000 else if j = 24 then 6000 else if j = 25 then 6000 else 2147483647) else 
  if k = 79 then (20) else 
  if k = 80 then (20) else 
  if k = 81 then (255) else 
  if k = 82 then (585225) else 
  if k = 83 then (16) else 
  if k = 84 then (1599) else 
  if k = 85 then (4095) else 
  if k = 86 then (15) else 
  if k = 87 then (20) else 
  if k = 88 then (20) else 
  if k = 89 then (16) else 
  if k = 90 then (16) else 
  if k = 91 then (1000) else 
  if k = 92 then (1000) else 
  if k = 93 then (3) else 
  if k = 94 then (3) else 
  if k = 95 then (5100) else 2147483647
/-- every int lies within its bounds -/
def rng (μ : Mem) : Prop := ∀ k j : Nat, rgl k j ≤ μ k j ∧ μ k j ≤ rgh k j
theorem rng_ms {μ : Mem} (h : rng μ) {k j : Nat} {z : Int} (h0 : rgl k j ≤ z) (h1 : z ≤ rgh k j) : rng (jms μ k j z) := by
  intro k' j'
  by_cases e : k' = k ∧ j' = j
  · obtain ⟨rfl, rfl⟩ := e
    rw [jms_same]
    exact ⟨h0, h1⟩
  · have : jms μ k j z k' j' = μ k' j' := by simp [jms, e]
    rw [this]
    exact h k' j'
theorem rg_PJ_4 {μ : Mem} (h : rng μ) : 1 ≤ μ 0 4 ∧ μ 0 4 ≤ 1000000 := h 0 4
theorem rs_PJ_4 {μ : Mem} (h : rng μ) {z : Int} (h0 : 1 ≤ z) (h1 : z ≤ 1000000) : rng (jms μ 0 4 z) := rng_ms h h0 h1
theorem rg_PJ_5 {μ : Mem} (h : rng μ) : 0 ≤ μ 0 5 ∧ μ 0 5 ≤ 12 := h 0 5
theorem rs_PJ_5 {μ : Mem} (h : rng μ) {z : Int} (h0 : 0 ≤ z) (h1 : z ≤ 12) : rng (jms μ 0 5 z) := rng_ms h h0 h1
theorem rg_WO_0 {μ : Mem} (h : rng μ) : (-2147483648) ≤ μ 1 0 ∧ μ 1 0 ≤ 2147483647 := h 1 0
theorem rs_WO_0 {μ : Mem} (h : rng μ) {z : Int} (h0 : (-2147483648) ≤ z) (h1 : z ≤ 2147483647) : rng (jms μ 1 0 z) := rng_ms h h0 h1
theorem rg_AL_3 {μ : Mem} (h : rng μ) : 0 ≤ μ 2 3 ∧ μ 2 3 ≤ 4 := h 2 3
theorem rs_AL_3 {μ : Mem} (h : rng μ) {z : Int} (h0 : 0 ≤ z) (h1 : z ≤ 4) : rng (jms μ 2 3 z) := rng_ms h h0 h1
theorem rg_AL_4 {μ : Mem} (h : rng μ) : 0 ≤ μ 2 4 ∧ μ 2 4 ≤ 4 := h 2 4
theorem rs_AL_4 {μ : Mem} (h : rng μ) {z : Int} (h0 : 0 ≤ z) (h1 : z ≤ 4) : rng (jms μ 2 4 z) := rng_ms h h0 h1
theorem rg_AL_5 {μ : Mem} (h : rng μ) : 0 ≤ μ 2 5 ∧ μ 2 5 ≤ 1 := h 2 5
theorem rs_AL_5 {μ : Mem} (h : rng μ) {z : Int} (h0 : 0 ≤ z) (h1 : z ≤ 1) : rng (jms μ 2 5 z) := rng_ms h h0 h1
theorem rg_OV_0 {μ : Mem} (h : rng μ) : (-3000) ≤ μ 3 0 ∧ μ 3 0 ≤ 3000 := h 3 0
theorem rs_OV_0 {μ : Mem} (h : rng μ) {z : Int} (h0 : (-3000) ≤ z) (h1 : z ≤ 3000) : rng (jms μ 3 0 z) := rng_ms h h0 h1
theorem rg_OV_1 {μ : Mem} (h : rng μ) : (-3000) ≤ μ 3 1 ∧ μ 3 1 ≤ 3000 := h 3 1
theorem rs_OV_1 {μ : Mem} (h : rng μ) {z : Int} (h0 : (-3000) ≤ z) (h1 : z ≤ 3000) : rng (jms μ 3 1 z) := rng_ms h h0 h1
theorem rg_OV_2 {μ : Mem} (h : rng μ) : (-6000) ≤ μ 3 2 ∧ μ 3 2 ≤ 6000 := h 3 2
theorem rs_OV_2 {μ : Mem} (h : rng μ) {z : Int} (h0 : (-6000) ≤ z) (h1 : z ≤ 6000) : rng (jms μ 3 2 z) := rng_ms h h0 h1
theorem rg_OV_3 {μ : Mem} (h : rng μ) : (-6000) ≤ μ 3 3 ∧ μ 3 3 ≤ 6000 := h 3 3
theorem rs_OV_3 {μ : Mem} (h : rng μ) {z : Int} (h0 : (-6000) ≤ z) (h1 : z ≤ 6000) : rng (jms μ 3 3 z) := rng_ms h h0 h1
theorem rg_OV_4 {μ : Mem} (h : rng μ) : 0 ≤ μ 3 4 ∧ μ 3 4 ≤ 102000 := h 3 4
theorem rs_OV_4 {μ : Mem} (h : rng μ) {z : Int} (h0 : 0 ≤ z) (h1 : z ≤ 102000) : rng (jms μ 3 4 z) := rng_ms h h0 h1
theorem rg_OV_5 {μ : Mem} (h : rng μ) : 0 ≤ μ 3 5 ∧ μ 3 5 ≤ 102000 := h 3 5
theorem rs_OV_5 {μ : Mem} (h : rng μ) {z : Int} (h0 : 0 ≤ z) (h1 : z ≤ 102000) : rng (jms μ 3 5 z) := rng_ms h h0 h1
theorem rg_OV_6 {μ : Mem} (h : rng μ) : 0 ≤ μ 3 6 ∧ μ 3 6 ≤ 400 := h 3 6
theorem rs_OV_6 {μ : Mem} (h : rng μ) {z : Int} (h0 : 0 ≤ z) (h1 : z ≤ 400) : rng (jms μ 3 6 z) := rng_ms h h0 h1
theorem rg_SE_2 {μ : Mem} (h : rng μ) : 0 ≤ μ 4 2 ∧ μ 4 2 ≤ 5100 := h 4 2
theorem rs_SE_2 {μ : Mem} (h : rng μ) {z : Int} (h0 : 0 ≤ z) (h1 : z ≤ 5100) : rng (jms μ 4 2 z) := rng_ms h h0 h1
theorem rg_7 {μ : Mem} (h : rng μ) (j : Nat) : 0 ≤ μ 7 j ∧ μ 7 j ≤ 3 := h 7 j
theorem rs_7 {μ : Mem} (h : rng μ) (j : Nat) {z : Int} (h0 : 0 ≤ z) (h1 : z ≤ 3) : rng (jms μ 7 j z) := rng_ms h h0 h1
theorem rg_8 {μ : Mem} (h : rng μ) (j : Nat) : 0 ≤ μ 8 j ∧ μ 8 j ≤ 5100 := h 8 j
theorem rs_8 {μ : Mem} (h : rng μ) (j : Nat) {z : Int} (h0 : 0 ≤ z) (h1 : z ≤ 5100) : rng (jms μ 8 j z) := rng_ms h h0 h1
theorem rg_9 {μ : Mem} (h : rng μ) (j : Nat) : 0 ≤ μ 9 j ∧ μ 9 j ≤ 19 := h 9 j
theorem rs_9 {μ : Mem} (h : rng μ) (j : Nat) {z : Int} (h0 : 0 ≤ z) (h1 : z ≤ 19) : rng (jms μ 9 j z) := rng_ms h h0 h1
theorem rg_PI_2 {μ : Mem} (h : rng μ) {p : Nat} (hp : p < 4) : (-1000) ≤ μ (10 + p) 2 ∧ μ (10 + p) 2 ≤ 1000 := jlt4 (P := fun p => (-1000) ≤ μ (10 + p) 2 ∧ μ (10 + p) 2 ≤ 1000) (h 10 2) (h 11 2) (h 12 2) (h 13 2) hp
theorem rs_PI_2 {μ : Mem} (h : rng μ) {p : Nat} (hp : p < 4) {z : Int} (h0 : (-1000) ≤ z) (h1 : z ≤ 1000) : rng (jms μ (10 + p) 2 z) := jlt4 (P := fun p => rng (jms μ (10 + p) 2 z)) (rng_ms (k := 10) h h0 h1) (rng_ms (k := 11) h h0 h1) (rng_ms (k := 12) h h0 h1) (rng_ms (k := 13) h h0 h1) hp
theorem rg_PI_3 {μ : Mem} (h : rng μ) {p : Nat} (hp : p < 4) : (-1000) ≤ μ (10 + p) 3 ∧ μ (10 + p) 3 ≤ 1000 := jlt4 (P := fun p => (-1000) ≤ μ (10 + p) 3 ∧ μ (10 + p) 3 ≤ 1000) (h 10 3) (h 11 3) (h 12 3) (h 13 3) hp
theorem rs_PI_3 {μ : Mem} (h : rng μ) {p : Nat} (hp : p < 4) {z : Int} (h0 : (-1000) ≤ z) (h1 : z ≤ 1000) : rng (jms μ (10 + p) 3 z) := jlt4 (P := fun p => rng (jms μ (10 + p) 3 z)) (rng_ms (k := 10) h h0 h1) (rng_ms (k := 11) h h0 h1) (rng_ms (k := 12) h h0 h1) (rng_ms (k := 13) h h0 h1) hp
theorem rg_PI_4 {μ : Mem} (h : rng μ) {p : Nat} (hp : p < 4) : (-6) ≤ μ (10 + p) 4 ∧ μ (10 + p) 4 ≤ 3 := jlt4 (P := fun p => (-6) ≤ μ (10 + p) 4 ∧ μ (10 + p) 4 ≤ 3) (h 10 4) (h 11 4) (h 12 4) (h 13 4) hp
theorem rs_PI_4 {μ : Mem} (h : rng μ) {p : Nat} (hp : p < 4) {z : Int} (h0 : (-6) ≤ z) (h1 : z ≤ 3) : rng (jms μ (10 + p) 4 z) := jlt4 (P := fun p => rng (jms μ (10 + p) 4 z)) (rng_ms (k := 10) h h0 h1) (rng_ms (k := 11) h h0 h1) (rng_ms (k := 12) h h0 h1) (rng_ms (k := 13) h h0 h1) hp
theorem rg_PI_5 {μ : Mem} (h : rng μ) {p : Nat} (hp : p < 4) : (-6) ≤ μ (10 + p) 5 ∧ μ (10 + p) 5 ≤ 3 := jlt4 (P := fun p => (-6) ≤ μ (10 + p) 5 ∧ μ (10 + p) 5 ≤ 3) (h 10 5) (h 11 5) (h 12 5) (h 13 5) hp
theorem rs_PI_5 {μ : Mem} (h : rng μ) {p : Nat} (hp : p < 4) {z : Int} (h0 : (-6) ≤ z) (h1 : z ≤ 3) : rng (jms μ (10 + p) 5 z) := jlt4 (P := fun p => rng (jms μ (10 + p) 5 z)) (rng_ms (k := 10) h h0 h1) (rng_ms (k := 11) h h0 h1) (rng_ms (k := 12) h h0 h1) (rng_ms (k := 13) h h0 h1) hp
theorem rg_DO_2 {μ : Mem} (h : rng μ) {p : Nat} (hp : p < 4) : 0 ≤ μ (14 + p) 2 ∧ μ (14 + p) 2 ≤ 20 := jlt4 (P := fun p => 0 ≤ μ (14 + p) 2 ∧ μ (14 + p) 2 ≤ 20) (h 14 2) (h 15 2) (h 16 2) (h 17 2) hp
theorem rs_DO_2 {μ : Mem} (h : rng μ) {p : Nat} (hp : p < 4) {z : Int} (h0 : 0 ≤ z) (h1 : z ≤ 20) : rng (jms μ (14 + p) 2 z) := jlt4 (P := fun p => rng (jms μ (14 + p) 2 z)) (rng_ms (k := 14) h h0 h1) (rng_ms (k := 15) h h0 h1) (rng_ms (k := 16) h h0 h1) (rng_ms (k := 17) h h0 h1) hp
theorem rg_DO_3 {μ : Mem} (h : rng μ) {p : Nat} (hp : p < 4) : 0 ≤ μ (14 + p) 3 ∧ μ (14 + p) 3 ≤ 20 := jlt4 (P := fun p => 0 ≤ μ (14 + p) 3 ∧ μ (14 + p) 3 ≤ 20) (h 14 3) (h 15 3) (h 16 3) (h 17 3) hp
theorem rs_DO_3 {μ : Mem} (h : rng μ) {p : Nat} (hp : p < 4) {z : Int} (h0 : 0 ≤ z) (h1 : z ≤ 20) : rng (jms μ (14 + p) 3 z) := jlt4 (P := fun p => rng (jms μ (14 + p) 3 z)) (rng_ms (k := 14) h h0 h1) (rng_ms (k := 15) h h0 h1) (rng_ms (k := 16) h h0 h1) (rng_ms (k := 17) h h0 h1) hp
theorem rg_DO_4 {μ : Mem} (h : rng μ) {p : Nat} (hp : p < 4) : 0 ≤ μ (14 + p) 4 ∧ μ (14 + p) 4 ≤ 1 := jlt4 (P := fun p => 0 ≤ μ (14 + p) 4 ∧ μ (14 + p) 4 ≤ 1) (h 14 4) (h 15 4) (h 16 4) (h 17 4) hp
theorem rs_DO_4 {μ : Mem} (h : rng μ) {p : Nat} (hp : p < 4) {z : Int} (h0 : 0 ≤ z) (h1 : z ≤ 1) : rng (jms μ (14 + p) 4 z) := jlt4 (P := fun p => rng (jms μ (14 + p) 4 z)) (rng_ms (k := 14) h h0 h1) (rng_ms (k := 15) h h0 h1) (rng_ms (k := 16) h h0 h1) (rng_ms (k := 17) h h0 h1) hp
theorem rg_va {μ : Mem} (h : rng μ) {p : Nat} (hp : p < 4) (j : Nat) : (-1) ≤ μ (18 + p) j ∧ μ (18 + p) j ≤ 255 := jlt4 (P := fun p => (-1) ≤ μ (18 + p) j ∧ μ (18 + p) j ≤ 255) (h 18 j) (h 19 j) (h 20 j) (h 21 j) hp
theorem rs_va {μ : Mem} (h : rng μ) {p : Nat} (hp : p < 4) (j : Nat) {z : Int} (h0 : (-1) ≤ z) (h1 : z ≤ 255) : rng (jms μ (18 + p) j z) := jlt4 (P := fun p => rng (jms μ (18 + p) j z)) (rng_ms (k := 18) h h0 h1) (rng_ms (k := 19) h h0 h1) (rng_ms (k := 20) h h0 h1) (rng_ms (k := 21) h h0 h1) hp
theorem rg_sc {μ : Mem} (h : rng μ) {p : Nat} (hp : p < 4) (j : Nat) : 0 ≤ μ (22 + p) j ∧ μ (22 + p) j ≤ 585225 := jlt4 (P := fun p => 0 ≤ μ (22 + p) j ∧ μ (22 + p) j ≤ 585225) (h 22 j) (h 23 j) (h 24 j) (h 25 j) hp
theorem rs_sc {μ : Mem} (h : rng μ) {p : Nat} (hp : p < 4) (j : Nat) {z : Int} (h0 : 0 ≤ z) (h1 : z ≤ 585225) : rng (jms μ (22 + p) j z) := jlt4 (P := fun p => rng (jms μ (22 + p) j z)) (rng_ms (k := 22) h h0 h1) (rng_ms (k := 23) h h0 h1) (rng_ms (k := 24) h h0 h1) (rng_ms (k := 25) h h0 h1) hp
theorem rg_MA_4 {μ : Mem} (h : rng μ) {p : Nat} (hp : p < 4) : 0 ≤ μ (26 + p) 4 ∧ μ (26 + p) 4 ≤ 16 := jlt4 (P := fun p => 0 ≤ μ (26 + p) 4 ∧ μ (26 + p) 4 ≤ 16) (h 26 4) (h 27 4) (h 28 4) (h 29 4) hp
theorem rs_MA_4 {μ : Mem} (h : rng μ) {p : Nat} (hp : p < 4) {z : Int} (h0 : 0 ≤ z) (h1 : z ≤ 16) : rng (jms μ (26 + p) 4 z) := jlt4 (P := fun p => rng (jms μ (26 + p) 4 z)) (rng_ms (k := 26) h h0 h1) (rng_ms (k := 27) h h0 h1) (rng_ms (k := 28) h h0 h1) (rng_ms (k := 29) h h0 h1) hp
theorem rg_co {μ : Mem} (h : rng μ) {p : Nat} (hp : p < 4) (j : Nat) : 0 ≤ μ (30 + p) j ∧ μ (30 + p) j ≤ 19 := jlt4 (P := fun p => 0 ≤ μ (30 + p) j ∧ μ (30 + p) j ≤ 19) (h 30 j) (h 31 j) (h 32 j) (h 33 j) hp
theorem rs_co {μ : Mem} (h : rng μ) {p : Nat} (hp : p < 4) (j : Nat) {z : Int} (h0 : 0 ≤ z) (h1 : z ≤ 19) : rng (jms μ (30 + p) j z) := jlt4 (P := fun p => rng (jms μ (30 + p) j z)) (rng_ms (k := 30) h h0 h1) (rng_ms (k := 31) h h0 h1) (rng_ms (k := 32) h h0 h1) (rng_ms (k := 33) h h0 h1) hp
theorem rg_ro {μ : Mem} (h : rng μ) {p : Nat} (hp : p < 4) (j : Nat) : 0 ≤ μ (34 + p) j ∧ μ (34 + p) j ≤ 19 := jlt4 (P := fun p => 0 ≤ μ (34 + p) j ∧ μ (34 + p) j ≤ 19) (h 34 j) (h 35 j) (h 36 j) (h 37 j) hp
theorem rs_ro {μ : Mem} (h : rng μ) {p : Nat} (hp : p < 4) (j : Nat) {z : Int} (h0 : 0 ≤ z) (h1 : z ≤ 19) : rng (jms μ (34 + p) j z) := jlt4 (P := fun p => rng (jms μ (34 + p) j z)) (rng_ms (k := 34) h h0 h1) (rng_ms (k := 35) h h0 h1) (rng_ms (k := 36) h h0 h1) (rng_ms (k := 37) h h0 h1) hp
theorem rg_he {μ : Mem} (h : rng μ) {p : Nat} (hp : p < 4) (j : Nat) : 0 ≤ μ (38 + p) j ∧ μ (38 + p) j ≤ 585225 := jlt4 (P := fun p => 0 ≤ μ (38 + p) j ∧ μ (38 + p) j ≤ 585225) (h 38 j) (h 39 j) (h 40 j) (h 41 j) hp
theorem rs_he {μ : Mem} (h : rng μ) {p : Nat} (hp : p < 4) (j : Nat) {z : Int} (h0 : 0 ≤ z) (h1 : z ≤ 585225) : rng (jms μ (38 + p) j z) := jlt4 (P := fun p => rng (jms μ (38 + p) j z)) (rng_ms (k := 38) h h0 h1) (rng_ms (k := 39) h h0 h1) (rng_ms (k := 40) h h0 h1) (rng_ms (k := 41) h h0 h1) hp
theorem rg_si {μ : Mem} (h : rng μ) {p : Nat} (hp : p < 4) (j : Nat) : 0 ≤ μ (42 + p) j ∧ μ (42 + p) j ≤ 4095 := jlt4 (P := fun p => 0 ≤ μ (42 + p) j ∧ μ (42 + p) j ≤ 4095) (h 42 j) (h 43 j) (h 44 j) (h 45 j) hp
theorem rs_si {μ : Mem} (h : rng μ) {p : Nat} (hp : p < 4) (j : Nat) {z : Int} (h0 : 0 ≤ z) (h1 : z ≤ 4095) : rng (jms μ (42 + p) j z) := jlt4 (P := fun p => rng (jms μ (42 + p) j z)) (rng_ms (k := 42) h h0 h1) (rng_ms (k := 43) h h0 h1) (rng_ms (k := 44) h h0 h1) (rng_ms (k := 45) h h0 h1) hp
theorem rg_PA_1 {μ : Mem} (h : rng μ) {p : Nat} (hp : p < 16) : 0 ≤ μ (46 + p) 1 ∧ μ (46 + p) 1 ≤ 16 := jlt16 (P := fun p => 0 ≤ μ (46 + p) 1 ∧ μ (46 + p) 1 ≤ 16) (h 46 1) (h 47 1) (h 48 1) (h 49 1) (h 50 1) (h 51 1) (h 52 1) (h 53 1) (h 54 1) (h 55 1) (h 56 1) (h 57 1) (h 58 1) (h 59 1) (h 60 1) (h 61 1) hp
theorem rs_PA_1 {μ : Mem} (h : rng μ) {p : Nat} (hp : p < 16) {z : Int} (h0 : 0 ≤ z) (h1 : z ≤ 16) : rng (jms μ (46 + p) 1 z) := jlt16 (P := fun p => rng (jms μ (46 + p) 1 z)) (rng_ms (k := 46) h h0 h1) (rng_ms (k := 47) h h0 h1) (rng_ms (k := 48) h h0 h1) (rng_ms (k := 49) h h0 h1) (rng_ms (k := 50) h h0 h1) (rng_ms (k := 51) h h0 h1) (rng_ms (k := 52) h h0 h1) (rng_ms (k := 53) h h0 h1) (rng_ms (k := 54) h h0 h1) (rng_ms (k := 55) h h0 h1) (rng_ms (k := 56) h h0 h1) (rng_ms (k := 57) h h0 h1) (rng_ms (k := 58) h h0 h1) (rng_ms (k := 59) h h0 h1) (rng_ms (k := 60) h h0 h1) (rng_ms (k := 61) h h0 h1) hp
theorem rg_PA_2 {μ : Mem} (h : rng μ) {p : Nat} (hp : p < 16) : 0 ≤ μ (46 + p) 2 ∧ μ (46 + p) 2 ≤ 16 := jlt16 (P := fun p => 0 ≤ μ (46 + p) 2 ∧ μ (46 + p) 2 ≤ 16) (h 46 2) (h 47 2) (h 48 2) (h 49 2) (h 50 2) (h 51 2) (h 52 2) (h 53 2) (h 54 2) (h 55 2) (h 56 2) (h 57 2) (h 58 2) (h 59 2) (h 60 2) (h 61 2) hp
theorem rs_PA_2 {μ : Mem} (h : rng μ) {p : Nat} (hp : p < 16) {z : Int} (h0 : 0 ≤ z) (h1 : z ≤ 16) : rng (jms μ (46 + p) 2 z) := jlt16 (P := fun p => rng (jms μ (46 + p) 2 z)) (rng_ms (k := 46) h h0 h1) (rng_ms (k := 47) h h0 h1) (rng_ms (k := 48) h h0 h1) (rng_ms (k := 49) h h0 h1) (rng_ms (k := 50) h h0 h1) (rng_ms (k := 51) h h0 h1) (rng_ms (k := 52) h h0 h1) (rng_ms (k := 53) h h0 h1) (rng_ms (k := 54) h h0 h1) (rng_ms (k := 55) h h0 h1) (rng_ms (k := 56) h h0 h1) (rng_ms (k := 57) h h0 h1) (rng_ms (k := 58) h h0 h1) (rng_ms (k := 59) h h0 h1) (rng_ms (k := 60) h h0 h1) (rng_ms (k := 61) h h0 h1) hp
theorem rg_PA_3 {μ : Mem} (h : rng μ) {p : Nat} (hp : p < 16) : (-20) ≤ μ (46 + p) 3 ∧ μ (46 + p) 3 ≤ 20 := jlt16 (P := fun p => (-20) ≤ μ (46 + p) 3 ∧ μ (46 + p) 3 ≤ 20) (h 46 3) (h 47 3) (h 48 3) (h 49 3) (h 50 3) (h 51 3) (h 52 3) (h 53 3) (h 54 3) (h 55 3) (h 56 3) (h 57 3) (h 58 3) (h 59 3) (h 60 3) (h 61 3) hp
theorem rs_PA_3 {μ : Mem} (h : rng μ) {p : Nat} (hp : p < 16) {z : Int} (h0 : (-20) ≤ z) (h1 : z ≤ 20) : rng (jms μ (46 + p) 3 z) := jlt16 (P := fun p => rng (jms μ (46 + p) 3 z)) (rng_ms (k := 46) h h0 h1) (rng_ms (k := 47) h h0 h1) (rng_ms (k := 48) h h0 h1) (rng_ms (k := 49) h h0 h1) (rng_ms (k := 50) h h0 h1) (rng_ms (k := 51) h h0 h1) (rng_ms (k := 52) h h0 h1) (rng_ms (k := 53) h h0 h1) (rng_ms (k := 54) h h0 h1) (rng_ms (k := 55) h h0 h1) (rng_ms (k := 56) h h0 h1) (rng_ms (k := 57) h h0 h1) (rng_ms (k := 58) h h0 h1) (rng_ms (k := 59) h h0 h1) (rng_ms (k := 60) h h0 h1) (rng_ms (k := 61) h h0 h1) hp
theorem rg_PA_4 {μ : Mem} (h : rng μ) {p : Nat} (hp : p < 16) : (-20) ≤ μ (46 + p) 4 ∧ μ (46 + p) 4 ≤ 20 := jlt16 (P := fun p => (-20) ≤ μ (46 + p) 4 ∧ μ (46 + p) 4 ≤ 20) (h 46 4) (h 47 4) (h 48 4) (h 49 4) (h 50 4) (h 51 4) (h 52 4) (h 53 4) (h 54 4) (h 55 4) (h 56 4) (h 57 4) (h 58 4) (h 59 4) (h 60 4) (h 61 4) hp
theorem rs_PA_4 {μ : Mem} (h : rng μ) {p : Nat} (hp : p < 16) {z : Int} (h0 : (-20) ≤ z) (h1 : z ≤ 20) : rng (jms μ (46 + p) 4 z) := jlt16 (P := fun p => rng (jms μ (46 + p) 4 z)) (rng_ms (k := 46) h h0 h1) (rng_ms (k := 47) h h0 h1) (rng_ms (k := 48) h h0 h1) (rng_ms (k := 49) h h0 h1) (rng_ms (k := 50) h h0 h1) (rng_ms (k := 51) h h0 h1) (rng_ms (k := 52) h h0 h1) (rng_ms (k := 53) h h0 h1) (rng_ms (k := 54) h h0 h1) (rng_ms (k := 55) h h0 h1) (rng_ms (k := 56) h h0 h1) (rng_ms (k := 57) h h0 h1) (rng_ms (k := 58) h h0 h1) (rng_ms (k := 59) h h0 h1) (rng_ms (k := 60) h h0 h1) (rng_ms (k := 61) h h0 h1) hp
theorem rg_pa {μ : Mem} (h : rng μ) {p : Nat} (hp : p < 16) (j : Nat) : (-6) ≤ μ (62 + p) j ∧ μ (62 + p) j ≤ 15 := jlt16 (P := fun p => (-6) ≤ μ (62 + p) j ∧ μ (62 + p) j ≤ 15) (h 62 j) (h 63 j) (h 64 j) (h 65 j) (h 66 j) (h 67 j) (h 68 j) (h 69 j) (h 70 j) (h 71 j) (h 72 j) (h 73 j) (h 74 j) (h 75 j) (h 76 j) (h 77 j) hp
theorem rs_pa {μ : Mem} (h : rng μ) {p : Nat} (hp : p < 16) (j : Nat) {z : Int} (h0 : (-6) ≤ z) (h1 : z ≤ 15) : rng (jms μ (62 + p) j z) := jlt16 (P := fun p => rng (jms μ (62 + p) j z)) (rng_ms (k := 62) h h0 h1) (rng_ms (k := 63) h h0 h1) (rng_ms (k := 64) h h0 h1) (rng_ms (k := 65) h h0 h1) (rng_ms (k := 66) h h0 h1) (rng_ms (k := 67) h h0 h1) (rng_ms (k := 68) h h0 h1) (rng_ms (k := 69) h h0 h1) (rng_ms (k := 70) h h0 h1) (rng_ms (k := 71) h h0 h1) (rng_ms (k := 72) h h0 h1) (rng_ms (k := 73) h h0 h1) (rng_ms (k := 74) h h0 h1) (rng_ms (k := 75) h h0 h1) (rng_ms (k := 76) h h0 h1) (rng_ms (k := 77) h h0 h1) hp
theorem rg_MO_0 {μ : Mem} (h : rng μ) : (-2147483648) ≤ μ 78 0 ∧ μ 78 0 ≤ 2147483647 := h 78 0
theorem rs_MO_0 {μ : Mem} (h : rng μ) {z : Int} (h0 : (-2147483648) ≤ z) (h1 : z ≤ 2147483647) : rng (jms μ 78 0 z) := rng_ms h h0 h1
theorem rg_MO_1 {μ : Mem} (h : rng μ) : 0 ≤ μ 78 1 ∧ μ 78 1 ≤ 4 := h 78 1
theorem rs_MO_1 {μ : Mem} (h : rng μ) {z : Int} (h0 : 0 ≤ z) (h1 : z ≤ 4) : rng (jms μ 78 1 z) := rng_ms h h0 h1
theorem rg_MO_5 {μ : Mem} (h : rng μ) : 1 ≤ μ 78 5 ∧ μ 78 5 ≤ 1000000 := h 78 5
theorem rs_MO_5 {μ : Mem} (h : rng μ) {z : Int} (h0 : 1 ≤ z) (h1 : z ≤ 1000000) : rng (jms μ 78 5 z) := rng_ms h h0 h1
theorem rg_MO_6 {μ : Mem} (h : rng μ) : 0 ≤ μ 78 6 ∧ μ 78 6 ≤ 12 := h 78 6
theorem rs_MO_6 {μ : Mem} (h : rng μ) {z : Int} (h0 : 0 ≤ z) (h1 : z ≤ 12) : rng (jms μ 78 6 z) := rng_ms h h0 h1
theorem rg_MO_7 {μ : Mem} (h : rng μ) : 0 ≤ μ 78 7 ∧ μ 78 7 ≤ 1 := h 78 7
theorem rs_MO_7 {μ : Mem} (h : rng μ) {z : Int} (h0 : 0 ≤ z) (h1 : z ≤ 1) : rng (jms μ 78 7 z) := rng_ms h h0 h1
theorem rg_MO_17 {μ : Mem} (h : rng μ) : 0 ≤ μ 78 17 ∧ μ 78 17 ≤ 4 := h 78 17
theorem rs_MO_17 {μ : Mem} (h : rng μ) {z : Int} (h0 : 0 ≤ z) (h1 : z ≤ 4) : rng (jms μ 78 17 z) := rng_ms h h0 h1
theorem rg_MO_22 {μ : Mem} (h : rng μ) : (-3000) ≤ μ 78 22 ∧ μ 78 22 ≤ 3000 := h 78 22
theorem rs_MO_22 {μ : Mem} (h : rng μ) {z : Int} (h0 : (-3000) ≤ z) (h1 : z ≤ 3000) : rng (jms μ 78 22 z) := rng_ms h h0 h1
theorem rg_MO_23 {μ : Mem} (h : rng μ) : (-3000) ≤ μ 78 23 ∧ μ 78 23 ≤ 3000 := h 78 23
theorem rs_MO_23 {μ : Mem} (h : rng μ) {z : Int} (h0 : (-3000) ≤ z) (h1 : z ≤ 3000) : rng (jms μ 78 23 z) := rng_ms h h0 h1
theorem rg_MO_24 {μ : Mem} (h : rng μ) : (-6000) ≤ μ 78 24 ∧ μ 78 24 ≤ 6000 := h 78 24
theorem rs_MO_24 {μ : Mem} (h : rng μ) {z : Int} (h0 : (-6000) ≤ z) (h1 : z ≤ 6000) : rng (jms μ 78 24 z) := rng_ms h h0 h1
theorem rg_MO_25 {μ : Mem} (h : rng μ) : (-6000) ≤ μ 78 25 ∧ μ 78 25 ≤ 6000 := h 78 25
theorem rs_MO_25 {μ : Mem} (h : rng μ) {z : Int} (h0 : (-6000) ≤ z) (h1 : z ≤ 6000) : rng (jms μ 78 25 z) := rng_ms h h0 h1
theorem rg_79 {μ : Mem} (h : rng μ) (j : Nat) : 0 ≤ μ 79 j ∧ μ 79 j ≤ 20 := h 79 j
theorem rs_79 {μ : Mem} (h : rng μ) (j : Nat) {z : Int} (h0 : 0 ≤ z) (h1 : z ≤ 20) : rng (jms μ 79 j z) := rng_ms h h0 h1
theorem rg_80 {μ : Mem} (h : rng μ) (j : Nat) : 0 ≤ μ 80 j ∧ μ 80 j ≤ 20 := h 80 j
theorem rs_80 {μ : Mem} (h : rng μ) (j : Nat) {z : Int} (h0 : 0 ≤ z) (h1 : z ≤ 20) : rng (jms μ 80 j z) := rng_ms h h0 h1
theorem rg_81 {μ : Mem} (h : rng μ) (j : Nat) : (-1) ≤ μ 81 j ∧ μ 81 j ≤ 255 := h 81 j
theorem rs_81 {μ : Mem} (h : rng μ) (j : Nat) {z : Int} (h0 : (-1) ≤ z) (h1 : z ≤ 255) : rng (jms μ 81 j z) := rng_ms h h0 h1
theorem rg_82 {μ : Mem} (h : rng μ) (j : Nat) : 0 ≤ μ 82 j ∧ μ 82 j ≤ 585225 := h 82 j
theorem rs_82 {μ : Mem} (h : rng μ) (j : Nat) {z : Int} (h0 : 0 ≤ z) (h1 : z ≤ 585225) : rng (jms μ 82 j z) := rng_ms h h0 h1
theorem rg_83 {μ : Mem} (h : rng μ) (j : Nat) : 0 ≤ μ 83 j ∧ μ 83 j ≤ 16 := h 83 j
theorem rs_83 {μ : Mem} (h : rng μ) (j : Nat) {z : Int} (h0 : 0 ≤ z) (h1 : z ≤ 16) : rng (jms μ 83 j z) := rng_ms h h0 h1
theorem rg_84 {μ : Mem} (h : rng μ) (j : Nat) : 0 ≤ μ 84 j ∧ μ 84 j ≤ 1599 := h 84 j
theorem rs_84 {μ : Mem} (h : rng μ) (j : Nat) {z : Int} (h0 : 0 ≤ z) (h1 : z ≤ 1599) : rng (jms μ 84 j z) := rng_ms h h0 h1
theorem rg_85 {μ : Mem} (h : rng μ) (j : Nat) : 0 ≤ μ 85 j ∧ μ 85 j ≤ 4095 := h 85 j
theorem rs_85 {μ : Mem} (h : rng μ) (j : Nat) {z : Int} (h0 : 0 ≤ z) (h1 : z ≤ 4095) : rng (jms μ 85 j z) := rng_ms h h0 h1
theorem rg_86 {μ : Mem} (h : rng μ) (j : Nat) : (-6) ≤ μ 86 j ∧ μ 86 j ≤ 15 := h 86 j
theorem rs_86 {μ : Mem} (h : rng μ) (j : Nat) {z : Int} (h0 : (-6) ≤ z) (h1 : z ≤ 15) : rng (jms μ 86 j z) := rng_ms h h0 h1
theorem rg_87 {μ : Mem} (h : rng μ) (j : Nat) : (-20) ≤ μ 87 j ∧ μ 87 j ≤ 20 := h 87 j
theorem rs_87 {μ : Mem} (h : rng μ) (j : Nat) {z : Int} (h0 : (-20) ≤ z) (h1 : z ≤ 20) : rng (jms μ 87 j z) := rng_ms h h0 h1
theorem rg_88 {μ : Mem} (h : rng μ) (j : Nat) : (-20) ≤ μ 88 j ∧ μ 88 j ≤ 20 := h 88 j
theorem rs_88 {μ : Mem} (h : rng μ) (j : Nat) {z : Int} (h0 : (-20) ≤ z) (h1 : z ≤ 20) : rng (jms μ 88 j z) := rng_ms h h0 h1
theorem rg_89 {μ : Mem} (h : rng μ) (j : Nat) : 0 ≤ μ 89 j ∧ μ 89 j ≤ 16 := h 89 j
theorem rs_89 {μ : Mem} (h : rng μ) (j : Nat) {z : Int} (h0 : 0 ≤ z) (h1 : z ≤ 16) : rng (jms μ 89 j z) := rng_ms h h0 h1
theorem rg_90 {μ : Mem} (h : rng μ) (j : Nat) : 0 ≤ μ 90 j ∧ μ 90 j ≤ 16 := h 90 j
theorem rs_90 {μ : Mem} (h : rng μ) (j : Nat) {z : Int} (h0 : 0 ≤ z) (h1 : z ≤ 16) : rng (jms μ 90 j z) := rng_ms h h0 h1
theorem rg_91 {μ : Mem} (h : rng μ) (j : Nat) : (-1000) ≤ μ 91 j ∧ μ 91 j ≤ 1000 := h 91 j
theorem rs_91 {μ : Mem} (h : rng μ) (j : Nat) {z : Int} (h0 : (-1000) ≤ z) (h1 : z ≤ 1000) : rng (jms μ 91 j z) := rng_ms h h0 h1
theorem rg_92 {μ : Mem} (h : rng μ) (j : Nat) : (-1000) ≤ μ 92 j ∧ μ 92 j ≤ 1000 := h 92 j
theorem rs_92 {μ : Mem} (h : rng μ) (j : Nat) {z : Int} (h0 : (-1000) ≤ z) (h1 : z ≤ 1000) : rng (jms μ 92 j z) := rng_ms h h0 h1
theorem rg_93 {μ : Mem} (h : rng μ) (j : Nat) : (-6) ≤ μ 93 j ∧ μ 93 j ≤ 3 := h 93 j
theorem rs_93 {μ : Mem} (h : rng μ) (j : Nat) {z : Int} (h0 : (-6) ≤ z) (h1 : z ≤ 3) : rng (jms μ 93 j z) := rng_ms h h0 h1
theorem rg_94 {μ : Mem} (h : rng μ) (j : Nat) : (-6) ≤ μ 94 j ∧ μ 94 j ≤ 3 := h 94 j
theorem rs_94 {μ : Mem} (h : rng μ) (j : Nat) {z : Int} (h0 : (-6) ≤ z) (h1 : z ≤ 3) : rng (jms μ 94 j z) := rng_ms h h0 h1
theorem rg_95 {μ : Mem} (h : rng μ) (j : Nat) : 0 ≤ μ 95 j ∧ μ 95 j ≤ 5100 := h 95 j
theorem rs_95 {μ : Mem} (h : rng μ) (j : Nat) {z : Int} (h0 : 0 ≤ z) (h1 : z ≤ 5100) : rng (jms μ 95 j z) := rng_ms h h0 h1
theorem jtd {a b : Int} (h : 0 ≤ a) : a.tdiv b = a / b := Int.tdiv_eq_ediv_of_nonneg h
theorem jtm {a b : Int} (h : 0 ≤ a) : a.tmod b = a % b := Int.tmod_eq_emod_of_nonneg h
def jfew : List (Option Sv) → List (Option Sv) → Prop
  | [], _ => True
  | none :: a, [] => jfew a []
  | none :: a, _ :: b => jfew a b
  | some _ :: _, [] => False
  | some v :: a, w :: b => w = some v ∧ jfew a b
theorem jfew_ok : ∀ {L' L : List (Option Sv)}, jfew L' L → ∀ {i : Nat} {v : Sv}, L'[i]? = some (some v) → L[i]? = some (some v)
  | [], _, _, i, v, h => by simp at h
  | none :: a, [], hf, i, v, h => by
    cases i with
    | zero => simp at h
    | succ i => rw [List.getElem?_cons_succ] at h; have := jfew_ok (L' := a) (L := []) hf h; simp at this
  | none :: a, w :: b, hf, i, v, h => by
    cases i with
    | zero => simp at h
    | succ i => rw [List.getElem?_cons_succ] at h ⊢; exact jfew_ok (L' := a) (L := b) hf h
  | some u :: a, [], hf, i, v, h => hf.elim
  | some u :: a, w :: b, hf, i, v, h => by
    cases i with
    | zero => rw [List.getElem?_cons_zero] at h ⊢; rw [hf.1]; exact h
    | succ i => rw [List.getElem?_cons_succ] at h ⊢; exact jfew_ok (L' := a) (L := b) hf.2 h
