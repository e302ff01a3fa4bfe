/-- marks done, kept by what isn't written -/
theorem MKp_fr {μ μ' : Mem} {B : Bs} {p : Nat} (h : MKp μ B p) (h0 : μ' (26 + p) = μ (26 + p)) (h1 : μ' (30 + p) = μ (30 + p)) (h2 : μ' (34 + p) = μ (34 + p)) (h3 : μ' (38 + p) = μ (38 + p)) (h4 : μ' (42 + p) = μ (42 + p)) : MKp μ' B p :=
  ⟨MAok_fr h.1 h0 h1 h2 h3, by rw [h4]; exact h.2⟩
theorem PRp_fr {μ μ' : Mem} {B : Bs} {a b : Nat} (h : PRp μ B a b) (h0 : μ' (62 + (4 * a + b)) = μ (62 + (4 * a + b))) (h1 : μ' (46 + (4 * a + b)) = μ (46 + (4 * a + b))) : PRp μ' B a b := by
  unfold PRp
  rw [h0, h1]
  exact h
theorem SVp_fr {μ μ' : Mem} {B : Bs} {p : Nat} (h : SVp μ B p) (h0 : μ' (22 + p) = μ (22 + p)) : SVp μ' B p := by
  unfold SVp
  rw [h0]
  exact h
theorem JOk_fr {μ μ' : Mem} {c : Nat} {J : Jst} (h : JOk μ c J) (h0 : μ' 2 4 = μ 2 4) (h1 : μ' 7 = μ 7) (h2 : ∀ p, p < c → μ' (10 + p) = μ (10 + p)) : JOk μ' c J := by
  refine ⟨h0.trans h.1, fun p hp => ?_, by rw [h1]; exact h.2.2⟩
  rw [h2 p hp]
  exact h.2.1 p hp
theorem jnil_pos {c : Nat} (h : 0 < c) : jnil c = jput (0, fun _ => -6, fun _ => 0, fun _ => 0, fun _ => -6) 0 0 0 (-6) := by
  have e : ¬ c = 0 := by omega
  unfold jnil jput
  refine Prod.ext (by simp [e]) (Prod.ext ?_ (Prod.ext ?_ (Prod.ext ?_ ?_)))
  · funext p; simp [e, zup]
  · funext p; simp [zup]
  · funext p; simp [zup]
  · funext p; simp [zup]
theorem JOk_put_0 {μ : Mem} {c : Nat} (h : JOk μ c (0, fun _ => -6, fun _ => 0, fun _ => 0, fun _ => -6)) (hb : 0 < c) (x y a : Int) : JOk (jms (jms (jms (jms (jms (jms μ (10 + 0) 2 x) (10 + 0) 3 y) (10 + 0) 4 a) (10 + 0) 5 (μ 2 4)) 7 (μ 2 4).toNat ((0 : Nat) : Int)) 2 4 (μ 2 4 + 1)) c (jput (0, fun _ => -6, fun _ => 0, fun _ => 0, fun _ => -6) 0 x y a) :=
  JOk_put' h hb rfl x y a
