/-! One world of numbered cells; all ints of all its cells in one memory; the machine's walks over it. -/
abbrev Sv : Type := Int ⊕ Nat
def zI (z : Int) : Int32 := Int32.ofInt z
abbrev InR (z : Int) : Prop := -2147483648 ≤ z ∧ z ≤ 2147483647
theorem zI_add (a b : Int) : zI a + zI b = zI (a + b) := (Int32.ofInt_add a b).symm
theorem zI_sub (a b : Int) : zI a - zI b = zI (a - b) := (Int32.ofInt_sub a b).symm
theorem zI_mul (a b : Int) : zI a * zI b = zI (a * b) := (Int32.ofInt_mul a b).symm
theorem zI_neg (a : Int) : -zI a = zI (-a) := (Int32.ofInt_neg a).symm
theorem zI_toInt {a : Int} (h : InR a) : (zI a).toInt = a := Int32.toInt_ofInt_of_le h.1 (Int.lt_of_le_of_lt h.2 (by decide))
theorem zI_of (x : Int32) : zI x.toInt = x := Int32.ofInt_toInt x
theorem zI_in (x : Int32) : InR x.toInt := ⟨Int32.le_toInt x, Int.le_of_lt_add_one (Int32.toInt_lt x)⟩
theorem zI_lt {a b : Int} (ha : InR a) (hb : InR b) : zI a < zI b ↔ a < b := by
  rw [Int32.lt_iff_toInt_lt, zI_toInt ha, zI_toInt hb]
theorem zI_le {a b : Int} (ha : InR a) (hb : InR b) : zI a ≤ zI b ↔ a ≤ b := by
  rw [Int32.le_iff_toInt_le, zI_toInt ha, zI_toInt hb]
theorem zI_eq {a b : Int} (ha : InR a) (hb : InR b) : zI a = zI b ↔ a = b := by
  rw [← Int32.toInt_inj, zI_toInt ha, zI_toInt hb]
theorem zI_clamp {a : Int} (ha : InR a) : (zI a).toNatClampNeg = a.toNat := by
  rw [← Int32.toNat_toInt, zI_toInt ha]
theorem zI_0 : zI 0 = 0 := by decide +kernel
theorem zI_tdiv {a b : Int} (ha : InR a) (hb : InR b) : zI a / zI b = zI (a.tdiv b) := (Int32.ofInt_tdiv ha.1 ha.2 hb.1 hb.2).symm
theorem zI_ne0 {b : Int} (h : InR b) (hb : b ≠ 0) : ¬ zI b = 0 := by
  rw [← zI_0, zI_eq h ⟨by decide, by decide⟩]; exact hb
theorem zI_rem {a b : Int} (ha : InR a) (hb : InR b) : zI a - zI a / zI b * zI b = zI (a.tmod b) := by
  rw [zI_tdiv ha hb, zI_mul, zI_sub]
  congr 1
  have := Int.tmod_add_tdiv_mul a b
  omega
theorem zI_vpin {a : Int} {n : Nat} (h0 : 0 ≤ a) (h1 : a < n) (hn : n < 2147483648) : vp_in (zI a) n := by
  have hr : InR a := ⟨by omega, by omega⟩
  rw [vp_in_iff, zI_toInt hr]
  exact ⟨h0, h1⟩
def vv (v : Sv) : Value := match v with
  | .inl z => .int (zI z)
  | .inr a => .ref a
theorem vv_cat (v : Sv) : (vv v).category = 1 := by cases v <;> rfl
/-- the locals: by their places; none: nothing is known of that one -/
def vLi : Nat → List (Option Sv) → List (Nat × Value)
  | _, [] => []
  | i, none :: l => vLi (i + 1) l
  | i, some v :: l => (i, vv v) :: vLi (i + 1) l
theorem vLi_mem : ∀ (L : List (Option Sv)) (i j : Nat) (w : Value), (j, w) ∈ vLi i L ↔ ∃ v, i ≤ j ∧ L[j - i]? = some (some v) ∧ w = vv v
  | [], i, j, w => by simp [vLi]
  | none :: l, i, j, w => by
    rw [show vLi i (none :: l) = vLi (i + 1) l from rfl, vLi_mem l (i + 1) j w]
    constructor
    · rintro ⟨v, h1, h2, h3⟩
      refine ⟨v, by omega, ?_, h3⟩
      rw [show j - i = (j - (i + 1)) + 1 by omega, List.getElem?_cons_succ]; exact h2
    · rintro ⟨v, h1, h2, h3⟩
      have hj : i ≠ j := by
        rintro rfl
        rw [Nat.sub_self, List.getElem?_cons_zero] at h2
        cases h2
      refine ⟨v, by omega, ?_, h3⟩
      rw [show j - i = (j - (i + 1)) + 1 by omega, List.getElem?_cons_succ] at h2; exact h2
  | some u :: l, i, j, w => by
    rw [show vLi i (some u :: l) = (i, vv u) :: vLi (i + 1) l from rfl, List.mem_cons, vLi_mem l (i + 1) j w]
    constructor
    · rintro (h | ⟨v, h1, h2, h3⟩)
      · cases h
        exact ⟨u, Nat.le_refl _, by rw [Nat.sub_self]; rfl, rfl⟩
      · refine ⟨v, by omega, ?_, h3⟩
        rw [show j - i = (j - (i + 1)) + 1 by omega, List.getElem?_cons_succ]; exact h2
    · rintro ⟨v, h1, h2, h3⟩
      by_cases hj : i = j
      · subst hj
        rw [Nat.sub_self, List.getElem?_cons_zero] at h2
        cases h2
        exact Or.inl (by rw [h3])
      · refine Or.inr ⟨v, by omega, ?_, h3⟩
        rw [show j - i = (j - (i + 1)) + 1 by omega, List.getElem?_cons_succ] at h2; exact h2
theorem vLi_at {ls : Array Slot} {nL : Nat} {L : List (Option Sv)} (h : lv_has ls nL (vLi 0 L)) {i : Nat} {v : Sv} (hi : L[i]? = some (some v)) : ls[i]? = some (.val (vv v)) :=
  h.2.2 (i, vv v) ((vLi_mem L 0 i (vv v)).mpr ⟨v, Nat.zero_le _, hi, rfl⟩)
theorem vLi_set {ls : Array Slot} {nL : Nat} {L L' : List (Option Sv)} {i : Nat} {v : Sv} (hL : L.set i (some v) = L') (h : lv_has ls nL ((i, vv v) :: (vLi 0 L).filter (fun q => !(q.1 == i) && !(q.1 + 1 == i && q.2.category == 2)))) : lv_has ls nL (vLi 0 L') := by
  subst hL
  refine ⟨h.1, h.2.1, fun q hq => ?_⟩
  obtain ⟨j, w⟩ := q
  obtain ⟨u, -, h2, rfl⟩ := (vLi_mem _ 0 j w).mp hq
  refine h.2.2 (j, vv u) ?_
  rw [Nat.sub_zero] at h2
  by_cases hj : i = j
  · subst hj
    have hl : i < L.length := by
      have := (List.getElem?_eq_some_iff.mp h2).1
      rwa [List.length_set] at this
    rw [List.getElem?_set_self hl] at h2
    cases h2
    exact List.mem_cons_self
  · rw [List.getElem?_set_ne hj] at h2
    refine List.mem_cons_of_mem _ (List.mem_filter.mpr ⟨(vLi_mem L 0 j _).mpr ⟨u, Nat.zero_le _, h2, rfl⟩, ?_⟩)
    simp [vv_cat, Ne.symm hj]
theorem vLi_entry : ∀ (as : List Sv) (i k : Nat), lv_args i (as.map vv) = vLi i (as.map some ++ List.replicate k none)
  | [], i, k => by
    induction k generalizing i with
    | zero => rfl
    | succ k ih => exact ih (i + 1)
  | v :: as, i, k => by
    show (i, vv v) :: lv_args (if (vv v).category = 2 then i + 2 else i + 1) (as.map vv) = (i, vv v) :: vLi (i + 1) (as.map some ++ List.replicate k none)
    rw [vv_cat, if_neg (by decide), vLi_entry as (i + 1) k]
theorem lg_sl_vv : ∀ as : List Sv, (lg_sl (as.map vv)).length = as.length
  | [] => rfl
  | v :: as => by
    have h := lg_sl_vv as
    unfold lg_sl at h ⊢
    rw [List.map_cons, List.flatMap_cons, List.length_append, h, if_neg (by rw [vv_cat]; decide), List.length_cons, List.length_cons, List.length_nil]
    omega
/-! the world -/
abbrev GT : Type := va_G × ClassId × ClassId × ClassId × (Nat → Nat) × Nat × Nat × Nat
abbrev Mem : Type := Nat → Nat → Int
def jD (G : GT) : va_G := G.1
def jI (G : GT) : ClassId := G.2.1
def jP (G : GT) : ClassId := G.2.2.1
def jQ (G : GT) : ClassId := G.2.2.2.1
def ad (G : GT) : Nat → Nat := G.2.2.2.2.1
def jz (G : GT) : Nat := G.2.2.2.2.2.1
def jwx (G : GT) : Nat := G.2.2.2.2.2.2.1
def jwy (G : GT) : Nat := G.2.2.2.2.2.2.2
abbrev jcls : List vw_C := [(RX0, TX0, 6), (RX1, TX1, 5), (RX2, TX2, 5), (RX3, TX3, 7), (RX4, TX4, 5), (RX5, TX5, 6), (RX6, TX6, 3), (RX7, TX7, 1), (RX8, TX8, 6), (RX9, TX9, 27)]
abbrev jtys (G : GT) : List (ClassId × FieldType) := [(jI G, .int), (jP G, .object RX5), (jQ G, .object RX4)]
def jA (G : GT) : Nat → Prop := fun q => jz G ≤ q
abbrev ji (f : Nat → Int) (t : Nat) : Value := .int (zI (f t))
abbrev jr (G : GT) (k : Nat) : Value := .ref (ad G k)
abbrev jia (G : GT) (n : Nat) (f : Nat → Int) : va_E := .inl (jI G, n, .inl (fun t => zI (f t)))
abbrev jqa (c : ClassId) (n : Nat) (f : Nat → Nat) : va_E := .inl (c, n, .inr (.inr (.inr (.inr (fun t => some (f t))))))
/-- what lies in the cell numbered k, with the ints f -/
def jcl (G : GT) (k : Nat) (f : Nat → Int) : va_E :=
  if k = 0 then .inr (8, [jr G 1, jr G 2, jr G 3, jr G 4, ji f 4, ji f 5])
  else if k = 1 then .inr (7, [ji f 0])
  else if k = 2 then .inr (0, [jr G 5, jr G 6, jr G 7, ji f 3, ji f 4, ji f 5])
  else if k = 3 then .inr (3, [ji f 0, ji f 1, ji f 2, ji f 3, ji f 4, ji f 5, ji f 6])
  else if k = 4 then .inr (6, [jr G 8, jr G 9, ji f 2])
  else if k = 5 then jqa (jP G) 4 (fun t => ad G (10 + t))
  else if k = 6 then jqa (jQ G) 16 (fun t => ad G (46 + t))
  else if k = 7 then jia G 4 f
  else if k = 8 then jia G 400 f
  else if k = 9 then jia G 20 f
  else if k < 14 then .inr (5, [jr G (k + 4), jr G (k + 16), ji f 2, ji f 3, ji f 4, ji f 5])
  else if k < 18 then .inr (1, [jr G (k + 4), jr G (k + 8), ji f 2, ji f 3, ji f 4])
  else if k < 26 then jia G 400 f
  else if k < 30 then .inr (2, [jr G (k + 4), jr G (k + 8), jr G (k + 12), jr G (k + 16), ji f 4])
  else if k < 46 then jia G 16 f
  else if k < 62 then .inr (4, [jr G (k + 16), ji f 1, ji f 2, ji f 3, ji f 4])
  else if k < 78 then jia G 16 f
  else if k = 78 then .inr (9, [ji f 0, ji f 1, jr G 79, jr G 80, jr G 81, ji f 5, ji f 6, ji f 7, jr G 82, jr G 83, jr G 84, jr G 85, jr G 86, jr G 87, jr G 88, jr G 89, jr G 90, ji f 17, jr G 91, jr G 92, jr G 93, jr G 94, ji f 22, ji f 23, ji f 24, ji f 25, jr G 95])
  else if k < 81 then jia G 4 f
  else if k < 83 then jia G 1600 f
  else if k = 83 then jia G 4 f
  else if k < 86 then jia G 64 f
  else if k = 86 then jia G 256 f
  else if k < 91 then jia G 16 f
  else if k < 95 then jia G 4 f
  else jia G 400 f
theorem jcl_PJ (G : GT) (f : Nat → Int) : jcl G 0 f = .inr (8, [jr G 1, jr G 2, jr G 3, jr G 4, ji f 4, ji f 5]) := rfl
theorem jcl_WO (G : GT) (f : Nat → Int) : jcl G 1 f = .inr (7, [ji f 0]) := rfl
theorem jcl_AL (G : GT) (f : Nat → Int) : jcl G 2 f = .inr (0, [jr G 5, jr G 6, jr G 7, ji f 3, ji f 4, ji f 5]) := rfl
theorem jcl_OV (G : GT) (f : Nat → Int) : jcl G 3 f = .inr (3, [ji f 0, ji f 1, ji f 2, ji f 3, ji f 4, ji f 5, ji f 6]) := rfl
theorem jcl_SE (G : GT) (f : Nat → Int) : jcl G 4 f = .inr (6, [jr G 8, jr G 9, ji f 2]) := rfl
theorem jcl_5 (G : GT) (f : Nat → Int) : jcl G 5 f = jqa (jP G) 4 (fun t => ad G (10 + t)) := rfl
theorem jcl_6 (G : GT) (f : Nat → Int) : jcl G 6 f = jqa (jQ G) 16 (fun t => ad G (46 + t)) := rfl
theorem jcl_7 (G : GT) (f : Nat → Int) : jcl G 7 f = jia G 4 f := rfl
theorem jcl_8 (G : GT) (f : Nat → Int) : jcl G 8 f = jia G 400 f := rfl
theorem jcl_9 (G : GT) (f : Nat → Int) : jcl G 9 f = jia G 20 f := rfl
theorem jlt4 {P : Nat → Prop} (h0 : P 0) (h1 : P 1) (h2 : P 2) (h3 : P 3) {p : Nat} (hp : p < 4) : P p := by
  rcases (show p = 0 ∨ p = 1 ∨ p = 2 ∨ p = 3 by omega) with rfl | rfl | rfl | rfl <;> assumption
theorem jcl_PI (G : GT) {p : Nat} (hp : p < 4) (f : Nat → Int) : jcl G (10 + p) f = .inr (5, [jr G (14 + p), jr G (26 + p), ji f 2, ji f 3, ji f 4, ji f 5]) := jlt4 (P := fun p => jcl G (10 + p) f = .inr (5, [jr G (14 + p), jr G (26 + p), ji f 2, ji f 3, ji f 4, ji f 5])) rfl rfl rfl rfl hp
theorem jcl_DO (G : GT) {p : Nat} (hp : p < 4) (f : Nat → Int) : jcl G (14 + p) f = .inr (1, [jr G (18 + p), jr G (22 + p), ji f 2, ji f 3, ji f 4]) := jlt4 (P := fun p => jcl G (14 + p) f = .inr (1, [jr G (18 + p), jr G (22 + p), ji f 2, ji f 3, ji f 4])) rfl rfl rfl rfl hp
theorem jcl_va (G : GT) {p : Nat} (hp : p < 4) (f : Nat → Int) : jcl G (18 + p) f = jia G 400 f := jlt4 (P := fun p => jcl G (18 + p) f = jia G 400 f) rfl rfl rfl rfl hp
theorem jcl_sc (G : GT) {p : Nat} (hp : p < 4) (f : Nat → Int) : jcl G (22 + p) f = jia G 400 f := jlt4 (P := fun p => jcl G (22 + p) f = jia G 400 f) rfl rfl rfl rfl hp
theorem jcl_MA (G : GT) {p : Nat} (hp : p < 4) (f : Nat → Int) : jcl G (26 + p) f = .inr (2, [jr G (30 + p), jr G (34 + p), jr G (38 + p), jr G (42 + p), ji f 4]) := jlt4 (P := fun p => jcl G (26 + p) f = .inr (2, [jr G (30 + p), jr G (34 + p), jr G (38 + p), jr G (42 + p), ji f 4])) rfl rfl rfl rfl hp
theorem jcl_co (G : GT) {p : Nat} (hp : p < 4) (f : Nat → Int) : jcl G (30 + p) f = jia G 16 f := jlt4 (P := fun p => jcl G (30 + p) f = jia G 16 f) rfl rfl rfl rfl hp
theorem jcl_ro (G : GT) {p : Nat} (hp : p < 4) (f : Nat → Int) : jcl G (34 + p) f = jia G 16 f := jlt4 (P := fun p => jcl G (34 + p) f = jia G 16 f) rfl rfl rfl rfl hp
theorem jcl_he (G : GT) {p : Nat} (hp : p < 4) (f : Nat → Int) : jcl G (38 + p) f = jia G 16 f := jlt4 (P := fun p => jcl G (38 + p) f = jia G 16 f) rfl rfl rfl rfl hp
theorem jcl_si (G : GT) {p : Nat} (hp : p < 4) (f : Nat → Int) : jcl G (42 + p) f = jia G 16 f := jlt4 (P := fun p => jcl G (42 + p) f = jia G 16 f) rfl rfl rfl rfl hp
theorem jlt16 {P : Nat → Prop} (h0 : P 0) (h1 : P 1) (h2 : P 2) (h3 : P 3) (h4 : P 4) (h5 : P 5) (h6 : P 6) (h7 : P 7) (h8 : P 8) (h9 : P 9) (h10 : P 10) (h11 : P 11) (h12 : P 12) (h13 : P 13) (h14 : P 14) (h15 : P 15) {p : Nat} (hp : p < 16) : P p := by
  rcases (show p = 0 ∨ p = 1 ∨ p = 2 ∨ p = 3 ∨ p = 4 ∨ p = 5 ∨ p = 6 ∨ p = 7 ∨ p = 8 ∨ p = 9 ∨ p = 10 ∨ p = 11 ∨ p = 12 ∨ p = 13 ∨ p = 14 ∨ p = 15 by omega) with rfl | rfl | rfl | rfl | rfl | rfl | rfl | rfl | rfl | rfl | rfl | rfl | rfl | rfl | rfl | rfl <;> assumption
theorem jcl_PA (G : GT) {q : Nat} (hq : q < 16) (f : Nat → Int) : jcl G (46 + q) f = .inr (4, [jr G (62 + q), ji f 1, ji f 2, ji f 3, ji f 4]) := jlt16 (P := fun q => jcl G (46 + q) f = .inr (4, [jr G (62 + q), ji f 1, ji f 2, ji f 3, ji f 4])) rfl rfl rfl rfl rfl rfl rfl rfl rfl rfl rfl rfl rfl rfl rfl rfl hq
theorem jcl_pa (G : GT) {q : Nat} (hq : q < 16) (f : Nat → Int) : jcl G (62 + q) f = jia G 16 f := jlt16 (P := fun q => jcl G (62 + q) f = jia G 16 f) rfl rfl rfl rfl rfl rfl rfl rfl rfl rfl rfl rfl rfl rfl rfl rfl hq
theorem jcl_MO (G : GT) (f : Nat → Int) : jcl G 78 f = .inr (9, [ji f 0, ji f 1, jr G 79, jr G 80, jr G 81, ji f 5, ji f 6, ji f 7, jr G 82, jr G 83, jr G 84, jr G 85, jr G 86, jr G 87, jr G 88, jr G 89, jr G 90, ji f 17, jr G 91, jr G 92, jr G 93, jr G 94, ji f 22, ji f 23, ji f 24, ji f 25, jr G 95]) := rfl
theorem jcl_79 (G : GT) (f : Nat → Int) : jcl G 79 f = jia G 4 f := rfl
theorem jcl_80 (G : GT) (f : Nat → Int) : jcl G 80 f = jia G 4 f := rfl
theorem jcl_81 (G : GT) (f : Nat → Int) : jcl G 81 f = jia G 1600 f := rfl
theorem jcl_82 (G : GT) (f : Nat → Int) : jcl G 82 f = jia G 1600 f := rfl
theorem jcl_83 (G : GT) (f : Nat → Int) : jcl G 83 f = jia G 4 f := rfl
theorem jcl_84 (G : GT) (f : Nat → Int) : jcl G 84 f = jia G 64 f := rfl
theorem jcl_85 (G : GT) (f : Nat → Int) : jcl G 85 f = jia G 64 f := rfl
theorem jcl_86 (G : GT) (f : Nat → Int) : jcl G 86 f = jia G 256 f := rfl
theorem jcl_87 (G : GT) (f : Nat → Int) : jcl G 87 f = jia G 16 f := rfl
theorem jcl_88 (G : GT) (f : Nat → Int) : jcl G 88 f = jia G 16 f := rfl
theorem jcl_89 (G : GT) (f : Nat → Int) : jcl G 89 f = jia G 16 f := rfl
theorem jcl_90 (G : GT) (f : Nat → Int) : jcl G 90 f = jia G 16 f := rfl
theorem jcl_91 (G : GT) (f : Nat → Int) : jcl G 91 f = jia G 4 f := rfl
theorem jcl_92 (G : GT) (f : Nat → Int) : jcl G 92 f = jia G 4 f := rfl
theorem jcl_93 (G : GT) (f : Nat → Int) : jcl G 93 f = jia G 4 f := rfl
theorem jcl_94 (G : GT) (f : Nat → Int) : jcl G 94 f = jia G 4 f := rfl
theorem jcl_95 (G : GT) (f : Nat → Int) : jcl G 95 f = jia G 400 f := rfl
/-- the heap holds the world -/
def jhw (G : GT) (μ : Mem) (H : Heap) : Prop := ∀ k : Nat, k < 96 → va_at (jD G) jcls (ad G k, jcl G k (μ k)) H
/-- one int written -/
def jms (μ : Mem) (k j : Nat) (z : Int) : Mem := fun k' j' => if k' = k ∧ j' = j then z else μ k' j'
theorem jms_same (μ : Mem) (k j : Nat) (z : Int) : jms μ k j z k j = z := by simp [jms]
theorem jms_cell (μ : Mem) (k j : Nat) (z : Int) {k' : Nat} (h : k' ≠ k) : jms μ k j z k' = μ k' := by funext j'; simp [jms, h]
theorem jms_slot (μ : Mem) (k j : Nat) (z : Int) {k' j' : Nat} (h : j' ≠ j) : jms μ k j z k' j' = μ k' j' := by simp [jms, h]
theorem jms_at (μ : Mem) (k j : Nat) (z : Int) : jms μ k j z k = fun t => if t = j then z else μ k t := by funext t; simp [jms]
def jadOK (G : GT) : Prop := (∀ i j : Nat, i < 96 → j < 96 → ad G i = ad G j → i = j) ∧ ∀ i : Nat, i < 96 → jz G ≤ ad G i
theorem jhw_put {G : GT} {μ : Mem} {H H1 : Heap} {k j : Nat} {z : Int} (hw : jhw G μ H) (hA : jadOK G) (hk : k < 96) (he : va_at (jD G) jcls (ad G k, jcl G k (fun t => if t = j then z else μ k t)) H1) (oq : ∀ q : Nat, q ≠ ad G k → H1[q]? = H[q]?) : jhw G (jms μ k j z) H1 := by
  intro i hi
  by_cases h : i = k
  · subst h
    rw [jms_at]
    exact he
  · rw [jms_cell _ _ _ _ h]
    exact (hw i hi).kept (oq _ (fun e => h (hA.1 i k hi hk e)))
/-! the words, and what every frame of ours is given -/
def jws : List Cond := lw_tbl.filter goodWord
theorem jm {w : Cond} (h : w ∈ lw_tbl) (hg : goodWord w = true) : w ∈ jws := List.mem_filter.mpr ⟨h, hg⟩
theorem jgood (y : MethodName) (cc : ByteArray) (n : Nat) (r : Option FieldType) (h : Cond.code y cc n r ∈ jws) : GoodIn jws (Cond.code y cc n r :: jws) := by
  intro w hw
  rcases List.mem_cons.mp hw with rfl | hw
  · exact ⟨h, good_of_word (List.mem_filter.mp h).2⟩
  · exact ⟨hw, good_of_word (List.mem_filter.mp hw).2⟩
def jwin : MethodName := ⟨"PictureJoin", "within", "(III)Z"⟩
def jwxv : Nat → Value := fun j => .int (zI (if j = 1 then 0 else 1))
def jwyv : Nat → Value := fun j => .int (zI (if j = 0 then 0 else if j = 3 then -1 else 1))
def jZs (G : GT) (U : State) (H : Heap) : Prop := va_Z RX1 "WAYS_X" "[I" (.ref (jwx G)) (jA G) U H ∧ va_Z RX1 "WAYS_Y" "[I" (.ref (jwy G)) (jA G) U H ∧ va_T .int (jwx G) 4 jwxv (jA G) U H ∧ va_T .int (jwy G) 4 jwyv (jA G) U H ∧ va_Nw (.methodLinkNest "PictureJoin$Dots" 39 jwin "PictureJoin") U
def jWd (G : GT) (μ : Mem) (U : State) : Prop := jhw G μ U.heap ∧ va_K (jD G) jcls (jtys G) U ∧ jZs G U U.heap ∧ jz G ≤ U.heap.size
theorem jZs.moved {G : GT} {u U : State} {H : Heap} (hW : u.WarmedH U.vm) (h : jZs G u H) : jZs G U H := ⟨va_Z.moved hW.alike h.1, va_Z.moved hW.alike h.2.1, va_T.moved hW.alike h.2.2.1, va_T.moved hW.alike h.2.2.2.1, va_Nw.warmM hW h.2.2.2.2⟩
theorem jZs.kept {G : GT} {U : State} {H H1 : Heap} (h : jZs G U H) (hq : ∀ a : Nat, a < H.size → ¬ jA G a → H1[a]? = H[a]?) : jZs G U H1 := ⟨va_Z.kept h.1 hq, va_Z.kept h.2.1 hq, va_T.kept h.2.2.1 hq, va_T.kept h.2.2.2.1 hq, h.2.2.2.2⟩
abbrev FrT : Type := Program × Launch × Env × Room × State × MethodId × Array Value × List Frame × Method × Code
def Cx (F : FrT) (G : GT) (own : String) (cc : ByteArray) (nL : Nat) (ret : Option FieldType) : Prop := match F with
  | (p, _, _, _, s, m, args, _, meth, c) => p.tables.exec = Jvm.exec ∧ c.code = cc ∧ c.maxLocals = nL ∧ s.vm.findClass own = some m.cls ∧ (∀ w ∈ jws, w.before args s = true) ∧ meth.sig.returnType = ret ∧ meth.locks = false ∧ va_K (jD G) jcls (jtys G) s ∧ jZs G s s.heap ∧ jz G ≤ s.heap.size ∧ jadOK G
def jX (F : FrT) (G : GT) (nL k n : Nat) (Q : State → Prop) (pc : Nat) (L : List (Option Sv)) (st : List Sv) (μ : Mem) : Prop := match F with
  | (p, l, e, R, s, m, args, below, meth, c) => ∀ (H : Heap) (locs : List Loc) (ls : Array Slot), jhw G μ H → va_S (jA G) s.heap H locs → lv_has ls nL (vLi 0 L) → W p l e R s m args below meth c H locs k n Q (F0 m pc ls (st.map vv))
def Dn (cc : ByteArray) (pc : Nat) (i : Instr) (n pc2 : Nat) : Prop := decode cc pc = .ok (i, n) ∧ pc2 = pc + n
def Dj (cc : ByteArray) (pc : Nat) (i : Int → Instr) (off : Int) (n pc2 tgt : Nat) : Prop := decode cc pc = .ok (i off, n) ∧ pc2 = pc + n ∧ (pc : Int) + off = (tgt : Int)
section JX
variable {F : FrT} {G : GT} {own : String} {cc : ByteArray} {nL k n : Nat} {ret : Option FieldType} {Q : State → Prop} {pc pc2 tgt : Nat} {L L' : List (Option Sv)} {st : List Sv} {μ : Mem} {off : Int}
theorem jx_iload_n (C : Cx F G own cc nL ret) {q : Fin 4} (hd : Dn cc pc (.iload_n q) 1 pc2) {z : Int} (hl : L[(q : Nat)]? = some (some (.inl z))) (kk : jX F G nL k n Q pc2 L (.inl z :: st) μ) : jX F G nL k n Q pc L st μ := by
  obtain ⟨p, l, e, R, s, m, args, below, meth, c⟩ := F
  obtain ⟨hx, hb, -⟩ := C
  obtain ⟨hd, rfl⟩ := hd
  intro H locs ls hw hS h
  exact lv_iload_n hx hb hd rfl (vLi_at h hl) (kk H locs ls hw hS h)
theorem jx_iload (C : Cx F G own cc nL ret) {q : Nat} (hd : Dn cc pc (.iload q) 2 pc2) {z : Int} (hl : L[q]? = some (some (.inl z))) (kk : jX F G nL k n Q pc2 L (.inl z :: st) μ) : jX F G nL k n Q pc L st μ := by
  obtain ⟨p, l, e, R, s, m, args, below, meth, c⟩ := F
  obtain ⟨hx, hb, -⟩ := C
  obtain ⟨hd, rfl⟩ := hd
  intro H locs ls hw hS h
  exact lv_iload hx hb hd (vLi_at h hl) (kk H locs ls hw hS h)
theorem jx_aload_n (C : Cx F G own cc nL ret) {q : Fin 4} (hd : Dn cc pc (.aload_n q) 1 pc2) {a : Nat} (hl : L[(q : Nat)]? = some (some (.inr a))) (kk : jX F G nL k n Q pc2 L (.inr a :: st) μ) : jX F G nL k n Q pc L st μ := by
  obtain ⟨p, l, e, R, s, m, args, below, meth, c⟩ := F
  obtain ⟨hx, hb, -⟩ := C
  obtain ⟨hd, rfl⟩ := hd
  intro H locs ls hw hS h
  exact lv_aload_n hx hb hd rfl (vLi_at h hl) (kk H locs ls hw hS h)
theorem jx_aload (C : Cx F G own cc nL ret) {q : Nat} (hd : Dn cc pc (.aload q) 2 pc2) {a : Nat} (hl : L[q]? = some (some (.inr a))) (kk : jX F G nL k n Q pc2 L (.inr a :: st) μ) : jX F G nL k n Q pc L st μ := by
  obtain ⟨p, l, e, R, s, m, args, below, meth, c⟩ := F
  obtain ⟨hx, hb, -⟩ := C
  obtain ⟨hd, rfl⟩ := hd
  intro H locs ls hw hS h
  exact lv_aload hx hb hd (vLi_at h hl) (kk H locs ls hw hS h)
theorem jx_istore_n (C : Cx F G own cc nL ret) {q : Fin 4} (hd : Dn cc pc (.istore_n q) 1 pc2) {z : Int} (hi : (q : Nat) < nL) (hL : L.set (q : Nat) (some (.inl z)) = L') (kk : jX F G nL k n Q pc2 L' st μ) : jX F G nL k n Q pc L (.inl z :: st) μ := by
  obtain ⟨p, l, e, R, s, m, args, below, meth, c⟩ := F
  obtain ⟨hx, hb, -⟩ := C
  obtain ⟨hd, rfl⟩ := hd
  intro H locs ls hw hS h
  exact lv_istore_n hx hb hd rfl h hi rfl (fun ls' h' => kk H locs ls' hw hS (vLi_set (v := .inl z) hL h'))
theorem jx_istore (C : Cx F G own cc nL ret) {q : Nat} (hd : Dn cc pc (.istore q) 2 pc2) {z : Int} (hi : q < nL) (hL : L.set q (some (.inl z)) = L') (kk : jX F G nL k n Q pc2 L' st μ) : jX F G nL k n Q pc L (.inl z :: st) μ := by
  obtain ⟨p, l, e, R, s, m, args, below, meth, c⟩ := F
  obtain ⟨hx, hb, -⟩ := C
  obtain ⟨hd, rfl⟩ := hd
  intro H locs ls hw hS h
  exact lv_istore hx hb hd h hi rfl (fun ls' h' => kk H locs ls' hw hS (vLi_set (v := .inl z) hL h'))
theorem jx_astore_n (C : Cx F G own cc nL ret) {q : Fin 4} (hd : Dn cc pc (.astore_n q) 1 pc2) {a : Nat} (hi : (q : Nat) < nL) (hL : L.set (q : Nat) (some (.inr a)) = L') (kk : jX F G nL k n Q pc2 L' st μ) : jX F G nL k n Q pc L (.inr a :: st) μ := by
  obtain ⟨p, l, e, R, s, m, args, below, meth, c⟩ := F
  obtain ⟨hx, hb, -⟩ := C
  obtain ⟨hd, rfl⟩ := hd
  intro H locs ls hw hS h
  exact lv_astore_n hx hb hd rfl h hi rfl (fun ls' h' => kk H locs ls' hw hS (vLi_set (v := .inr a) hL h'))
theorem jx_astore (C : Cx F G own cc nL ret) {q : Nat} (hd : Dn cc pc (.astore q) 2 pc2) {a : Nat} (hi : q < nL) (hL : L.set q (some (.inr a)) = L') (kk : jX F G nL k n Q pc2 L' st μ) : jX F G nL k n Q pc L (.inr a :: st) μ := by
  obtain ⟨p, l, e, R, s, m, args, below, meth, c⟩ := F
  obtain ⟨hx, hb, -⟩ := C
  obtain ⟨hd, rfl⟩ := hd
  intro H locs ls hw hS h
  exact lv_astore hx hb hd h hi rfl (fun ls' h' => kk H locs ls' hw hS (vLi_set (v := .inr a) hL h'))
theorem jx_iinc (C : Cx F G own cc nL ret) {q : Nat} {d : Int} (hd : Dn cc pc (.iinc q d) 3 pc2) {z : Int} (hl : L[q]? = some (some (.inl z))) (hi : q < nL) (hL : L.set q (some (.inl (z + d))) = L') (kk : jX F G nL k n Q pc2 L' st μ) : jX F G nL k n Q pc L st μ := by
  obtain ⟨p, l, e, R, s, m, args, below, meth, c⟩ := F
  obtain ⟨hx, hb, -⟩ := C
  obtain ⟨hd, rfl⟩ := hd
  intro H locs ls hw hS h
  obtain ⟨j, hj⟩ := List.getElem?_of_mem ((vLi_mem L 0 q (vv (.inl z))).mpr ⟨.inl z, Nat.zero_le _, hl, rfl⟩)
  exact lv_iinc (x := zI z) (v := zI (z + d)) hx hb hd h hj (zI_add z d) hi rfl (fun ls' h' => kk H locs ls' hw hS (vLi_set (v := .inl (z + d)) hL h'))
theorem jx_iconst (C : Cx F G own cc nL ret) {z : Int} (hd : Dn cc pc (.iconst z) 1 pc2) (kk : jX F G nL k n Q pc2 L (.inl z :: st) μ) : jX F G nL k n Q pc L st μ := by
  obtain ⟨p, l, e, R, s, m, args, below, meth, c⟩ := F
  obtain ⟨hx, hb, -⟩ := C
  obtain ⟨hd, rfl⟩ := hd
  intro H locs ls hw hS h
  exact lv_iconst hx hb hd rfl (kk H locs ls hw hS h)
theorem jx_bipush (C : Cx F G own cc nL ret) {z : Int} (hd : Dn cc pc (.bipush z) 2 pc2) (hz : (Int8.ofInt z).toInt32 = zI z) (kk : jX F G nL k n Q pc2 L (.inl z :: st) μ) : jX F G nL k n Q pc L st μ := by
  obtain ⟨p, l, e, R, s, m, args, below, meth, c⟩ := F
  obtain ⟨hx, hb, -⟩ := C
  obtain ⟨hd, rfl⟩ := hd
  intro H locs ls hw hS h
  exact lv_bipush hx hb hd hz (kk H locs ls hw hS h)
theorem jx_sipush (C : Cx F G own cc nL ret) {z : Int} (hd : Dn cc pc (.sipush z) 3 pc2) (hz : (Int16.ofInt z).toInt32 = zI z) (kk : jX F G nL k n Q pc2 L (.inl z :: st) μ) : jX F G nL k n Q pc L st μ := by
  obtain ⟨p, l, e, R, s, m, args, below, meth, c⟩ := F
  obtain ⟨hx, hb, -⟩ := C
  obtain ⟨hd, rfl⟩ := hd
  intro H locs ls hw hS h
  exact lv_sipush hx hb hd hz (kk H locs ls hw hS h)
theorem jx_ldc (C : Cx F G own cc nL ret) {i : Nat} {z : Int} {v : Int32} (hd : Dn cc pc (.ldc i) 2 pc2) (hm : Cond.constant own i v ∈ jws) (hz : v = zI z) (kk : jX F G nL k n Q pc2 L (.inl z :: st) μ) : jX F G nL k n Q pc L st μ := by
  obtain ⟨p, l, e, R, s, m, args, below, meth, c⟩ := F
  obtain ⟨hx, hb, -, hown, hts, -⟩ := C
  obtain ⟨hd, rfl⟩ := hd
  subst hz
  intro H locs ls hw hS h
  exact lv_ldc hx hb hown (hts _ hm) hd (kk H locs ls hw hS h)
theorem jx_ldcw (C : Cx F G own cc nL ret) {i : Nat} {z : Int} {v : Int32} (hd : Dn cc pc (.ldc_w i) 3 pc2) (hm : Cond.constant own i v ∈ jws) (hz : v = zI z) (kk : jX F G nL k n Q pc2 L (.inl z :: st) μ) : jX F G nL k n Q pc L st μ := by
  obtain ⟨p, l, e, R, s, m, args, below, meth, c⟩ := F
  obtain ⟨hx, hb, -, hown, hts, -⟩ := C
  obtain ⟨hd, rfl⟩ := hd
  subst hz
  intro H locs ls hw hS h
  exact lv_ldcw hx hb hown (hts _ hm) hd (kk H locs ls hw hS h)
theorem jx_iadd (C : Cx F G own cc nL ret) {a b : Int} (hd : Dn cc pc .iadd 1 pc2) (kk : jX F G nL k n Q pc2 L (.inl (a + b) :: st) μ) : jX F G nL k n Q pc L (.inl b :: .inl a :: st) μ := by
  obtain ⟨p, l, e, R, s, m, args, below, meth, c⟩ := F
  obtain ⟨hx, hb, -⟩ := C
  obtain ⟨hd, rfl⟩ := hd
  intro H locs ls hw hS h
  exact lv_iadd hx hb hd (by rw [zI_add]; exact kk H locs ls hw hS h)
theorem jx_isub (C : Cx F G own cc nL ret) {a b : Int} (hd : Dn cc pc .isub 1 pc2) (kk : jX F G nL k n Q pc2 L (.inl (a - b) :: st) μ) : jX F G nL k n Q pc L (.inl b :: .inl a :: st) μ := by
  obtain ⟨p, l, e, R, s, m, args, below, meth, c⟩ := F
  obtain ⟨hx, hb, -⟩ := C
  obtain ⟨hd, rfl⟩ := hd
  intro H locs ls hw hS h
  exact lv_isub hx hb hd (by rw [zI_sub]; exact kk H locs ls hw hS h)
theorem jx_imul (C : Cx F G own cc nL ret) {a b : Int} (hd : Dn cc pc .imul 1 pc2) (kk : jX F G nL k n Q pc2 L (.inl (a * b) :: st) μ) : jX F G nL k n Q pc L (.inl b :: .inl a :: st) μ := by
  obtain ⟨p, l, e, R, s, m, args, below, meth, c⟩ := F
  obtain ⟨hx, hb, -⟩ := C
  obtain ⟨hd, rfl⟩ := hd
  intro H locs ls hw hS h
  exact lv_imul hx hb hd (by rw [zI_mul]; exact kk H locs ls hw hS h)
theorem jx_ineg (C : Cx F G own cc nL ret) {a : Int} (hd : Dn cc pc .ineg 1 pc2) (kk : jX F G nL k n Q pc2 L (.inl (-a) :: st) μ) : jX F G nL k n Q pc L (.inl a :: st) μ := by
  obtain ⟨p, l, e, R, s, m, args, below, meth, c⟩ := F
  obtain ⟨hx, hb, -⟩ := C
  obtain ⟨hd, rfl⟩ := hd
  intro H locs ls hw hS h
  exact lv_ineg hx hb hd (by rw [zI_neg]; exact kk H locs ls hw hS h)
theorem jx_idiv (C : Cx F G own cc nL ret) {a b z : Int} (hd : Dn cc pc .idiv 1 pc2) (ha : InR a) (hb0 : 0 < b) (hbr : InR b) (hz : a.tdiv b = z) (kk : jX F G nL k n Q pc2 L (.inl z :: st) μ) : jX F G nL k n Q pc L (.inl b :: .inl a :: st) μ := by
  obtain ⟨p, l, e, R, s, m, args, below, meth, c⟩ := F
  obtain ⟨hx, hb, -⟩ := C
  obtain ⟨hd, rfl⟩ := hd
  subst hz
  intro H locs ls hw hS h
  exact lv_idiv hx hb hd (zI_ne0 hbr (by omega)) (by rw [zI_tdiv ha hbr]; exact kk H locs ls hw hS h)
theorem jx_irem (C : Cx F G own cc nL ret) {a b z : Int} (hd : Dn cc pc .irem 1 pc2) (ha : InR a) (hb0 : 0 < b) (hbr : InR b) (hz : a.tmod b = z) (kk : jX F G nL k n Q pc2 L (.inl z :: st) μ) : jX F G nL k n Q pc L (.inl b :: .inl a :: st) μ := by
  obtain ⟨p, l, e, R, s, m, args, below, meth, c⟩ := F
  obtain ⟨hx, hb, -⟩ := C
  obtain ⟨hd, rfl⟩ := hd
  subst hz
  intro H locs ls hw hS h
  exact lv_irem hx hb hd (zI_ne0 hbr (by omega)) (by rw [zI_rem ha hbr]; exact kk H locs ls hw hS h)
def zxor (a b : Int) : Int := (zI a ^^^ zI b).toInt
def zor (a b : Int) : Int := (zI a ||| zI b).toInt
def zand (a b : Int) : Int := (zI a &&& zI b).toInt
def zshl (a b : Int) : Int := (zI a <<< (zI b &&& 31)).toInt
def zshr (a b : Int) : Int := (zI a >>> (zI b &&& 31)).toInt
def zushr (a b : Int) : Int := ((zI a).toUInt32 >>> ((zI b).toUInt32 &&& Int32.toUInt32 31)).toInt32.toInt
theorem jx_ixor (C : Cx F G own cc nL ret) {a b : Int} (hd : Dn cc pc .ixor 1 pc2) (kk : jX F G nL k n Q pc2 L (.inl (zxor a b) :: st) μ) : jX F G nL k n Q pc L (.inl b :: .inl a :: st) μ := by
  obtain ⟨p, l, e, R, s, m, args, below, meth, c⟩ := F
  obtain ⟨hx, hb, -⟩ := C
  obtain ⟨hd, rfl⟩ := hd
  intro H locs ls hw hS h
  refine lv_ixor hx hb hd ?_
  have h2 := kk H locs ls hw hS h
  rw [show ((Sum.inl (zxor a b) : Sv) :: st).map vv = .int (zI (zI a ^^^ zI b).toInt) :: st.map vv from rfl, zI_of] at h2
  exact h2
theorem jx_ior (C : Cx F G own cc nL ret) {a b : Int} (hd : Dn cc pc .ior 1 pc2) (kk : jX F G nL k n Q pc2 L (.inl (zor a b) :: st) μ) : jX F G nL k n Q pc L (.inl b :: .inl a :: st) μ := by
  obtain ⟨p, l, e, R, s, m, args, below, meth, c⟩ := F
  obtain ⟨hx, hb, -⟩ := C
  obtain ⟨hd, rfl⟩ := hd
  intro H locs ls hw hS h
  refine lv_ior hx hb hd ?_
  have h2 := kk H locs ls hw hS h
  rw [show ((Sum.inl (zor a b) : Sv) :: st).map vv = .int (zI (zI a ||| zI b).toInt) :: st.map vv from rfl, zI_of] at h2
  exact h2
theorem jx_iand (C : Cx F G own cc nL ret) {a b : Int} (hd : Dn cc pc .iand 1 pc2) (kk : jX F G nL k n Q pc2 L (.inl (zand a b) :: st) μ) : jX F G nL k n Q pc L (.inl b :: .inl a :: st) μ := by
  obtain ⟨p, l, e, R, s, m, args, below, meth, c⟩ := F
  obtain ⟨hx, hb, -⟩ := C
  obtain ⟨hd, rfl⟩ := hd
  intro H locs ls hw hS h
  refine lv_iand hx hb hd ?_
  have h2 := kk H locs ls hw hS h
  rw [show ((Sum.inl (zand a b) : Sv) :: st).map vv = .int (zI (zI a &&& zI b).toInt) :: st.map vv from rfl, zI_of] at h2
  exact h2
theorem jx_ishl (C : Cx F G own cc nL ret) {a b : Int} (hd : Dn cc pc .ishl 1 pc2) (kk : jX F G nL k n Q pc2 L (.inl (zshl a b) :: st) μ) : jX F G nL k n Q pc L (.inl b :: .inl a :: st) μ := by
  obtain ⟨p, l, e, R, s, m, args, below, meth, c⟩ := F
  obtain ⟨hx, hb, -⟩ := C
  obtain ⟨hd, rfl⟩ := hd
  intro H locs ls hw hS h
  refine lv_ishl hx hb hd ?_
  have h2 := kk H locs ls hw hS h
  rw [show ((Sum.inl (zshl a b) : Sv) :: st).map vv = .int (zI (zI a <<< (zI b &&& 31)).toInt) :: st.map vv from rfl, zI_of] at h2
  exact h2
theorem jx_ishr (C : Cx F G own cc nL ret) {a b : Int} (hd : Dn cc pc .ishr 1 pc2) (kk : jX F G nL k n Q pc2 L (.inl (zshr a b) :: st) μ) : jX F G nL k n Q pc L (.inl b :: .inl a :: st) μ := by
  obtain ⟨p, l, e, R, s, m, args, below, meth, c⟩ := F
  obtain ⟨hx, hb, -⟩ := C
  obtain ⟨hd, rfl⟩ := hd
  intro H locs ls hw hS h
  refine lv_ishr hx hb hd ?_
  have h2 := kk H locs ls hw hS h
  rw [show ((Sum.inl (zshr a b) : Sv) :: st).map vv = .int (zI (zI a >>> (zI b &&& 31)).toInt) :: st.map vv from rfl, zI_of] at h2
  exact h2
theorem jx_iushr (C : Cx F G own cc nL ret) {a b : Int} (hd : Dn cc pc .iushr 1 pc2) (kk : jX F G nL k n Q pc2 L (.inl (zushr a b) :: st) μ) : jX F G nL k n Q pc L (.inl b :: .inl a :: st) μ := by
  obtain ⟨p, l, e, R, s, m, args, below, meth, c⟩ := F
  obtain ⟨hx, hb, -⟩ := C
  obtain ⟨hd, rfl⟩ := hd
  intro H locs ls hw hS h
  refine lv_iushr hx hb hd rfl ?_
  have h2 := kk H locs ls hw hS h
  rw [show ((Sum.inl (zushr a b) : Sv) :: st).map vv = .int (zI ((zI a).toUInt32 >>> ((zI b).toUInt32 &&& Int32.toUInt32 31)).toInt32.toInt) :: st.map vv from rfl, zI_of] at h2
  exact h2
theorem jx_dup (C : Cx F G own cc nL ret) {v : Sv} (hd : Dn cc pc .dup 1 pc2) (kk : jX F G nL k n Q pc2 L (v :: v :: st) μ) : jX F G nL k n Q pc L (v :: st) μ := by
  obtain ⟨p, l, e, R, s, m, args, below, meth, c⟩ := F
  obtain ⟨hx, hb, -⟩ := C
  obtain ⟨hd, rfl⟩ := hd
  intro H locs ls hw hS h
  exact lv_dup hx hb hd (vv_cat v) (kk H locs ls hw hS h)
theorem jx_dup2 (C : Cx F G own cc nL ret) {v w : Sv} (hd : Dn cc pc .dup2 1 pc2) (kk : jX F G nL k n Q pc2 L (v :: w :: v :: w :: st) μ) : jX F G nL k n Q pc L (v :: w :: st) μ := by
  obtain ⟨p, l, e, R, s, m, args, below, meth, c⟩ := F
  obtain ⟨hx, hb, -⟩ := C
  obtain ⟨hd, rfl⟩ := hd
  intro H locs ls hw hS h
  exact lv_dup2_11 hx hb hd (vv_cat v) (vv_cat w) (kk H locs ls hw hS h)
theorem jx_goto (C : Cx F G own cc nL ret) (hd : Dj cc pc .goto off 3 pc2 tgt) (kk : jX F G nL k n Q tgt L st μ) : jX F G nL k n Q pc L st μ := by
  obtain ⟨p, l, e, R, s, m, args, below, meth, c⟩ := F
  obtain ⟨hx, hb, -⟩ := C
  obtain ⟨hd, -, ht⟩ := hd
  intro H locs ls hw hS h
  exact lv_goto hx hb hd ht (kk H locs ls hw hS h)
theorem jx_icmp_lt (C : Cx F G own cc nL ret) {a b : Int} (hd : Dj cc pc (fun o => .if_icmp .lt o) off 3 pc2 tgt) (ha : InR a) (hb : InR b) (kt : a < b → jX F G nL k n Q tgt L st μ) (kf : ¬ a < b → jX F G nL k n Q pc2 L st μ) : jX F G nL k n Q pc L (.inl b :: .inl a :: st) μ := by
  obtain ⟨p, l, e, R, s, m, args, below, meth, c⟩ := F
  obtain ⟨hx, hbb, -⟩ := C
  obtain ⟨hd, rfl, ht⟩ := hd
  intro H locs ls hw hS h
  exact lv_icmp_lt hx hbb hd ht (fun q => kt (by rw [zI_lt ha hb] at q; exact q) H locs ls hw hS h) (fun q => kf (by rw [zI_lt ha hb] at q; exact q) H locs ls hw hS h)
theorem jx_if_lt (C : Cx F G own cc nL ret) {a : Int} (hd : Dj cc pc (fun o => .ifCond .lt o) off 3 pc2 tgt) (ha : InR a) (kt : a < 0 → jX F G nL k n Q tgt L st μ) (kf : ¬ a < 0 → jX F G nL k n Q pc2 L st μ) : jX F G nL k n Q pc L (.inl a :: st) μ := by
  obtain ⟨p, l, e, R, s, m, args, below, meth, c⟩ := F
  obtain ⟨hx, hbb, -⟩ := C
  obtain ⟨hd, rfl, ht⟩ := hd
  intro H locs ls hw hS h
  exact lv_if_lt hx hbb hd ht (fun q => kt (by rw [← zI_0, zI_lt ha (⟨by decide, by decide⟩ : InR 0)] at q; exact q) H locs ls hw hS h) (fun q => kf (by rw [← zI_0, zI_lt ha (⟨by decide, by decide⟩ : InR 0)] at q; exact q) H locs ls hw hS h)
theorem jx_icmp_ge (C : Cx F G own cc nL ret) {a b : Int} (hd : Dj cc pc (fun o => .if_icmp .ge o) off 3 pc2 tgt) (ha : InR a) (hb : InR b) (kt : b ≤ a → jX F G nL k n Q tgt L st μ) (kf : ¬ b ≤ a → jX F G nL k n Q pc2 L st μ) : jX F G nL k n Q pc L (.inl b :: .inl a :: st) μ := by
  obtain ⟨p, l, e, R, s, m, args, below, meth, c⟩ := F
  obtain ⟨hx, hbb, -⟩ := C
  obtain ⟨hd, rfl, ht⟩ := hd
  intro H locs ls hw hS h
  exact lv_icmp_ge hx hbb hd ht (fun q => kt (by rw [zI_le hb ha] at q; exact q) H locs ls hw hS h) (fun q => kf (by rw [zI_le hb ha] at q; exact q) H locs ls hw hS h)
theorem jx_if_ge (C : Cx F G own cc nL ret) {a : Int} (hd : Dj cc pc (fun o => .ifCond .ge o) off 3 pc2 tgt) (ha : InR a) (kt : 0 ≤ a → jX F G nL k n Q tgt L st μ) (kf : ¬ 0 ≤ a → jX F G nL k n Q pc2 L st μ) : jX F G nL k n Q pc L (.inl a :: st) μ := by
  obtain ⟨p, l, e, R, s, m, args, below, meth, c⟩ := F
  obtain ⟨hx, hbb, -⟩ := C
  obtain ⟨hd, rfl, ht⟩ := hd
  intro H locs ls hw hS h
  exact lv_if_ge hx hbb hd ht (fun q => kt (by rw [← zI_0, zI_le (⟨by decide, by decide⟩ : InR 0) ha] at q; exact q) H locs ls hw hS h) (fun q => kf (by rw [← zI_0, zI_le (⟨by decide, by decide⟩ : InR 0) ha] at q; exact q) H locs ls hw hS h)
theorem jx_icmp_gt (C : Cx F G own cc nL ret) {a b : Int} (hd : Dj cc pc (fun o => .if_icmp .gt o) off 3 pc2 tgt) (ha : InR a) (hb : InR b) (kt : b < a → jX F G nL k n Q tgt L st μ) (kf : ¬ b < a → jX F G nL k n Q pc2 L st μ) : jX F G nL k n Q pc L (.inl b :: .inl a :: st) μ := by
  obtain ⟨p, l, e, R, s, m, args, below, meth, c⟩ := F
  obtain ⟨hx, hbb, -⟩ := C
  obtain ⟨hd, rfl, ht⟩ := hd
  intro H locs ls hw hS h
  exact lv_icmp_gt hx hbb hd ht (fun q => kt (by rw [zI_lt hb ha] at q; exact q) H locs ls hw hS h) (fun q => kf (by rw [zI_lt hb ha] at q; exact q) H locs ls hw hS h)
theorem jx_if_gt (C : Cx F G own cc nL ret) {a : Int} (hd : Dj cc pc (fun o => .ifCond .gt o) off 3 pc2 tgt) (ha : InR a) (kt : 0 < a → jX F G nL k n Q tgt L st μ) (kf : ¬ 0 < a → jX F G nL k n Q pc2 L st μ) : jX F G nL k n Q pc L (.inl a :: st) μ := by
  obtain ⟨p, l, e, R, s, m, args, below, meth, c⟩ := F
  obtain ⟨hx, hbb, -⟩ := C
  obtain ⟨hd, rfl, ht⟩ := hd
  intro H locs ls hw hS h
  exact lv_if_gt hx hbb hd ht (fun q => kt (by rw [← zI_0, zI_lt (⟨by decide, by decide⟩ : InR 0) ha] at q; exact q) H locs ls hw hS h) (fun q => kf (by rw [← zI_0, zI_lt (⟨by decide, by decide⟩ : InR 0) ha] at q; exact q) H locs ls hw hS h)
theorem jx_icmp_le (C : Cx F G own cc nL ret) {a b : Int} (hd : Dj cc pc (fun o => .if_icmp .le o) off 3 pc2 tgt) (ha : InR a) (hb : InR b) (kt : a ≤ b → jX F G nL k n Q tgt L st μ) (kf : ¬ a ≤ b → jX F G nL k n Q pc2 L st μ) : jX F G nL k n Q pc L (.inl b :: .inl a :: st) μ := by
  obtain ⟨p, l, e, R, s, m, args, below, meth, c⟩ := F
  obtain ⟨hx, hbb, -⟩ := C
  obtain ⟨hd, rfl, ht⟩ := hd
  intro H locs ls hw hS h
  exact lv_icmp_le hx hbb hd ht (fun q => kt (by rw [zI_le ha hb] at q; exact q) H locs ls hw hS h) (fun q => kf (by rw [zI_le ha hb] at q; exact q) H locs ls hw hS h)
theorem jx_if_le (C : Cx F G own cc nL ret) {a : Int} (hd : Dj cc pc (fun o => .ifCond .le o) off 3 pc2 tgt) (ha : InR a) (kt : a ≤ 0 → jX F G nL k n Q tgt L st μ) (kf : ¬ a ≤ 0 → jX F G nL k n Q pc2 L st μ) : jX F G nL k n Q pc L (.inl a :: st) μ := by
  obtain ⟨p, l, e, R, s, m, args, below, meth, c⟩ := F
  obtain ⟨hx, hbb, -⟩ := C
  obtain ⟨hd, rfl, ht⟩ := hd
  intro H locs ls hw hS h
  exact lv_if_le hx hbb hd ht (fun q => kt (by rw [← zI_0, zI_le ha (⟨by decide, by decide⟩ : InR 0)] at q; exact q) H locs ls hw hS h) (fun q => kf (by rw [← zI_0, zI_le ha (⟨by decide, by decide⟩ : InR 0)] at q; exact q) H locs ls hw hS h)
theorem jx_icmp_eq (C : Cx F G own cc nL ret) {a b : Int} (hd : Dj cc pc (fun o => .if_icmp .eq o) off 3 pc2 tgt) (ha : InR a) (hb : InR b) (kt : a = b → jX F G nL k n Q tgt L st μ) (kf : ¬ a = b → jX F G nL k n Q pc2 L st μ) : jX F G nL k n Q pc L (.inl b :: .inl a :: st) μ := by
  obtain ⟨p, l, e, R, s, m, args, below, meth, c⟩ := F
  obtain ⟨hx, hbb, -⟩ := C
  obtain ⟨hd, rfl, ht⟩ := hd
  intro H locs ls hw hS h
  exact lv_icmp_eq hx hbb hd ht (fun q => kt (by rw [zI_eq ha hb] at q; exact q) H locs ls hw hS h) (fun q => kf (by rw [zI_eq ha hb] at q; exact q) H locs ls hw hS h)
theorem jx_if_eq (C : Cx F G own cc nL ret) {a : Int} (hd : Dj cc pc (fun o => .ifCond .eq o) off 3 pc2 tgt) (ha : InR a) (kt : a = 0 → jX F G nL k n Q tgt L st μ) (kf : ¬ a = 0 → jX F G nL k n Q pc2 L st μ) : jX F G nL k n Q pc L (.inl a :: st) μ := by
  obtain ⟨p, l, e, R, s, m, args, below, meth, c⟩ := F
  obtain ⟨hx, hbb, -⟩ := C
  obtain ⟨hd, rfl, ht⟩ := hd
  intro H locs ls hw hS h
  exact lv_if_eq hx hbb hd ht (fun q => kt (by rw [← zI_0, zI_eq ha (⟨by decide, by decide⟩ : InR 0)] at q; exact q) H locs ls hw hS h) (fun q => kf (by rw [← zI_0, zI_eq ha (⟨by decide, by decide⟩ : InR 0)] at q; exact q) H locs ls hw hS h)
theorem jx_icmp_ne (C : Cx F G own cc nL ret) {a b : Int} (hd : Dj cc pc (fun o => .if_icmp .ne o) off 3 pc2 tgt) (ha : InR a) (hb : InR b) (kt : ¬ a = b → jX F G nL k n Q tgt L st μ) (kf : a = b → jX F G nL k n Q pc2 L st μ) : jX F G nL k n Q pc L (.inl b :: .inl a :: st) μ := by
  obtain ⟨p, l, e, R, s, m, args, below, meth, c⟩ := F
  obtain ⟨hx, hbb, -⟩ := C
  obtain ⟨hd, rfl, ht⟩ := hd
  intro H locs ls hw hS h
  exact lv_icmp_ne hx hbb hd ht (fun q => kt (by rw [zI_eq ha hb] at q; exact q) H locs ls hw hS h) (fun q => kf (by rw [zI_eq ha hb] at q; exact q) H locs ls hw hS h)
theorem jx_if_ne (C : Cx F G own cc nL ret) {a : Int} (hd : Dj cc pc (fun o => .ifCond .ne o) off 3 pc2 tgt) (ha : InR a) (kt : ¬ a = 0 → jX F G nL k n Q tgt L st μ) (kf : a = 0 → jX F G nL k n Q pc2 L st μ) : jX F G nL k n Q pc L (.inl a :: st) μ := by
  obtain ⟨p, l, e, R, s, m, args, below, meth, c⟩ := F
  obtain ⟨hx, hbb, -⟩ := C
  obtain ⟨hd, rfl, ht⟩ := hd
  intro H locs ls hw hS h
  exact lv_if_ne hx hbb hd ht (fun q => kt (by rw [← zI_0, zI_eq ha (⟨by decide, by decide⟩ : InR 0)] at q; exact q) H locs ls hw hS h) (fun q => kf (by rw [← zI_0, zI_eq ha (⟨by decide, by decide⟩ : InR 0)] at q; exact q) H locs ls hw hS h)
theorem jx_tableIn (C : Cx F G own cc nL ret) {z dflt lo hi : Int} {offs : Array Int} {len : Nat} (hd : Dn cc pc (.tableswitch dflt lo hi offs) len pc2) (hz : InR z) (h1 : lo ≤ z) (h2 : z ≤ hi) (ho : offs[(z - lo).toNat]? = some off) (ht : (pc : Int) + off = (tgt : Int)) (kk : jX F G nL k n Q tgt L st μ) : jX F G nL k n Q pc L (.inl z :: st) μ := by
  obtain ⟨p, l, e, R, s, m, args, below, meth, c⟩ := F
  obtain ⟨hx, hbb, -⟩ := C
  obtain ⟨hd, rfl⟩ := hd
  intro H locs ls hw hS h
  exact lv_tableIn hx hbb hd (by rw [zI_toInt hz]; omega) (by rw [zI_toInt hz]; omega) (by rw [zI_toInt hz]; exact ho) ht (kk H locs ls hw hS h)
theorem jx_tableOut (C : Cx F G own cc nL ret) {z dflt lo hi : Int} {offs : Array Int} {len : Nat} (hd : Dn cc pc (.tableswitch dflt lo hi offs) len pc2) (hz : InR z) (h1 : z < lo ∨ hi < z) (ht : (pc : Int) + dflt = (tgt : Int)) (kk : jX F G nL k n Q tgt L st μ) : jX F G nL k n Q pc L (.inl z :: st) μ := by
  obtain ⟨p, l, e, R, s, m, args, below, meth, c⟩ := F
  obtain ⟨hx, hbb, -⟩ := C
  obtain ⟨hd, rfl⟩ := hd
  intro H locs ls hw hS h
  exact lv_tableOut hx hbb hd (by rw [zI_toInt hz]; exact h1) ht (kk H locs ls hw hS h)
theorem jx_lookup (C : Cx F G own cc nL ret) {z dflt : Int} {ps : Array (Int × Int)} {len : Nat} (hd : Dn cc pc (.lookupswitch dflt ps) len pc2) (hz : InR z) (hp : (ps.toList.zip (ps.toList.drop 1)).all (fun (a, next) => a.1 < next.1) = true) (ho : Op.lookupswitch.offset ps.toList dflt z = off) (ht : (pc : Int) + off = (tgt : Int)) (kk : jX F G nL k n Q tgt L st μ) : jX F G nL k n Q pc L (.inl z :: st) μ := by
  obtain ⟨p, l, e, R, s, m, args, below, meth, c⟩ := F
  obtain ⟨hx, hbb, -⟩ := C
  obtain ⟨hd, rfl⟩ := hd
  intro H locs ls hw hS h
  exact lv_lookup hx hbb hd hp (by rw [zI_toInt hz]; exact ho) ht (kk H locs ls hw hS h)
/-- the int on the top, by another name of the same number -/
theorem jx_top {a b : Int} (h : a = b) (kk : jX F G nL k n Q pc L (.inl b :: st) μ) : jX F G nL k n Q pc L (.inl a :: st) μ := by
  subst h; exact kk
theorem jx_nm {a : Int} (kk : ∀ b : Int, b = a → jX F G nL k n Q pc L (.inl b :: st) μ) : jX F G nL k n Q pc L (.inl a :: st) μ := kk a rfl
theorem jx_st {st' : List Sv} (h : st = st') (kk : jX F G nL k n Q pc L st' μ) : jX F G nL k n Q pc L st μ := by
  subst h; exact kk
theorem jx_lo (h : L = L') (kk : jX F G nL k n Q pc L' st μ) : jX F G nL k n Q pc L st μ := by
  subst h; exact kk
/-- fewer locals are known -/
theorem jx_fewer (h : ∀ (i : Nat) (v : Sv), L'[i]? = some (some v) → L[i]? = some (some v)) (kk : jX F G nL k n Q pc L' st μ) : jX F G nL k n Q pc L st μ := by
  obtain ⟨p, l, e, R, s, m, args, below, meth, c⟩ := F
  intro H locs ls hw hS hl
  refine kk H locs ls hw hS ⟨hl.1, hl.2.1, fun q hq => ?_⟩
  obtain ⟨j, w⟩ := q
  obtain ⟨u, -, h2, rfl⟩ := (vLi_mem L' 0 j w).mp hq
  exact vLi_at hl (h _ _ h2)
/-- a class's own table: its number, its words -/
def FT (ci : Nat) (Cn : String) (T : u_T) (N : Nat) (ty : Nat → FieldType) : Prop := jcls[ci]? = some (Cn, T, N) ∧ (∀ w ∈ u_ws Cn T N, w ∈ jws) ∧ (∀ j, j < N → parseFieldDescriptor (T j).2.2.1 = some (ty j)) ∧ (∀ a, a < N → ∀ b, b < N → a ≠ b → (T a).2.1 ≠ (T b).2.1)
theorem jx_get (C : Cx F G own cc nL ret) {q ci idx N : Nat} {Cn : String} {T : u_T} {ty : Nat → FieldType} {fs : List Value} (j : Nat) {v : Sv} (ft : FT ci Cn T N ty) (he : jcl G q (μ q) = .inr (ci, fs)) (hv : fs[j]? = some (vv v)) (hj : j < N) (hq : q < 96) (fl : Cond.fieldLink own idx (T j).1 (T j).2.1 (T j).2.2.1 ∈ jws) (hd : Dn cc pc (.getfield idx) 3 pc2) (kk : jX F G nL k n Q pc2 L (v :: st) μ) : jX F G nL k n Q pc L (.inr (ad G q) :: st) μ := by
  obtain ⟨p, l, e, R, s, m, args, below, meth, c⟩ := F
  obtain ⟨hx, hb, -, hown, hts, -, -, hK, -⟩ := C
  obtain ⟨hd, rfl⟩ := hd
  intro H locs ls hw hS h
  have hP : va_P (jD G) jcls [(ad G q, .inr (ci, fs))] H := by
    intro i x hi
    have := hw q hq
    rw [he] at this
    cases i with
    | zero => cases hi; exact this
    | succ i => simp at hi
  exact va_get (D := jD G) hx hb hts ft.2.1 hown hK hP 0 rfl ft.1 j hj (hts _ fl) (fun _ h9 => h9) hv hd (kk H locs ls hw hS h)
theorem jx_put (C : Cx F G own cc nL ret) {q ci idx N : Nat} {Cn : String} {T : u_T} {ty : Nat → FieldType} {fs : List Value} {z : Int} (j : Nat) (ft : FT ci Cn T N ty) (he : jcl G q (μ q) = .inr (ci, fs)) (he2 : jcl G q (fun t => if t = j then z else μ q t) = .inr (ci, fs.set j (.int (zI z)))) (hj : j < N) (hq : q < 96) (hfin : (T j).2.2.2 = false) (hty : ty j = .int ∨ (ty j = .boolean ∧ (z = 0 ∨ z = 1))) (hl : j < fs.length) (fl : Cond.fieldLink own idx (T j).1 (T j).2.1 (T j).2.2.1 ∈ jws) (hd : Dn cc pc (.putfield idx) 3 pc2) (kk : jX F G nL k n Q pc2 L st (jms μ q j z)) : jX F G nL k n Q pc L (.inl z :: .inr (ad G q) :: st) μ := by
  obtain ⟨p, l, e, R, s, m, args, below, meth, c⟩ := F
  obtain ⟨hx, hb, -, hown, hts, -, -, hK, -, -, hA⟩ := C
  obtain ⟨hd, rfl⟩ := hd
  intro H locs ls hw hS h
  have hq0 := hw q hq
  rw [he] at hq0
  have hnf : narrow (ty j) (.int (zI z)) = .int (zI z) ∧ fits (ty j) (.int (zI z)) = true := by
    rcases hty with h1 | ⟨h1, rfl | rfl⟩
    · rw [h1]; exact ⟨rfl, rfl⟩
    · rw [h1]; exact ⟨by decide +kernel, by decide +kernel⟩
    · rw [h1]; exact ⟨by decide +kernel, by decide +kernel⟩
  have hap := va_apart (own := own) hts ft.2.1 ty ft.2.2.1 ft.2.2.2 hK ft.1
  obtain ⟨r, h1, cell, q1, q2, q3, q4⟩ := hq0
  have hr : r = (Cn, T, N) := Option.some.inj (h1.symm.trans ft.1)
  subst hr
  obtain ⟨hSl, hfc, kC, hkC, hkind⟩ := hK.1 ci _ ft.1
  obtain ⟨cf, kf, fi, f, hi, hsl⟩ := hSl j hj
  have hlay := hts _ (ft.2.1 _ (u_in_lay hj))
  unfold u_lay at hlay
  rw [if_neg (by rw [hfin]; decide)] at hlay
  have hst := (u_facts hfc hkC (u_lays hts ft.2.1 hj) hi).1
  have h6 := u_store hfc hkC hkind hlay hi (ft.2.2.1 j hj) hnf.1 hnf.2
  refine W.putK hx hb (f := f) ⟨hown, hts _ fl, ⟨_, _, _, hi⟩, hst⟩ (by rw [q2]; exact h6) q1 q3 (by rw [hsl]; exact k2_hasslot (q4 j hj)) rfl rfl hd fun H' e1 e2 e3 => ?_
  rw [hsl] at e1 ⊢
  refine kk H' _ ls (jhw_put hw hA hq ?_ e3) (hS.put e2 e3 (hA.2 q hq)) h
  rw [he2]
  exact ⟨_, ft.1, t_OB.to (V := updV (vp_V fs) j (.int (zI z))) ⟨_, e1, q2, q3, t_set q4 hap hj _⟩ (fun i _ => vp_updV_set hl _ i)⟩
theorem jx_iald (C : Cx F G own cc nL ret) {q N : Nat} {i : Int} (he : jcl G q (μ q) = jia G N (μ q)) (hq : q < 96) (h0 : 0 ≤ i) (h1 : i < N) (hN : N < 2147483648) (hd : Dn cc pc .iaload 1 pc2) (kk : jX F G nL k n Q pc2 L (.inl (μ q i.toNat) :: st) μ) : jX F G nL k n Q pc L (.inl i :: .inr (ad G q) :: st) μ := by
  obtain ⟨p, l, e, R, s, m, args, below, meth, c⟩ := F
  obtain ⟨hx, hb, -, hown, hts, -, -, hK, -⟩ := C
  obtain ⟨hd, rfl⟩ := hd
  intro H locs ls hw hS h
  have hP : va_P (jD G) jcls [(ad G q, jia G N (μ q))] H := by
    intro x y hx
    have := hw q hq
    rw [he] at this
    cases x with
    | zero => cases hx; exact this
    | succ x => simp at hx
  refine va_iald (D := jD G) (tys := jtys G) hx hb hK hP 0 0 rfl rfl (zI_vpin h0 h1 hN) hd ?_
  rw [zI_clamp ⟨by omega, by omega⟩]
  exact kk H locs ls hw hS h
theorem jx_iast (C : Cx F G own cc nL ret) {q N : Nat} {i z : Int} (he : jcl G q (μ q) = jia G N (μ q)) (he2 : jcl G q (fun t => if t = i.toNat then z else μ q t) = jia G N (fun t => if t = i.toNat then z else μ q t)) (hq : q < 96) (h0 : 0 ≤ i) (h1 : i < N) (hN : N < 2147483648) (hd : Dn cc pc .iastore 1 pc2) (kk : jX F G nL k n Q pc2 L st (jms μ q i.toNat z)) : jX F G nL k n Q pc L (.inl z :: .inl i :: .inr (ad G q) :: st) μ := by
  obtain ⟨p, l, e, R, s, m, args, below, meth, c⟩ := F
  obtain ⟨hx, hb, -, hown, hts, -, -, hK, -, -, hA⟩ := C
  obtain ⟨hd, rfl⟩ := hd
  intro H locs ls hw hS h
  have hq0 : H[ad G q]? = some (vp_cell (jI G) (N, .inl (fun t => zI (μ q t)))) := by
    have := hw q hq
    rw [he] at this
    exact this
  have hir : InR i := ⟨by omega, by omega⟩
  refine W.iast hx hb hq0 ((hK.2 0 _ rfl).1 N (fun j => .int (zI (μ q j)))) (fun q => by cases q) (by show ¬ (zI i < 0 ∨ (arrV _ _ _).slots.size ≤ _); rw [arrV_size]; exact zI_vpin h0 h1 hN) rfl rfl hd fun H1 e z0 oq => ?_
  refine kk H1 _ ls (jhw_put hw hA hq ?_ oq) (hS.put z0 oq (hA.2 q hq)) h
  rw [he2]
  show H1[ad G q]? = some (vp_cell _ _)
  rw [e, vp_cell_i, vp_cell_i, arrV_store]
  congr 2
  funext t
  rw [zI_clamp hir]
  by_cases ht : t = i.toNat
  · subst ht
    simp [updV]
  · simp [updV, ht]
theorem jx_aald (C : Cx F G own cc nL ret) {q N b t0 : Nat} {cA : ClassId} {Cn : String} {i : Int} {p' : Nat} (he : jcl G q (μ q) = jqa cA N (fun t => ad G (b + t))) (ht : (jtys G)[t0]? = some (cA, .object Cn)) (hq : q < 96) (hi : i = (p' : Int)) (h1 : p' < N) (hN : N < 2147483648) (hd : Dn cc pc .aaload 1 pc2) (kk : jX F G nL k n Q pc2 L (.inr (ad G (b + p')) :: st) μ) : jX F G nL k n Q pc L (.inl i :: .inr (ad G q) :: st) μ := by
  obtain ⟨p, l, e, R, s, m, args, below, meth, c⟩ := F
  obtain ⟨hx, hb, -, hown, hts, -, -, hK, -⟩ := C
  obtain ⟨hd, rfl⟩ := hd
  subst hi
  intro H locs ls hw hS h
  have hP : va_P (jD G) jcls [(ad G q, jqa cA N (fun t => ad G (b + t)))] H := by
    intro x y hx
    have := hw q hq
    rw [he] at this
    cases x with
    | zero => cases hx; exact this
    | succ x => simp at hx
  refine va_aldq (D := jD G) (tys := jtys G) hx hb hK hP 0 t0 rfl ht (zI_vpin (by omega) (by omega) hN) hd ?_
  rw [zI_clamp ⟨by omega, by omega⟩]
  exact kk H locs ls hw hS h
theorem jx_alen (C : Cx F G own cc nL ret) {q N : Nat} (he : jcl G q (μ q) = jia G N (μ q)) (hq : q < 96) (hd : Dn cc pc .arraylength 1 pc2) (kk : jX F G nL k n Q pc2 L (.inl (N : Int) :: st) μ) : jX F G nL k n Q pc L (.inr (ad G q) :: st) μ := by
  obtain ⟨p, l, e, R, s, m, args, below, meth, c⟩ := F
  obtain ⟨hx, hb, -, hown, hts, -, -, hK, -⟩ := C
  obtain ⟨hd, rfl⟩ := hd
  intro H locs ls hw hS h
  have hP : va_P (jD G) jcls [(ad G q, jia G N (μ q))] H := by
    intro x y hx
    have := hw q hq
    rw [he] at this
    cases x with
    | zero => cases hx; exact this
    | succ x => simp at hx
  exact va_alen (D := jD G) (tys := jtys G) hx hb hK hP 0 0 rfl rfl (v := zI (N : Int)) (by unfold zI; rw [Int32.ofInt_eq_ofNat]) hd (kk H locs ls hw hS h)
theorem jx_gsx (C : Cx F G own cc nL ret) {idx : Nat} (fl : Cond.fieldLink own idx RX1 "WAYS_X" "[I" ∈ jws) (hd : Dn cc pc (.getstatic idx) 3 pc2) (kk : jX F G nL k n Q pc2 L (.inr (jwx G) :: st) μ) : jX F G nL k n Q pc L st μ := by
  obtain ⟨p, l, e, R, s, m, args, below, meth, c⟩ := F
  obtain ⟨hx, hb, -, hown, hts, -, -, hK, hZ, -⟩ := C
  obtain ⟨hd, rfl⟩ := hd
  intro H locs ls hw hS h
  exact va_gets hx hb hZ.1 hS hown (hts _ fl) (fun _ h => h) hd (kk H locs ls hw hS h)
theorem jx_gsy (C : Cx F G own cc nL ret) {idx : Nat} (fl : Cond.fieldLink own idx RX1 "WAYS_Y" "[I" ∈ jws) (hd : Dn cc pc (.getstatic idx) 3 pc2) (kk : jX F G nL k n Q pc2 L (.inr (jwy G) :: st) μ) : jX F G nL k n Q pc L st μ := by
  obtain ⟨p, l, e, R, s, m, args, below, meth, c⟩ := F
  obtain ⟨hx, hb, -, hown, hts, -, -, hK, hZ, -⟩ := C
  obtain ⟨hd, rfl⟩ := hd
  intro H locs ls hw hS h
  exact va_gets hx hb hZ.2.1 hS hown (hts _ fl) (fun _ h => h) hd (kk H locs ls hw hS h)
theorem jx_tx (C : Cx F G own cc nL ret) {i : Int} (h0 : 0 ≤ i) (h1 : i < 4) (hd : Dn cc pc .iaload 1 pc2) (kk : jX F G nL k n Q pc2 L (.inl (if i = 1 then 0 else 1) :: st) μ) : jX F G nL k n Q pc L (.inl i :: .inr (jwx G) :: st) μ := by
  obtain ⟨p, l, e, R, s, m, args, below, meth, c⟩ := F
  obtain ⟨hx, hb, -, hown, hts, -, -, hK, hZ, -⟩ := C
  obtain ⟨hd, rfl⟩ := hd
  intro H locs ls hw hS h
  refine va_ti hx hb hZ.2.2.1 hS (zI_vpin h0 (by omega) (by decide)) ?_ hd (kk H locs ls hw hS h)
  rw [zI_clamp ⟨by omega, by omega⟩]
  show Value.int (zI (if i.toNat = 1 then 0 else 1)) = Value.int (zI (if i = 1 then 0 else 1))
  by_cases h : i = 1
  · rw [if_pos h, if_pos (by omega)]
  · rw [if_neg h, if_neg (by omega)]
theorem jx_ty (C : Cx F G own cc nL ret) {i : Int} (h0 : 0 ≤ i) (h1 : i < 4) (hd : Dn cc pc .iaload 1 pc2) (kk : jX F G nL k n Q pc2 L (.inl (if i = 0 then 0 else if i = 3 then -1 else 1) :: st) μ) : jX F G nL k n Q pc L (.inl i :: .inr (jwy G) :: st) μ := by
  obtain ⟨p, l, e, R, s, m, args, below, meth, c⟩ := F
  obtain ⟨hx, hb, -, hown, hts, -, -, hK, hZ, -⟩ := C
  obtain ⟨hd, rfl⟩ := hd
  intro H locs ls hw hS h
  refine va_ti hx hb hZ.2.2.2.1 hS (zI_vpin h0 (by omega) (by decide)) ?_ hd (kk H locs ls hw hS h)
  rw [zI_clamp ⟨by omega, by omega⟩]
  show Value.int (zI (if i.toNat = 0 then 0 else if i.toNat = 3 then -1 else 1)) = Value.int (zI (if i = 0 then 0 else if i = 3 then -1 else 1))
  by_cases h : i = 0
  · rw [if_pos h, if_pos (by omega)]
  · rw [if_neg h, if_neg (by omega)]
    by_cases h : i = 3
    · rw [if_pos h, if_pos (by omega)]
    · rw [if_neg h, if_neg (by omega)]
theorem jx_tlen (C : Cx F G own cc nL ret) (w : Bool) (hd : Dn cc pc .arraylength 1 pc2) (kk : jX F G nL k n Q pc2 L (.inl 4 :: st) μ) : jX F G nL k n Q pc L (.inr (if w then jwx G else jwy G) :: st) μ := by
  obtain ⟨p, l, e, R, s, m, args, below, meth, c⟩ := F
  obtain ⟨hx, hb, -, hown, hts, -, -, hK, hZ, -⟩ := C
  obtain ⟨hd, rfl⟩ := hd
  intro H locs ls hw hS h
  cases w
  · exact va_tlen hx hb hZ.2.2.2.1 hS (v := zI 4) (by decide +kernel) hd (kk H locs ls hw hS h)
  · exact va_tlen hx hb hZ.2.2.1 hS (v := zI 4) (by decide +kernel) hd (kk H locs ls hw hS h)
end JX
