/-! the world while it is made, told by what is finished -/
def jm0 : Mem := fun k j => if (k = 0 ∧ j = 4) ∨ (k = 78 ∧ j = 5) then 5000 else if (k = 0 ∧ j = 5) ∨ (k = 78 ∧ j = 6) then 2 else if (10 ≤ k ∧ k < 14) ∧ j = 5 then -6 else 0
def jfe (G : GT) (k : Nat) : va_E := jcl G k (jm0 k)
theorem jm0_z {k : Nat} (h : k ≠ 0 ∧ k ≠ 78 ∧ ¬ (10 ≤ k ∧ k < 14)) : jm0 k = fun _ => 0 := by
  funext j
  unfold jm0
  rw [if_neg (by omega), if_neg (by omega), if_neg (by omega)]
theorem jfe_va (G : GT) {p : Nat} (hp : p < 4) : jfe G (18 + p) = jia G 400 (fun _ => 0) := by unfold jfe; rw [jm0_z (by omega), jcl_va G hp]
theorem jfe_sc (G : GT) {p : Nat} (hp : p < 4) : jfe G (22 + p) = jia G 400 (fun _ => 0) := by unfold jfe; rw [jm0_z (by omega), jcl_sc G hp]
theorem jfe_co (G : GT) {p : Nat} (hp : p < 4) : jfe G (30 + p) = jia G 16 (fun _ => 0) := by unfold jfe; rw [jm0_z (by omega), jcl_co G hp]
theorem jfe_ro (G : GT) {p : Nat} (hp : p < 4) : jfe G (34 + p) = jia G 16 (fun _ => 0) := by unfold jfe; rw [jm0_z (by omega), jcl_ro G hp]
theorem jfe_he (G : GT) {p : Nat} (hp : p < 4) : jfe G (38 + p) = jia G 16 (fun _ => 0) := by unfold jfe; rw [jm0_z (by omega), jcl_he G hp]
theorem jfe_si (G : GT) {p : Nat} (hp : p < 4) : jfe G (42 + p) = jia G 16 (fun _ => 0) := by unfold jfe; rw [jm0_z (by omega), jcl_si G hp]
theorem jfe_pa (G : GT) {q : Nat} (hq : q < 16) : jfe G (62 + q) = jia G 16 (fun _ => 0) := by unfold jfe; rw [jm0_z (by omega), jcl_pa G hq]
theorem jfe_DO (G : GT) {p : Nat} (hp : p < 4) : jfe G (14 + p) = .inr (1, [jr G (18 + p), jr G (22 + p), .int 0, .int 0, .int 0]) := by unfold jfe; rw [jm0_z (by omega), jcl_DO G hp]; rfl
theorem jfe_MA (G : GT) {p : Nat} (hp : p < 4) : jfe G (26 + p) = .inr (2, [jr G (30 + p), jr G (34 + p), jr G (38 + p), jr G (42 + p), .int 0]) := by unfold jfe; rw [jm0_z (by omega), jcl_MA G hp]; rfl
theorem jfe_PA (G : GT) {q : Nat} (hq : q < 16) : jfe G (46 + q) = .inr (4, [jr G (62 + q), .int 0, .int 0, .int 0, .int 0]) := by unfold jfe; rw [jm0_z (by omega), jcl_PA G hq]; rfl
theorem jfe_PI (G : GT) {p : Nat} (hp : p < 4) : jfe G (10 + p) = .inr (5, [jr G (14 + p), jr G (26 + p), .int 0, .int 0, .int 0, .int (zI (-6))]) := by
  have h1 : ∀ j : Nat, j ≠ 5 → jm0 (10 + p) j = 0 := fun j hj => by unfold jm0; rw [if_neg (by omega), if_neg (by omega), if_neg (by omega)]
  have h2 : jm0 (10 + p) 5 = -6 := by unfold jm0; rw [if_neg (by omega), if_neg (by omega), if_pos (by omega)]
  unfold jfe
  rw [jcl_PI G hp]
  dsimp only [ji]
  rw [h1 2 (by decide), h1 3 (by decide), h1 4 (by decide), h2]
  rfl
theorem rk_fam2 (b : Nat) (hb : b = 46 ∨ b = 62) {q : Nat} (hq : q < 16) : rk (b + q) = 42 + 2 * q + (b - 46) / 16 := by
  unfold rk
  rcases hb with rfl | rfl <;> (rw [if_neg (by omega), if_neg (by omega), if_neg (by omega), if_neg (by omega), if_neg (by omega), if_neg (by omega), if_neg (by omega), if_pos (by omega)]; omega)
/-- the cells of S are finished -/
noncomputable def jadd (G : GT) (f : Nat → Option va_E) (S : Nat → Prop) : Nat → Option va_E := fun j => @ite _ (S j) (Classical.propDecidable _) (some (jfe G j)) (f j)
section JADD
variable {G : GT} {f : Nat → Option va_E} {S S' S'' : Nat → Prop} {k j : Nat} {e e' : va_E}
theorem jadd_in (h : S j) : jadd G f S j = some (jfe G j) := if_pos h
theorem jadd_out (h : ¬ S j) : jadd G f S j = f j := if_neg h
theorem jadd_nil (h : ∀ j, ¬ S j) : jadd G f S = f := funext fun j => jadd_out (h j)
theorem jup_twice : jup (jup f k e) k e' = jup f k e' := by
  funext i
  by_cases h : i = k
  · rw [h, jup_same, jup_same]
  · rw [jup_ne _ _ h, jup_ne _ _ h, jup_ne _ _ h]
theorem jup_comm (h : k ≠ j) : jup (jup f k e) j e' = jup (jup f j e') k e := by
  funext i
  by_cases h1 : i = j
  · subst h1; rw [jup_same, jup_ne _ _ (Ne.symm h), jup_same]
  · by_cases h2 : i = k
    · subst h2; rw [jup_ne _ _ h1, jup_same, jup_same]
    · rw [jup_ne _ _ h1, jup_ne _ _ h2, jup_ne _ _ h2, jup_ne _ _ h1]
theorem jup_fin (h : jfe G k = e) : jup f k e = jadd G f (fun j => j = k) := by
  funext i
  by_cases h1 : i = k
  · subst h1; rw [jup_same, jadd_in (S := fun j => j = i) rfl, h]
  · rw [jup_ne _ _ h1, jadd_out (S := fun j => j = k) h1]
theorem jadd_jup (h : ¬ S k) : jadd G (jup f k e) S = jup (jadd G f S) k e := by
  funext i
  by_cases h1 : i = k
  · subst h1; rw [jadd_out h, jup_same, jup_same]
  · rw [jup_ne _ _ h1]
    by_cases h2 : S i
    · rw [jadd_in h2, jadd_in h2]
    · rw [jadd_out h2, jadd_out h2, jup_ne _ _ h1]
theorem jadd_jup_in (h : S k) : jadd G (jup f k e) S = jadd G f S := by
  funext i
  by_cases h2 : S i
  · rw [jadd_in h2, jadd_in h2]
  · rw [jadd_out h2, jadd_out h2, jup_ne _ _ (fun h3 : i = k => h2 (by rw [h3]; exact h))]
theorem jadd_add (h : ∀ j, S'' j ↔ (S j ∨ S' j)) : jadd G (jadd G f S) S' = jadd G f S'' := by
  funext i
  by_cases h1 : S' i
  · rw [jadd_in h1, jadd_in ((h i).mpr (Or.inr h1))]
  · rw [jadd_out h1]
    by_cases h2 : S i
    · rw [jadd_in h2, jadd_in ((h i).mpr (Or.inl h2))]
    · rw [jadd_out h2, jadd_out (fun h3 => ((h i).mp h3).elim h2 h1)]
theorem jadd_ext (h : ∀ j, S j ↔ S' j) : jadd G f S = jadd G f S' := by
  funext i
  by_cases h1 : S i
  · rw [jadd_in h1, jadd_in ((h i).mp h1)]
  · rw [jadd_out h1, jadd_out (fun h2 => h1 ((h i).mpr h2))]
end JADD
section JM6
variable {F : FrT} {G : GT} {own : String} {cc : ByteArray} {nL k n : Nat} {ret : Option FieldType} {Q : State → Prop} {pc pc2 pc3 pc4 : Nat} {L : List (Option Sv)} {st : List Sv} {w w' : Jw} {l : Launch} {rm : Room} {nn nn' t : Nat} {f g : Nat → Option va_E} {S S' S'' : Nat → Prop} {c c' : va_E}
theorem jy_w (h : w = w') (kk : jY F G nL k n Q pc L st w') : jY F G nL k n Q pc L st w := by subst h; exact kk
theorem jy_k {k' n' : Nat} (h1 : k = k') (h2 : n = n') (kk : jY F G nL k' n' Q pc L st w) : jY F G nL k n Q pc L st w := by subst h1; subst h2; exact kk
theorem jk_0 (kk : jY F G nL k n Q pc L st (nn, jup (jadd G g (fun _ => False)) t c)) : jY F G nL k n Q pc L st (nn, jup g t c) := by
  rw [jadd_nil (fun _ h => h)] at kk
  exact kk
theorem jk_newa (C : Cx F G own cc nL ret) {N : Nat} {z : Int} (kc : Nat) (S' : Nat → Prop) (hS : ∀ j, S' j ↔ (S j ∨ j = kc)) (hfe : jfe G kc = jia G N (fun _ => 0)) (hne : t ≠ kc) (hz0 : zI z = Int32.ofNat N) (hN : N ≤ 2000) (hkc : ad G kc = jz G + nn) (h96 : kc < 96) (harr : Cond.arrayClass .int ∈ jws) (hrc : k + 1 ≤ (jR F).cells) (hrs : n + N ≤ (jR F).slots) (hd : Dn cc pc (.newarray .int) 2 pc2) (hnn : nn + 1 = nn') {k' n' : Nat} (hk' : k + 1 = k') (hn' : n + N = n') (kk : jY F G nL k' n' Q pc2 L (.inr (ad G kc) :: st) (nn', jup (jadd G f S') t c)) : jY F G nL k n Q pc L (.inl z :: st) (nn, jup (jadd G f S) t c) := by
  subst hnn hk' hn'
  refine jy_newa C kc hz0 hN hkc h96 harr hrc hrs hd ?_
  refine jy_w (w' := (nn + 1, jup (jadd G f S') t c)) (Prod.ext rfl ?_) kk
  show jup (jup (jadd G f S) t c) kc _ = jup (jadd G f S') t c
  rw [jup_comm hne, jup_fin hfe, jadd_add hS]
theorem jk_newq (C : Cx F G own cc nL ret) {N index : Nat} {z : Int} {Cn : String} {cQ : ClassId} (kc t0 : Nat) (f0 : Nat → Option Nat) (hf0 : ∀ t, t < N → f0 t = none) (hS : ¬ S kc) (hne : t ≠ kc) (ht : (jtys G)[t0]? = some (cQ, .object Cn)) (hz0 : zI z = Int32.ofNat N) (hN : N ≤ 2000) (hkc : ad G kc = jz G + nn) (h96 : kc < 96) (hcl : Cond.classLink own index Cn ∈ jws) (hO : jO F Cn) (hrc : k + 1 ≤ (jR F).cells) (hrs : n + N ≤ (jR F).slots) (hd : Dn cc pc (.anewarray index) 3 pc2) (hnn : nn + 1 = nn') {k' n' : Nat} (hk' : k + 1 = k') (hn' : n + N = n') (kk : jY F G nL k' n' Q pc2 L (.inr (ad G kc) :: st) (nn', jup (jadd G (jup f kc (jqn cQ N f0)) S) t c)) : jY F G nL k n Q pc L (.inl z :: st) (nn, jup (jadd G f S) t c) := by
  subst hnn hk' hn'
  refine jy_newq C kc t0 f0 hf0 ht hz0 hN hkc h96 hcl hO hrc hrs hd ?_
  refine jy_w (w' := (nn + 1, jup (jadd G (jup f kc (jqn cQ N f0)) S) t c)) (Prod.ext rfl ?_) kk
  show jup (jup (jadd G f S) t c) kc _ = jup (jadd G (jup f kc _) S) t c
  rw [jup_comm hne, jadd_jup hS]
theorem jk_put (C : Cx F G own cc nL ret) {q ci idx N : Nat} {Cn : String} {T : u_T} {ty : Nat → FieldType} {fs : List Value} {v : Sv} (j : Nat) (fs' : List Value) (ft : FT ci Cn T N ty) (hj : j < N) (hin : (T j).2.2.2 = true → jN F ∧ (T j).1 = own) (hn : narrow (ty j) (vv v) = vv v) (hfit : fits (ty j) (vv v) = true) (hl : j < fs.length) (fl : Cond.fieldLink own idx (T j).1 (T j).2.1 (T j).2.2.1 ∈ jws) (hset : fs.set j (vv v) = fs') (hd : Dn cc pc (.putfield idx) 3 pc2) (kk : jY F G nL k n Q pc2 L st (nn, jup g q (.inr (ci, fs')))) : jY F G nL k n Q pc L (v :: .inr (ad G q) :: st) (nn, jup g q (.inr (ci, fs))) := by
  subst hset
  refine jy_put C j ft (jup_same _ _ _) hj hin hn hfit hl fl hd ?_
  refine jy_w (w' := (nn, jup g q (.inr (ci, fs.set j (vv v))))) (Prod.ext rfl ?_) kk
  exact jup_twice
theorem jk_ret (C : Cx F G own cc nL none) (NF : jNf F) {mc ms : Nat} (hfe : jfe G t = c) (hS : ∀ j, S' j ↔ (S j ∨ j = t)) (hnn : nn = nn') (hmc : k = mc) (hms : n = ms) (hd : Dn cc pc .return_ 1 pc2) : jY F G nL k n (jEk F G mc ms (jKv G (nn', jadd G f S'))) pc L [] (nn, jup (jadd G f S) t c) := by
  subst hnn hmc hms
  rw [jup_fin hfe, jadd_add hS]
  exact jy_vret C NF hd
/-- a constructor that isn't private -/
theorem jy_initL (C : Cx F G own cc nL ret) (Y : Cy F l rm) (NF : jNf F) {y : MethodName} {ccy : ByteArray} {mLy idx a : Nat} {rmy : Room} {mc ms : Nat} (hM : MK l y ccy mLy rmy G a w w' mc ms) (B : YB y ccy mLy none 0) (hnm : y.name = "<init>") (hi : Cond.instanceMethod y ∈ jws) (hl : Cond.methodLink own idx y ∈ jws) (hst : st.length ≤ 8) (hr : rmy.cells = mc ∧ rmy.slots = ms ∧ rmy.frames + 1 ≤ rm.frames ∧ 8 + (mLy + 11) + rmy.locals ≤ rm.locals) (hk : k + mc ≤ rm.cells ∧ n + ms ≤ rm.slots) (hd : Dn cc pc (.invokespecial idx) 3 pc2) (kk : jY F G nL (k + mc) (n + ms) Q pc2 L st w') : jY F G nL k n Q pc L (.inr a :: st) w := by
  obtain ⟨p, l, e, R, s, m, args, below, meth, c⟩ := F
  have hA := C.2.2.2.2.2.2.2.2.2.2
  obtain ⟨hx, hb, hml, hown, hts, -, -, hK, hZ, hz, -⟩ := C
  obtain ⟨rfl, rfl⟩ := Y
  obtain ⟨hd, rfl⟩ := hd
  intro H locs ls hw hS h
  have key : ∀ U : State, U.heap = H → s.WarmedH U.vm → jWp G w U := fun U hU hW => jWp_end hK hZ hz NF hw hS hU hW
  have hrun := va_runI (e := e) (below := below) (meth := meth) (As := []) (rest := st.map vv) (nL := nL) (n := 0) (b := a) (bytes := ccy) (maxL := mLy) ⟨hx, hb, hml, hown, hts⟩ (hM hA) ⟨callB_of 0 hts (jgood y ccy mLy none B.1) rfl hr.1 hr.2.1 (hts _ B.2.1) (hts _ hl) B.2.2 ⟨hr.2.2.1, hr.2.2.2⟩, hnm, hts _ hi⟩ ⟨jblindp G w _, fun U hU hW => ⟨rfl, key U hU hW⟩⟩ (g := F0 m pc ls (.ref a :: st.map vv)) (H := H) (locs := locs) (cells := k) (slots := n) rfl rfl h.1 rfl (lv_room (by rw [jcat]; exact hst)) hd hk
  refine va_callv hrun hS (fun q _ h => h) (fun q h => h) (fun u t H1 locs1 ht hvm hp hB hz1 hk1 hS1 => ?_)
  exact kk H1 locs1 ls (by rw [← ht]; exact hB.1) hS1 h
/-- new, dup: the cell is there, its constructor is to run -/
theorem jk_new (C : Cx F G own cc nL ret) {ci index N : Nat} {Cn : String} {T : u_T} {ty : Nat → FieldType} {fs : List Value} (kc : Nat) (ft : FT ci Cn T N ty) (hfs : ∀ j, j < N → defaultValue (ty j) = vp_V fs j) (hkc : ad G kc = jz G + nn) (h96 : kc < 96) (hcl : Cond.classLink own index Cn ∈ jws) (hinst : Cond.instantiable Cn N ∈ jws) (hini : Cond.initialized Cn ∈ jws) (hrc : k + 1 ≤ (jR F).cells) (hrs : n + N ≤ (jR F).slots) (hd : Dn cc pc (.new index) 3 pc2) (hd2 : Dn cc pc2 .dup 1 pc3) (hnn : nn + 1 = nn') {k' n' : Nat} (hk' : k + 1 = k') (hn' : n + N = n') (kk : jY F G nL k' n' Q pc3 L (.inr (ad G kc) :: .inr (ad G kc) :: st) (nn', jup g kc (.inr (ci, fs)))) : jY F G nL k n Q pc L st (nn, g) := by
  subst hnn hk' hn'
  exact jy_new C kc ft hfs hkc h96 hcl hinst hini hrc hrs hd (jy_dup C hd2 kk)
/-- what a constructor's end means for the world of the caller -/
theorem jk_sub (h1 : ¬ S' t) (h2 : ∀ j, S'' j ↔ (S j ∨ S' j)) (kk : jY F G nL k n Q pc L st (nn, jup (jadd G f S'') t c)) : jY F G nL k n Q pc L st (nn, jadd G (jup (jadd G f S) t c) S') := by
  refine jy_w (w' := (nn, jup (jadd G f S'') t c)) (Prod.ext rfl ?_) kk
  show jadd G (jup (jadd G f S) t c) S' = _
  rw [jadd_jup h1, jadd_add h2]
end JM6
