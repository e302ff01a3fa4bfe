/-- one more cell is there -/
def jup (f : Nat → Option va_E) (k : Nat) (e : va_E) : Nat → Option va_E := fun j => if j = k then some e else f j
theorem jhp_up {G : GT} {w : Jw} {H H1 : Heap} {kc : Nat} {e : va_E} (hw : jhp G w H) (hk : ad G kc = jz G + w.1) (h96 : kc < 96) (z1 : H1.size = H.size + 1) (o1 : ∀ q, q < H.size → H1[q]? = H[q]?) (he : va_at (jD G) jcls (H.size, e) H1) : jhp G (w.1 + 1, jup w.2 kc e) H1 := by
  have h0 := hw.1
  refine ⟨by dsimp only; omega, fun j x hx => ?_⟩
  dsimp only [jup] at hx
  by_cases ej : j = kc
  · rw [if_pos ej] at hx
    cases hx
    rw [ej, hk, ← h0]
    exact ⟨h96, he⟩
  · rw [if_neg ej] at hx
    have g := hw.2 j x hx
    exact ⟨g.1, g.2.kept (o1 _ g.2.lt)⟩
theorem nI_notneg {N : Nat} (h : N ≤ 2000) : ¬ Int32.ofNat N < 0 := by
  have h1 := nI_toInt (n := N) (by omega)
  rw [Int32.lt_iff_toInt_lt]
  show ¬ (nI N).toInt < 0
  omega
/-- it is a constructor that runs -/
def jN (F : FrT) : Prop := match F with
  | (_, _, _, _, _, _, _, _, meth, _) => meth.name = "<init>"
section JM
variable {F : FrT} {G : GT} {own : String} {cc : ByteArray} {nL k n : Nat} {ret : Option FieldType} {Q : State → Prop} {pc pc2 : Nat} {L : List (Option Sv)} {st : List Sv} {w : Jw}
theorem jy_new (C : Cx F G own cc nL ret) {ci index N : Nat} {Cn : String} {T : u_T} {ty : Nat → FieldType} {fs : List Value} (kc : Nat) (ft : FT ci Cn T N ty) (hfs : ∀ j, j < N → defaultValue (ty j) = vp_V fs j) (hkc : ad G kc = jz G + w.1) (h96 : kc < 96) (hcl : Cond.classLink own index Cn ∈ jws) (hinst : Cond.instantiable Cn N ∈ jws) (hini : Cond.initialized Cn ∈ jws) (hrc : k + 1 ≤ (jR F).cells) (hrs : n + N ≤ (jR F).slots) (hd : Dn cc pc (.new index) 3 pc2) (kk : jY F G nL (k + 1) (n + N) Q pc2 L (.inr (ad G kc) :: st) (w.1 + 1, jup w.2 kc (.inr (ci, fs)))) : jY F G nL k n Q pc L st w := by
  obtain ⟨p, l, e, R, s, m, args, below, meth, c⟩ := F
  obtain ⟨hx, hb, -, hown, hts, -, -, hK, -, hz, hA⟩ := C
  obtain ⟨hd, rfl⟩ := hd
  intro H locs ls hw hS h
  have hKn := hK.1 ci _ ft.1
  refine W.newcK hx hb hown (hts _ hcl) (hts _ hinst) (hts _ hini) rfl hd hrc hrs hKn.2.1 rfl fun H1 kC hkC e1 z1 o1 => ?_
  have hsz : ad G kc = H.size := by rw [hkc, hw.1]
  have key := kk H1 locs ls (jhp_up hw hkc h96 z1 o1 ⟨_, ft.1, (u_born ty hts ft.2.1 hKn hkC e1 ft.2.2.1).to hfs⟩) ⟨Nat.le_trans hS.1 (by omega), fun x h1 h2 => (o1 x (Nat.lt_of_lt_of_le h1 hS.1)).trans (hS.2.1 x h1 h2), hS.2.2⟩ h
  rw [hsz] at key
  exact key
theorem jy_newa (C : Cx F G own cc nL ret) {N : Nat} {z : Int} (kc : Nat) (hz0 : zI z = Int32.ofNat N) (hN : N ≤ 2000) (hkc : ad G kc = jz G + w.1) (h96 : kc < 96) (harr : Cond.arrayClass .int ∈ jws) (hrc : k + 1 ≤ (jR F).cells) (hrs : n + N ≤ (jR F).slots) (hd : Dn cc pc (.newarray .int) 2 pc2) (kk : jY F G nL (k + 1) (n + N) Q pc2 L (.inr (ad G kc) :: st) (w.1 + 1, jup w.2 kc (jia G N (fun _ => 0)))) : jY F G nL k n Q pc L (.inl z :: st) w := by
  obtain ⟨p, l, e, R, s, m, args, below, meth, c⟩ := F
  obtain ⟨hx, hb, -, hown, hts, -, -, hK, -, hz, hA⟩ := C
  obtain ⟨hd, rfl⟩ := hd
  intro H locs ls hw hS h
  have hsz : ad G kc = H.size := by rw [hkc, hw.1]
  show W p l e R s m args below meth c H locs k n Q (F0 m pc ls (.int (zI z) :: st.map vv))
  rw [hz0]
  refine va_newaK (atype := .int) hx hb (hts _ harr) rfl hd rfl (nI_notneg hN) (nI_clamp (n := N) (by omega)) (by show N * 4 ≤ _; omega) hrc hrs rfl fun H1 cA e1 z1 o1 hAr hNm => ?_
  have hcA : cA = jI G := Option.some.inj (hNm.symm.trans (hK.2 0 _ rfl).2)
  subst hcA
  have key := kk H1 locs ls (jhp_up hw hkc h96 z1 o1 e1) ⟨Nat.le_trans hS.1 (by omega), fun x h1 h2 => (o1 x (Nat.lt_of_lt_of_le h1 hS.1)).trans (hS.2.1 x h1 h2), hS.2.2⟩ h
  rw [hsz] at key
  exact key
/-- a field of an object that is being made; final or not -/
theorem jy_put (C : Cx F G own cc nL ret) {q ci idx N : Nat} {Cn : String} {T : u_T} {ty : Nat → FieldType} {fs : List Value} {v : Sv} (j : Nat) (ft : FT ci Cn T N ty) (he : w.2 q = some (.inr (ci, fs))) (hj : j < N) (hin : (T j).2.2.2 = true → jN F ∧ (T j).1 = own) (hn : narrow (ty j) (vv v) = vv v) (hfit : fits (ty j) (vv v) = true) (hl : j < fs.length) (fl : Cond.fieldLink own idx (T j).1 (T j).2.1 (T j).2.2.1 ∈ jws) (hd : Dn cc pc (.putfield idx) 3 pc2) (kk : jY F G nL k n Q pc2 L st (w.1, jup w.2 q (.inr (ci, fs.set j (vv v))))) : jY F G nL k n Q pc L (v :: .inr (ad G q) :: st) w := by
  obtain ⟨p, l, e, R, s, m, args, below, meth, c⟩ := F
  obtain ⟨hx, hb, -, hown, hts, -, -, hK, -, -, hA⟩ := C
  obtain ⟨hd, rfl⟩ := hd
  intro H locs ls hw hS h
  have hap := va_apart (own := own) hts ft.2.1 ty ft.2.2.1 ft.2.2.2 hK ft.1
  obtain ⟨h96, r, h1, cell, q1, q2, q3, q4⟩ := hw.2 q _ he
  have hr : r = (Cn, T, N) := Option.some.inj (h1.symm.trans ft.1)
  subst hr
  obtain ⟨hSl, hfc, kC, hkC, hkind⟩ := hK.1 ci _ ft.1
  obtain ⟨cf, kf, fi, f, hi, hsl⟩ := hSl j hj
  have hlay := hts _ (ft.2.1 _ (u_in_lay hj))
  have hst := (u_facts hfc hkC (u_lays hts ft.2.1 hj) hi).1
  have fin : ∀ H' : Heap, H'[ad G q]? = some (cell.setSlot f.slot (vv v)) → H'.size = H.size → (∀ x, x ≠ ad G q → H'[x]? = H[x]?) → W p l e R s m args below meth c H' (locs ++ [⟨ad G q, f.slot⟩]) k n Q (F0 m (pc + 3) ls (st.map vv)) := fun H' e1 e2 e3 => by
    refine kk H' _ ls ⟨by rw [e2]; exact hw.1, fun i x hx' => ?_⟩ (hS.put e2 e3 (hA.2 q h96)) h
    dsimp only [jup] at hx'
    by_cases ei : i = q
    · rw [if_pos ei] at hx'
      cases hx'
      rw [ei]
      rw [hsl] at e1
      exact ⟨h96, _, ft.1, t_OB.to (V := updV (vp_V fs) j (vv v)) ⟨_, e1, q2, q3, t_set q4 hap hj _⟩ (fun i _ => vp_updV_set hl _ i)⟩
    · rw [if_neg ei] at hx'
      have g := hw.2 i x hx'
      exact ⟨g.1, g.2.kept (e3 _ (fun ea => ei (hA.1 i q g.1 h96 ea)))⟩
  unfold u_lay at hlay
  by_cases hfin : (T j).2.2.2 = true
  · rw [if_pos hfin] at hlay
    have hcf : m.cls = cf := by
      obtain ⟨_, _, c', _, _, _, -, -, hf', -, -, -, hown2, -⟩ := Cond.laysFinal_spec hlay
      have e1 : c' = cf := by have := hi.symm.trans hf'; simp at this; exact this.1.symm
      rw [(hin hfin).2] at hown2
      rw [← e1]; exact Option.some.inj (hown.symm.trans hown2)
    have h6 := u_fits hfc hkC hkind (Or.inr hlay) hi (ft.2.2.1 j hj) hn hfit
    exact W.putFinK hx hb hown (hts _ fl) hi hst hcf (hin hfin).1 (by rw [q2]; exact h6) q1 q3 (by rw [hsl]; exact k2_hasslot (q4 j hj)) rfl rfl hd fin
  · rw [if_neg hfin] at hlay
    have h6 := u_store hfc hkC hkind hlay hi (ft.2.2.1 j hj) hn hfit
    exact W.putK hx hb (f := f) ⟨hown, hts _ fl, ⟨_, _, _, hi⟩, hst⟩ (by rw [q2]; exact h6) q1 q3 (by rw [hsl]; exact k2_hasslot (q4 j hj)) rfl rfl hd fin
end JM
