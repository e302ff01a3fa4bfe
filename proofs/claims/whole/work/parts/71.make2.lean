/-- one more cell is there -/
def jup (f : Nat → Option va_E) (k : Nat) (e : va_E) : Nat → Option va_E := fun j => if j = k then some e else f j
theorem jhp_up {G : GT} {w : Jw} {H H1 : Heap} {kc : Nat} {e : va_E} (hw : jhp G w H) (hk : ad G kc = jz G + w.1) (z1 : H1.size = H.size + 1) (o1 : ∀ q, q < H.size → H1[q]? = H[q]?) (he : va_at (jD G) jcls (H.size, e) H1) : jhp G (w.1 + 1, jup w.2 kc e) H1 := by
  have h0 := hw.1
  refine ⟨by dsimp only; omega, fun j x hx => ?_⟩
  dsimp only [jup] at hx
  by_cases ej : j = kc
  · rw [if_pos ej] at hx
    cases hx
    rw [ej, hk, ← h0]
    exact he
  · rw [if_neg ej] at hx
    have g := hw.2 j x hx
    exact g.kept (o1 _ g.lt)
theorem nI_notneg {N : Nat} (h : N ≤ 2000) : ¬ Int32.ofNat N < 0 := by
  have h1 := nI_toInt (n := N) (by omega)
  rw [Int32.lt_iff_toInt_lt]
  show ¬ (nI N).toInt < 0
  omega
section JM
variable {F : FrT} {G : GT} {own : String} {cc : ByteArray} {nL k n : Nat} {ret : Option FieldType} {Q : State → Prop} {pc pc2 : Nat} {L : List (Option Sv)} {st : List Sv} {w : Jw}
theorem jy_new (C : Cx F G own cc nL ret) {ci index N : Nat} {Cn : String} {T : u_T} {ty : Nat → FieldType} {fs : List Value} (kc : Nat) (ft : FT ci Cn T N ty) (hfs : ∀ j, j < N → defaultValue (ty j) = vp_V fs j) (hkc : ad G kc = jz G + w.1) (hcl : Cond.classLink own index Cn ∈ jws) (hinst : Cond.instantiable Cn N ∈ jws) (hini : Cond.initialized Cn ∈ jws) (hrc : k + 1 ≤ (jR F).cells) (hrs : n + N ≤ (jR F).slots) (hd : Dn cc pc (.new index) 3 pc2) (kk : jY F G nL (k + 1) (n + N) Q pc2 L (.inr (ad G kc) :: st) (w.1 + 1, jup w.2 kc (.inr (ci, fs)))) : jY F G nL k n Q pc L st w := by
  obtain ⟨p, l, e, R, s, m, args, below, meth, c⟩ := F
  obtain ⟨hx, hb, -, hown, hts, -, -, hK, -, hz, hA⟩ := C
  obtain ⟨hd, rfl⟩ := hd
  intro H locs ls hw hS h
  have hKn := hK.1 ci _ ft.1
  refine W.newcK hx hb hown (hts _ hcl) (hts _ hinst) (hts _ hini) rfl hd hrc hrs hKn.2.1 rfl fun H1 kC hkC e1 z1 o1 => ?_
  have hsz : ad G kc = H.size := by rw [hkc, hw.1]
  have key := kk H1 locs ls (jhp_up hw hkc z1 o1 ⟨_, ft.1, (u_born ty hts ft.2.1 hKn hkC e1 ft.2.2.1).to hfs⟩) ⟨Nat.le_trans hS.1 (by omega), fun x h1 h2 => (o1 x (Nat.lt_of_lt_of_le h1 hS.1)).trans (hS.2.1 x h1 h2), hS.2.2⟩ h
  rw [hsz] at key
  exact key
theorem jy_newa (C : Cx F G own cc nL ret) {N : Nat} {z : Int} (kc : Nat) (hz0 : zI z = Int32.ofNat N) (hN : N ≤ 2000) (hkc : ad G kc = jz G + w.1) (harr : Cond.arrayClass .int ∈ jws) (hrc : k + 1 ≤ (jR F).cells) (hrs : n + N ≤ (jR F).slots) (hd : Dn cc pc (.newarray .int) 2 pc2) (kk : jY F G nL (k + 1) (n + N) Q pc2 L (.inr (ad G kc) :: st) (w.1 + 1, jup w.2 kc (jia G N (fun _ => 0)))) : jY F G nL k n Q pc L (.inl z :: st) w := by
  obtain ⟨p, l, e, R, s, m, args, below, meth, c⟩ := F
  obtain ⟨hx, hb, -, hown, hts, -, -, hK, -, hz, hA⟩ := C
  obtain ⟨hd, rfl⟩ := hd
  intro H locs ls hw hS h
  have hsz : ad G kc = H.size := by rw [hkc, hw.1]
  show W p l e R s m args below meth c H locs k n Q (F0 m pc ls (.int (zI z) :: st.map vv))
  rw [hz0]
  refine va_newaK (atype := .int) hx hb (hts _ harr) rfl hd rfl (nI_notneg hN) (nI_clamp (n := N) (by omega)) (by show N * 4 ≤ _; omega) hrc hrs rfl fun H1 cA e1 z1 o1 hAr hNm => ?_
  have hcA : cA = jI G := Option.some.inj (hNm.symm.trans (hK.2 0 _ rfl).2)
  subst hcA
  have key := kk H1 locs ls (jhp_up hw hkc z1 o1 e1) ⟨Nat.le_trans hS.1 (by omega), fun x h1 h2 => (o1 x (Nat.lt_of_lt_of_le h1 hS.1)).trans (hS.2.1 x h1 h2), hS.2.2⟩ h
  rw [hsz] at key
  exact key
end JM
