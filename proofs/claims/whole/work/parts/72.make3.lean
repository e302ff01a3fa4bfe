def jqn (c : ClassId) (N : Nat) (f : Nat → Option Nat) : va_E := .inl (c, N, .inr (.inr (.inr (.inr f))))
/-- the classes of reference arrays can be made -/
def jO (F : FrT) (Cn : String) : Prop := match F with
  | (_, _, _, _, s, _, _, _, _, _) => va_AO Cn s
theorem arrVc {c : ClassId} {N : Nat} {f g : Nat → Value} (h : ∀ j, j < N → f j = g j) : arrV c N f = arrV c N g := by
  unfold arrV
  congr 1
  congr 1
  funext j
  exact h j.val j.isLt
section JM3
variable {F : FrT} {G : GT} {own : String} {cc : ByteArray} {nL k n : Nat} {ret : Option FieldType} {Q : State → Prop} {pc pc2 : Nat} {L : List (Option Sv)} {st : List Sv} {w : Jw}
theorem jhp_P {G : GT} {w : Jw} {H : Heap} (hw : jhp G w H) {q : Nat} {e : va_E} (he : w.2 q = some e) : va_P (jD G) jcls [(ad G q, e)] H := by
  intro i x hi
  cases i with
  | zero => cases hi; exact (hw.2 q e he).2
  | succ i => simp at hi
theorem jy_get (C : Cx F G own cc nL ret) {q ci idx N : Nat} {Cn : String} {T : u_T} {ty : Nat → FieldType} {fs : List Value} (j : Nat) {v : Sv} (ft : FT ci Cn T N ty) (he : w.2 q = some (.inr (ci, fs))) (hv : fs[j]? = some (vv v)) (hj : j < N) (fl : Cond.fieldLink own idx (T j).1 (T j).2.1 (T j).2.2.1 ∈ jws) (hd : Dn cc pc (.getfield idx) 3 pc2) (kk : jY F G nL k n Q pc2 L (v :: st) w) : jY F G nL k n Q pc L (.inr (ad G q) :: st) w := by
  obtain ⟨p, l, e, R, s, m, args, below, meth, c⟩ := F
  obtain ⟨hx, hb, -, hown, hts, -, -, hK, -⟩ := C
  obtain ⟨hd, rfl⟩ := hd
  intro H locs ls hw hS h
  exact va_get (D := jD G) hx hb hts ft.2.1 hown hK (jhp_P hw he) 0 rfl ft.1 j hj (hts _ fl) (fun _ h9 => h9) hv hd (kk H locs ls hw hS h)
theorem jy_obj (C : Cx F G own cc nL ret) {idx : Nat} {a : Nat} (hl : Cond.methodLink own idx objectInit ∈ jws) (hi : Cond.instanceMethod objectInit ∈ jws) (hc : Cond.code objectInit ⟨#[0xb1]⟩ 1 none ∈ jws) (hf : 1 ≤ (jR F).frames) (hlo : 20 ≤ (jR F).locals) (hst : st = []) (hd : Dn cc pc (.invokespecial idx) 3 pc2) (kk : jY F G nL k n Q pc2 L st w) : jY F G nL k n Q pc L (.inr a :: st) w := by
  obtain ⟨p, l, e, R, s, m, args, below, meth, c⟩ := F
  obtain ⟨hx, hb, hml, hown, hts, -⟩ := C
  obtain ⟨hd, rfl⟩ := hd
  subst hst
  intro H locs ls hw hS h
  refine W.objInit hx hb hown (hts _ hl) (hts _ hi) (hts _ hc) rfl (by rw [hml]; exact h.1) rfl hd hf (Nat.le_trans (Nat.add_le_add_right (lv_room (m := m) (pc := pc) (ls := ls) (rest := ([] : List Sv).map vv) (by rw [jcat]; exact Nat.zero_le _)) 12) hlo) ?_
  exact W.eq (g2 := F0 m (pc + 3) ls []) rfl (kk H locs ls hw hS h)
theorem jy_newq (C : Cx F G own cc nL ret) {N index : Nat} {z : Int} {Cn : String} {cQ : ClassId} (kc t0 : Nat) (f0 : Nat → Option Nat) (hf0 : ∀ t, t < N → f0 t = none) (ht : (jtys G)[t0]? = some (cQ, .object Cn)) (hz0 : zI z = Int32.ofNat N) (hN : N ≤ 2000) (hkc : ad G kc = jz G + w.1) (h96 : kc < 96) (hcl : Cond.classLink own index Cn ∈ jws) (hO : jO F Cn) (hrc : k + 1 ≤ (jR F).cells) (hrs : n + N ≤ (jR F).slots) (hd : Dn cc pc (.anewarray index) 3 pc2) (kk : jY F G nL (k + 1) (n + N) Q pc2 L (.inr (ad G kc) :: st) (w.1 + 1, jup w.2 kc (jqn cQ N f0))) : jY F G nL k n Q pc L (.inl z :: st) w := by
  obtain ⟨p, l, e, R, s, m, args, below, meth, c⟩ := F
  obtain ⟨hx, hb, -, hown, hts, -, -, hK, -, hz, hA⟩ := C
  obtain ⟨hd, rfl⟩ := hd
  intro H locs ls hw hS h
  have hsz : ad G kc = H.size := by rw [hkc, hw.1]
  show W p l e R s m args below meth c H locs k n Q (F0 m pc ls (.int (zI z) :: st.map vv))
  rw [hz0]
  have hNc : (Int32.ofNat N).toNatClampNeg = N := nI_clamp (n := N) (by omega)
  refine W.anew hx hb hown (hts _ hcl) (va_AO.use hO) rfl hd rfl (nI_notneg hN) (by rw [hNc]; omega) hrc (by rw [hNc]; exact hrs) fun cA kA comp f1 f2 f3 f4 => ?_
  rw [hNc]
  generalize hH1 : H.push ({ cls := cA, slots := Array.replicate N .null, vm := .none } : Cell) = H1
  have z1 : H1.size = H.size + 1 := by rw [← hH1, Array.size_push]
  have e1 : H1[H.size]? = some (arrV cA N (fun _ => .null)) := by rw [← hH1, Array.getElem?_push_size, ← arrV_new]
  have o1 : ∀ q : Nat, q < H.size → H1[q]? = H[q]? := fun q hq => by rw [← hH1, Array.getElem?_push, if_neg (Nat.ne_of_lt hq)]
  have hcA : cA = cQ := by
    obtain ⟨_, _, _, _, _, g⟩ := (hK.2 t0 _ ht).2
    exact Option.some.inj (f1.symm.trans g)
  subst hcA
  have key := kk H1 locs ls (jhp_up hw hkc h96 z1 o1 (by show H1[H.size]? = some (vp_cell _ _); rw [e1, vp_cell_q]; exact congrArg some (arrVc (fun j hj => by rw [hf0 j hj]; rfl)))) ⟨Nat.le_trans hS.1 (by omega), fun x h1 h2 => (o1 x (Nat.lt_of_lt_of_le h1 hS.1)).trans (hS.2.1 x h1 h2), hS.2.2⟩ h
  rw [hsz] at key
  exact key
theorem jy_aast (C : Cx F G own cc nL ret) {q v ci N : Nat} {z : Int} {i : Nat} {cQ : ClassId} {f : Nat → Option Nat} {vs : List Value} {r : vw_C} (t0 : Nat) (ht : (jtys G)[t0]? = some (cQ, .object r.1)) (he : w.2 q = some (jqn cQ N f)) (hv : w.2 v = some (.inr (ci, vs))) (hc : jcls[ci]? = some r) (hz0 : zI z = Int32.ofNat i) (hi : i < N) (hN : N ≤ 2000) (hd : Dn cc pc .aastore 1 pc2) (kk : jY F G nL k n Q pc2 L st (w.1, jup w.2 q (jqn cQ N (va_up f i (some (ad G v)))))) : jY F G nL k n Q pc L (.inr (ad G v) :: .inl z :: .inr (ad G q) :: st) w := by
  obtain ⟨p, l, e, R, s, m, args, below, meth, c⟩ := F
  obtain ⟨hx, hb, -, hown, hts, -, -, hK, -, hz, hA⟩ := C
  obtain ⟨hd, rfl⟩ := hd
  intro H locs ls hw hS h
  show W p l e R s m args below meth c H locs k n Q (F0 m pc ls (.ref (ad G v) :: .int (zI z) :: .ref (ad G q) :: st.map vv))
  rw [hz0]
  have hic : (Int32.ofNat i).toNatClampNeg = i := nI_clamp (n := i) (by omega)
  have hneg : ¬ Int32.ofNat i < 0 := nI_notneg (by omega)
  obtain ⟨r', hr', cellV, g1, g2, g3, -⟩ := (hw.2 v _ hv).2
  have hcls := (hK.1 ci r hc).2
  obtain ⟨kA, comp, k1, k2, k3, -⟩ := (hK.2 t0 _ ht).2
  have hcomp : comp = (jD G).1 ci := Option.some.inj (k3.symm.trans hcls.1)
  subst hcomp
  obtain ⟨kC, hkC, -⟩ := hcls.2
  have h96 := (hw.2 q _ he).1
  refine W.aast hx hb (hw.2 q _ he).2 (fun q h => by cases h) (fun h => by cases h) k1 k2 rfl hkC ⟨hneg, by show _ < (arrV _ _ _).slots.size; rw [arrV_size, hic]; exact hi⟩ g1 (fun q h => by rw [g3] at h; cases h) (by rw [g2]; exact hkC) (by rw [g2]; exact va_assign hcls) rfl rfl hd fun H1 e1 e2 e3 => ?_
  refine kk H1 _ ls ⟨by rw [e2]; exact hw.1, fun x y hx' => ?_⟩ (hS.put e2 e3 (hA.2 q h96)) h
  dsimp only [jup] at hx'
  by_cases ex : x = q
  · rw [if_pos ex] at hx'
    cases hx'
    rw [ex]
    refine ⟨h96, ?_⟩
    show H1[ad G q]? = some (vp_cell _ _)
    rw [e1]
    rw [vp_cell_q, vp_cell_q, arrV_store]
    congr 2
    funext y
    rw [hic]
    by_cases hq : y = i
    · subst hq
      simp [updV, va_up, va_rf]
    · simp [updV, va_up, hq]
  · rw [if_neg ex] at hx'
    have g := hw.2 x y hx'
    exact ⟨g.1, g.2.kept (e3 _ (fun ea => ex (hA.1 x q g.1 h96 ea)))⟩
end JM3
