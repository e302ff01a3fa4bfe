/-! contracts over the world, and the calls -/
theorem jZs.same {G : GT} {u U : State} {H : Heap} (h : u.vm = U.vm) (hZ : jZs G u H) : jZs G U H := by
  have hv : u.vm.Alike U.vm := h ▸ Vm.Alike.refl _
  exact ⟨va_Z.moved hv hZ.1, va_Z.moved hv hZ.2.1, va_T.moved hv hZ.2.2.1, va_T.moved hv hZ.2.2.2.1, va_Nw.same rfl h hZ.2.2.2.2⟩
theorem jblind (G : GT) (μ : Mem) (av : List Value) : FrameBlind (va_Pc av (jWd G μ)) := by
  intro a U g mk h
  obtain ⟨h1, h2, h3, h4, h5⟩ := h
  exact ⟨h1, h2, va_K.moved (u := U) (U := U.calling g mk a) (Vm.Alike.refl U.vm) h3, jZs.same (u := U) (U := U.calling g mk a) rfl h4, h5⟩
def jl (F : FrT) : Launch := F.2.1
def jR (F : FrT) : Room := F.2.2.2.1
def Cy (F : FrT) (l : Launch) (rm : Room) : Prop := jl F = l ∧ jR F = rm
def jQi (G : GT) (post : Int → Mem → Prop) : Array Value → State → Outcome → State → Prop := va_Qi (fun (r : Int32) (μ' : Mem) => ∃ z, r = zI z ∧ post z μ') (fun μ' t => jWd G μ' t) (jA G)
def jQv (G : GT) (post : Mem → Prop) : Array Value → State → Outcome → State → Prop := va_Qv post (fun μ' t => jWd G μ' t) (jA G)
def jQr (G : GT) (post : Nat → Mem → Prop) : Array Value → State → Outcome → State → Prop := va_Qr (fun _ : Mem => True) (fun μ' a t => jWd G μ' t ∧ post a μ') (jA G)
def MI (l : Launch) (y : MethodName) (cc : ByteArray) (mL : Nat) (rt : FieldType) (rm : Room) (G : GT) (as : List Sv) (μ : Mem) (post : Int → Mem → Prop) : Prop := jadOK G → Met l y (.code y cc mL (some rt) :: jws) rm (va_Pc (as.map vv) (jWd G μ)) (jQi G post) 0 0 (jA G)
def MV (l : Launch) (y : MethodName) (cc : ByteArray) (mL : Nat) (rm : Room) (G : GT) (as : List Sv) (μ : Mem) (post : Mem → Prop) : Prop := jadOK G → Met l y (.code y cc mL none :: jws) rm (va_Pc (as.map vv) (jWd G μ)) (jQv G post) 0 0 (jA G)
def MR (l : Launch) (y : MethodName) (cc : ByteArray) (mL : Nat) (rt : FieldType) (rm : Room) (G : GT) (as : List Sv) (μ : Mem) (post : Nat → Mem → Prop) : Prop := jadOK G → Met l y (.code y cc mL (some rt) :: jws) rm (va_Pc (as.map vv) (jWd G μ)) (jQr G post) 0 0 (jA G)
def jE (F : FrT) (G : GT) (Qc : Array Value → State → Outcome → State → Prop) : State → Prop := match F with
  | (_, _, _, _, s, _, args, below, _, _) => MQ below Qc args s 0 0 (jA G)
def jini (as : List Sv) (mL : Nat) : List (Option Sv) := as.map some ++ List.replicate (mL - as.length) none
theorem jof {l : Launch} {y : MethodName} {cc : ByteArray} {mL : Nat} {ret : Option FieldType} {rm : Room} {G : GT} {as : List Sv} {μ : Mem} {Qc : Array Value → State → Outcome → State → Prop} (hy : plainName y.cls = true) (hn : as.length ≤ mL) (hA : jadOK G)
    (body : ∀ F : FrT, Cx F G y.cls cc mL ret → Cy F l rm → jX F G mL 0 0 (jE F G Qc) 0 (jini as mL) [] μ) : Met l y (.code y cc mL ret :: jws) rm (va_Pc (as.map vv) (jWd G μ)) Qc 0 0 (jA G) := by
  refine Met.ofW (cc := cc) (maxL := mL) (ret := ret) hy rfl ?_
  intro p e s m args below meth c s₁ B hml hv
  obtain ⟨rfl, hw, hK, hZ, hz⟩ := hv
  have hts := atoms_spec (ws := Cond.code y cc mL ret :: jws) B.pre
  have hown : s.vm.findClass y.cls = some m.cls := findClass_of_methodNamed B.named
  have hl := lv_entry (as.map vv) (n := mL) (by rw [lg_sl_vv]; exact hn)
  rw [lg_entry_eq]
  rw [vLi_entry as 0 (mL - as.length)] at hl
  exact body (p, l, e, rm, s, m, (as.map vv).toArray, below, meth, c) ⟨B.exec, B.bytes, hml, hown, fun w h => hts w (List.mem_cons_of_mem _ h), B.returns, B.notSynchronized, hK, hZ, hz, hA⟩ ⟨rfl, rfl⟩ s.heap [] _ hw va_S.rf hl
theorem MI.of {l : Launch} {y : MethodName} {cc : ByteArray} {mL : Nat} {rt : FieldType} {rm : Room} {G : GT} {as : List Sv} {μ : Mem} {post : Int → Mem → Prop} (hy : plainName y.cls = true) (hn : as.length ≤ mL)
    (body : ∀ F : FrT, Cx F G y.cls cc mL (some rt) → Cy F l rm → jX F G mL 0 0 (jE F G (jQi G post)) 0 (jini as mL) [] μ) : MI l y cc mL rt rm G as μ post := fun hA => jof hy hn hA body
theorem MV.of {l : Launch} {y : MethodName} {cc : ByteArray} {mL : Nat} {rm : Room} {G : GT} {as : List Sv} {μ : Mem} {post : Mem → Prop} (hy : plainName y.cls = true) (hn : as.length ≤ mL)
    (body : ∀ F : FrT, Cx F G y.cls cc mL none → Cy F l rm → jX F G mL 0 0 (jE F G (jQv G post)) 0 (jini as mL) [] μ) : MV l y cc mL rm G as μ post := fun hA => jof hy hn hA body
theorem MR.of {l : Launch} {y : MethodName} {cc : ByteArray} {mL : Nat} {rt : FieldType} {rm : Room} {G : GT} {as : List Sv} {μ : Mem} {post : Nat → Mem → Prop} (hy : plainName y.cls = true) (hn : as.length ≤ mL)
    (body : ∀ F : FrT, Cx F G y.cls cc mL (some rt) → Cy F l rm → jX F G mL 0 0 (jE F G (jQr G post)) 0 (jini as mL) [] μ) : MR l y cc mL rt rm G as μ post := fun hA => jof hy hn hA body
section JR
variable {F : FrT} {G : GT} {own : String} {cc : ByteArray} {nL k n : Nat} {ret : Option FieldType} {Q : State → Prop} {pc pc2 tgt : Nat} {L L' : List (Option Sv)} {st stk : List Sv} {μ : Mem} {l : Launch} {rm : Room}
theorem jWd_end {G : GT} {μ : Mem} {s t : State} {H : Heap} {locs : List Loc} (hK : va_K (jD G) jcls (jtys G) s) (hZ : jZs G s s.heap) (hz : jz G ≤ s.heap.size) (hw : jhw G μ H) (hS : va_S (jA G) s.heap H locs) (ht : t.heap = H) (hW : s.WarmedH t.vm) : jWd G μ t := by
  subst ht
  exact ⟨hw, va_K.moved hW.alike hK, jZs.moved hW (jZs.kept hZ (fun a h1 h2 => hS.2.1 a h1 h2)), Nat.le_trans hz hS.1⟩
theorem jx_iret {post : Int → Mem → Prop} (C : Cx F G own cc nL (some .int)) {z : Int} (hd : Dn cc pc .ireturn 1 pc2) (h : post z μ) : jX F G nL 0 0 (jE F G (jQi G post)) pc L [.inl z] μ := by
  obtain ⟨p, l, e, R, s, m, args, below, meth, c⟩ := F
  obtain ⟨hx, hb, -, hown, hts, hr, hlk, hK, hZ, hz, -⟩ := C
  obtain ⟨hd, rfl⟩ := hd
  intro H locs ls hw hS hl
  exact W.iret (v := zI z) hx hb hr (fun t ht hW => ⟨⟨zI z, μ, rfl, ⟨z, rfl, h⟩, jWd_end hK hZ hz hw hS ht hW⟩, hS.F ht⟩) hS.2.2 hd hlk
theorem jx_zret {post : Int → Mem → Prop} (C : Cx F G own cc nL (some .boolean)) {z : Int} (hd : Dn cc pc .ireturn 1 pc2) (hz01 : z = 0 ∨ z = 1) (h : post z μ) : jX F G nL 0 0 (jE F G (jQi G post)) pc L [.inl z] μ := by
  obtain ⟨p, l, e, R, s, m, args, below, meth, c⟩ := F
  obtain ⟨hx, hb, -, hown, hts, hr, hlk, hK, hZ, hz, -⟩ := C
  obtain ⟨hd, rfl⟩ := hd
  intro H locs ls hw hS hl
  have hn : narrow .boolean (.int (zI z)) = .int (zI z) := by
    rcases hz01 with rfl | rfl
    · decide +kernel
    · decide +kernel
  exact W.zret (v := zI z) hx hb hr hn (fun t ht hW => ⟨⟨zI z, μ, rfl, ⟨z, rfl, h⟩, jWd_end hK hZ hz hw hS ht hW⟩, hS.F ht⟩) hS.2.2 hd hlk
theorem jx_vret {post : Mem → Prop} (C : Cx F G own cc nL none) (hd : Dn cc pc .return_ 1 pc2) (h : post μ) : jX F G nL 0 0 (jE F G (jQv G post)) pc L [] μ := by
  obtain ⟨p, l, e, R, s, m, args, below, meth, c⟩ := F
  obtain ⟨hx, hb, -, hown, hts, hr, hlk, hK, hZ, hz, -⟩ := C
  obtain ⟨hd, rfl⟩ := hd
  intro H locs ls hw hS hl
  exact W.vret hx hb hr (fun t ht hW => ⟨⟨μ, rfl, h, jWd_end hK hZ hz hw hS ht hW⟩, hS.F ht⟩) hS.2.2 hd hlk
theorem jx_aret {post : Nat → Mem → Prop} {on : String} (C : Cx F G own cc nL (some (.object on))) {a : Nat} (hd : Dn cc pc .areturn 1 pc2) (h : post a μ) : jX F G nL 0 0 (jE F G (jQr G post)) pc L [.inr a] μ := by
  obtain ⟨p, l, e, R, s, m, args, below, meth, c⟩ := F
  obtain ⟨hx, hb, -, hown, hts, hr, hlk, hK, hZ, hz, -⟩ := C
  obtain ⟨hd, rfl⟩ := hd
  intro H locs ls hw hS hl
  exact W.aret (v := .ref a) hx hb hr (Or.inl ⟨on, rfl⟩) (Or.inr ⟨a, rfl⟩) (fun t ht hW => ⟨⟨μ, a, rfl, trivial, jWd_end hK hZ hz hw hS ht hW, h⟩, hS.F ht⟩) hS.2.2 hd hlk
def YB (y : MethodName) (cc : ByteArray) (mL : Nat) (r : Option FieldType) (na : Nat) : Prop := Cond.code y cc mL r ∈ jws ∧ Cond.initialized y.cls ∈ jws ∧ y.cls ≠ "java/lang/invoke/MethodHandle" ∧ y.cls ≠ "java/lang/invoke/VarHandle" ∧ (parseMethodDescriptor y.desc).map (fun d => d.parameters.length) = some na
def YV (y : MethodName) : Prop := Cond.instanceMethod y ∈ jws ∧ Cond.selects y.cls y y ∈ jws
def Rok (rm rmy : Room) (mL k n : Nat) : Prop := (rmy.cells = 0 ∧ rmy.slots = 0 ∧ rmy.frames + 1 ≤ rm.frames ∧ 8 + (mL + 11) + rmy.locals ≤ rm.locals) ∧ k ≤ rm.cells ∧ n ≤ rm.slots
theorem jcat : ∀ st : List Sv, ((st.map vv).map fun v => v.category).sum = st.length
  | [] => rfl
  | v :: st => by
    rw [List.map_cons, List.map_cons, List.sum_cons, jcat st, vv_cat, List.length_cons]; omega
/-- the run of a call, of the three kinds -/
def jRun (F : FrT) (G : GT) (nL k n : Nat) (pc : Nat) (L : List (Option Sv)) (stk st : List Sv) (μ : Mem) (Qa : State → Outcome → State → Prop) : Prop := match F with
  | (p, l, e, R, s, m, args, below, meth, c) => ∀ (H : Heap) (locs : List Loc) (ls : Array Slot), jhw G μ H → va_S (jA G) s.heap H locs → lv_has ls nL (vLi 0 L) → va_Run p l e R s m args below meth c H locs k n 0 0 (F0 m pc ls (stk.map vv)) (st.map vv) Qa (jA G)
theorem jrunV (C : Cx F G own cc nL ret) (Y : Cy F l rm) {y : MethodName} {ccy : ByteArray} {mL na idx q ci N : Nat} {r : Option FieldType} {rmy : Room} {as : List Sv} {Qc : Array Value → State → Outcome → State → Prop} {T : u_T} {fs : List Value} (hM : Met l y (.code y ccy mL r :: jws) rmy (va_Pc ((.inr (ad G q) :: as : List Sv).map vv) (jWd G μ)) Qc 0 0 (jA G)) (B : YB y ccy mL r na) (V : YV y) (hl : Cond.methodLink own idx y ∈ jws) (he : jcl G q (μ q) = .inr (ci, fs)) (hc : jcls[ci]? = some (y.cls, T, N)) (hq : q < 96) (hn : as.length = na) (hs : stk = as.reverse ++ .inr (ad G q) :: st) (hst : st.length ≤ 8) (hr : Rok rm rmy mL k n) (hd : Dn cc pc (.invokevirtual idx) 3 pc2) : jRun F G nL k n pc L stk st μ (Qc (((.inr (ad G q) :: as : List Sv).map vv).toArray)) := by
  obtain ⟨p, l, e, R, s, m, args, below, meth, c⟩ := F
  obtain ⟨hx, hb, hml, hown, hts, -, -, hK, hZ, hz, -⟩ := C
  obtain ⟨rfl, rfl⟩ := Y
  obtain ⟨hd, rfl⟩ := hd
  subst hs
  intro H locs ls hw hS h
  have hP : va_P (jD G) jcls [(ad G q, .inr (ci, fs))] H := by
    intro x y hx
    have := hw q hq
    rw [he] at this
    cases x with
    | zero => cases hx; exact this
    | succ x => simp at hx
  have key : ∀ U : State, U.heap = H → s.WarmedH U.vm → jWd G μ U := fun U hU hW => jWd_end hK hZ hz hw hS hU hW
  refine va_runV (As := as.map vv) (nL := nL) (n := na) (C := y.cls) (b := ad G q) (bytes := ccy) (maxL := mL) (ret := r) ⟨hx, hb, hml, hown, hts⟩ hM ⟨callB_of na hts (jgood y ccy mL r B.1) rfl hr.1.1 hr.1.2.1 (hts _ B.2.1) (hts _ hl) B.2.2 ⟨hr.1.2.2.1, hr.1.2.2.2⟩, hts _ V.1, hts _ V.2⟩ ⟨jblind G μ _, va_recv hK hP hc (q0 := 0) rfl, fun U hU hW => ⟨rfl, key U hU hW⟩⟩ rfl (by rw [List.length_map]; exact hn) h.1 ?_ (lv_room (by rw [jcat]; exact hst)) hd ⟨by rw [Nat.add_zero]; exact hr.2.1, by rw [Nat.add_zero]; exact hr.2.2⟩
  show (as.reverse ++ Sum.inr (ad G q) :: st).map vv = _
  rw [List.map_append, List.map_reverse]
  rfl
theorem jrunS (C : Cx F G own cc nL ret) (Y : Cy F l rm) {y : MethodName} {ccy : ByteArray} {mL na idx : Nat} {r : Option FieldType} {rmy : Room} {as : List Sv} {Qc : Array Value → State → Outcome → State → Prop} (hM : Met l y (.code y ccy mL r :: jws) rmy (va_Pc (as.map vv) (jWd G μ)) Qc 0 0 (jA G)) (B : YB y ccy mL r na) (V : Cond.static y ∈ jws) (hl : Cond.methodLink own idx y ∈ jws) (hn : as.length = na) (hs : stk = as.reverse ++ st) (hst : st.length ≤ 8) (hr : Rok rm rmy mL k n) (hd : Dn cc pc (.invokestatic idx) 3 pc2) : jRun F G nL k n pc L stk st μ (Qc ((as.map vv).toArray)) := by
  obtain ⟨p, l, e, R, s, m, args, below, meth, c⟩ := F
  obtain ⟨hx, hb, hml, hown, hts, -, -, hK, hZ, hz, -⟩ := C
  obtain ⟨rfl, rfl⟩ := Y
  obtain ⟨hd, rfl⟩ := hd
  subst hs
  intro H locs ls hw hS h
  have key : ∀ U : State, U.heap = H → s.WarmedH U.vm → jWd G μ U := fun U hU hW => jWd_end hK hZ hz hw hS hU hW
  refine va_runS (As := as.map vv) (nL := nL) (n := na) (bytes := ccy) (maxL := mL) (ret := r) ⟨hx, hb, hml, hown, hts⟩ hM ⟨callB_of na hts (jgood y ccy mL r B.1) rfl hr.1.1 hr.1.2.1 (hts _ B.2.1) (hts _ hl) B.2.2 ⟨hr.1.2.2.1, hr.1.2.2.2⟩, hts _ V⟩ ⟨jblind G μ _, fun U hU hW => ⟨rfl, key U hU hW⟩⟩ rfl (by rw [List.length_map]; exact hn) h.1 ?_ (lv_room (by rw [jcat]; exact hst)) hd ⟨by rw [Nat.add_zero]; exact hr.2.1, by rw [Nat.add_zero]; exact hr.2.2⟩
  show (as.reverse ++ st).map vv = _
  rw [List.map_append, List.map_reverse]
/-- PictureJoin.within, called from Dots -/
theorem jrunW (C : Cx F G "PictureJoin$Dots" cc nL ret) (Y : Cy F l rm) {ccy : ByteArray} {mL na : Nat} {r : Option FieldType} {rmy : Room} {as : List Sv} {Qc : Array Value → State → Outcome → State → Prop} (hM : Met l jwin (.code jwin ccy mL r :: jws) rmy (va_Pc (as.map vv) (jWd G μ)) Qc 0 0 (jA G)) (B : YB jwin ccy mL r na) (V : Cond.static jwin ∈ jws) (hn : as.length = na) (hs : stk = as.reverse ++ st) (hst : st.length ≤ 8) (hr : Rok rm rmy mL k n) (hd : Dn cc pc (.invokestatic 39) 3 pc2) : jRun F G nL k n pc L stk st μ (Qc ((as.map vv).toArray)) := by
  obtain ⟨p, l, e, R, s, m, args, below, meth, c⟩ := F
  obtain ⟨hx, hb, hml, hown, hts, -, -, hK, hZ, hz, -⟩ := C
  obtain ⟨rfl, rfl⟩ := Y
  obtain ⟨hd, rfl⟩ := hd
  subst hs
  intro H locs ls hw hS h
  have key : ∀ U : State, U.heap = H → s.WarmedH U.vm → jWd G μ U := fun U hU hW => jWd_end hK hZ hz hw hS hU hW
  refine va_runSN (host := "PictureJoin") (As := as.map vv) (nL := nL) (n := na) (bytes := ccy) (maxL := mL) (ret := r) ⟨hx, hb, hml, hown, hts⟩ hM ⟨va_cnB na hts (jgood jwin ccy mL r B.1) rfl hr.1.1 hr.1.2.1 hZ.2.2.2.2 (hts _ B.2.1) B.2.2 ⟨hr.1.2.2.1, hr.1.2.2.2⟩, hts _ V, trivial⟩ ⟨jblind G μ _, fun U hU hW => ⟨rfl, key U hU hW⟩⟩ rfl (by rw [List.length_map]; exact hn) h.1 ?_ (lv_room (by rw [jcat]; exact hst)) hd ⟨by rw [Nat.add_zero]; exact hr.2.1, by rw [Nat.add_zero]; exact hr.2.2⟩
  show (as.reverse ++ st).map vv = _
  rw [List.map_append, List.map_reverse]
theorem jx_ri (C : Cx F G own cc nL ret) {post : Int → Mem → Prop} {a : Array Value} (R : jRun F G nL k n pc L stk st μ (jQi G post a)) (kk : ∀ (z : Int) (μ' : Mem), post z μ' → jX F G nL k n Q (pc + 3) L (.inl z :: st) μ') : jX F G nL k n Q pc L stk μ := by
  obtain ⟨p, l, e, R, s, m, args, below, meth, c⟩ := F
  intro H locs ls hw hS h
  refine va_calli (R H locs ls hw hS h) hS (fun q _ h => h) (fun q h => h) (fun r u t H1 locs1 ht hvm hp hB hz1 hk1 hS1 => ?_)
  obtain ⟨z, rfl, hp⟩ := hp
  exact kk z u hp H1 locs1 ls (by rw [← ht]; exact hB.1) hS1 h
theorem jx_rv (C : Cx F G own cc nL ret) {post : Mem → Prop} {a : Array Value} (R : jRun F G nL k n pc L stk st μ (jQv G post a)) (kk : ∀ (μ' : Mem), post μ' → jX F G nL k n Q (pc + 3) L st μ') : jX F G nL k n Q pc L stk μ := by
  obtain ⟨p, l, e, R, s, m, args, below, meth, c⟩ := F
  intro H locs ls hw hS h
  refine va_callv (R H locs ls hw hS h) hS (fun q _ h => h) (fun q h => h) (fun u t H1 locs1 ht hvm hp hB hz1 hk1 hS1 => ?_)
  exact kk u hp H1 locs1 ls (by rw [← ht]; exact hB.1) hS1 h
theorem jx_rr (C : Cx F G own cc nL ret) {post : Nat → Mem → Prop} {a : Array Value} (R : jRun F G nL k n pc L stk st μ (jQr G post a)) (kk : ∀ (z : Nat) (μ' : Mem), post z μ' → jX F G nL k n Q (pc + 3) L (.inr z :: st) μ') : jX F G nL k n Q pc L stk μ := by
  obtain ⟨p, l, e, R, s, m, args, below, meth, c⟩ := F
  intro H locs ls hw hS h
  refine va_callr (R H locs ls hw hS h) hS (fun q _ h => h) (fun q h => h) (fun u ra t H1 locs1 ht hvm hp hB hz1 hk1 hS1 => ?_)
  exact kk ra u hB.2 H1 locs1 ls (by rw [← ht]; exact hB.1.1) hS1 h
section CV
variable {y : MethodName} {ccy : ByteArray} {mL na idx q ci N : Nat} {rt : FieldType} {rmy : Room} {as : List Sv} {T : u_T} {fs : List Value}
theorem Cx.ok (C : Cx F G own cc nL ret) : jadOK G := by
  obtain ⟨p, l, e, R, s, m, args, below, meth, c⟩ := F
  exact C.2.2.2.2.2.2.2.2.2.2
theorem jx_cVi (C : Cx F G own cc nL ret) (Y : Cy F l rm) {post : Int → Mem → Prop} (hM : MI l y ccy mL rt rmy G (.inr (ad G q) :: as) μ post) (B : YB y ccy mL (some rt) na) (V : YV y) (hl : Cond.methodLink own idx y ∈ jws) (he : jcl G q (μ q) = .inr (ci, fs)) (hc : jcls[ci]? = some (y.cls, T, N)) (hq : q < 96) (hn : as.length = na) (hs : stk = as.reverse ++ .inr (ad G q) :: st) (hst : st.length ≤ 8) (hr : Rok rm rmy mL k n) (hd : Dn cc pc (.invokevirtual idx) 3 pc2) (kk : ∀ (z : Int) (μ' : Mem), post z μ' → jX F G nL k n Q pc2 L (.inl z :: st) μ') : jX F G nL k n Q pc L stk μ :=
  jx_ri C (jrunV C Y (hM C.ok) B V hl he hc hq hn hs hst hr hd) (by have h2 := hd.2; subst h2; exact kk)
theorem jx_cVv (C : Cx F G own cc nL ret) (Y : Cy F l rm) {post : Mem → Prop} (hM : MV l y ccy mL rmy G (.inr (ad G q) :: as) μ post) (B : YB y ccy mL none na) (V : YV y) (hl : Cond.methodLink own idx y ∈ jws) (he : jcl G q (μ q) = .inr (ci, fs)) (hc : jcls[ci]? = some (y.cls, T, N)) (hq : q < 96) (hn : as.length = na) (hs : stk = as.reverse ++ .inr (ad G q) :: st) (hst : st.length ≤ 8) (hr : Rok rm rmy mL k n) (hd : Dn cc pc (.invokevirtual idx) 3 pc2) (kk : ∀ (μ' : Mem), post μ' → jX F G nL k n Q pc2 L st μ') : jX F G nL k n Q pc L stk μ :=
  jx_rv C (jrunV C Y (hM C.ok) B V hl he hc hq hn hs hst hr hd) (by have h2 := hd.2; subst h2; exact kk)
theorem jx_cVr (C : Cx F G own cc nL ret) (Y : Cy F l rm) {post : Nat → Mem → Prop} (hM : MR l y ccy mL rt rmy G (.inr (ad G q) :: as) μ post) (B : YB y ccy mL (some rt) na) (V : YV y) (hl : Cond.methodLink own idx y ∈ jws) (he : jcl G q (μ q) = .inr (ci, fs)) (hc : jcls[ci]? = some (y.cls, T, N)) (hq : q < 96) (hn : as.length = na) (hs : stk = as.reverse ++ .inr (ad G q) :: st) (hst : st.length ≤ 8) (hr : Rok rm rmy mL k n) (hd : Dn cc pc (.invokevirtual idx) 3 pc2) (kk : ∀ (z : Nat) (μ' : Mem), post z μ' → jX F G nL k n Q pc2 L (.inr z :: st) μ') : jX F G nL k n Q pc L stk μ :=
  jx_rr C (jrunV C Y (hM C.ok) B V hl he hc hq hn hs hst hr hd) (by have h2 := hd.2; subst h2; exact kk)
theorem jx_cSi (C : Cx F G own cc nL ret) (Y : Cy F l rm) {post : Int → Mem → Prop} (hM : MI l y ccy mL rt rmy G as μ post) (B : YB y ccy mL (some rt) na) (V : Cond.static y ∈ jws) (hl : Cond.methodLink own idx y ∈ jws) (hn : as.length = na) (hs : stk = as.reverse ++ st) (hst : st.length ≤ 8) (hr : Rok rm rmy mL k n) (hd : Dn cc pc (.invokestatic idx) 3 pc2) (kk : ∀ (z : Int) (μ' : Mem), post z μ' → jX F G nL k n Q pc2 L (.inl z :: st) μ') : jX F G nL k n Q pc L stk μ :=
  jx_ri C (jrunS C Y (hM C.ok) B V hl hn hs hst hr hd) (by have h2 := hd.2; subst h2; exact kk)
theorem jx_cWi (C : Cx F G "PictureJoin$Dots" cc nL ret) (Y : Cy F l rm) {post : Int → Mem → Prop} (hM : MI l jwin ccy mL rt rmy G as μ post) (B : YB jwin ccy mL (some rt) na) (V : Cond.static jwin ∈ jws) (hn : as.length = na) (hs : stk = as.reverse ++ st) (hst : st.length ≤ 8) (hr : Rok rm rmy mL k n) (hd : Dn cc pc (.invokestatic 39) 3 pc2) (kk : ∀ (z : Int) (μ' : Mem), post z μ' → jX F G nL k n Q pc2 L (.inl z :: st) μ') : jX F G nL k n Q pc L stk μ :=
  jx_ri C (jrunW C Y (hM C.ok) B V hn hs hst hr hd) (by have h2 := hd.2; subst h2; exact kk)
end CV
/-- what a method that changes nothing answers -/
def rdr (μ : Mem) (v : Int) : Int → Mem → Prop := fun z μ' => z = v ∧ μ' = μ
/-- an answer yes or no, nothing changed -/
def rdb (μ : Mem) (c : Prop) : Int → Mem → Prop := fun z μ' => μ' = μ ∧ ((z = 1 ∧ c) ∨ (z = 0 ∧ ¬ c))
theorem jx_max (C : Cx F G own cc nL ret) (Y : Cy F l rm) {a b : Int} {idx : Nat} (ha : InR a) (hb : InR b) (hl : Cond.methodLink own idx Lib.Math.max.name ∈ jws) (hms : Cond.static Lib.Math.max.name ∈ jws) (hmi : Cond.initialized "java/lang/Math" ∈ jws) (hmc : Cond.code Lib.Math.max.name Lib.Math.max.code 2 (some .int) ∈ jws) (hst : st.length ≤ 8) (hr : 1 ≤ rm.frames ∧ 21 ≤ rm.locals ∧ k ≤ rm.cells ∧ n ≤ rm.slots) (hd : Dn cc pc (.invokestatic idx) 3 pc2) (kk : jX F G nL k n Q pc2 L (.inl (max a b) :: st) μ) : jX F G nL k n Q pc L (.inl b :: .inl a :: st) μ := by
  obtain ⟨p, l, e, R, s, m, args, below, meth, c⟩ := F
  obtain ⟨hx, hbb, hml, hown, hts, -, -, hK, hZ, hz, -⟩ := C
  obtain ⟨rfl, rfl⟩ := Y
  obtain ⟨hd, rfl⟩ := hd
  intro H locs ls hw hS h
  refine va_mmax hx hbb (hml.trans h.1.symm) hown (hts _ hl) (hts _ hms) (hts _ hmi) (hts _ hmc) hr.1 (by rw [jcat]; exact Nat.le_trans (by omega) hr.2.1) hr.2.2.1 hr.2.2.2 hd ?_
  have e : (if zI a < zI b then zI b else zI a) = zI (max a b) := by
    by_cases hab : a < b
    · rw [if_pos ((zI_lt ha hb).mpr hab), Int.max_eq_right (Int.le_of_lt hab)]
    · rw [if_neg (fun q => hab ((zI_lt ha hb).mp q)), Int.max_eq_left (by omega)]
  rw [e]
  exact kk H locs ls hw hS h
theorem jx_min (C : Cx F G own cc nL ret) (Y : Cy F l rm) {a b : Int} {idx : Nat} (ha : InR a) (hb : InR b) (hl : Cond.methodLink own idx Lib.Math.min.name ∈ jws) (hms : Cond.static Lib.Math.min.name ∈ jws) (hmi : Cond.initialized "java/lang/Math" ∈ jws) (hmc : Cond.code Lib.Math.min.name Lib.Math.min.code 2 (some .int) ∈ jws) (hst : st.length ≤ 8) (hr : 1 ≤ rm.frames ∧ 21 ≤ rm.locals ∧ k ≤ rm.cells ∧ n ≤ rm.slots) (hd : Dn cc pc (.invokestatic idx) 3 pc2) (kk : jX F G nL k n Q pc2 L (.inl (min a b) :: st) μ) : jX F G nL k n Q pc L (.inl b :: .inl a :: st) μ := by
  obtain ⟨p, l, e, R, s, m, args, below, meth, c⟩ := F
  obtain ⟨hx, hbb, hml, hown, hts, -, -, hK, hZ, hz, -⟩ := C
  obtain ⟨rfl, rfl⟩ := Y
  obtain ⟨hd, rfl⟩ := hd
  intro H locs ls hw hS h
  refine va_mmin hx hbb (hml.trans h.1.symm) hown (hts _ hl) (hts _ hms) (hts _ hmi) (hts _ hmc) hr.1 (by rw [jcat]; exact Nat.le_trans (by omega) hr.2.1) hr.2.2.1 hr.2.2.2 hd ?_
  have e : (if zI b < zI a then zI b else zI a) = zI (min a b) := by
    by_cases hab : b < a
    · rw [if_pos ((zI_lt hb ha).mpr hab), Int.min_eq_right (Int.le_of_lt hab)]
    · rw [if_neg (fun q => hab ((zI_lt hb ha).mp q)), Int.min_eq_left (by omega)]
  rw [e]
  exact kk H locs ls hw hS h
theorem jx_abs (C : Cx F G own cc nL ret) (Y : Cy F l rm) {a : Int} {idx : Nat} (ha : InR a) (hl : Cond.methodLink own idx Lib.Math.abs.name ∈ jws) (hms : Cond.static Lib.Math.abs.name ∈ jws) (hmi : Cond.initialized "java/lang/Math" ∈ jws) (hmc : Cond.code Lib.Math.abs.name Lib.Math.abs.code 1 (some .int) ∈ jws) (hst : st.length ≤ 8) (hr : 1 ≤ rm.frames ∧ 21 ≤ rm.locals ∧ k ≤ rm.cells ∧ n ≤ rm.slots) (hd : Dn cc pc (.invokestatic idx) 3 pc2) (kk : jX F G nL k n Q pc2 L (.inl (if 0 ≤ a then a else 0 - a) :: st) μ) : jX F G nL k n Q pc L (.inl a :: st) μ := by
  obtain ⟨p, l, e, R, s, m, args, below, meth, c⟩ := F
  obtain ⟨hx, hbb, hml, hown, hts, -, -, hK, hZ, hz, -⟩ := C
  obtain ⟨rfl, rfl⟩ := Y
  obtain ⟨hd, rfl⟩ := hd
  intro H locs ls hw hS h
  refine va_mabs hx hbb (hml.trans h.1.symm) hown (hts _ hl) (hts _ hms) (hts _ hmi) (hts _ hmc) hr.1 (by rw [jcat]; exact Nat.le_trans (by omega) hr.2.1) hr.2.2.1 hr.2.2.2 hd ?_
  have e : (if 0 ≤ zI a then zI a else 0 - zI a) = zI (if 0 ≤ a then a else 0 - a) := by
    have h0 : (0 : Int32) = zI 0 := zI_0.symm
    by_cases hab : 0 ≤ a
    · rw [if_pos hab, if_pos (by rw [h0]; exact (zI_le ⟨by decide, by decide⟩ ha).mpr hab)]
    · rw [if_neg hab, if_neg (fun q => hab (by rw [h0] at q; exact (zI_le ⟨by decide, by decide⟩ ha).mp q)), h0, zI_sub]
  rw [e]
  exact kk H locs ls hw hS h
end JR
