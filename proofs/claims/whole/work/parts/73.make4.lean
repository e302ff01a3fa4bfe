/-! constructors: their contracts, their calls -/
def jnl : List (String × Nat × MethodName) := [("PictureJoin", 11, ⟨"PictureJoin$World", "<init>", "()V"⟩), ("PictureJoin$Album", 27, ⟨"PictureJoin$Picture", "<init>", "()V"⟩), ("PictureJoin$Picture", 11, ⟨"PictureJoin$Dots", "<init>", "()V"⟩), ("PictureJoin$Picture", 20, ⟨"PictureJoin$Marks", "<init>", "()V"⟩), ("PictureJoin$Album", 28, ⟨"PictureJoin$Pairing", "<init>", "()V"⟩), ("PictureJoin", 25, ⟨"PictureJoin$Overlap", "<init>", "()V"⟩), ("PictureJoin", 32, ⟨"PictureJoin$Seam", "<init>", "()V"⟩)]
def jNs (U : State) : Prop := (∀ x ∈ jnl, va_Nw (.methodLinkNest x.1 x.2.1 x.2.2 "PictureJoin") U) ∧ va_AO RX5 U ∧ va_AO RX4 U
theorem jNs.moved {u U : State} (hW : u.WarmedH U.vm) (h : jNs u) : jNs U := ⟨fun x hx => va_Nw.warmM hW (h.1 x hx), va_AO.moved hW.alike h.2.1, va_AO.moved hW.alike h.2.2⟩
def jWp (G : GT) (w : Jw) (U : State) : Prop := jhp G w U.heap ∧ va_K (jD G) jcls (jtys G) U ∧ jZs G U U.heap ∧ jz G ≤ U.heap.size ∧ jNs U
theorem jblindp (G : GT) (w : Jw) (av : List Value) : FrameBlind (va_Pc av (jWp G w)) := by
  intro a U g mk h
  obtain ⟨h1, h2, h3, h4, h5, h6, h7, h8⟩ := h
  exact ⟨h1, h2, va_K.moved (u := U) (U := U.calling g mk a) (Vm.Alike.refl U.vm) h3, jZs.same (u := U) (U := U.calling g mk a) rfl h4, h5, fun x hx => va_tabs (u := U) (U := U.calling g mk a) rfl rfl (h6 x hx), va_AO.moved (u := U) (U := U.calling g mk a) (Vm.Alike.refl U.vm) h7, va_AO.moved (u := U) (U := U.calling g mk a) (Vm.Alike.refl U.vm) h8⟩
theorem jWp_end {G : GT} {w : Jw} {s t : State} {H : Heap} {locs : List Loc} (hK : va_K (jD G) jcls (jtys G) s) (hZ : jZs G s s.heap) (hz : jz G ≤ s.heap.size) (hNs : jNs s) (hw : jhp G w H) (hS : va_S (jA G) s.heap H locs) (ht : t.heap = H) (hW : s.WarmedH t.vm) : jWp G w t := by
  subst ht
  exact ⟨hw, va_K.moved hW.alike hK, jZs.moved hW (jZs.kept hZ (fun a h1 h2 => hS.2.1 a h1 h2)), Nat.le_trans hz hS.1, jNs.moved hW hNs⟩
def jNf (F : FrT) : Prop := match F with
  | (_, _, _, _, s, _, _, _, _, _) => jNs s
def jEk (F : FrT) (G : GT) (mc ms : Nat) (Qc : Array Value → State → Outcome → State → Prop) : State → Prop := match F with
  | (_, _, _, _, s, _, args, below, _, _) => MQ below Qc args s mc ms (jA G)
def jKv (G : GT) (w : Jw) : Array Value → State → Outcome → State → Prop := va_Qv (fun _ : Unit => True) (fun _ t => jWp G w t) (jA G)
def MK (l : Launch) (y : MethodName) (cc : ByteArray) (mL : Nat) (rm : Room) (G : GT) (a : Nat) (w w' : Jw) (mc ms : Nat) : Prop := jadOK G → Met l y (.code y cc mL none :: jws) rm (va_Pc [.ref a] (jWp G w)) (jKv G w') mc ms (jA G)
theorem MK.of {l : Launch} {y : MethodName} {cc : ByteArray} {mL : Nat} {rm : Room} {G : GT} {a : Nat} {w w' : Jw} {mc ms : Nat} (hy : plainName y.cls = true) (hn : 1 ≤ mL) (hnm : y.name = "<init>")
    (body : ∀ F : FrT, Cx F G y.cls cc mL none → Cy F l rm → jN F → jNf F → jY F G mL 0 0 (jEk F G mc ms (jKv G w')) 0 (jini [.inr a] mL) [] w) : MK l y cc mL rm G a w w' mc ms := by
  intro hA
  refine Met.ofW (cc := cc) (maxL := mL) (ret := none) hy rfl ?_
  intro p e s m args below meth c s₁ B hml hv
  obtain ⟨rfl, hw, hK, hZ, hz, hNs⟩ := hv
  have hts := atoms_spec (ws := Cond.code y cc mL none :: jws) B.pre
  have hown : s.vm.findClass y.cls = some m.cls := findClass_of_methodNamed B.named
  have hl := lv_entry (([.inr a] : List Sv).map vv) (n := mL) (by rw [lg_sl_vv]; exact hn)
  rw [lg_entry_eq]
  rw [vLi_entry [.inr a] 0 (mL - 1)] at hl
  exact body (p, l, e, rm, s, m, (([.inr a] : List Sv).map vv).toArray, below, meth, c) ⟨B.exec, B.bytes, hml, hown, fun w h => hts w (List.mem_cons_of_mem _ h), B.returns, B.notSynchronized, hK, hZ, hz, hA⟩ ⟨rfl, rfl⟩ ((name_of_methodNamed B.named B.method).1.trans hnm) hNs s.heap [] _ hw va_S.rf hl
section JM4
variable {F : FrT} {G : GT} {own : String} {cc : ByteArray} {nL k n : Nat} {ret : Option FieldType} {Q : State → Prop} {pc pc2 : Nat} {L : List (Option Sv)} {st : List Sv} {w w' : Jw} {l : Launch} {rm : Room}
theorem jy_vret (C : Cx F G own cc nL none) (NF : jNf F) (hd : Dn cc pc .return_ 1 pc2) : jY F G nL k n (jEk F G k n (jKv G w)) pc L [] w := by
  obtain ⟨p, l, e, R, s, m, args, below, meth, c⟩ := F
  obtain ⟨hx, hb, -, hown, hts, hr, hlk, hK, hZ, hz, -⟩ := C
  obtain ⟨hd, rfl⟩ := hd
  intro H locs ls hw hS hl
  exact W.vret hx hb hr (fun t ht hW => ⟨⟨(), rfl, trivial, jWp_end hK hZ hz NF hw hS ht hW⟩, hS.F ht⟩) hS.2.2 hd hlk
theorem jy_init (C : Cx F G own cc nL ret) (Y : Cy F l rm) (NF : jNf F) {y : MethodName} {ccy : ByteArray} {mLy idx a : Nat} {rmy : Room} {mc ms : Nat} (hM : MK l y ccy mLy rmy G a w w' mc ms) (B : YB y ccy mLy none 0) (hnm : y.name = "<init>") (hi : Cond.instanceMethod y ∈ jws) (hl : (own, idx, y) ∈ jnl) (hst : st.length ≤ 8) (hr : rmy.cells = mc ∧ rmy.slots = ms ∧ rmy.frames + 1 ≤ rm.frames ∧ 8 + (mLy + 11) + rmy.locals ≤ rm.locals) (hk : k + mc ≤ rm.cells ∧ n + ms ≤ rm.slots) (hd : Dn cc pc (.invokespecial idx) 3 pc2) (kk : jY F G nL (k + mc) (n + ms) Q pc2 L st w') : jY F G nL k n Q pc L (.inr a :: st) w := by
  obtain ⟨p, l, e, R, s, m, args, below, meth, c⟩ := F
  have hA := C.2.2.2.2.2.2.2.2.2.2
  obtain ⟨hx, hb, hml, hown, hts, -, -, hK, hZ, hz, -⟩ := C
  obtain ⟨rfl, rfl⟩ := Y
  obtain ⟨hd, rfl⟩ := hd
  intro H locs ls hw hS h
  have key : ∀ U : State, U.heap = H → s.WarmedH U.vm → jWp G w U := fun U hU hW => jWp_end hK hZ hz NF hw hS hU hW
  have hrun := va_runIN (e := e) (below := below) (meth := meth) (host := "PictureJoin") (As := []) (rest := st.map vv) (nL := nL) (n := 0) (b := a) (bytes := ccy) (maxL := mLy) ⟨hx, hb, hml, hown, hts⟩ (hM hA) ⟨va_cnB 0 hts (jgood y ccy mLy none B.1) rfl hr.1 hr.2.1 (NF.1 _ hl) (hts _ B.2.1) B.2.2 ⟨hr.2.2.1, hr.2.2.2⟩, hnm, hts _ hi⟩ ⟨jblindp G w _, fun U hU hW => ⟨rfl, key U hU hW⟩⟩ (g := F0 m pc ls (.ref a :: st.map vv)) (H := H) (locs := locs) (cells := k) (slots := n) rfl rfl h.1 rfl (lv_room (by rw [jcat]; exact hst)) hd hk
  refine va_callv hrun hS (fun q _ h => h) (fun q h => h) (fun u t H1 locs1 ht hvm hp hB hz1 hk1 hS1 => ?_)
  exact kk H1 locs1 ls (by rw [← ht]; exact hB.1) hS1 h
end JM4
