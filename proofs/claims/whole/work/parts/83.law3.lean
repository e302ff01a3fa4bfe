theorem law_kn {s : State} {args : Array Value} (hts : ∀ w ∈ jws, w.before args s = true) {ci N n : Nat} {Cn : String} {T : u_T} {ty : Nat → FieldType} (ft : FT ci Cn T N ty) (hi : Cond.instantiable Cn n ∈ jws) : ∃ x : ClassId × (Nat → Nat), ∀ q : vw_C, jcls[ci]? = some q → u_Kn s q.1 q.2.1 q.2.2 x.1 x.2 := by
  obtain ⟨c, i, h⟩ := u_known hts ft.2.1 (hts _ hi)
  refine ⟨(c, i), fun q hq => ?_⟩
  cases ft.1.symm.trans hq
  exact h
set_option maxHeartbeats 4000000 in
set_option maxRecDepth 100000 in
theorem law_G {s : State} {b : Nat} (hts : ∀ w ∈ lw_tbl, w.before #[Value.ref b] s = true) (htj : ∀ w ∈ jws, w.before #[Value.ref b] s = true) (hgv : (Jvm.Cond.and given_1 narrow_1).before #[Value.ref b] s = true) : ∃ G : GT, va_K (jD G) jcls (jtys G) s ∧ jZs G s s.heap ∧ jz G = s.heap.size ∧ hadG G := by
  have hs := flat_of_before _ hgv
  have hA0 : ∀ a : Nat, a < s.heap.size → ¬ s.heap.size ≤ a := fun a h => Nat.not_le.mpr h
  have hcl : ∀ c : Nat, ∃ x : ClassId × (Nat → Nat), ∀ q : vw_C, jcls[c]? = some q → u_Kn s q.1 q.2.1 q.2.2 x.1 x.2 := fun c => match c with
    | 0 => law_kn htj ft_X0 win_X0
    | 1 => law_kn htj ft_X1 win_X1
    | 2 => law_kn htj ft_X2 win_X2
    | 3 => law_kn htj ft_X3 win_X3
    | 4 => law_kn htj ft_X4 win_X4
    | 5 => law_kn htj ft_X5 win_X5
    | 6 => law_kn htj ft_X6 win_X6
    | 7 => law_kn htj ft_X7 win_X7
    | 8 => law_kn htj ft_X8 win_X8
    | 9 => law_kn htj ft_X9 win_X9
    | _ + 10 => ⟨(0, fun _ => 0), fun q hq => by simp [jcls] at hq⟩
  obtain ⟨f, hf⟩ := Classical.axiomOfChoice hcl
  obtain ⟨cI, kI, coI, f1, f2, f3⟩ := Cond.arrayClass_spec (htj _ wac_int)
  obtain ⟨coP, cP, kP, g1, -, g3, g4, g5⟩ := Cond.arrayOver_spec (hts (.arrayOver (.object RX5)) (List.mem_of_getElem? (i := 81) (by decide +kernel)))
  obtain ⟨coQ, cQ, kQ, i1, -, i3, i4, i5⟩ := Cond.arrayOver_spec (hts (.arrayOver (.object RX4)) (List.mem_of_getElem? (i := 83) (by decide +kernel)))
  obtain ⟨wx, ewx, Twx⟩ := va_Tof (tm := (Term.static "PictureJoin$Dots" "WAYS_X" "[I")) (ty := .int) (N := 4) (f := jwxv) (A := fun q => s.heap.size ≤ q) (by decide) (hs (.arrayOf (Term.static "PictureJoin$Dots" "WAYS_X" "[I") .int) (by decide +kernel)) (va_eqt (z := 4) (hs (.eq (.length (Term.static "PictureJoin$Dots" "WAYS_X" "[I")) (.int 4)) (by decide +kernel))) (fun j hj => by
      rcases (show j = 0 ∨ j = 1 ∨ j = 2 ∨ j = 3 by omega) with rfl | rfl | rfl | rfl
      · exact va_eqt (z := 1) (hs (.eq (.elem (Term.static "PictureJoin$Dots" "WAYS_X" "[I") (.int 0)) (.int (1))) (by decide +kernel))
      · exact va_eqt (z := 0) (hs (.eq (.elem (Term.static "PictureJoin$Dots" "WAYS_X" "[I") (.int 1)) (.int (0))) (by decide +kernel))
      · exact va_eqt (z := 1) (hs (.eq (.elem (Term.static "PictureJoin$Dots" "WAYS_X" "[I") (.int 2)) (.int (1))) (by decide +kernel))
      · exact va_eqt (z := 1) (hs (.eq (.elem (Term.static "PictureJoin$Dots" "WAYS_X" "[I") (.int 3)) (.int (1))) (by decide +kernel))) hA0
  obtain ⟨wy, ewy, Twy⟩ := va_Tof (tm := (Term.static "PictureJoin$Dots" "WAYS_Y" "[I")) (ty := .int) (N := 4) (f := jwyv) (A := fun q => s.heap.size ≤ q) (by decide) (hs (.arrayOf (Term.static "PictureJoin$Dots" "WAYS_Y" "[I") .int) (by decide +kernel)) (va_eqt (z := 4) (hs (.eq (.length (Term.static "PictureJoin$Dots" "WAYS_Y" "[I")) (.int 4)) (by decide +kernel))) (fun j hj => by
      rcases (show j = 0 ∨ j = 1 ∨ j = 2 ∨ j = 3 by omega) with rfl | rfl | rfl | rfl
      · exact va_eqt (z := 0) (hs (.eq (.elem (Term.static "PictureJoin$Dots" "WAYS_Y" "[I") (.int 0)) (.int (0))) (by decide +kernel))
      · exact va_eqt (z := 1) (hs (.eq (.elem (Term.static "PictureJoin$Dots" "WAYS_Y" "[I") (.int 1)) (.int (1))) (by decide +kernel))
      · exact va_eqt (z := 1) (hs (.eq (.elem (Term.static "PictureJoin$Dots" "WAYS_Y" "[I") (.int 2)) (.int (1))) (by decide +kernel))
      · exact va_eqt (z := -1) (hs (.eq (.elem (Term.static "PictureJoin$Dots" "WAYS_Y" "[I") (.int 3)) (.int (-1))) (by decide +kernel))) hA0
  refine ⟨((fun c => (f c).1, fun c => (f c).2), cI, cP, cQ, fun k => s.heap.size + rk k, s.heap.size, wx, wy), ⟨fun c q hq => hf c q hq, ?_⟩, ⟨va_Zof (hts (.laysStatic RX1 "WAYS_X" "[I") (List.mem_of_getElem? (i := 399) (by decide +kernel))) (htj _ wi_X1) ewx hA0, va_Zof (hts (.laysStatic RX1 "WAYS_Y" "[I") (List.mem_of_getElem? (i := 401) (by decide +kernel))) (htj _ wi_X1) ewy hA0, Twx, Twy, va_Nw.of rfl (hts _ (List.mem_of_getElem? (i := 396) (by decide +kernel)))⟩, rfl, fun k hk => rfl⟩
  intro k q hq
  match k, hq with
  | 0, hq => cases hq; exact ⟨fun n z => ⟨fun k h => (by cases h), kI, f2, coI, f3⟩, f1⟩
  | 1, hq => cases hq; exact ⟨fun n z => ⟨fun k h => (by cases h), kP, g3, coP, g4⟩, kP, coP, g3, g4, g1, g5⟩
  | 2, hq => cases hq; exact ⟨fun n z => ⟨fun k h => (by cases h), kQ, i3, coQ, i4⟩, kQ, coQ, i3, i4, i1, i5⟩
  | k + 3, hq => simp [jtys] at hq
theorem law_Ns {s : State} {b : Nat} (hts : ∀ w ∈ lw_tbl, w.before #[Value.ref b] s = true) : jNs s :=
  ⟨List.forall_mem_cons.mpr ⟨va_Nw.of rfl (hts _ (List.mem_of_getElem? (i := 65) (by decide +kernel))), List.forall_mem_cons.mpr ⟨va_Nw.of rfl (hts _ (List.mem_of_getElem? (i := 85) (by decide +kernel))), List.forall_mem_cons.mpr ⟨va_Nw.of rfl (hts _ (List.mem_of_getElem? (i := 91) (by decide +kernel))), List.forall_mem_cons.mpr ⟨va_Nw.of rfl (hts _ (List.mem_of_getElem? (i := 124) (by decide +kernel))), List.forall_mem_cons.mpr ⟨va_Nw.of rfl (hts _ (List.mem_of_getElem? (i := 184) (by decide +kernel))), List.forall_mem_cons.mpr ⟨va_Nw.of rfl (hts _ (List.mem_of_getElem? (i := 237) (by decide +kernel))), List.forall_mem_cons.mpr ⟨va_Nw.of rfl (hts _ (List.mem_of_getElem? (i := 276) (by decide +kernel))), fun _ h => absurd h List.not_mem_nil⟩⟩⟩⟩⟩⟩⟩, va_AO.of (hts (.arrayOver (.object RX5)) (List.mem_of_getElem? (i := 81) (by decide +kernel))), va_AO.of (hts (.arrayOver (.object RX4)) (List.mem_of_getElem? (i := 83) (by decide +kernel)))⟩
set_option maxHeartbeats 4000000 in
set_option maxRecDepth 100000 in
theorem law_body {F : FrT} {G : GT} {l : Launch} {Q : State → Prop} {b N : Nat} {xs : Nat → Int32} (C : Cx F G "PictureJoinLaw" cL_law 4 ret) (Yy : Cy F l room_1) (Nf : jNf F) (had : hadG G) (hX : jSc F G b N xs) (hN : N ≤ 3072) (kend : ∀ (L : List (Option Sv)) (μ : Mem), jX F G 4 96 8426 Q 872 L [.inl 1] μ) : jY F G 4 0 0 Q 0 (jini [.inr b] 4) [] (0, fun _ => none) := by
  refine jk_new (ci := 8) (N := 6) (nn' := 1) (k' := 1) (n' := 6) (fs := [.null, .null, .null, .null, .int 0, .int 0]) C 0 ft_X8 (by decide) (had 0 (by decide)) (by decide) wcl_L_7 win_X8 wi_X8 (by rw [Yy.2]; exact Nat.le_of_ble_eq_true rfl) (by rw [Yy.2]; exact Nat.le_of_ble_eq_true rfl) dL_law_0 dL_law_3 rfl rfl rfl ?_
  refine jy_initL C Yy Nf (k_X8_init l G had _) yb_X8_init rfl wn_X8_init wm_L_9 (Nat.le_of_ble_eq_true rfl) ⟨rfl, rfl, Nat.le_of_ble_eq_true rfl, Nat.le_of_ble_eq_true rfl⟩ ⟨Nat.le_of_ble_eq_true rfl, Nat.le_of_ble_eq_true rfl⟩ dL_law_4 ?_
  refine jy_k (k' := 78) (n' := 4323) rfl rfl ?_
  refine jy_astore_n C dL_law_7 (by decide) rfl ?_
  refine jk_new (ci := 9) (N := 27) (nn' := 79) (k' := 79) (n' := 4350) (fs := [.int 0, .int 0, .null, .null, .null, .int 0, .int 0, .int 0, .null, .null, .null, .null, .null, .null, .null, .null, .null, .int 0, .null, .null, .null, .null, .int 0, .int 0, .int 0, .int 0, .null]) C 78 ft_X9 (by decide) (had 78 (by decide)) (by decide) wcl_L_10 win_X9 wi_X9 (by rw [Yy.2]; exact Nat.le_of_ble_eq_true rfl) (by rw [Yy.2]; exact Nat.le_of_ble_eq_true rfl) dL_law_8 dL_law_11 rfl rfl rfl ?_
  refine jy_initL C Yy Nf (k_X9_init l G had _) yb_X9_init rfl wn_X9_init wm_L_12 (Nat.le_of_ble_eq_true rfl) ⟨rfl, rfl, Nat.le_of_ble_eq_true rfl, Nat.le_of_ble_eq_true rfl⟩ ⟨Nat.le_of_ble_eq_true rfl, Nat.le_of_ble_eq_true rfl⟩ dL_law_12 ?_
  refine jy_k (k' := 96) (n' := 8426) rfl rfl ?_
  refine jY_toX (μ := jm0) (fun H h => jhw_first h) ?_
  refine jx_astore_n C dL_law_15 (by decide) rfl ?_
  refine jx_iconst C dL_law_16 ?_
  refine jx_istore_n C dL_law_17 (by decide) rfl ?_
  exact law_loop C Yy hX hN (Nat.le_of_ble_eq_true rfl) (Nat.le_of_ble_eq_true rfl) kend (N + 1) 0 jm0 (by omega) (by omega) (by omega) jm0_LI
set_option maxHeartbeats 4000000 in
set_option maxRecDepth 100000 in
theorem whole_start {p : Program} {e : Env} {s : State} {m : MethodId} {below : List Frame} {meth : Method} {c : Code} (l : Launch) (hflags : l.flags = flags0) {b L : Nat} {xs : Nat → Int32} (hL : L ≤ 3072) (C0 : lw_At p s m meth c b L xs) : W p l e room_1 s m #[Value.ref b] below meth c s.heap [] 0 0 (lw_Z below #[Value.ref b] s) (entryFrame m ([Value.ref b] : List Value).toArray 4) := by
  obtain ⟨hx, hb, hr, hml, hown, hts, hX, hbl, hlocks, hgv⟩ := id C0
  have htj : ∀ w ∈ jws, w.before #[Value.ref b] s = true := fun w hw => hts w (List.mem_filter.mp hw).1
  obtain ⟨G, hK, hZ, hz, had⟩ := law_G hts htj hgv
  have hA := had_ok had
  have C : Cx (p, l, e, room_1, s, m, #[Value.ref b], below, meth, c) G "PictureJoinLaw" cL_law 4 ret := ⟨hx, hb, hml, hown, htj, hr, hlocks, hK, hZ, Nat.le_of_eq hz, hA⟩
  have hSc : jSc (p, l, e, room_1, s, m, #[Value.ref b], below, meth, c) G b L xs := ⟨hX, hbl, fun h => by unfold jA at h; omega⟩
  have kend : ∀ (L' : List (Option Sv)) (μ : Mem), jX (p, l, e, room_1, s, m, #[Value.ref b], below, meth, c) G 4 96 8426 (lw_Z below #[Value.ref b] s) 872 L' [.inl 1] μ := by
    intro L' μ H locs ls hw hS h
    refine va_forget (fun q hq => by have h9 := hS.2.2 q hq; unfold jA at h9; omega) ?_
    refine W.widen (k := 600000) (n := 7302250) (by decide) (by decide) ?_
    exact lw_ret hx hb hr hlocks dL_law_872.1
  have body := law_body C ⟨rfl, rfl⟩ (law_Ns hts) had hSc hL kend
  have hl := lv_entry (([.inr b] : List Sv).map vv) (n := 4) (by rw [lg_sl_vv]; simp)
  show W p l e room_1 s m #[Value.ref b] below meth c s.heap [] 0 0 (lw_Z below #[Value.ref b] s) (entryFrame m ((([.inr b] : List Sv).map vv)).toArray 4)
  rw [lg_entry_eq]
  rw [vLi_entry [.inr b] 0 3] at hl
  exact body s.heap [] _ ⟨by rw [hz]; rfl, fun k e h => by cases h⟩ va_S.rf hl
-- ===== YOUR PART ENDS =====
set_option maxHeartbeats 4000000 in
theorem lw_walk (l : Launch) (hflags : l.flags = flags0) (b : Addr) (xs : List Int32) : MetFree l x (headSpec (Jvm.Cond.code x code maxLocals ret :: tables_1) room_1) (lw_P b xs) (fun _ _ _ _ _ => True) lw_Q := by
  refine MetFree.of_bodyS (code := code) (maxLocals := maxLocals) (ret := ret) (by decide) ?_ ?_
  · intro args s m h hn
    obtain ⟨meth, c, h1, h2, h3, h4, h5, h6, -, -⟩ := Cond.code_spec hn (atoms_spec (ws := Jvm.Cond.code x code maxLocals ret :: tables_1) h _ List.mem_cons_self)
    exact ⟨meth, c, h1, h2, h3, h4, h5, h6⟩
  · intro p e s m args below meth c s₁ B hml0 hP _
    obtain ⟨rfl, hx, hbd, hgv⟩ := hP
    obtain ⟨scr, harrAt, hlist, hof, hsmall⟩ := hx
    obtain ⟨hcb, hkn, -, -⟩ := State.arrayAt?_spec harrAt
    have hown : s.vm.findClass R_law = some m.cls := findClass_of_methodNamed B.named
    have hts0 : ∀ c ∈ (Jvm.Cond.code x code maxLocals ret :: tables_1), c.before #[Value.ref b] s = true := atoms_spec (ws := Jvm.Cond.code x code maxLocals ret :: tables_1) B.pre
    have hts : ∀ w ∈ lw_tbl, w.before #[Value.ref b] s = true := k2_hts_sels lw_privs (fun w hw => hts0 w (List.mem_cons_of_mem _ hw)) lw_privs_ok
    have hml : c.maxLocals = 4 := B.maxLocals_eq (hts0 _ List.mem_cons_self)
    have X₀ : Stand p l e room_1 s m #[Value.ref b] below meth c s₁ [] 0 0 := Stand.of_body B
    have hh0 : s₁.heap = s.heap := by rw [B.state]; rfl
    have hsz : scr.slots.size = xs.length := by rw [← Array.length_toList, hlist, List.length_map]
    have hval : ∀ j : Nat, j < xs.length → scr.slots[j]? = some (.int (xs.getD j 0)) := fun j hj => by
      rw [← Array.getElem?_toList, hlist]
      simp [hj]
    have hbl : b < s.heap.size := (Array.getElem?_eq_some_iff.mp hcb).1
    have hX : va_X b xs.length (fun j => xs.getD j 0) s s.heap := ⟨scr, hcb, hof, hkn, hsz, hval⟩
    have K : W p l e room_1 s m #[Value.ref b] below meth c s₁.heap [] 0 0 (lw_Z below #[Value.ref b] s) (entryFrame m ([Value.ref b] : List Value).toArray 4) := by
      rw [hh0]
      exact whole_start l hflags hbd ⟨B.exec, B.bytes, B.returns, hml, hown, hts, hX, hbl, B.notSynchronized, hgv⟩
    obtain ⟨t, a1, o, b1, b2, b3⟩ := K s₁ rfl X₀
    exact ⟨t, o, a1, b1, b2, b3⟩
theorem lw_pre_spec {args : Array Value} {s : State} (h : (Jvm.Cond.and given_1 narrow_1).before args s = true) (hr : rest_1_c.before args s = true) : ∃ (b : Addr) (xs : List Int32), lw_P b xs args s := by
  have hs := flat_of_before _ h
  have hq := flat_of_before _ hr
  have hc : (Cond.count 1).before args s = true := hs _ (by decide +kernel)
  have harr : (Cond.arrayOf (.arg 0) .int).before args s = true := hs _ (by decide +kernel)
  have hle : (Cond.le (.length (.arg 0)) (.int 3072)).before args s = true := hs _ (by decide +kernel)
  have hlen : (Cond.isInt (.length (.arg 0))).before args s = true := hq _ (by decide +kernel)
  have hall : (Cond.all (.arg 0) (.isInt (.elem (.arg 0) (.index 0)))).before args s = true := hq _ (by decide +kernel)
  obtain ⟨b, xs, hb, hx⟩ := State.ints_of_pre rfl harr hlen hall
  have hsm : xs.length < 2 ^ 31 := hx.choose_spec.2.2.2
  have hev : (Term.length (.arg 0)).eval args s none [] s = some (.int xs.length.toInt32) := hx.length_eval hb
  have hv := Cond.le_ints hev (show (Term.int 3072).eval args s none [] s = some (.int 3072) from rfl)
  have hd : xs.length.toInt32 ≤ 3072 := by
    simpa [Cond.before, Cond.holds, hv] using hle
  have hN : xs.length ≤ 3072 := (Int32.ofNat_le_ofNat hsm (by decide)).mp (show Int32.ofNat xs.length ≤ Int32.ofNat 3072 from hd)
  exact ⟨b, xs, Cond.one_arg hc (show args[0]? = some (.ref b) from hb), hx, hN, h⟩
theorem lw_comes (l : Launch) (hflags : l.flags = flags0) : Comes l x (Jvm.Cond.code x code maxLocals ret :: tables_1) room_1 (fun tb e args s => Calls_1 tb e args s ∧ rest_1 tb e args s ∧ Pre_1 tb e args s)
    (fun _ _ args s o t => lw_Q args s o t) := by
  intro p e ha hc hk s m args below hf hfit hheap happ hpre
  obtain ⟨b, xs, hP⟩ := lw_pre_spec hpre.2.2 hpre.2.1
  obtain ⟨k, o, h1, h2, h3, hQ⟩ := lw_walk l hflags b xs p e ha hc hk s m args below hf ((Spec.applies_iff_loose hf).mp happ).1 hP trivial
  exact ⟨k, o, h1, h2, h3, hQ⟩
theorem lw_frame {s t : State} {o : Outcome} {args : Array Value} (h : Framed s o t [] 600000 7302250) :
    Framed s o t (fieldLocs frame_1_writes args s ++ arrayLocs frame_1_arrays args s ++ staticLocs frame_1_statics s) 600000 7302250 := h
theorem lw_limb (L : Cond) (hL : ∀ (args : Array Value) (s t : State), L.after args s (.returned (some (.int 1))) t = true) :
    ArmFor flags0 classFile x code maxLocals ret World_1 tables_1 room_1 Calls_1 rest_1 Pre_1
      (fun tb e a s o t => postC L tb e a s o t ∧ Framed s o t (fieldLocs frame_1_writes a s ++ arrayLocs frame_1_arrays a s ++ staticLocs frame_1_statics s) 600000 7302250) := by
  intro l hflags _ _ p e ha hc hk s m args below hf hfit hheap happ hpre
  obtain ⟨k, o, h1, h2, h3, rfl, hF⟩ := lw_comes l hflags p e ha hc hk s m args below hf hfit hheap happ hpre
  exact ⟨k, _, h1, h2, h3, hL args s _, lw_frame hF⟩
theorem i_vc : Claimed_1_1 ∧ Claimed_1_2 := ⟨lw_limb limb_1_1 (fun args s t => by simp [limb_1_1, Cond.after, Cond.holds, Cond.value]), lw_limb limb_1_2 (fun args s t => Cond.after_iff.mpr (by
  first | (rw [show limb_1_2 = Cond.eq .result (.int 1) from rfl, Cond.eq_ints (x := 1) (y := 1) rfl rfl]; simp; done) | (simp [limb_1_2, Cond.value, Term.eval]; done)))⟩
