/-! THE CLAIM OUT OF ONE WALK OF THE LAW'S BODY. Your part is whole_start (and what it stands on); all else here is the same for every law, but numbers. -/
def R_law : String := "PictureJoinLaw"
def lw_P (b : Addr) (xs : List Int32) (args : Array Value) (s : State) : Prop := args = #[.ref b] ∧ s.IntsAt b xs ∧ xs.length ≤ 3072 ∧ (Jvm.Cond.and given_1 narrow_1).before args s = true
def lw_Q (_ : Array Value) (s : State) (o : Outcome) (t : State) : Prop := o = .returned (some (.int 1)) ∧ Framed s o t [] 600000 7302250
def lw_Z (below : List Frame) (a : Array Value) (s : State) : State → Prop := fun t => ∃ o, t.status = .running ∧ Ended t below o ∧ lw_Q a s o t
/-- the law's own end, with 1 on the stack, nothing written that was there before, its room as the claim has it -/
theorem lw_ret {p : Program} {l : Launch} {e : Env} {s : State} {m : MethodId} {below : List Frame} {meth : Method} {c : Code} {b : Nat} (hx : p.tables.exec = Jvm.exec) (hb : c.code = code) (hr : meth.sig.returnType = ret) (hlocks : meth.locks = false) {pc : Nat} {H : Heap} {ls : Array Slot} (hdg : decode code pc = .ok (.ireturn, 1)) : W p l e room_1 s m #[Value.ref b] below meth c H [] 600000 7302250 (lw_Z below #[Value.ref b] s) (F0 m pc ls [.int 1]) := by
  intro T hT X
  obtain ⟨fs, hret, hrun, hended, hW, hframe⟩ := X.leave (v := some (.int 1)) (hlocks := hlocks) (fun h => by rw [hr] at h; cases h)
  have hmeth' : T.vm.method? m = some meth := X.method'
  refine ⟨T.setFrames fs, ?_, .returned (some (.int 1)), hrun, hended, rfl, ⟨_, rfl⟩, hW, hframe⟩
  jvm_step X.here [X.here.top, hx, hb, hdg, hmeth', hr, ret, narrow_b1]
  (try refine ⟨rfl, ?_⟩); (try refine ⟨rfl, ?_⟩)
  first | (intro acts; rw [hret _ acts rfl rfl rfl]) | rw [hret _ _ rfl rfl rfl]
  exact Steps.refl _
/-- what holds at the law's entry: the machine, the code, the tables' words (any of lw_tbl by 'hts w (by decide +kernel)'), the script of L ints xs at the cell b, what the Statement gives of the start (any of its parts by flat_of_before) -/
def lw_At (p : Program) (s : State) (m : MethodId) (meth : Method) (c : Code) (b L : Nat) (xs : Nat → Int32) : Prop :=
  p.tables.exec = Jvm.exec ∧ c.code = code ∧ meth.sig.returnType = ret ∧ c.maxLocals = 4 ∧ s.vm.findClass R_law = some m.cls ∧ (∀ w ∈ lw_tbl, w.before #[Value.ref b] s = true) ∧ va_X b L xs s s.heap ∧ b < s.heap.size ∧ meth.locks = false ∧ (Jvm.Cond.and given_1 narrow_1).before #[Value.ref b] s = true
section LOOP
variable {F : FrT} {G : GT} {l : Launch} {Q : State → Prop} {b N k n : Nat} {ret0 : Option FieldType} {xs : Nat → Int32} {μ : Mem} {i : Int} {off : Int} {pc pc2 tgt nL : Nat} {own : String} {cc : ByteArray} {L : List (Option Sv)} {st : List Sv}
theorem jx_eqT (C : Cx F G own cc nL ret0) {a b : Int} (hd : Dj cc pc (fun o => .if_icmp .eq o) off 3 pc2 tgt) (h : a = b) (kt : jX F G nL k n Q tgt L st μ) : jX F G nL k n Q pc L (.inl b :: .inl a :: st) μ := by
  subst h
  obtain ⟨p, l, e, R, s, m, args, below, meth, c⟩ := F
  obtain ⟨hx, hbb, -⟩ := C
  obtain ⟨hd, rfl, ht⟩ := hd
  intro H locs ls hw hS h
  exact lv_icmp_eq hx hbb hd ht (fun _ => kt H locs ls hw hS h) (fun q => absurd rfl q)
set_option maxHeartbeats 4000000 in
set_option maxRecDepth 100000 in
theorem law_seed (C : Cx F G "PictureJoinLaw" cL_law 4 ret0) (Y : Cy F l room_1) (hX : jSc F G b N xs) (hN : N ≤ 3072) (hk : k ≤ room_1.cells) (hn : n ≤ room_1.slots) (h0 : 0 ≤ i) (h1 : i + 6 ≤ (N : Int)) (hL : LI μ) (kk : ∀ ν : Mem, LI ν → jX F G 4 k n Q 865 [some (.inr b), some (.inr (ad G 0)), some (.inr (ad G 78)), some (.inl i)] [] ν) : jX F G 4 k n Q 132 [some (.inr b), some (.inr (ad G 0)), some (.inr (ad G 78)), some (.inl i)] [] μ := by
  refine jx_aload_n C dL_law_132 rfl ?_
  refine jl_arg C hX h0 (by decide) (by omega) (by omega) dL_law_133 dL_law_134 dL_law_135 dL_law_136 dL_law_137 ?_
  refine jx_cVi (as := [.inl (jsv xs (i + 1))]) (st := []) C Y (c_X8_seed l G μ (jsv xs (i + 1)) (jsv_in _ _) hL.2.1 hL.1) yb_X8_seed yv_X8_seed wm_L_13 (jcl_PJ G _) rfl (by decide) rfl rfl (Nat.zero_le _) ⟨⟨rfl, rfl, Nat.le_of_ble_eq_true rfl, Nat.le_of_ble_eq_true rfl⟩, hk, hn⟩ dL_law_138 ?_
  intro z1 μ1 hz1
  refine jx_aload_n C dL_law_141 rfl ?_
  refine jl_arg C hX h0 (by decide) (by omega) (by omega) dL_law_142 dL_law_143 dL_law_144 dL_law_145 dL_law_146 ?_
  refine jx_cVi (as := [.inl (jsv xs (i + 1))]) (st := [.inl z1]) C Y (c_X9_seed l G μ1 (jsv xs (i + 1)) (jsv_in _ _) (LI_mid hL hz1).1 (LI_mid hL hz1).2) yb_X9_seed yv_X9_seed wm_L_17 (jcl_MO G _) rfl (by decide) rfl rfl (by simp) ⟨⟨rfl, rfl, Nat.le_of_ble_eq_true rfl, Nat.le_of_ble_eq_true rfl⟩, hk, hn⟩ dL_law_147 ?_
  intro z2 μ2 hz2
  obtain ⟨e, hL2⟩ := LI_step (fun B s => (s)) (fun B s => (B)) (fun s => (jsv xs (i + 1))) hL hz1 hz2
  exact jx_eqT C dL_law_150 e (kk μ2 hL2)
set_option maxHeartbeats 4000000 in
set_option maxRecDepth 100000 in
theorem law_light (C : Cx F G "PictureJoinLaw" cL_law 4 ret0) (Y : Cy F l room_1) (hX : jSc F G b N xs) (hN : N ≤ 3072) (hk : k ≤ room_1.cells) (hn : n ≤ room_1.slots) (h0 : 0 ≤ i) (h1 : i + 6 ≤ (N : Int)) (hL : LI μ) (kk : ∀ ν : Mem, LI ν → jX F G 4 k n Q 865 [some (.inr b), some (.inr (ad G 0)), some (.inr (ad G 78)), some (.inl i)] [] ν) : jX F G 4 k n Q 155 [some (.inr b), some (.inr (ad G 0)), some (.inr (ad G 78)), some (.inl i)] [] μ := by
  refine jx_aload_n C dL_law_155 rfl ?_
  refine jl_arg C hX h0 (by decide) (by omega) (by omega) dL_law_156 dL_law_157 dL_law_158 dL_law_159 dL_law_160 ?_
  refine jl_arg C hX h0 (by decide) (by omega) (by omega) dL_law_161 dL_law_162 dL_law_163 dL_law_164 dL_law_165 ?_
  refine jx_cVi (as := [.inl (jsv xs (i + 1)), .inl (jsv xs (i + 2))]) (st := []) C Y (c_X8_light l G μ (jsv xs (i + 1)) (jsv xs (i + 2)) (jsv_in _ _) (jsv_in _ _) hL.2.1 hL.1) yb_X8_light yv_X8_light wm_L_18 (jcl_PJ G _) rfl (by decide) rfl rfl (Nat.zero_le _) ⟨⟨rfl, rfl, Nat.le_of_ble_eq_true rfl, Nat.le_of_ble_eq_true rfl⟩, hk, hn⟩ dL_law_166 ?_
  intro z1 μ1 hz1
  refine jx_aload_n C dL_law_169 rfl ?_
  refine jl_arg C hX h0 (by decide) (by omega) (by omega) dL_law_170 dL_law_171 dL_law_172 dL_law_173 dL_law_174 ?_
  refine jl_arg C hX h0 (by decide) (by omega) (by omega) dL_law_175 dL_law_176 dL_law_177 dL_law_178 dL_law_179 ?_
  refine jx_cVi (as := [.inl (jsv xs (i + 1)), .inl (jsv xs (i + 2))]) (st := [.inl z1]) C Y (c_X9_light l G μ1 (jsv xs (i + 1)) (jsv xs (i + 2)) (jsv_in _ _) (jsv_in _ _) (LI_mid hL hz1).1 (LI_mid hL hz1).2) yb_X9_light yv_X9_light wm_L_22 (jcl_MO G _) rfl (by decide) rfl rfl (by simp) ⟨⟨rfl, rfl, Nat.le_of_ble_eq_true rfl, Nat.le_of_ble_eq_true rfl⟩, hk, hn⟩ dL_law_180 ?_
  intro z2 μ2 hz2
  obtain ⟨e, hL2⟩ := LI_step (fun B s => (a_light (s) (jsv xs (i + 1)) (jsv xs (i + 2)))) (fun B s => (B)) (fun s => (s)) hL hz1 hz2
  exact jx_eqT C dL_law_183 e (kk μ2 hL2)
set_option maxHeartbeats 4000000 in
set_option maxRecDepth 100000 in
theorem law_shoot (C : Cx F G "PictureJoinLaw" cL_law 4 ret0) (Y : Cy F l room_1) (hX : jSc F G b N xs) (hN : N ≤ 3072) (hk : k ≤ room_1.cells) (hn : n ≤ room_1.slots) (h0 : 0 ≤ i) (h1 : i + 6 ≤ (N : Int)) (hL : LI μ) (kk : ∀ ν : Mem, LI ν → jX F G 4 k n Q 865 [some (.inr b), some (.inr (ad G 0)), some (.inr (ad G 78)), some (.inl i)] [] ν) : jX F G 4 k n Q 188 [some (.inr b), some (.inr (ad G 0)), some (.inr (ad G 78)), some (.inl i)] [] μ := by
  refine jx_aload_n C dL_law_188 rfl ?_
  refine jl_arg C hX h0 (by decide) (by omega) (by omega) dL_law_189 dL_law_190 dL_law_191 dL_law_192 dL_law_193 ?_
  refine jl_arg C hX h0 (by decide) (by omega) (by omega) dL_law_194 dL_law_195 dL_law_196 dL_law_197 dL_law_198 ?_
  refine jl_arg C hX h0 (by decide) (by omega) (by omega) dL_law_199 dL_law_200 dL_law_201 dL_law_202 dL_law_203 ?_
  refine jl_arg C hX h0 (by decide) (by omega) (by omega) dL_law_204 dL_law_205 dL_law_206 dL_law_207 dL_law_208 ?_
  refine jl_arg C hX h0 (by decide) (by omega) (by omega) dL_law_209 dL_law_210 dL_law_211 dL_law_212 dL_law_213 ?_
  refine jx_cVi (as := [.inl (jsv xs (i + 1)), .inl (jsv xs (i + 2)), .inl (jsv xs (i + 3)), .inl (jsv xs (i + 4)), .inl (jsv xs (i + 5))]) (st := []) C Y (c_X8_shoot l G μ (jsv xs (i + 1)) (jsv xs (i + 2)) (jsv xs (i + 3)) (jsv xs (i + 4)) (jsv xs (i + 5)) (jsv_in _ _) (jsv_in _ _) (jsv_in _ _) (jsv_in _ _) (jsv_in _ _) hL.2.1 hL.1) yb_X8_shoot yv_X8_shoot wm_L_23 (jcl_PJ G _) rfl (by decide) rfl rfl (Nat.zero_le _) ⟨⟨rfl, rfl, Nat.le_of_ble_eq_true rfl, Nat.le_of_ble_eq_true rfl⟩, hk, hn⟩ dL_law_214 ?_
  intro z1 μ1 hz1
  refine jx_aload_n C dL_law_217 rfl ?_
  refine jl_arg C hX h0 (by decide) (by omega) (by omega) dL_law_218 dL_law_219 dL_law_220 dL_law_221 dL_law_222 ?_
  refine jl_arg C hX h0 (by decide) (by omega) (by omega) dL_law_223 dL_law_224 dL_law_225 dL_law_226 dL_law_227 ?_
  refine jl_arg C hX h0 (by decide) (by omega) (by omega) dL_law_228 dL_law_229 dL_law_230 dL_law_231 dL_law_232 ?_
  refine jl_arg C hX h0 (by decide) (by omega) (by omega) dL_law_233 dL_law_234 dL_law_235 dL_law_236 dL_law_237 ?_
  refine jl_arg C hX h0 (by decide) (by omega) (by omega) dL_law_238 dL_law_239 dL_law_240 dL_law_241 dL_law_242 ?_
  refine jx_cVi (as := [.inl (jsv xs (i + 1)), .inl (jsv xs (i + 2)), .inl (jsv xs (i + 3)), .inl (jsv xs (i + 4)), .inl (jsv xs (i + 5))]) (st := [.inl z1]) C Y (c_X9_shoot l G μ1 (jsv xs (i + 1)) (jsv xs (i + 2)) (jsv xs (i + 3)) (jsv xs (i + 4)) (jsv xs (i + 5)) (jsv_in _ _) (jsv_in _ _) (jsv_in _ _) (jsv_in _ _) (jsv_in _ _) (LI_mid hL hz1).1 (LI_mid hL hz1).2) yb_X9_shoot yv_X9_shoot wm_L_27 (jcl_MO G _) rfl (by decide) rfl rfl (by simp) ⟨⟨rfl, rfl, Nat.le_of_ble_eq_true rfl, Nat.le_of_ble_eq_true rfl⟩, hk, hn⟩ dL_law_243 ?_
  intro z2 μ2 hz2
  obtain ⟨e, hL2⟩ := LI_step (fun B s => (a_shoot (B) (jsv xs (i + 1)) (jsv xs (i + 2)) (jsv xs (i + 3)) (jsv xs (i + 4)) (jsv xs (i + 5)))) (fun B s => (b_shoot (B) (s) (jsv xs (i + 1)) (jsv xs (i + 2)) (jsv xs (i + 3)) (jsv xs (i + 4)) (jsv xs (i + 5)))) (fun s => (s)) hL hz1 hz2
  exact jx_eqT C dL_law_246 e (kk μ2 hL2)
set_option maxHeartbeats 4000000 in
set_option maxRecDepth 100000 in
theorem law_clear (C : Cx F G "PictureJoinLaw" cL_law 4 ret0) (Y : Cy F l room_1) (hX : jSc F G b N xs) (hN : N ≤ 3072) (hk : k ≤ room_1.cells) (hn : n ≤ room_1.slots) (h0 : 0 ≤ i) (h1 : i + 6 ≤ (N : Int)) (hL : LI μ) (kk : ∀ ν : Mem, LI ν → jX F G 4 k n Q 865 [some (.inr b), some (.inr (ad G 0)), some (.inr (ad G 78)), some (.inl i)] [] ν) : jX F G 4 k n Q 251 [some (.inr b), some (.inr (ad G 0)), some (.inr (ad G 78)), some (.inl i)] [] μ := by
  refine jx_aload_n C dL_law_251 rfl ?_
  refine jx_cVi (as := []) (st := []) C Y (c_X8_clear l G μ hL.2.1 hL.1) yb_X8_clear yv_X8_clear wm_L_28 (jcl_PJ G _) rfl (by decide) rfl rfl (Nat.zero_le _) ⟨⟨rfl, rfl, Nat.le_of_ble_eq_true rfl, Nat.le_of_ble_eq_true rfl⟩, hk, hn⟩ dL_law_252 ?_
  intro z1 μ1 hz1
  refine jx_aload_n C dL_law_255 rfl ?_
  refine jx_cVi (as := []) (st := [.inl z1]) C Y (c_X9_clear l G μ1 (LI_mid hL hz1).1 (LI_mid hL hz1).2) yb_X9_clear yv_X9_clear wm_L_32 (jcl_MO G _) rfl (by decide) rfl rfl (by simp) ⟨⟨rfl, rfl, Nat.le_of_ble_eq_true rfl, Nat.le_of_ble_eq_true rfl⟩, hk, hn⟩ dL_law_256 ?_
  intro z2 μ2 hz2
  obtain ⟨e, hL2⟩ := LI_step (fun B s => ((bN (B) : Int))) (fun B s => (b_clear (B))) (fun s => (s)) hL hz1 hz2
  exact jx_eqT C dL_law_259 e (kk μ2 hL2)
set_option maxHeartbeats 4000000 in
set_option maxRecDepth 100000 in
theorem law_dot (C : Cx F G "PictureJoinLaw" cL_law 4 ret0) (Y : Cy F l room_1) (hX : jSc F G b N xs) (hN : N ≤ 3072) (hk : k ≤ room_1.cells) (hn : n ≤ room_1.slots) (h0 : 0 ≤ i) (h1 : i + 6 ≤ (N : Int)) (hL : LI μ) (kk : ∀ ν : Mem, LI ν → jX F G 4 k n Q 865 [some (.inr b), some (.inr (ad G 0)), some (.inr (ad G 78)), some (.inl i)] [] ν) : jX F G 4 k n Q 264 [some (.inr b), some (.inr (ad G 0)), some (.inr (ad G 78)), some (.inl i)] [] μ := by
  refine jx_aload_n C dL_law_264 rfl ?_
  refine jl_arg C hX h0 (by decide) (by omega) (by omega) dL_law_265 dL_law_266 dL_law_267 dL_law_268 dL_law_269 ?_
  refine jl_arg C hX h0 (by decide) (by omega) (by omega) dL_law_270 dL_law_271 dL_law_272 dL_law_273 dL_law_274 ?_
  refine jl_arg C hX h0 (by decide) (by omega) (by omega) dL_law_275 dL_law_276 dL_law_277 dL_law_278 dL_law_279 ?_
  refine jl_arg C hX h0 (by decide) (by omega) (by omega) dL_law_280 dL_law_281 dL_law_282 dL_law_283 dL_law_284 ?_
  refine jx_cVi (as := [.inl (jsv xs (i + 1)), .inl (jsv xs (i + 2)), .inl (jsv xs (i + 3)), .inl (jsv xs (i + 4))]) (st := []) C Y (c_X8_dot l G μ (jsv xs (i + 1)) (jsv xs (i + 2)) (jsv xs (i + 3)) (jsv xs (i + 4)) (jsv_in _ _) (jsv_in _ _) (jsv_in _ _) (jsv_in _ _) hL.2.1 hL.1) yb_X8_dot yv_X8_dot wm_L_33 (jcl_PJ G _) rfl (by decide) rfl rfl (Nat.zero_le _) ⟨⟨rfl, rfl, Nat.le_of_ble_eq_true rfl, Nat.le_of_ble_eq_true rfl⟩, hk, hn⟩ dL_law_285 ?_
  intro z1 μ1 hz1
  refine jx_aload_n C dL_law_288 rfl ?_
  refine jl_arg C hX h0 (by decide) (by omega) (by omega) dL_law_289 dL_law_290 dL_law_291 dL_law_292 dL_law_293 ?_
  refine jl_arg C hX h0 (by decide) (by omega) (by omega) dL_law_294 dL_law_295 dL_law_296 dL_law_297 dL_law_298 ?_
  refine jl_arg C hX h0 (by decide) (by omega) (by omega) dL_law_299 dL_law_300 dL_law_301 dL_law_302 dL_law_303 ?_
  refine jl_arg C hX h0 (by decide) (by omega) (by omega) dL_law_304 dL_law_305 dL_law_306 dL_law_307 dL_law_308 ?_
  refine jx_cVi (as := [.inl (jsv xs (i + 1)), .inl (jsv xs (i + 2)), .inl (jsv xs (i + 3)), .inl (jsv xs (i + 4))]) (st := [.inl z1]) C Y (c_X9_dot l G μ1 (jsv xs (i + 1)) (jsv xs (i + 2)) (jsv xs (i + 3)) (jsv xs (i + 4)) (jsv_in _ _) (jsv_in _ _) (jsv_in _ _) (jsv_in _ _) (LI_mid hL hz1).1 (LI_mid hL hz1).2) yb_X9_dot yv_X9_dot wm_L_37 (jcl_MO G _) rfl (by decide) rfl rfl (by simp) ⟨⟨rfl, rfl, Nat.le_of_ble_eq_true rfl, Nat.le_of_ble_eq_true rfl⟩, hk, hn⟩ dL_law_309 ?_
  intro z2 μ2 hz2
  obtain ⟨e, hL2⟩ := LI_step (fun B s => (a_dot (B) (jsv xs (i + 1)) (jsv xs (i + 2)) (jsv xs (i + 3)) (jsv xs (i + 4)))) (fun B s => (b_dot (B) (jsv xs (i + 1)) (jsv xs (i + 2)) (jsv xs (i + 3)) (jsv xs (i + 4)))) (fun s => (s)) hL hz1 hz2
  exact jx_eqT C dL_law_312 e (kk μ2 hL2)
set_option maxHeartbeats 4000000 in
set_option maxRecDepth 100000 in
theorem law_at (C : Cx F G "PictureJoinLaw" cL_law 4 ret0) (Y : Cy F l room_1) (hX : jSc F G b N xs) (hN : N ≤ 3072) (hk : k ≤ room_1.cells) (hn : n ≤ room_1.slots) (h0 : 0 ≤ i) (h1 : i + 6 ≤ (N : Int)) (hL : LI μ) (kk : ∀ ν : Mem, LI ν → jX F G 4 k n Q 865 [some (.inr b), some (.inr (ad G 0)), some (.inr (ad G 78)), some (.inl i)] [] ν) : jX F G 4 k n Q 317 [some (.inr b), some (.inr (ad G 0)), some (.inr (ad G 78)), some (.inl i)] [] μ := by
  refine jx_aload_n C dL_law_317 rfl ?_
  refine jl_arg C hX h0 (by decide) (by omega) (by omega) dL_law_318 dL_law_319 dL_law_320 dL_law_321 dL_law_322 ?_
  refine jl_arg C hX h0 (by decide) (by omega) (by omega) dL_law_323 dL_law_324 dL_law_325 dL_law_326 dL_law_327 ?_
  refine jl_arg C hX h0 (by decide) (by omega) (by omega) dL_law_328 dL_law_329 dL_law_330 dL_law_331 dL_law_332 ?_
  refine jx_cVi (as := [.inl (jsv xs (i + 1)), .inl (jsv xs (i + 2)), .inl (jsv xs (i + 3))]) (st := []) C Y (c_X8_at l G μ (jsv xs (i + 1)) (jsv xs (i + 2)) (jsv xs (i + 3)) (jsv_in _ _) (jsv_in _ _) (jsv_in _ _) hL.2.1 hL.1) yb_X8_at yv_X8_at wm_L_38 (jcl_PJ G _) rfl (by decide) rfl rfl (Nat.zero_le _) ⟨⟨rfl, rfl, Nat.le_of_ble_eq_true rfl, Nat.le_of_ble_eq_true rfl⟩, hk, hn⟩ dL_law_333 ?_
  intro z1 μ1 hz1
  refine jx_aload_n C dL_law_336 rfl ?_
  refine jl_arg C hX h0 (by decide) (by omega) (by omega) dL_law_337 dL_law_338 dL_law_339 dL_law_340 dL_law_341 ?_
  refine jl_arg C hX h0 (by decide) (by omega) (by omega) dL_law_342 dL_law_343 dL_law_344 dL_law_345 dL_law_346 ?_
  refine jl_arg C hX h0 (by decide) (by omega) (by omega) dL_law_347 dL_law_348 dL_law_349 dL_law_350 dL_law_351 ?_
  refine jx_cVi (as := [.inl (jsv xs (i + 1)), .inl (jsv xs (i + 2)), .inl (jsv xs (i + 3))]) (st := [.inl z1]) C Y (c_X9_at l G μ1 (jsv xs (i + 1)) (jsv xs (i + 2)) (jsv xs (i + 3)) (jsv_in _ _) (jsv_in _ _) (jsv_in _ _) (LI_mid hL hz1).1 (LI_mid hL hz1).2) yb_X9_at yv_X9_at wm_L_42 (jcl_MO G _) rfl (by decide) rfl rfl (by simp) ⟨⟨rfl, rfl, Nat.le_of_ble_eq_true rfl, Nat.le_of_ble_eq_true rfl⟩, hk, hn⟩ dL_law_352 ?_
  intro z2 μ2 hz2
  obtain ⟨e, hL2⟩ := LI_step (fun B s => (a_at (B) (jsv xs (i + 1)) (jsv xs (i + 2)) (jsv xs (i + 3)))) (fun B s => (B)) (fun s => (s)) hL hz1 hz2
  exact jx_eqT C dL_law_355 e (kk μ2 hL2)
set_option maxHeartbeats 4000000 in
set_option maxRecDepth 100000 in
theorem law_rules (C : Cx F G "PictureJoinLaw" cL_law 4 ret0) (Y : Cy F l room_1) (hX : jSc F G b N xs) (hN : N ≤ 3072) (hk : k ≤ room_1.cells) (hn : n ≤ room_1.slots) (h0 : 0 ≤ i) (h1 : i + 6 ≤ (N : Int)) (hL : LI μ) (kk : ∀ ν : Mem, LI ν → jX F G 4 k n Q 865 [some (.inr b), some (.inr (ad G 0)), some (.inr (ad G 78)), some (.inl i)] [] ν) : jX F G 4 k n Q 360 [some (.inr b), some (.inr (ad G 0)), some (.inr (ad G 78)), some (.inl i)] [] μ := by
  refine jx_aload_n C dL_law_360 rfl ?_
  refine jl_arg C hX h0 (by decide) (by omega) (by omega) dL_law_361 dL_law_362 dL_law_363 dL_law_364 dL_law_365 ?_
  refine jl_arg C hX h0 (by decide) (by omega) (by omega) dL_law_366 dL_law_367 dL_law_368 dL_law_369 dL_law_370 ?_
  refine jx_cVi (as := [.inl (jsv xs (i + 1)), .inl (jsv xs (i + 2))]) (st := []) C Y (c_X8_rules l G μ (jsv xs (i + 1)) (jsv xs (i + 2)) (jsv_in _ _) (jsv_in _ _) hL.2.1 hL.1) yb_X8_rules yv_X8_rules wm_L_43 (jcl_PJ G _) rfl (by decide) rfl rfl (Nat.zero_le _) ⟨⟨rfl, rfl, Nat.le_of_ble_eq_true rfl, Nat.le_of_ble_eq_true rfl⟩, hk, hn⟩ dL_law_371 ?_
  intro z1 μ1 hz1
  refine jx_aload_n C dL_law_374 rfl ?_
  refine jl_arg C hX h0 (by decide) (by omega) (by omega) dL_law_375 dL_law_376 dL_law_377 dL_law_378 dL_law_379 ?_
  refine jl_arg C hX h0 (by decide) (by omega) (by omega) dL_law_380 dL_law_381 dL_law_382 dL_law_383 dL_law_384 ?_
  refine jx_cVi (as := [.inl (jsv xs (i + 1)), .inl (jsv xs (i + 2))]) (st := [.inl z1]) C Y (c_X9_rules l G μ1 (jsv xs (i + 1)) (jsv xs (i + 2)) (jsv_in _ _) (jsv_in _ _) (LI_mid hL hz1).1 (LI_mid hL hz1).2) yb_X9_rules yv_X9_rules wm_L_46 (jcl_MO G _) rfl (by decide) rfl rfl (by simp) ⟨⟨rfl, rfl, Nat.le_of_ble_eq_true rfl, Nat.le_of_ble_eq_true rfl⟩, hk, hn⟩ dL_law_385 ?_
  intro z2 μ2 hz2
  obtain ⟨e, hL2⟩ := LI_step (fun B s => (a_rules (jsv xs (i + 1)) (jsv xs (i + 2)))) (fun B s => (b_rules (B) (jsv xs (i + 1)) (jsv xs (i + 2)))) (fun s => (s)) hL hz1 hz2
  exact jx_eqT C dL_law_388 e (kk μ2 hL2)
set_option maxHeartbeats 4000000 in
set_option maxRecDepth 100000 in
theorem law_score (C : Cx F G "PictureJoinLaw" cL_law 4 ret0) (Y : Cy F l room_1) (hX : jSc F G b N xs) (hN : N ≤ 3072) (hk : k ≤ room_1.cells) (hn : n ≤ room_1.slots) (h0 : 0 ≤ i) (h1 : i + 6 ≤ (N : Int)) (hL : LI μ) (kk : ∀ ν : Mem, LI ν → jX F G 4 k n Q 865 [some (.inr b), some (.inr (ad G 0)), some (.inr (ad G 78)), some (.inl i)] [] ν) : jX F G 4 k n Q 393 [some (.inr b), some (.inr (ad G 0)), some (.inr (ad G 78)), some (.inl i)] [] μ := by
  refine jx_aload_n C dL_law_393 rfl ?_
  refine jl_arg C hX h0 (by decide) (by omega) (by omega) dL_law_394 dL_law_395 dL_law_396 dL_law_397 dL_law_398 ?_
  refine jl_arg C hX h0 (by decide) (by omega) (by omega) dL_law_399 dL_law_400 dL_law_401 dL_law_402 dL_law_403 ?_
  refine jl_arg C hX h0 (by decide) (by omega) (by omega) dL_law_404 dL_law_405 dL_law_406 dL_law_407 dL_law_408 ?_
  refine jx_cVi (as := [.inl (jsv xs (i + 1)), .inl (jsv xs (i + 2)), .inl (jsv xs (i + 3))]) (st := []) C Y (c_X8_score l G μ (jsv xs (i + 1)) (jsv xs (i + 2)) (jsv xs (i + 3)) (jsv_in _ _) (jsv_in _ _) (jsv_in _ _) hL.2.1 hL.1) yb_X8_score yv_X8_score wm_L_47 (jcl_PJ G _) rfl (by decide) rfl rfl (Nat.zero_le _) ⟨⟨rfl, rfl, Nat.le_of_ble_eq_true rfl, Nat.le_of_ble_eq_true rfl⟩, hk, hn⟩ dL_law_409 ?_
  intro z1 μ1 hz1
  refine jx_aload_n C dL_law_412 rfl ?_
  refine jl_arg C hX h0 (by decide) (by omega) (by omega) dL_law_413 dL_law_414 dL_law_415 dL_law_416 dL_law_417 ?_
  refine jl_arg C hX h0 (by decide) (by omega) (by omega) dL_law_418 dL_law_419 dL_law_420 dL_law_421 dL_law_422 ?_
  refine jl_arg C hX h0 (by decide) (by omega) (by omega) dL_law_423 dL_law_424 dL_law_425 dL_law_426 dL_law_427 ?_
  refine jx_cVi (as := [.inl (jsv xs (i + 1)), .inl (jsv xs (i + 2)), .inl (jsv xs (i + 3))]) (st := [.inl z1]) C Y (c_X9_score l G μ1 (jsv xs (i + 1)) (jsv xs (i + 2)) (jsv xs (i + 3)) (jsv_in _ _) (jsv_in _ _) (jsv_in _ _) (LI_mid hL hz1).1 (LI_mid hL hz1).2) yb_X9_score yv_X9_score wm_L_50 (jcl_MO G _) rfl (by decide) rfl rfl (by simp) ⟨⟨rfl, rfl, Nat.le_of_ble_eq_true rfl, Nat.le_of_ble_eq_true rfl⟩, hk, hn⟩ dL_law_428 ?_
  intro z2 μ2 hz2
  obtain ⟨e, hL2⟩ := LI_step (fun B s => (a_score (B) (jsv xs (i + 1)) (jsv xs (i + 2)) (jsv xs (i + 3)))) (fun B s => (B)) (fun s => (s)) hL hz1 hz2
  exact jx_eqT C dL_law_431 e (kk μ2 hL2)
set_option maxHeartbeats 4000000 in
set_option maxRecDepth 100000 in
theorem law_marks (C : Cx F G "PictureJoinLaw" cL_law 4 ret0) (Y : Cy F l room_1) (hX : jSc F G b N xs) (hN : N ≤ 3072) (hk : k ≤ room_1.cells) (hn : n ≤ room_1.slots) (h0 : 0 ≤ i) (h1 : i + 6 ≤ (N : Int)) (hL : LI μ) (kk : ∀ ν : Mem, LI ν → jX F G 4 k n Q 865 [some (.inr b), some (.inr (ad G 0)), some (.inr (ad G 78)), some (.inl i)] [] ν) : jX F G 4 k n Q 436 [some (.inr b), some (.inr (ad G 0)), some (.inr (ad G 78)), some (.inl i)] [] μ := by
  refine jx_aload_n C dL_law_436 rfl ?_
  refine jl_arg C hX h0 (by decide) (by omega) (by omega) dL_law_437 dL_law_438 dL_law_439 dL_law_440 dL_law_441 ?_
  refine jx_cVi (as := [.inl (jsv xs (i + 1))]) (st := []) C Y (c_X8_marks l G μ (jsv xs (i + 1)) (jsv_in _ _) hL.2.1 hL.1) yb_X8_marks yv_X8_marks wm_L_51 (jcl_PJ G _) rfl (by decide) rfl rfl (Nat.zero_le _) ⟨⟨rfl, rfl, Nat.le_of_ble_eq_true rfl, Nat.le_of_ble_eq_true rfl⟩, hk, hn⟩ dL_law_442 ?_
  intro z1 μ1 hz1
  refine jx_aload_n C dL_law_445 rfl ?_
  refine jl_arg C hX h0 (by decide) (by omega) (by omega) dL_law_446 dL_law_447 dL_law_448 dL_law_449 dL_law_450 ?_
  refine jx_cVi (as := [.inl (jsv xs (i + 1))]) (st := [.inl z1]) C Y (c_X9_marks l G μ1 (jsv xs (i + 1)) (jsv_in _ _) (LI_mid hL hz1).1 (LI_mid hL hz1).2) yb_X9_marks yv_X9_marks wm_L_54 (jcl_MO G _) rfl (by decide) rfl rfl (by simp) ⟨⟨rfl, rfl, Nat.le_of_ble_eq_true rfl, Nat.le_of_ble_eq_true rfl⟩, hk, hn⟩ dL_law_451 ?_
  intro z2 μ2 hz2
  obtain ⟨e, hL2⟩ := LI_step (fun B s => (a_marks (B) (jsv xs (i + 1)))) (fun B s => (B)) (fun s => (s)) hL hz1 hz2
  exact jx_eqT C dL_law_454 e (kk μ2 hL2)
set_option maxHeartbeats 4000000 in
set_option maxRecDepth 100000 in
theorem law_mark (C : Cx F G "PictureJoinLaw" cL_law 4 ret0) (Y : Cy F l room_1) (hX : jSc F G b N xs) (hN : N ≤ 3072) (hk : k ≤ room_1.cells) (hn : n ≤ room_1.slots) (h0 : 0 ≤ i) (h1 : i + 6 ≤ (N : Int)) (hL : LI μ) (kk : ∀ ν : Mem, LI ν → jX F G 4 k n Q 865 [some (.inr b), some (.inr (ad G 0)), some (.inr (ad G 78)), some (.inl i)] [] ν) : jX F G 4 k n Q 459 [some (.inr b), some (.inr (ad G 0)), some (.inr (ad G 78)), some (.inl i)] [] μ := by
  refine jx_aload_n C dL_law_459 rfl ?_
  refine jl_arg C hX h0 (by decide) (by omega) (by omega) dL_law_460 dL_law_461 dL_law_462 dL_law_463 dL_law_464 ?_
  refine jl_arg C hX h0 (by decide) (by omega) (by omega) dL_law_465 dL_law_466 dL_law_467 dL_law_468 dL_law_469 ?_
  refine jl_arg C hX h0 (by decide) (by omega) (by omega) dL_law_470 dL_law_471 dL_law_472 dL_law_473 dL_law_474 ?_
  refine jx_cVi (as := [.inl (jsv xs (i + 1)), .inl (jsv xs (i + 2)), .inl (jsv xs (i + 3))]) (st := []) C Y (c_X8_mark l G μ (jsv xs (i + 1)) (jsv xs (i + 2)) (jsv xs (i + 3)) (jsv_in _ _) (jsv_in _ _) (jsv_in _ _) hL.2.1 hL.1) yb_X8_mark yv_X8_mark wm_L_55 (jcl_PJ G _) rfl (by decide) rfl rfl (Nat.zero_le _) ⟨⟨rfl, rfl, Nat.le_of_ble_eq_true rfl, Nat.le_of_ble_eq_true rfl⟩, hk, hn⟩ dL_law_475 ?_
  intro z1 μ1 hz1
  refine jx_aload_n C dL_law_478 rfl ?_
  refine jl_arg C hX h0 (by decide) (by omega) (by omega) dL_law_479 dL_law_480 dL_law_481 dL_law_482 dL_law_483 ?_
  refine jl_arg C hX h0 (by decide) (by omega) (by omega) dL_law_484 dL_law_485 dL_law_486 dL_law_487 dL_law_488 ?_
  refine jl_arg C hX h0 (by decide) (by omega) (by omega) dL_law_489 dL_law_490 dL_law_491 dL_law_492 dL_law_493 ?_
  refine jx_cVi (as := [.inl (jsv xs (i + 1)), .inl (jsv xs (i + 2)), .inl (jsv xs (i + 3))]) (st := [.inl z1]) C Y (c_X9_mark l G μ1 (jsv xs (i + 1)) (jsv xs (i + 2)) (jsv xs (i + 3)) (jsv_in _ _) (jsv_in _ _) (jsv_in _ _) (LI_mid hL hz1).1 (LI_mid hL hz1).2) yb_X9_mark yv_X9_mark wm_L_58 (jcl_MO G _) rfl (by decide) rfl rfl (by simp) ⟨⟨rfl, rfl, Nat.le_of_ble_eq_true rfl, Nat.le_of_ble_eq_true rfl⟩, hk, hn⟩ dL_law_494 ?_
  intro z2 μ2 hz2
  obtain ⟨e, hL2⟩ := LI_step (fun B s => (a_mark (B) (jsv xs (i + 1)) (jsv xs (i + 2)) (jsv xs (i + 3)))) (fun B s => (B)) (fun s => (s)) hL hz1 hz2
  exact jx_eqT C dL_law_497 e (kk μ2 hL2)
set_option maxHeartbeats 4000000 in
set_option maxRecDepth 100000 in
theorem law_match (C : Cx F G "PictureJoinLaw" cL_law 4 ret0) (Y : Cy F l room_1) (hX : jSc F G b N xs) (hN : N ≤ 3072) (hk : k ≤ room_1.cells) (hn : n ≤ room_1.slots) (h0 : 0 ≤ i) (h1 : i + 6 ≤ (N : Int)) (hL : LI μ) (kk : ∀ ν : Mem, LI ν → jX F G 4 k n Q 865 [some (.inr b), some (.inr (ad G 0)), some (.inr (ad G 78)), some (.inl i)] [] ν) : jX F G 4 k n Q 502 [some (.inr b), some (.inr (ad G 0)), some (.inr (ad G 78)), some (.inl i)] [] μ := by
  refine jx_aload_n C dL_law_502 rfl ?_
  refine jl_arg C hX h0 (by decide) (by omega) (by omega) dL_law_503 dL_law_504 dL_law_505 dL_law_506 dL_law_507 ?_
  refine jl_arg C hX h0 (by decide) (by omega) (by omega) dL_law_508 dL_law_509 dL_law_510 dL_law_511 dL_law_512 ?_
  refine jl_arg C hX h0 (by decide) (by omega) (by omega) dL_law_513 dL_law_514 dL_law_515 dL_law_516 dL_law_517 ?_
  refine jx_cVi (as := [.inl (jsv xs (i + 1)), .inl (jsv xs (i + 2)), .inl (jsv xs (i + 3))]) (st := []) C Y (c_X8_match l G μ (jsv xs (i + 1)) (jsv xs (i + 2)) (jsv xs (i + 3)) (jsv_in _ _) (jsv_in _ _) (jsv_in _ _) hL.2.1 hL.1) yb_X8_match yv_X8_match wm_L_59 (jcl_PJ G _) rfl (by decide) rfl rfl (Nat.zero_le _) ⟨⟨rfl, rfl, Nat.le_of_ble_eq_true rfl, Nat.le_of_ble_eq_true rfl⟩, hk, hn⟩ dL_law_518 ?_
  intro z1 μ1 hz1
  refine jx_aload_n C dL_law_521 rfl ?_
  refine jl_arg C hX h0 (by decide) (by omega) (by omega) dL_law_522 dL_law_523 dL_law_524 dL_law_525 dL_law_526 ?_
  refine jl_arg C hX h0 (by decide) (by omega) (by omega) dL_law_527 dL_law_528 dL_law_529 dL_law_530 dL_law_531 ?_
  refine jl_arg C hX h0 (by decide) (by omega) (by omega) dL_law_532 dL_law_533 dL_law_534 dL_law_535 dL_law_536 ?_
  refine jx_cVi (as := [.inl (jsv xs (i + 1)), .inl (jsv xs (i + 2)), .inl (jsv xs (i + 3))]) (st := [.inl z1]) C Y (c_X9_match l G μ1 (jsv xs (i + 1)) (jsv xs (i + 2)) (jsv xs (i + 3)) (jsv_in _ _) (jsv_in _ _) (jsv_in _ _) (LI_mid hL hz1).1 (LI_mid hL hz1).2) yb_X9_match yv_X9_match wm_L_62 (jcl_MO G _) rfl (by decide) rfl rfl (by simp) ⟨⟨rfl, rfl, Nat.le_of_ble_eq_true rfl, Nat.le_of_ble_eq_true rfl⟩, hk, hn⟩ dL_law_537 ?_
  intro z2 μ2 hz2
  obtain ⟨e, hL2⟩ := LI_step (fun B s => (a_match (B) (jsv xs (i + 1)) (jsv xs (i + 2)) (jsv xs (i + 3)))) (fun B s => (B)) (fun s => (s)) hL hz1 hz2
  exact jx_eqT C dL_law_540 e (kk μ2 hL2)
set_option maxHeartbeats 4000000 in
set_option maxRecDepth 100000 in
theorem law_shift (C : Cx F G "PictureJoinLaw" cL_law 4 ret0) (Y : Cy F l room_1) (hX : jSc F G b N xs) (hN : N ≤ 3072) (hk : k ≤ room_1.cells) (hn : n ≤ room_1.slots) (h0 : 0 ≤ i) (h1 : i + 6 ≤ (N : Int)) (hL : LI μ) (kk : ∀ ν : Mem, LI ν → jX F G 4 k n Q 865 [some (.inr b), some (.inr (ad G 0)), some (.inr (ad G 78)), some (.inl i)] [] ν) : jX F G 4 k n Q 545 [some (.inr b), some (.inr (ad G 0)), some (.inr (ad G 78)), some (.inl i)] [] μ := by
  refine jx_aload_n C dL_law_545 rfl ?_
  refine jl_arg C hX h0 (by decide) (by omega) (by omega) dL_law_546 dL_law_547 dL_law_548 dL_law_549 dL_law_550 ?_
  refine jl_arg C hX h0 (by decide) (by omega) (by omega) dL_law_551 dL_law_552 dL_law_553 dL_law_554 dL_law_555 ?_
  refine jl_arg C hX h0 (by decide) (by omega) (by omega) dL_law_556 dL_law_557 dL_law_558 dL_law_559 dL_law_560 ?_
  refine jx_cVi (as := [.inl (jsv xs (i + 1)), .inl (jsv xs (i + 2)), .inl (jsv xs (i + 3))]) (st := []) C Y (c_X8_shift l G μ (jsv xs (i + 1)) (jsv xs (i + 2)) (jsv xs (i + 3)) (jsv_in _ _) (jsv_in _ _) (jsv_in _ _) hL.2.1 hL.1) yb_X8_shift yv_X8_shift wm_L_63 (jcl_PJ G _) rfl (by decide) rfl rfl (Nat.zero_le _) ⟨⟨rfl, rfl, Nat.le_of_ble_eq_true rfl, Nat.le_of_ble_eq_true rfl⟩, hk, hn⟩ dL_law_561 ?_
  intro z1 μ1 hz1
  refine jx_aload_n C dL_law_564 rfl ?_
  refine jl_arg C hX h0 (by decide) (by omega) (by omega) dL_law_565 dL_law_566 dL_law_567 dL_law_568 dL_law_569 ?_
  refine jl_arg C hX h0 (by decide) (by omega) (by omega) dL_law_570 dL_law_571 dL_law_572 dL_law_573 dL_law_574 ?_
  refine jl_arg C hX h0 (by decide) (by omega) (by omega) dL_law_575 dL_law_576 dL_law_577 dL_law_578 dL_law_579 ?_
  refine jx_cVi (as := [.inl (jsv xs (i + 1)), .inl (jsv xs (i + 2)), .inl (jsv xs (i + 3))]) (st := [.inl z1]) C Y (c_X9_shift l G μ1 (jsv xs (i + 1)) (jsv xs (i + 2)) (jsv xs (i + 3)) (jsv_in _ _) (jsv_in _ _) (jsv_in _ _) (LI_mid hL hz1).1 (LI_mid hL hz1).2) yb_X9_shift yv_X9_shift wm_L_66 (jcl_MO G _) rfl (by decide) rfl rfl (by simp) ⟨⟨rfl, rfl, Nat.le_of_ble_eq_true rfl, Nat.le_of_ble_eq_true rfl⟩, hk, hn⟩ dL_law_580 ?_
  intro z2 μ2 hz2
  obtain ⟨e, hL2⟩ := LI_step (fun B s => (a_shift (B) (jsv xs (i + 1)) (jsv xs (i + 2)) (jsv xs (i + 3)))) (fun B s => (B)) (fun s => (s)) hL hz1 hz2
  exact jx_eqT C dL_law_583 e (kk μ2 hL2)
set_option maxHeartbeats 4000000 in
set_option maxRecDepth 100000 in
theorem law_place (C : Cx F G "PictureJoinLaw" cL_law 4 ret0) (Y : Cy F l room_1) (hX : jSc F G b N xs) (hN : N ≤ 3072) (hk : k ≤ room_1.cells) (hn : n ≤ room_1.slots) (h0 : 0 ≤ i) (h1 : i + 6 ≤ (N : Int)) (hL : LI μ) (kk : ∀ ν : Mem, LI ν → jX F G 4 k n Q 865 [some (.inr b), some (.inr (ad G 0)), some (.inr (ad G 78)), some (.inl i)] [] ν) : jX F G 4 k n Q 588 [some (.inr b), some (.inr (ad G 0)), some (.inr (ad G 78)), some (.inl i)] [] μ := by
  refine jx_aload_n C dL_law_588 rfl ?_
  refine jl_arg C hX h0 (by decide) (by omega) (by omega) dL_law_589 dL_law_590 dL_law_591 dL_law_592 dL_law_593 ?_
  refine jl_arg C hX h0 (by decide) (by omega) (by omega) dL_law_594 dL_law_595 dL_law_596 dL_law_597 dL_law_598 ?_
  refine jx_cVi (as := [.inl (jsv xs (i + 1)), .inl (jsv xs (i + 2))]) (st := []) C Y (c_X8_place l G μ (jsv xs (i + 1)) (jsv xs (i + 2)) (jsv_in _ _) (jsv_in _ _) hL.2.1 hL.1) yb_X8_place yv_X8_place wm_L_67 (jcl_PJ G _) rfl (by decide) rfl rfl (Nat.zero_le _) ⟨⟨rfl, rfl, Nat.le_of_ble_eq_true rfl, Nat.le_of_ble_eq_true rfl⟩, hk, hn⟩ dL_law_599 ?_
  intro z1 μ1 hz1
  refine jx_aload_n C dL_law_602 rfl ?_
  refine jl_arg C hX h0 (by decide) (by omega) (by omega) dL_law_603 dL_law_604 dL_law_605 dL_law_606 dL_law_607 ?_
  refine jl_arg C hX h0 (by decide) (by omega) (by omega) dL_law_608 dL_law_609 dL_law_610 dL_law_611 dL_law_612 ?_
  refine jx_cVi (as := [.inl (jsv xs (i + 1)), .inl (jsv xs (i + 2))]) (st := [.inl z1]) C Y (c_X9_place l G μ1 (jsv xs (i + 1)) (jsv xs (i + 2)) (jsv_in _ _) (jsv_in _ _) (LI_mid hL hz1).1 (LI_mid hL hz1).2) yb_X9_place yv_X9_place wm_L_70 (jcl_MO G _) rfl (by decide) rfl rfl (by simp) ⟨⟨rfl, rfl, Nat.le_of_ble_eq_true rfl, Nat.le_of_ble_eq_true rfl⟩, hk, hn⟩ dL_law_613 ?_
  intro z2 μ2 hz2
  obtain ⟨e, hL2⟩ := LI_step (fun B s => (a_place (B) (jsv xs (i + 1)) (jsv xs (i + 2)))) (fun B s => (B)) (fun s => (s)) hL hz1 hz2
  exact jx_eqT C dL_law_616 e (kk μ2 hL2)
set_option maxHeartbeats 4000000 in
set_option maxRecDepth 100000 in
theorem law_open (C : Cx F G "PictureJoinLaw" cL_law 4 ret0) (Y : Cy F l room_1) (hX : jSc F G b N xs) (hN : N ≤ 3072) (hk : k ≤ room_1.cells) (hn : n ≤ room_1.slots) (h0 : 0 ≤ i) (h1 : i + 6 ≤ (N : Int)) (hL : LI μ) (kk : ∀ ν : Mem, LI ν → jX F G 4 k n Q 865 [some (.inr b), some (.inr (ad G 0)), some (.inr (ad G 78)), some (.inl i)] [] ν) : jX F G 4 k n Q 621 [some (.inr b), some (.inr (ad G 0)), some (.inr (ad G 78)), some (.inl i)] [] μ := by
  refine jx_aload_n C dL_law_621 rfl ?_
  refine jx_cVi (as := []) (st := []) C Y (c_X8_open l G μ hL.2.1 hL.1) yb_X8_open yv_X8_open wm_L_71 (jcl_PJ G _) rfl (by decide) rfl rfl (Nat.zero_le _) ⟨⟨rfl, rfl, Nat.le_of_ble_eq_true rfl, Nat.le_of_ble_eq_true rfl⟩, hk, hn⟩ dL_law_622 ?_
  intro z1 μ1 hz1
  refine jx_aload_n C dL_law_625 rfl ?_
  refine jx_cVi (as := []) (st := [.inl z1]) C Y (c_X9_open l G μ1 (LI_mid hL hz1).1 (LI_mid hL hz1).2) yb_X9_open yv_X9_open wm_L_74 (jcl_MO G _) rfl (by decide) rfl rfl (by simp) ⟨⟨rfl, rfl, Nat.le_of_ble_eq_true rfl, Nat.le_of_ble_eq_true rfl⟩, hk, hn⟩ dL_law_626 ?_
  intro z2 μ2 hz2
  obtain ⟨e, hL2⟩ := LI_step (fun B s => (opc (B))) (fun B s => (B)) (fun s => (s)) hL hz1 hz2
  exact jx_eqT C dL_law_629 e (kk μ2 hL2)
set_option maxHeartbeats 4000000 in
set_option maxRecDepth 100000 in
theorem law_joined (C : Cx F G "PictureJoinLaw" cL_law 4 ret0) (Y : Cy F l room_1) (hX : jSc F G b N xs) (hN : N ≤ 3072) (hk : k ≤ room_1.cells) (hn : n ≤ room_1.slots) (h0 : 0 ≤ i) (h1 : i + 6 ≤ (N : Int)) (hL : LI μ) (kk : ∀ ν : Mem, LI ν → jX F G 4 k n Q 865 [some (.inr b), some (.inr (ad G 0)), some (.inr (ad G 78)), some (.inl i)] [] ν) : jX F G 4 k n Q 634 [some (.inr b), some (.inr (ad G 0)), some (.inr (ad G 78)), some (.inl i)] [] μ := by
  refine jx_aload_n C dL_law_634 rfl ?_
  refine jx_cVi (as := []) (st := []) C Y (c_X8_joined l G μ hL.2.1 hL.1) yb_X8_joined yv_X8_joined wm_L_75 (jcl_PJ G _) rfl (by decide) rfl rfl (Nat.zero_le _) ⟨⟨rfl, rfl, Nat.le_of_ble_eq_true rfl, Nat.le_of_ble_eq_true rfl⟩, hk, hn⟩ dL_law_635 ?_
  intro z1 μ1 hz1
  refine jx_aload_n C dL_law_638 rfl ?_
  refine jx_cVi (as := []) (st := [.inl z1]) C Y (c_X9_joined l G μ1 (LI_mid hL hz1).1 (LI_mid hL hz1).2) yb_X9_joined yv_X9_joined wm_L_78 (jcl_MO G _) rfl (by decide) rfl rfl (by simp) ⟨⟨rfl, rfl, Nat.le_of_ble_eq_true rfl, Nat.le_of_ble_eq_true rfl⟩, hk, hn⟩ dL_law_639 ?_
  intro z2 μ2 hz2
  obtain ⟨e, hL2⟩ := LI_step (fun B s => (((bJ (B)).1 : Int))) (fun B s => (B)) (fun s => (s)) hL hz1 hz2
  exact jx_eqT C dL_law_642 e (kk μ2 hL2)
set_option maxHeartbeats 4000000 in
set_option maxRecDepth 100000 in
theorem law_overlap (C : Cx F G "PictureJoinLaw" cL_law 4 ret0) (Y : Cy F l room_1) (hX : jSc F G b N xs) (hN : N ≤ 3072) (hk : k ≤ room_1.cells) (hn : n ≤ room_1.slots) (h0 : 0 ≤ i) (h1 : i + 6 ≤ (N : Int)) (hL : LI μ) (kk : ∀ ν : Mem, LI ν → jX F G 4 k n Q 865 [some (.inr b), some (.inr (ad G 0)), some (.inr (ad G 78)), some (.inl i)] [] ν) : jX F G 4 k n Q 647 [some (.inr b), some (.inr (ad G 0)), some (.inr (ad G 78)), some (.inl i)] [] μ := by
  refine jx_aload_n C dL_law_647 rfl ?_
  refine jl_arg C hX h0 (by decide) (by omega) (by omega) dL_law_648 dL_law_649 dL_law_650 dL_law_651 dL_law_652 ?_
  refine jl_arg C hX h0 (by decide) (by omega) (by omega) dL_law_653 dL_law_654 dL_law_655 dL_law_656 dL_law_657 ?_
  refine jl_arg C hX h0 (by decide) (by omega) (by omega) dL_law_658 dL_law_659 dL_law_660 dL_law_661 dL_law_662 ?_
  refine jx_cVi (as := [.inl (jsv xs (i + 1)), .inl (jsv xs (i + 2)), .inl (jsv xs (i + 3))]) (st := []) C Y (c_X8_overlap l G μ (jsv xs (i + 1)) (jsv xs (i + 2)) (jsv xs (i + 3)) (jsv_in _ _) (jsv_in _ _) (jsv_in _ _) hL.2.1 hL.1) yb_X8_overlap yv_X8_overlap wm_L_79 (jcl_PJ G _) rfl (by decide) rfl rfl (Nat.zero_le _) ⟨⟨rfl, rfl, Nat.le_of_ble_eq_true rfl, Nat.le_of_ble_eq_true rfl⟩, hk, hn⟩ dL_law_663 ?_
  intro z1 μ1 hz1
  refine jx_aload_n C dL_law_666 rfl ?_
  refine jl_arg C hX h0 (by decide) (by omega) (by omega) dL_law_667 dL_law_668 dL_law_669 dL_law_670 dL_law_671 ?_
  refine jl_arg C hX h0 (by decide) (by omega) (by omega) dL_law_672 dL_law_673 dL_law_674 dL_law_675 dL_law_676 ?_
  refine jl_arg C hX h0 (by decide) (by omega) (by omega) dL_law_677 dL_law_678 dL_law_679 dL_law_680 dL_law_681 ?_
  refine jx_cVi (as := [.inl (jsv xs (i + 1)), .inl (jsv xs (i + 2)), .inl (jsv xs (i + 3))]) (st := [.inl z1]) C Y (c_X9_overlap l G μ1 (jsv xs (i + 1)) (jsv xs (i + 2)) (jsv xs (i + 3)) (jsv_in _ _) (jsv_in _ _) (jsv_in _ _) (LI_mid hL hz1).1 (LI_mid hL hz1).2) yb_X9_overlap yv_X9_overlap wm_L_82 (jcl_MO G _) rfl (by decide) rfl rfl (by simp) ⟨⟨rfl, rfl, Nat.le_of_ble_eq_true rfl, Nat.le_of_ble_eq_true rfl⟩, hk, hn⟩ dL_law_682 ?_
  intro z2 μ2 hz2
  obtain ⟨e, hL2⟩ := LI_step (fun B s => (a_overlap (B) (jsv xs (i + 1)) (jsv xs (i + 2)) (jsv xs (i + 3)))) (fun B s => (B)) (fun s => (s)) hL hz1 hz2
  exact jx_eqT C dL_law_685 e (kk μ2 hL2)
set_option maxHeartbeats 4000000 in
set_option maxRecDepth 100000 in
theorem law_lights (C : Cx F G "PictureJoinLaw" cL_law 4 ret0) (Y : Cy F l room_1) (hX : jSc F G b N xs) (hN : N ≤ 3072) (hk : k ≤ room_1.cells) (hn : n ≤ room_1.slots) (h0 : 0 ≤ i) (h1 : i + 6 ≤ (N : Int)) (hL : LI μ) (kk : ∀ ν : Mem, LI ν → jX F G 4 k n Q 865 [some (.inr b), some (.inr (ad G 0)), some (.inr (ad G 78)), some (.inl i)] [] ν) : jX F G 4 k n Q 690 [some (.inr b), some (.inr (ad G 0)), some (.inr (ad G 78)), some (.inl i)] [] μ := by
  refine jx_aload_n C dL_law_690 rfl ?_
  refine jl_arg C hX h0 (by decide) (by omega) (by omega) dL_law_691 dL_law_692 dL_law_693 dL_law_694 dL_law_695 ?_
  refine jl_arg C hX h0 (by decide) (by omega) (by omega) dL_law_696 dL_law_697 dL_law_698 dL_law_699 dL_law_700 ?_
  refine jl_arg C hX h0 (by decide) (by omega) (by omega) dL_law_701 dL_law_702 dL_law_703 dL_law_704 dL_law_705 ?_
  refine jx_cVi (as := [.inl (jsv xs (i + 1)), .inl (jsv xs (i + 2)), .inl (jsv xs (i + 3))]) (st := []) C Y (c_X8_lights l G μ (jsv xs (i + 1)) (jsv xs (i + 2)) (jsv xs (i + 3)) (jsv_in _ _) (jsv_in _ _) (jsv_in _ _) hL.2.1 hL.1) yb_X8_lights yv_X8_lights wm_L_83 (jcl_PJ G _) rfl (by decide) rfl rfl (Nat.zero_le _) ⟨⟨rfl, rfl, Nat.le_of_ble_eq_true rfl, Nat.le_of_ble_eq_true rfl⟩, hk, hn⟩ dL_law_706 ?_
  intro z1 μ1 hz1
  refine jx_aload_n C dL_law_709 rfl ?_
  refine jl_arg C hX h0 (by decide) (by omega) (by omega) dL_law_710 dL_law_711 dL_law_712 dL_law_713 dL_law_714 ?_
  refine jl_arg C hX h0 (by decide) (by omega) (by omega) dL_law_715 dL_law_716 dL_law_717 dL_law_718 dL_law_719 ?_
  refine jl_arg C hX h0 (by decide) (by omega) (by omega) dL_law_720 dL_law_721 dL_law_722 dL_law_723 dL_law_724 ?_
  refine jx_cVi (as := [.inl (jsv xs (i + 1)), .inl (jsv xs (i + 2)), .inl (jsv xs (i + 3))]) (st := [.inl z1]) C Y (c_X9_lights l G μ1 (jsv xs (i + 1)) (jsv xs (i + 2)) (jsv xs (i + 3)) (jsv_in _ _) (jsv_in _ _) (jsv_in _ _) (LI_mid hL hz1).1 (LI_mid hL hz1).2) yb_X9_lights yv_X9_lights wm_L_86 (jcl_MO G _) rfl (by decide) rfl rfl (by simp) ⟨⟨rfl, rfl, Nat.le_of_ble_eq_true rfl, Nat.le_of_ble_eq_true rfl⟩, hk, hn⟩ dL_law_725 ?_
  intro z2 μ2 hz2
  obtain ⟨e, hL2⟩ := LI_step (fun B s => (a_lights (B) (jsv xs (i + 1)) (jsv xs (i + 2)) (jsv xs (i + 3)))) (fun B s => (B)) (fun s => (s)) hL hz1 hz2
  exact jx_eqT C dL_law_728 e (kk μ2 hL2)
set_option maxHeartbeats 4000000 in
set_option maxRecDepth 100000 in
theorem law_seam (C : Cx F G "PictureJoinLaw" cL_law 4 ret0) (Y : Cy F l room_1) (hX : jSc F G b N xs) (hN : N ≤ 3072) (hk : k ≤ room_1.cells) (hn : n ≤ room_1.slots) (h0 : 0 ≤ i) (h1 : i + 6 ≤ (N : Int)) (hL : LI μ) (kk : ∀ ν : Mem, LI ν → jX F G 4 k n Q 865 [some (.inr b), some (.inr (ad G 0)), some (.inr (ad G 78)), some (.inl i)] [] ν) : jX F G 4 k n Q 733 [some (.inr b), some (.inr (ad G 0)), some (.inr (ad G 78)), some (.inl i)] [] μ := by
  refine jx_aload_n C dL_law_733 rfl ?_
  refine jl_arg C hX h0 (by decide) (by omega) (by omega) dL_law_734 dL_law_735 dL_law_736 dL_law_737 dL_law_738 ?_
  refine jl_arg C hX h0 (by decide) (by omega) (by omega) dL_law_739 dL_law_740 dL_law_741 dL_law_742 dL_law_743 ?_
  refine jl_arg C hX h0 (by decide) (by omega) (by omega) dL_law_744 dL_law_745 dL_law_746 dL_law_747 dL_law_748 ?_
  refine jx_cVi (as := [.inl (jsv xs (i + 1)), .inl (jsv xs (i + 2)), .inl (jsv xs (i + 3))]) (st := []) C Y (c_X8_seam l G μ (jsv xs (i + 1)) (jsv xs (i + 2)) (jsv xs (i + 3)) (jsv_in _ _) (jsv_in _ _) (jsv_in _ _) hL.2.1 hL.1) yb_X8_seam yv_X8_seam wm_L_87 (jcl_PJ G _) rfl (by decide) rfl rfl (Nat.zero_le _) ⟨⟨rfl, rfl, Nat.le_of_ble_eq_true rfl, Nat.le_of_ble_eq_true rfl⟩, hk, hn⟩ dL_law_749 ?_
  intro z1 μ1 hz1
  refine jx_aload_n C dL_law_752 rfl ?_
  refine jl_arg C hX h0 (by decide) (by omega) (by omega) dL_law_753 dL_law_754 dL_law_755 dL_law_756 dL_law_757 ?_
  refine jl_arg C hX h0 (by decide) (by omega) (by omega) dL_law_758 dL_law_759 dL_law_760 dL_law_761 dL_law_762 ?_
  refine jl_arg C hX h0 (by decide) (by omega) (by omega) dL_law_763 dL_law_764 dL_law_765 dL_law_766 dL_law_767 ?_
  refine jx_cVi (as := [.inl (jsv xs (i + 1)), .inl (jsv xs (i + 2)), .inl (jsv xs (i + 3))]) (st := [.inl z1]) C Y (c_X9_seam l G μ1 (jsv xs (i + 1)) (jsv xs (i + 2)) (jsv xs (i + 3)) (jsv_in _ _) (jsv_in _ _) (jsv_in _ _) (LI_mid hL hz1).1 (LI_mid hL hz1).2) yb_X9_seam yv_X9_seam wm_L_90 (jcl_MO G _) rfl (by decide) rfl rfl (by simp) ⟨⟨rfl, rfl, Nat.le_of_ble_eq_true rfl, Nat.le_of_ble_eq_true rfl⟩, hk, hn⟩ dL_law_768 ?_
  intro z2 μ2 hz2
  obtain ⟨e, hL2⟩ := LI_step (fun B s => (a_seam (B) (jsv xs (i + 1)) (jsv xs (i + 2)) (jsv xs (i + 3)))) (fun B s => (B)) (fun s => (s)) hL hz1 hz2
  exact jx_eqT C dL_law_771 e (kk μ2 hL2)
set_option maxHeartbeats 4000000 in
set_option maxRecDepth 100000 in
theorem law_whole (C : Cx F G "PictureJoinLaw" cL_law 4 ret0) (Y : Cy F l room_1) (hX : jSc F G b N xs) (hN : N ≤ 3072) (hk : k ≤ room_1.cells) (hn : n ≤ room_1.slots) (h0 : 0 ≤ i) (h1 : i + 6 ≤ (N : Int)) (hL : LI μ) (kk : ∀ ν : Mem, LI ν → jX F G 4 k n Q 865 [some (.inr b), some (.inr (ad G 0)), some (.inr (ad G 78)), some (.inl i)] [] ν) : jX F G 4 k n Q 776 [some (.inr b), some (.inr (ad G 0)), some (.inr (ad G 78)), some (.inl i)] [] μ := by
  refine jx_aload_n C dL_law_776 rfl ?_
  refine jl_arg C hX h0 (by decide) (by omega) (by omega) dL_law_777 dL_law_778 dL_law_779 dL_law_780 dL_law_781 ?_
  refine jl_arg C hX h0 (by decide) (by omega) (by omega) dL_law_782 dL_law_783 dL_law_784 dL_law_785 dL_law_786 ?_
  refine jl_arg C hX h0 (by decide) (by omega) (by omega) dL_law_787 dL_law_788 dL_law_789 dL_law_790 dL_law_791 ?_
  refine jx_cVi (as := [.inl (jsv xs (i + 1)), .inl (jsv xs (i + 2)), .inl (jsv xs (i + 3))]) (st := []) C Y (c_X8_whole l G μ (jsv xs (i + 1)) (jsv xs (i + 2)) (jsv xs (i + 3)) (jsv_in _ _) (jsv_in _ _) (jsv_in _ _) hL.2.1 hL.1) yb_X8_whole yv_X8_whole wm_L_91 (jcl_PJ G _) rfl (by decide) rfl rfl (Nat.zero_le _) ⟨⟨rfl, rfl, Nat.le_of_ble_eq_true rfl, Nat.le_of_ble_eq_true rfl⟩, hk, hn⟩ dL_law_792 ?_
  intro z1 μ1 hz1
  refine jx_aload_n C dL_law_795 rfl ?_
  refine jl_arg C hX h0 (by decide) (by omega) (by omega) dL_law_796 dL_law_797 dL_law_798 dL_law_799 dL_law_800 ?_
  refine jl_arg C hX h0 (by decide) (by omega) (by omega) dL_law_801 dL_law_802 dL_law_803 dL_law_804 dL_law_805 ?_
  refine jl_arg C hX h0 (by decide) (by omega) (by omega) dL_law_806 dL_law_807 dL_law_808 dL_law_809 dL_law_810 ?_
  refine jx_cVi (as := [.inl (jsv xs (i + 1)), .inl (jsv xs (i + 2)), .inl (jsv xs (i + 3))]) (st := [.inl z1]) C Y (c_X9_whole l G μ1 (jsv xs (i + 1)) (jsv xs (i + 2)) (jsv xs (i + 3)) (jsv_in _ _) (jsv_in _ _) (jsv_in _ _) (LI_mid hL hz1).1 (LI_mid hL hz1).2) yb_X9_whole yv_X9_whole wm_L_94 (jcl_MO G _) rfl (by decide) rfl rfl (by simp) ⟨⟨rfl, rfl, Nat.le_of_ble_eq_true rfl, Nat.le_of_ble_eq_true rfl⟩, hk, hn⟩ dL_law_811 ?_
  intro z2 μ2 hz2
  obtain ⟨e, hL2⟩ := LI_step (fun B s => (a_whole (B) (jsv xs (i + 1)) (jsv xs (i + 2)) (jsv xs (i + 3)))) (fun B s => (B)) (fun s => (s)) hL hz1 hz2
  exact jx_eqT C dL_law_814 e (kk μ2 hL2)
set_option maxHeartbeats 4000000 in
set_option maxRecDepth 100000 in
theorem law_extent (C : Cx F G "PictureJoinLaw" cL_law 4 ret0) (Y : Cy F l room_1) (hX : jSc F G b N xs) (hN : N ≤ 3072) (hk : k ≤ room_1.cells) (hn : n ≤ room_1.slots) (h0 : 0 ≤ i) (h1 : i + 6 ≤ (N : Int)) (hL : LI μ) (kk : ∀ ν : Mem, LI ν → jX F G 4 k n Q 865 [some (.inr b), some (.inr (ad G 0)), some (.inr (ad G 78)), some (.inl i)] [] ν) : jX F G 4 k n Q 819 [some (.inr b), some (.inr (ad G 0)), some (.inr (ad G 78)), some (.inl i)] [] μ := by
  refine jx_aload_n C dL_law_819 rfl ?_
  refine jl_arg C hX h0 (by decide) (by omega) (by omega) dL_law_820 dL_law_821 dL_law_822 dL_law_823 dL_law_824 ?_
  refine jx_cVi (as := [.inl (jsv xs (i + 1))]) (st := []) C Y (c_X8_extent l G μ (jsv xs (i + 1)) (jsv_in _ _) hL.2.1 hL.1) yb_X8_extent yv_X8_extent wm_L_95 (jcl_PJ G _) rfl (by decide) rfl rfl (Nat.zero_le _) ⟨⟨rfl, rfl, Nat.le_of_ble_eq_true rfl, Nat.le_of_ble_eq_true rfl⟩, hk, hn⟩ dL_law_825 ?_
  intro z1 μ1 hz1
  refine jx_aload_n C dL_law_828 rfl ?_
  refine jl_arg C hX h0 (by decide) (by omega) (by omega) dL_law_829 dL_law_830 dL_law_831 dL_law_832 dL_law_833 ?_
  refine jx_cVi (as := [.inl (jsv xs (i + 1))]) (st := [.inl z1]) C Y (c_X9_extent l G μ1 (jsv xs (i + 1)) (jsv_in _ _) (LI_mid hL hz1).1 (LI_mid hL hz1).2) yb_X9_extent yv_X9_extent wm_L_98 (jcl_MO G _) rfl (by decide) rfl rfl (by simp) ⟨⟨rfl, rfl, Nat.le_of_ble_eq_true rfl, Nat.le_of_ble_eq_true rfl⟩, hk, hn⟩ dL_law_834 ?_
  intro z2 μ2 hz2
  obtain ⟨e, hL2⟩ := LI_step (fun B s => (a_extent (B) (jsv xs (i + 1)))) (fun B s => (B)) (fun s => (s)) hL hz1 hz2
  exact jx_eqT C dL_law_837 e (kk μ2 hL2)
set_option maxHeartbeats 4000000 in
set_option maxRecDepth 100000 in
theorem law_told (C : Cx F G "PictureJoinLaw" cL_law 4 ret0) (Y : Cy F l room_1) (hX : jSc F G b N xs) (hN : N ≤ 3072) (hk : k ≤ room_1.cells) (hn : n ≤ room_1.slots) (h0 : 0 ≤ i) (h1 : i + 6 ≤ (N : Int)) (hL : LI μ) (kk : ∀ ν : Mem, LI ν → jX F G 4 k n Q 865 [some (.inr b), some (.inr (ad G 0)), some (.inr (ad G 78)), some (.inl i)] [] ν) : jX F G 4 k n Q 842 [some (.inr b), some (.inr (ad G 0)), some (.inr (ad G 78)), some (.inl i)] [] μ := by
  refine jx_aload_n C dL_law_842 rfl ?_
  refine jl_arg C hX h0 (by decide) (by omega) (by omega) dL_law_843 dL_law_844 dL_law_845 dL_law_846 dL_law_847 ?_
  refine jx_cVi (as := [.inl (jsv xs (i + 1))]) (st := []) C Y (c_X8_told l G μ (jsv xs (i + 1)) (jsv_in _ _) hL.2.1 hL.1) yb_X8_told yv_X8_told wm_L_99 (jcl_PJ G _) rfl (by decide) rfl rfl (Nat.zero_le _) ⟨⟨rfl, rfl, Nat.le_of_ble_eq_true rfl, Nat.le_of_ble_eq_true rfl⟩, hk, hn⟩ dL_law_848 ?_
  intro z1 μ1 hz1
  refine jx_aload_n C dL_law_851 rfl ?_
  refine jl_arg C hX h0 (by decide) (by omega) (by omega) dL_law_852 dL_law_853 dL_law_854 dL_law_855 dL_law_856 ?_
  refine jx_cVi (as := [.inl (jsv xs (i + 1))]) (st := [.inl z1]) C Y (c_X9_told l G μ1 (jsv xs (i + 1)) (jsv_in _ _) (LI_mid hL hz1).1 (LI_mid hL hz1).2) yb_X9_told yv_X9_told wm_L_102 (jcl_MO G _) rfl (by decide) rfl rfl (by simp) ⟨⟨rfl, rfl, Nat.le_of_ble_eq_true rfl, Nat.le_of_ble_eq_true rfl⟩, hk, hn⟩ dL_law_857 ?_
  intro z2 μ2 hz2
  obtain ⟨e, hL2⟩ := LI_step (fun B s => (a_told (B) (s) (jsv xs (i + 1)))) (fun B s => (B)) (fun s => (s)) hL hz1 hz2
  exact jx_eqT C dL_law_860 e (kk μ2 hL2)
set_option maxHeartbeats 4000000 in
set_option maxRecDepth 100000 in
theorem law_loop (C : Cx F G "PictureJoinLaw" cL_law 4 ret0) (Y : Cy F l room_1) (hX : jSc F G b N xs) (hN : N ≤ 3072) (hk : k ≤ room_1.cells) (hn : n ≤ room_1.slots) (kend : ∀ (L : List (Option Sv)) (μ : Mem), jX F G 4 k n Q 872 L [.inl 1] μ) : ∀ (d : Nat) (i : Int) (μ : Mem), 0 ≤ i → i ≤ N + 6 → (N : Int) < i + d → LI μ → jX F G 4 k n Q 18 [some (.inr b), some (.inr (ad G 0)), some (.inr (ad G 78)), some (.inl i)] [] μ := by
  intro d
  induction d with
  | zero =>
    intro i μ h0 h1 h2 hL
    refine jx_iload_n C dL_law_18 rfl ?_
    refine jx_aload_n C dL_law_19 rfl ?_
    refine jx_slen C hX dL_law_20 ?_
    refine jx_bipush C dL_law_21 (by decide +kernel) ?_
    refine jx_isub C dL_law_23 ?_
    refine jx_icmp_gt C dL_law_24 ⟨by omega, by omega⟩ ⟨by omega, by omega⟩ (fun _ => ?_) (fun hh => absurd (show (N : Int) - 6 < i by omega) hh)
    refine jx_iconst C dL_law_871 ?_
    exact kend _ _
  | succ d ih =>
    intro i μ h0 h1 h2 hL
    refine jx_iload_n C dL_law_18 rfl ?_
    refine jx_aload_n C dL_law_19 rfl ?_
    refine jx_slen C hX dL_law_20 ?_
    refine jx_bipush C dL_law_21 (by decide +kernel) ?_
    refine jx_isub C dL_law_23 ?_
    refine jx_icmp_gt C dL_law_24 ⟨by omega, by omega⟩ ⟨by omega, by omega⟩ (fun _ => ?_) (fun hh => ?_)
    · refine jx_iconst C dL_law_871 ?_
      exact kend _ _
    · have h6 : i + 6 ≤ (N : Int) := by omega
      refine jx_aload_n C dL_law_27 rfl ?_
      refine jx_iload_n C dL_law_28 rfl ?_
      refine jx_sld C hX h0 (by omega) (by omega) dL_law_29 ?_
      refine jx_bipush C dL_law_30 (by decide +kernel) ?_
      refine jx_iand C dL_law_32 ?_
      have kk : ∀ μ', LI μ' → jX F G 4 k n Q 865 [some (.inr b), some (.inr (ad G 0)), some (.inr (ad G 78)), some (.inl i)] [] μ' := by
        intro μ' hL'
        refine jx_iinc C dL_law_865 rfl (by decide) rfl ?_
        refine jx_goto C dL_law_868 ?_
        exact ih (i + 6) μ' (by omega) (by omega) (by omega) hL'
      have hz : InR (zand (jsv xs i) 31) := zI_in _
      generalize zand (jsv xs i) 31 = z at hz ⊢
      by_cases g0 : z = 0
      · subst g0
        exact jx_tableIn (tgt := 132) C dL_law_33 hz (by decide) (by decide) rfl (by decide) (law_seed C Y hX hN hk hn h0 h6 hL kk)
      by_cases g1 : z = 1
      · subst g1
        exact jx_tableIn (tgt := 155) C dL_law_33 hz (by decide) (by decide) rfl (by decide) (law_light C Y hX hN hk hn h0 h6 hL kk)
      by_cases g2 : z = 2
      · subst g2
        exact jx_tableIn (tgt := 188) C dL_law_33 hz (by decide) (by decide) rfl (by decide) (law_shoot C Y hX hN hk hn h0 h6 hL kk)
      by_cases g3 : z = 3
      · subst g3
        exact jx_tableIn (tgt := 251) C dL_law_33 hz (by decide) (by decide) rfl (by decide) (law_clear C Y hX hN hk hn h0 h6 hL kk)
      by_cases g4 : z = 4
      · subst g4
        exact jx_tableIn (tgt := 264) C dL_law_33 hz (by decide) (by decide) rfl (by decide) (law_dot C Y hX hN hk hn h0 h6 hL kk)
      by_cases g5 : z = 5
      · subst g5
        exact jx_tableIn (tgt := 317) C dL_law_33 hz (by decide) (by decide) rfl (by decide) (law_at C Y hX hN hk hn h0 h6 hL kk)
      by_cases g6 : z = 6
      · subst g6
        exact jx_tableIn (tgt := 360) C dL_law_33 hz (by decide) (by decide) rfl (by decide) (law_rules C Y hX hN hk hn h0 h6 hL kk)
      by_cases g7 : z = 7
      · subst g7
        exact jx_tableIn (tgt := 393) C dL_law_33 hz (by decide) (by decide) rfl (by decide) (law_score C Y hX hN hk hn h0 h6 hL kk)
      by_cases g8 : z = 8
      · subst g8
        exact jx_tableIn (tgt := 436) C dL_law_33 hz (by decide) (by decide) rfl (by decide) (law_marks C Y hX hN hk hn h0 h6 hL kk)
      by_cases g9 : z = 9
      · subst g9
        exact jx_tableIn (tgt := 459) C dL_law_33 hz (by decide) (by decide) rfl (by decide) (law_mark C Y hX hN hk hn h0 h6 hL kk)
      by_cases g10 : z = 10
      · subst g10
        exact jx_tableIn (tgt := 502) C dL_law_33 hz (by decide) (by decide) rfl (by decide) (law_match C Y hX hN hk hn h0 h6 hL kk)
      by_cases g11 : z = 11
      · subst g11
        exact jx_tableIn (tgt := 545) C dL_law_33 hz (by decide) (by decide) rfl (by decide) (law_shift C Y hX hN hk hn h0 h6 hL kk)
      by_cases g12 : z = 12
      · subst g12
        exact jx_tableIn (tgt := 588) C dL_law_33 hz (by decide) (by decide) rfl (by decide) (law_place C Y hX hN hk hn h0 h6 hL kk)
      by_cases g13 : z = 13
      · subst g13
        exact jx_tableIn (tgt := 621) C dL_law_33 hz (by decide) (by decide) rfl (by decide) (law_open C Y hX hN hk hn h0 h6 hL kk)
      by_cases g14 : z = 14
      · subst g14
        exact jx_tableIn (tgt := 634) C dL_law_33 hz (by decide) (by decide) rfl (by decide) (law_joined C Y hX hN hk hn h0 h6 hL kk)
      by_cases g15 : z = 15
      · subst g15
        exact jx_tableIn (tgt := 647) C dL_law_33 hz (by decide) (by decide) rfl (by decide) (law_overlap C Y hX hN hk hn h0 h6 hL kk)
      by_cases g16 : z = 16
      · subst g16
        exact jx_tableIn (tgt := 690) C dL_law_33 hz (by decide) (by decide) rfl (by decide) (law_lights C Y hX hN hk hn h0 h6 hL kk)
      by_cases g17 : z = 17
      · subst g17
        exact jx_tableIn (tgt := 733) C dL_law_33 hz (by decide) (by decide) rfl (by decide) (law_seam C Y hX hN hk hn h0 h6 hL kk)
      by_cases g18 : z = 18
      · subst g18
        exact jx_tableIn (tgt := 776) C dL_law_33 hz (by decide) (by decide) rfl (by decide) (law_whole C Y hX hN hk hn h0 h6 hL kk)
      by_cases g19 : z = 19
      · subst g19
        exact jx_tableIn (tgt := 819) C dL_law_33 hz (by decide) (by decide) rfl (by decide) (law_extent C Y hX hN hk hn h0 h6 hL kk)
      by_cases g20 : z = 20
      · subst g20
        exact jx_tableIn (tgt := 842) C dL_law_33 hz (by decide) (by decide) rfl (by decide) (law_told C Y hX hN hk hn h0 h6 hL kk)
      exact jx_tableOut (tgt := 865) C dL_law_33 hz (by omega) (by decide) (kk μ hL)
end LOOP
