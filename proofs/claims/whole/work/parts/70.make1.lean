/-! the world while it is made: cells come one behind the other -/
abbrev Jw : Type := Nat × (Nat → Option va_E)
def jhp (G : GT) (w : Jw) (H : Heap) : Prop := H.size = jz G + w.1 ∧ ∀ k e, w.2 k = some e → k < 96 ∧ va_at (jD G) jcls (ad G k, e) H
def jY (F : FrT) (G : GT) (nL k n : Nat) (Q : State → Prop) (pc : Nat) (L : List (Option Sv)) (st : List Sv) (w : Jw) : Prop := match F with
  | (p, l, e, R, s, m, args, below, meth, c) => ∀ (H : Heap) (locs : List Loc) (ls : Array Slot), jhp G w H → va_S (jA G) s.heap H locs → lv_has ls nL (vLi 0 L) → W p l e R s m args below meth c H locs k n Q (F0 m pc ls (st.map vv))
section JY
variable {F : FrT} {G : GT} {own : String} {cc : ByteArray} {nL k n : Nat} {ret : Option FieldType} {Q : State → Prop} {pc pc2 tgt : Nat} {L L' : List (Option Sv)} {st : List Sv} {w : Jw} {off : Int}
theorem jy_iload_n (C : Cx F G own cc nL ret) {q : Fin 4} (hd : Dn cc pc (.iload_n q) 1 pc2) {z : Int} (hl : L[(q : Nat)]? = some (some (.inl z))) (kk : jY F G nL k n Q pc2 L (.inl z :: st) w) : jY F G nL k n Q pc L st w := by
  obtain ⟨p, l, e, R, s, m, args, below, meth, c⟩ := F
  obtain ⟨hx, hb, -⟩ := C
  obtain ⟨hd, rfl⟩ := hd
  intro H locs ls hw hS h
  exact lv_iload_n hx hb hd rfl (vLi_at h hl) (kk H locs ls hw hS h)
theorem jy_iload (C : Cx F G own cc nL ret) {q : Nat} (hd : Dn cc pc (.iload q) 2 pc2) {z : Int} (hl : L[q]? = some (some (.inl z))) (kk : jY F G nL k n Q pc2 L (.inl z :: st) w) : jY F G nL k n Q pc L st w := by
  obtain ⟨p, l, e, R, s, m, args, below, meth, c⟩ := F
  obtain ⟨hx, hb, -⟩ := C
  obtain ⟨hd, rfl⟩ := hd
  intro H locs ls hw hS h
  exact lv_iload hx hb hd (vLi_at h hl) (kk H locs ls hw hS h)
theorem jy_aload_n (C : Cx F G own cc nL ret) {q : Fin 4} (hd : Dn cc pc (.aload_n q) 1 pc2) {a : Nat} (hl : L[(q : Nat)]? = some (some (.inr a))) (kk : jY F G nL k n Q pc2 L (.inr a :: st) w) : jY F G nL k n Q pc L st w := by
  obtain ⟨p, l, e, R, s, m, args, below, meth, c⟩ := F
  obtain ⟨hx, hb, -⟩ := C
  obtain ⟨hd, rfl⟩ := hd
  intro H locs ls hw hS h
  exact lv_aload_n hx hb hd rfl (vLi_at h hl) (kk H locs ls hw hS h)
theorem jy_aload (C : Cx F G own cc nL ret) {q : Nat} (hd : Dn cc pc (.aload q) 2 pc2) {a : Nat} (hl : L[q]? = some (some (.inr a))) (kk : jY F G nL k n Q pc2 L (.inr a :: st) w) : jY F G nL k n Q pc L st w := by
  obtain ⟨p, l, e, R, s, m, args, below, meth, c⟩ := F
  obtain ⟨hx, hb, -⟩ := C
  obtain ⟨hd, rfl⟩ := hd
  intro H locs ls hw hS h
  exact lv_aload hx hb hd (vLi_at h hl) (kk H locs ls hw hS h)
theorem jy_istore_n (C : Cx F G own cc nL ret) {q : Fin 4} (hd : Dn cc pc (.istore_n q) 1 pc2) {z : Int} (hi : (q : Nat) < nL) (hL : L.set (q : Nat) (some (.inl z)) = L') (kk : jY F G nL k n Q pc2 L' st w) : jY F G nL k n Q pc L (.inl z :: st) w := by
  obtain ⟨p, l, e, R, s, m, args, below, meth, c⟩ := F
  obtain ⟨hx, hb, -⟩ := C
  obtain ⟨hd, rfl⟩ := hd
  intro H locs ls hw hS h
  exact lv_istore_n hx hb hd rfl h hi rfl (fun ls' h' => kk H locs ls' hw hS (vLi_set (v := .inl z) hL h'))
theorem jy_istore (C : Cx F G own cc nL ret) {q : Nat} (hd : Dn cc pc (.istore q) 2 pc2) {z : Int} (hi : q < nL) (hL : L.set q (some (.inl z)) = L') (kk : jY F G nL k n Q pc2 L' st w) : jY F G nL k n Q pc L (.inl z :: st) w := by
  obtain ⟨p, l, e, R, s, m, args, below, meth, c⟩ := F
  obtain ⟨hx, hb, -⟩ := C
  obtain ⟨hd, rfl⟩ := hd
  intro H locs ls hw hS h
  exact lv_istore hx hb hd h hi rfl (fun ls' h' => kk H locs ls' hw hS (vLi_set (v := .inl z) hL h'))
theorem jy_iconst (C : Cx F G own cc nL ret) {z : Int} (hd : Dn cc pc (.iconst z) 1 pc2) (kk : jY F G nL k n Q pc2 L (.inl z :: st) w) : jY F G nL k n Q pc L st w := by
  obtain ⟨p, l, e, R, s, m, args, below, meth, c⟩ := F
  obtain ⟨hx, hb, -⟩ := C
  obtain ⟨hd, rfl⟩ := hd
  intro H locs ls hw hS h
  exact lv_iconst hx hb hd rfl (kk H locs ls hw hS h)
theorem jy_bipush (C : Cx F G own cc nL ret) {z : Int} (hd : Dn cc pc (.bipush z) 2 pc2) (hz : (Int8.ofInt z).toInt32 = zI z) (kk : jY F G nL k n Q pc2 L (.inl z :: st) w) : jY F G nL k n Q pc L st w := by
  obtain ⟨p, l, e, R, s, m, args, below, meth, c⟩ := F
  obtain ⟨hx, hb, -⟩ := C
  obtain ⟨hd, rfl⟩ := hd
  intro H locs ls hw hS h
  exact lv_bipush hx hb hd hz (kk H locs ls hw hS h)
theorem jy_sipush (C : Cx F G own cc nL ret) {z : Int} (hd : Dn cc pc (.sipush z) 3 pc2) (hz : (Int16.ofInt z).toInt32 = zI z) (kk : jY F G nL k n Q pc2 L (.inl z :: st) w) : jY F G nL k n Q pc L st w := by
  obtain ⟨p, l, e, R, s, m, args, below, meth, c⟩ := F
  obtain ⟨hx, hb, -⟩ := C
  obtain ⟨hd, rfl⟩ := hd
  intro H locs ls hw hS h
  exact lv_sipush hx hb hd hz (kk H locs ls hw hS h)
theorem jy_dup (C : Cx F G own cc nL ret) {v : Sv} (hd : Dn cc pc .dup 1 pc2) (kk : jY F G nL k n Q pc2 L (v :: v :: st) w) : jY F G nL k n Q pc L (v :: st) w := by
  obtain ⟨p, l, e, R, s, m, args, below, meth, c⟩ := F
  obtain ⟨hx, hb, -⟩ := C
  obtain ⟨hd, rfl⟩ := hd
  intro H locs ls hw hS h
  exact lv_dup hx hb hd (vv_cat v) (kk H locs ls hw hS h)
theorem jy_goto (C : Cx F G own cc nL ret) (hd : Dj cc pc .goto off 3 pc2 tgt) (kk : jY F G nL k n Q tgt L st w) : jY F G nL k n Q pc L st w := by
  obtain ⟨p, l, e, R, s, m, args, below, meth, c⟩ := F
  obtain ⟨hx, hb, -⟩ := C
  obtain ⟨hd, -, ht⟩ := hd
  intro H locs ls hw hS h
  exact lv_goto hx hb hd ht (kk H locs ls hw hS h)
theorem jy_icmp_ge (C : Cx F G own cc nL ret) {a b : Int} (hd : Dj cc pc (fun o => .if_icmp .ge o) off 3 pc2 tgt) (ha : InR a) (hb : InR b) (kt : b ≤ a → jY F G nL k n Q tgt L st w) (kf : ¬ b ≤ a → jY F G nL k n Q pc2 L st w) : jY F G nL k n Q pc L (.inl b :: .inl a :: st) w := by
  obtain ⟨p, l, e, R, s, m, args, below, meth, c⟩ := F
  obtain ⟨hx, hbb, -⟩ := C
  obtain ⟨hd, rfl, ht⟩ := hd
  intro H locs ls hw hS h
  exact lv_icmp_ge hx hbb hd ht (fun q => kt (by rw [zI_le hb ha] at q; exact q) H locs ls hw hS h) (fun q => kf (by rw [zI_le hb ha] at q; exact q) H locs ls hw hS h)
theorem jy_iinc (C : Cx F G own cc nL ret) {q : Nat} {d : Int} (hd : Dn cc pc (.iinc q d) 3 pc2) {z : Int} (hl : L[q]? = some (some (.inl z))) (hi : q < nL) (hL : L.set q (some (.inl (z + d))) = L') (kk : jY F G nL k n Q pc2 L' st w) : jY F G nL k n Q pc L st w := by
  obtain ⟨p, l, e, R, s, m, args, below, meth, c⟩ := F
  obtain ⟨hx, hb, -⟩ := C
  obtain ⟨hd, rfl⟩ := hd
  intro H locs ls hw hS h
  obtain ⟨j, hj⟩ := List.getElem?_of_mem ((vLi_mem L 0 q (vv (.inl z))).mpr ⟨.inl z, Nat.zero_le _, hl, rfl⟩)
  exact lv_iinc (x := zI z) (v := zI (z + d)) hx hb hd h hj (zI_add z d) hi rfl (fun ls' h' => kk H locs ls' hw hS (vLi_set (v := .inl (z + d)) hL h'))
theorem jy_fewer (h : ∀ (i : Nat) (v : Sv), L'[i]? = some (some v) → L[i]? = some (some v)) (kk : jY F G nL k n Q pc L' st w) : jY F G nL k n Q pc L st w := by
  obtain ⟨p, l, e, R, s, m, args, below, meth, c⟩ := F
  intro H locs ls hw hS hl
  refine kk H locs ls hw hS ⟨hl.1, hl.2.1, fun q hq => ?_⟩
  obtain ⟨j, w⟩ := q
  obtain ⟨u, -, h2, rfl⟩ := (vLi_mem L' 0 j w).mp hq
  exact vLi_at hl (h _ _ h2)
theorem jy_lo (h : L = L') (kk : jY F G nL k n Q pc L' st w) : jY F G nL k n Q pc L st w := by
  subst h; exact kk
theorem jy_top {a b : Int} (h : a = b) (kk : jY F G nL k n Q pc L (.inl b :: st) w) : jY F G nL k n Q pc L (.inl a :: st) w := by
  subst h; exact kk
end JY
