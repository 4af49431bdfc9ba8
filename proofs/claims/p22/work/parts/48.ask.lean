/-! the law's methods: what a call needs of the start; the law's own world -/
def wA (cI : ClassId) (q : Nat → Nat) (σ : SG) (al sp : Nat → Int32) : va_W := wG cI q σ ++ [(q 12, .inl (cI, 6, .inl al)), (q 13, .inl (cI, 14, .inl sp))]
def PY (D : va_G) (cI : ClassId) (q : Nat → Nat) (σ : SG) (al : Nat → Int32) (U : State) : Prop := PX D cI q σ U ∧ va_P D vwCl [(q 12, .inl (cI, 6, .inl al))] U.heap
def NC (U : State) : Prop := va_Nc E2 E1 U ∧ va_Nc E3 E1 U ∧ va_Nc E3 E2 U
theorem NC_moved {s U : State} (h : s.vm.Alike U.vm) (n : NC s) : NC U := ⟨n.1.moved h, n.2.1.moved h, n.2.2.moved h⟩
theorem ij12 {q : Nat → Nat} (hq : ijQ 14 q) : ijQ 12 q := fun i j hi hj h => hq i j (by omega) (by omega) h
section WAS
variable {D : va_G} {cI : ClassId} {q : Nat → Nat} {σ σ' : SG} {al sp : Nat → Int32} {H H1 : Heap}
theorem wA_G (h : va_P D vwCl (wA cI q σ al sp) H) : va_P D vwCl (wG cI q σ) H := fun k p hk => h k p (by rw [wA, List.getElem?_append_left (by exact (List.getElem?_eq_some_iff.mp hk).1)]; exact hk)
theorem wA_a (h : va_P D vwCl (wA cI q σ al sp) H) : va_P D vwCl [(q 12, .inl (cI, 6, .inl al))] H := h.sub [12] rfl
theorem wA_s (h : va_P D vwCl (wA cI q σ al sp) H) : va_P D vwCl [(q 13, .inl (cI, 14, .inl sp))] H := h.sub [13] rfl
theorem wA_two (h : va_P D vwCl (wA cI q σ al sp) H) : va_P D vwCl [(q 12, .inl (cI, 6, .inl al)), (q 13, .inl (cI, 14, .inl sp))] H := h.sub [12, 13] rfl
theorem wA_call (hq : ijQ 14 q) (h : va_P D vwCl (wA cI q σ al sp) H) (h1 : va_P D vwCl (wG cI q σ') H1) (hk : ∀ a : Nat, a < H.size → ¬ adQ 12 q a → H1[a]? = H[a]?) : va_P D vwCl (wA cI q σ' al sp) H1 :=
  va_P.app h1 ((wA_two h).kept (fun k p hp => by
    match k, hp with
    | 0, hp => cases hp; exact hk _ ((wA_two h) 0 _ rfl).lt (fun ⟨j, a, b⟩ => by have := hq 12 j (by omega) (by omega) b; omega)
    | 1, hp => cases hp; exact hk _ ((wA_two h) 1 _ rfl).lt (fun ⟨j, a, b⟩ => by have := hq 13 j (by omega) (by omega) b; omega)
    | k + 2, hp => simp at hp))
theorem dA (hq : ijQ 14 q) : va_D (adQ 14 q) (wA cI q σ al sp) := dQ hq rfl
theorem upd_up {f : Nat → Int32} {k : Nat} {x : Int32} : upd f k x = va_up f k x := by
  funext j; rfl
end WAS
section AST
variable {p : Program} {l : Launch} {e : Env} {R : Room} {s : State} {m : MethodId} {args : Array Value} {below : List Frame} {meth : Method} {c : Code} {H H0 : Heap} {locs : List Loc} {cells slots : Nat} {Q : State → Prop}
variable {pc : Nat} {ls : Array Slot} {rest : List Value} {cc : ByteArray} {D : va_G} {cI : ClassId} {q : Nat → Nat} {σ : SG} {al sp : Nat → Int32}
theorem ald_12 {k : Nat} {ix : Int32} (hx : p.tables.exec = Jvm.exec) (hb : c.code = cc) (hK : va_K D vwCl [(cI, .int)] s) (hP : va_P D vwCl [(q 12, .inl (cI, 6, .inl al))] H) (he : ix = nI k) (hk : k < 6) (hd : decode cc pc = .ok (.iaload, 1)) (kk : W p l e R s m args below meth c H locs cells slots Q (F0 m (pc + 1) ls (.int (al k) :: rest))) : W p l e R s m args below meth c H locs cells slots Q (F0 m pc ls (.int ix :: .ref (q 12) :: rest)) := by
  subst he
  refine va_iald hx hb hK hP 0 0 rfl rfl (vp_in_nI hk (by decide)) hd ?_
  rw [nI_clamp (by omega)]; exact kk
theorem ald_13 {k : Nat} {ix : Int32} (hx : p.tables.exec = Jvm.exec) (hb : c.code = cc) (hK : va_K D vwCl [(cI, .int)] s) (hP : va_P D vwCl [(q 13, .inl (cI, 14, .inl sp))] H) (he : ix = nI k) (hk : k < 14) (hd : decode cc pc = .ok (.iaload, 1)) (kk : W p l e R s m args below meth c H locs cells slots Q (F0 m (pc + 1) ls (.int (sp k) :: rest))) : W p l e R s m args below meth c H locs cells slots Q (F0 m pc ls (.int ix :: .ref (q 13) :: rest)) := by
  subst he
  refine va_iald hx hb hK hP 0 0 rfl rfl (vp_in_nI hk (by decide)) hd ?_
  rw [nI_clamp (by omega)]; exact kk
theorem ast_12 {A : Nat → Prop} {k : Nat} {ix x : Int32} (hx : p.tables.exec = Jvm.exec) (hb : c.code = cc) (hK : va_K D vwCl [(cI, .int)] s) (hP : va_P D vwCl (wA cI q σ al sp) H) (hq : ijQ 14 q) (hA : ∀ a, adQ 14 q a → A a) (hS : va_S A H0 H locs) (he : ix = nI k) (hk : k < 6) (hd : decode cc pc = .ok (.iastore, 1)) (kk : ∀ (H1 : Heap) (locs1 : List Loc), va_P D vwCl (wA cI q σ (va_up al k x) sp) H1 → va_S A H0 H1 locs1 → W p l e R s m args below meth c H1 locs1 cells slots Q (F0 m (pc + 1) ls rest)) : W p l e R s m args below meth c H locs cells slots Q (F0 m pc ls (.int x :: .int ix :: .ref (q 12) :: rest)) := by
  subst he
  refine va_iast hx hb hK hP ((dA hq).weaken (fun _ _ _ h => hA _ h)) hS 12 0 rfl rfl (vp_in_nI hk (by decide)) hd (fun H1 l1 h1 _ h3 => kk H1 l1 ?_ h3)
  rw [nI_clamp (by omega)] at h1
  exact h1
theorem ast_13 {A : Nat → Prop} {k : Nat} {ix x : Int32} (hx : p.tables.exec = Jvm.exec) (hb : c.code = cc) (hK : va_K D vwCl [(cI, .int)] s) (hP : va_P D vwCl (wA cI q σ al sp) H) (hq : ijQ 14 q) (hA : ∀ a, adQ 14 q a → A a) (hS : va_S A H0 H locs) (he : ix = nI k) (hk : k < 14) (hd : decode cc pc = .ok (.iastore, 1)) (kk : ∀ (H1 : Heap) (locs1 : List Loc), va_P D vwCl (wA cI q σ al (va_up sp k x)) H1 → va_S A H0 H1 locs1 → W p l e R s m args below meth c H1 locs1 cells slots Q (F0 m (pc + 1) ls rest)) : W p l e R s m args below meth c H locs cells slots Q (F0 m pc ls (.int x :: .int ix :: .ref (q 13) :: rest)) := by
  subst he
  refine va_iast hx hb hK hP ((dA hq).weaken (fun _ _ _ h => hA _ h)) hS 13 0 rfl rfl (vp_in_nI hk (by decide)) hd (fun H1 l1 h1 _ h3 => kk H1 l1 ?_ h3)
  rw [nI_clamp (by omega)] at h1
  exact h1
end AST
section PW
variable {s : State} {H : Heap} {D : va_G} {cI : ClassId} {q : Nat → Nat} {σ : SG} {al : Nat → Int32} {As : List Value}
theorem pV_P (hP : va_P D vwCl (wG cI q σ) H) (hK : va_K D vwCl [(cI, .int)] s) (hE : EN s) (hX : EX (adQ 12 q) s H) : PreV s H RX1 (q 0) (va_Pc (.ref (q 0) :: As) (PX D cI q σ)) As :=
  ⟨fun a U g mk h => ⟨h.1, ⟨h.2.1.1, va_K.moved (u := U) (U := U.calling g mk a) (Vm.Alike.refl U.vm) h.2.1.2.1, EN_call h.2.1.2.2⟩, EX_call (U := U) h.2.2⟩, va_recv hK hP (ci := 1) (q0 := 0) rfl rfl,
    fun U hU hW => ⟨rfl, ⟨by rw [hU]; exact hP, va_K.moved hW.alike hK, EN_warm hW hE⟩, by show EX (adQ 12 q) U U.heap; rw [hU]; exact EX_warm hW hX⟩⟩
theorem pS_P (hP : va_P D vwCl (wG cI q σ) H) (hK : va_K D vwCl [(cI, .int)] s) (hE : EN s) (hX : EX (adQ 12 q) s H) : PreS s H (va_Pc As (PX D cI q σ)) As :=
  ⟨fun a U g mk h => ⟨h.1, ⟨h.2.1.1, va_K.moved (u := U) (U := U.calling g mk a) (Vm.Alike.refl U.vm) h.2.1.2.1, EN_call h.2.1.2.2⟩, EX_call (U := U) h.2.2⟩,
    fun U hU hW => ⟨rfl, ⟨by rw [hU]; exact hP, va_K.moved hW.alike hK, EN_warm hW hE⟩, by show EX (adQ 12 q) U U.heap; rw [hU]; exact EX_warm hW hX⟩⟩
theorem pS_Y (hP : va_P D vwCl (wG cI q σ) H) (hP2 : va_P D vwCl [(q 12, .inl (cI, 6, .inl al))] H) (hK : va_K D vwCl [(cI, .int)] s) (hE : EN s) (hX : EX (adQ 12 q) s H) : PreS s H (va_Pc As (PY D cI q σ al)) As :=
  ⟨fun a U g mk h => ⟨h.1, ⟨⟨h.2.1.1.1, va_K.moved (u := U) (U := U.calling g mk a) (Vm.Alike.refl U.vm) h.2.1.1.2.1, EN_call h.2.1.1.2.2⟩, EX_call (U := U) h.2.1.2⟩, h.2.2⟩,
    fun U hU hW => ⟨rfl, ⟨⟨by rw [hU]; exact hP, va_K.moved hW.alike hK, EN_warm hW hE⟩, by show EX (adQ 12 q) U U.heap; rw [hU]; exact EX_warm hW hX⟩, by rw [hU]; exact hP2⟩⟩
theorem pS_X {b L : Nat} {xs : Nat → Int32} (hX : va_X b L xs s H) : PreS s H (va_Pc As (fun U => va_X b L xs U U.heap)) As :=
  ⟨fun a U g mk h => ⟨h.1, h.2.moved (u := U) (U := U.calling g mk a) (Vm.Alike.refl U.vm)⟩, fun U hU hW => ⟨rfl, by show va_X b L xs U U.heap; rw [hU]; exact hX.moved hW.alike⟩⟩
/-- the asking method's start: the class's world, and that one exception is none of another class -/
def PQ (D : va_G) (cI : ClassId) (q : Nat → Nat) (σ : SG) (U : State) : Prop := PX D cI q σ U ∧ NC U
theorem pS_Q (hP : va_P D vwCl (wG cI q σ) H) (hK : va_K D vwCl [(cI, .int)] s) (hE : EN s) (hX : EX (adQ 12 q) s H) (hN : NC s) : PreS s H (va_Pc As (PQ D cI q σ)) As :=
  ⟨fun a U g mk h => ⟨h.1, ⟨⟨h.2.1.1.1, va_K.moved (u := U) (U := U.calling g mk a) (Vm.Alike.refl U.vm) h.2.1.1.2.1, EN_call h.2.1.1.2.2⟩, EX_call (U := U) h.2.1.2⟩, NC_moved (s := U) (Vm.Alike.refl U.vm) h.2.2⟩,
    fun U hU hW => ⟨rfl, ⟨⟨by rw [hU]; exact hP, va_K.moved hW.alike hK, EN_warm hW hE⟩, by show EX (adQ 12 q) U U.heap; rw [hU]; exact EX_warm hW hX⟩, NC_moved hW.alike hN⟩⟩
end PW
section YC
variable {p : Program} {l : Launch} {e : Env} {R : Room} {s : State} {m : MethodId} {args : Array Value} {below : List Frame} {meth : Method} {c : Code} {H H0 : Heap} {locs : List Loc} {cells slots : Nat} {Q : State → Prop}
variable {pc : Nat} {ls : Array Slot} {rest st0 : List Value} {a : Array Value} {cc : ByteArray} {D : va_G} {cI : ClassId} {q : Nat → Nat}
theorem y_call {mc ms : Nat} {A1 A0 : Nat → Prop} {φ : Option Value → Heap → Prop} {ψ : String → Prop} (hr : vx_Run p l e R s m args below meth c H locs cells slots mc ms (F0 m pc ls st0) rest (wQ A1 φ a) (xQ ψ) A1) (hS : va_S A0 H0 H locs) (hA : ∀ q, A1 q → A0 q)
    (kx : ∀ (E : String) (ce : Cell) (q9 : Addr) (H1 : Heap) (locs1 : List Loc), ψ E → H.size < H1.size → (∀ q : Nat, q < H.size → H1[q]? = H[q]?) → va_S A0 H0 H1 locs1 → H1[q9]? = some ce → ce.vm = .none → s.vm.findClass E = some ce.cls → vx_W p l e R s m args below meth c H1 locs1 (cells + mc) (slots + ms) Q (F0 m pc ls rest) q9)
    (kk : ∀ (v : Option Value) (H1 : Heap) (locs1 : List Loc), φ v H1 → H.size ≤ H1.size → (∀ q : Nat, q < H.size → ¬ A1 q → H1[q]? = H[q]?) → va_S A0 H0 H1 locs1 → W p l e R s m args below meth c H1 locs1 (cells + mc) (slots + ms) Q (F0 m (pc + 3) ls (v.toList ++ rest))) : W p l e R s m args below meth c H locs cells slots Q (F0 m pc ls st0) := by
  intro T hT X
  rcases hr T hT X with ⟨v, st₀, t, T', L, h0, X', hL, e1, e2, ⟨r, hv, hp, hz, hk⟩, st⟩ | ⟨q, st₀, t, T', L, E, ce, h0, X', hL, e1, e2, ⟨hp, hz, hk⟩, hce, hcv, hcl, st⟩
  · cases hv
    rw [h0] at hz hk
    obtain ⟨t2, a1, b1⟩ := kk v T'.heap (locs ++ L) (by rw [e1]; exact hp) (by rw [e1]; exact hz) (fun q h1 h2 => by rw [e1]; exact hk q h1 h2)
      ⟨Nat.le_trans hS.1 (by rw [e1]; exact hz), fun q h1 h2 => by rw [e1, hk q (Nat.lt_of_lt_of_le h1 hS.1) (fun z => h2 (hA q z))]; exact hS.2.1 q h1 h2, fun q hq => by
        rcases List.mem_append.mp hq with h | h
        · exact hS.2.2 q h
        · exact hA _ (hL q h)⟩ T' rfl X'
    exact ⟨t2, st t2 a1, b1⟩
  · rw [h0] at hz hk
    obtain ⟨t2, a1, b1⟩ := kx E ce q T'.heap (locs ++ L) hp (by rw [e1]; exact hz) (fun q h1 => by rw [e1]; exact hk q h1)
      ⟨Nat.le_trans hS.1 (by rw [e1]; exact Nat.le_of_lt hz), fun q h1 h2 => by rw [e1, hk q (Nat.lt_of_lt_of_le h1 hS.1)]; exact hS.2.1 q h1 h2, fun q hq => by
        rcases List.mem_append.mp hq with h | h
        · exact hS.2.2 q h
        · exact hA _ (hL q h)⟩ (by rw [e1]; exact hce) hcv hcl T' rfl X'
    exact ⟨t2, st.trans a1, b1⟩
end YC
section YO
variable {l : Launch} {y : MethodName} {ws ws' : List Cond} {rm : Room} {av : List Value} {maxL : Nat} {cc : ByteArray} {Pre : State → Prop} {A : Nat → Prop} {hh : List (Nat × Nat × Nat × Nat)}
/-- the start of a method that hands on what it calls throws -/
theorem openC {φ : Option Value → Heap → Prop} {ψ : String → Prop} (hy : plainName y.cls = true) (hw : ws = Cond.code y cc maxL (some .int) :: ws') (hle : (lg_sl av).length ≤ maxL)
    (body : ∀ (p : Program) (e : Env) (s : State) (m : MethodId) (args : Array Value) (below : List Frame) (meth : Method) (c : Code), p.tables.exec = Jvm.exec → c.code = cc → c.maxLocals = maxL → (∀ w ∈ ws, w.before args s = true) → s.vm.findClass y.cls = some m.cls → Pre s →
      ∀ (Q : State → Prop), (∀ (v : Int32) (pc : Nat) (ls : Array Slot) (H : Heap) (locs : List Loc), φ (some (.int v)) H → va_S A s.heap H locs → decode cc pc = .ok (.ireturn, 1) → W p l e rm s m args below meth c H locs (0 + 1) (0 + 6) Q (F0 m pc ls [.int v])) →
      (∀ (E : String) (ce : Cell) (q9 : Addr) (H1 : Heap) (locs : List Loc) (pc : Nat) (ls : Array Slot) (rest : List Value), ψ E → s.heap.size < H1.size → (∀ q : Nat, q < s.heap.size → H1[q]? = s.heap[q]?) → va_S A s.heap H1 locs → H1[q9]? = some ce → ce.vm = .none → s.vm.findClass E = some ce.cls → vx_W p l e rm s m args below meth c H1 locs (0 + 1) (0 + 6) Q (F0 m pc ls rest) q9) →
      ∀ ls : Array Slot, lv_has ls maxL (lv_args 0 av) → W p l e rm s m args below meth c s.heap [] 0 0 Q (F0 m 0 ls [])) : vx_Met l y ws rm (va_Pc av Pre) (wQ A φ) (xQ ψ) 1 6 A := by
  refine vx_ofW hy hw ?_
  intro p e s m args below meth c s₁ B hml hex hv
  obtain ⟨rfl, hpre⟩ := hv
  have hl := lv_entry av (n := maxL) hle
  rw [lg_entry_eq]
  exact body p e s m _ below meth c B.exec B.bytes hml (atoms_spec (ws := ws) B.pre) (findClass_of_methodNamed B.named) hpre _
    (fun v pc ls H locs hφ hS hd => vx_ret (W.iret B.exec B.bytes B.returns (fun t ht hW => ⟨some (.int v), rfl, by rw [ht]; exact hφ, hS.F ht⟩) hS.2.2 hd B.notSynchronized))
    (fun E ce q9 H1 locs pc ls rest hψ hz hk hS hce hv hcl => vx_out (fun x hx => (hex x hx).elim) B.notSynchronized hce hv hcl (fun t ht _ => ⟨hψ, by rw [ht]; exact hz, fun q h => by rw [ht]; exact hk q h⟩) hS.2.2 (by decide) (by decide)) _ hl
theorem openL {φ : Option Value → Heap → Prop} (hy : plainName y.cls = true) (hw : ws = Cond.codeWith y cc maxL (some .int) hh :: ws') (hle : (lg_sl av).length ≤ maxL)
    (body : ∀ (p : Program) (e : Env) (s : State) (m : MethodId) (args : Array Value) (below : List Frame) (meth : Method) (c : Code), p.tables.exec = Jvm.exec → c.code = cc → c.maxLocals = maxL → (∀ w ∈ ws, w.before args s = true) → s.vm.findClass y.cls = some m.cls → c.exceptionTable.toList = tableOf hh → Pre s →
      ∀ (Q : State → Prop), (∀ (v : Int32) (pc : Nat) (ls : Array Slot) (H : Heap) (locs : List Loc), φ (some (.int v)) H → va_S A s.heap H locs → decode cc pc = .ok (.ireturn, 1) → W p l e rm s m args below meth c H locs (0 + 1) (0 + 6) Q (F0 m pc ls [.int v])) →
      ∀ ls : Array Slot, lv_has ls maxL (lv_args 0 av) → W p l e rm s m args below meth c s.heap [] 0 0 Q (F0 m 0 ls [])) : Met l y ws rm (va_Pc av Pre) (wQ A φ) 1 6 A := by
  refine MetFree.of_bodyS (code := cc) (maxLocals := maxL) (ret := some .int) hy ?_ ?_
  · intro args s m h hn
    obtain ⟨m9, meth, c, hn9, h1, h2, h3, h4, -, h5, h6, -⟩ := Cond.codeWith_spec (atoms_spec (ws := ws) h _ (by rw [hw]; exact List.mem_cons_self))
    cases hn.symm.trans hn9
    exact ⟨meth, c, h1, h2, h3, h4, h5, h6⟩
  · intro p e s m args below meth c s₁ B hml hv _
    obtain ⟨rfl, hpre⟩ := hv
    have hh0 : s₁.heap = s.heap := by rw [B.state]; rfl
    have hts := atoms_spec (ws := ws) B.pre
    have htab : c.exceptionTable.toList = tableOf hh := vx_table (x := y) B (hts _ (by rw [hw]; exact List.mem_cons_self))
    have hl := lv_entry av (n := maxL) hle
    have key : W p l e rm s m av.toArray below meth c s.heap [] 0 0 (MQ below (wQ A φ) av.toArray s 1 6 A) (entryFrame m av.toArray maxL) := by
      rw [lg_entry_eq]
      exact body p e s m _ below meth c B.exec B.bytes hml hts (findClass_of_methodNamed B.named) htab hpre _ (fun v pc ls H locs hφ hS hd => W.iret B.exec B.bytes B.returns (fun t ht hW => ⟨some (.int v), rfl, by rw [ht]; exact hφ, hS.F ht⟩) hS.2.2 hd B.notSynchronized) _ hl
    obtain ⟨t, a1, o, b1, b2, b3⟩ := key s₁ hh0 (Stand.of_body B)
    exact ⟨t, o, a1, b1, b2, ⟨b3.1, b3.2⟩⟩
end YO
def askV (c : Nat) (x : Int32) : Int32 := if c = 0 then x else if c = 1 then -1011 else if c = 2 then -1012 else -1013
theorem kn_L_draw : yL_draw.cls ≠ "java/lang/invoke/MethodHandle" ∧ yL_draw.cls ≠ "java/lang/invoke/VarHandle" ∧ (parseMethodDescriptor yL_draw.desc).map (fun d => d.parameters.length) = some 2 := by decide +kernel
set_option maxHeartbeats 4000000 in
set_option maxRecDepth 100000 in
theorem c_L_draw (l : Launch) (b L : Nat) (xs : Nat → Int32) (t : Nat) (ht : t < 1000) (hL : L ≤ 260) : Met l yL_draw wsL_draw ({ frames := 0, cells := 0, slots := 0, locals := 0 }) (va_Pc [.ref b, .int (nI t)] (fun U => va_X b L xs U U.heap)) (rQ (fun _ => True)) 0 0 noF := by
  refine openR (cc := cL_draw) (maxL := 2) (by decide) rfl (Nat.le_of_ble_eq_true rfl) ?_
  intro p e s m args below meth c hx hb hml hts hown hpre Q RET ls hl
  have hown : s.vm.findClass RL = some m.cls := hown
  have hl : lv_has ls 2 [(0, .ref b), (1, .int (nI t))] := hl
  have hbl : b < s.heap.size := (Array.getElem?_eq_some_iff.mp hpre.choose_spec.1).1
  have hS : va_S noF s.heap s.heap [] := va_S.rf
  refine lv_iload_n hx hb dL_draw_0 rfl (lv_at hl 1 rfl) ?_
  refine lv_aload_n hx hb dL_draw_1 rfl (lv_at hl 0 rfl) ?_
  refine va_slen hx hb hpre hbl (fun z => z) hS dL_draw_2 ?_
  refine geN t L (tgt := 12) hx hb rfl rfl (by omega) (by omega) dL_draw_3 (by decide) (fun c_t => ?_) (fun c_t => ?_)
  · skip
    refine lv_ldc (v := 3730017) hx hb hown (hts (.constant RL 49 3730017) (by decide +kernel)) dL_draw_12 ?_
    refine lv_iload_n hx hb dL_draw_14 rfl (lv_at hl 1 rfl) ?_
    refine lv_imul hx hb dL_draw_15 ?_
    refine lv_iload_n hx hb dL_draw_16 rfl (lv_at hl 1 rfl) ?_
    refine lv_imul hx hb dL_draw_17 ?_
    refine lv_ldc (v := 148061) hx hb hown (hts (.constant RL 50 148061) (by decide +kernel)) dL_draw_18 ?_
    refine lv_iload_n hx hb dL_draw_20 rfl (lv_at hl 1 rfl) ?_
    refine lv_imul hx hb dL_draw_21 ?_
    refine lv_iadd hx hb dL_draw_22 ?_
    refine lv_sipush (v := 317) hx hb dL_draw_23 (by decide) ?_
    refine lv_iadd hx hb dL_draw_26 ?_
    exact RET _ _ _ trivial dL_draw_27
  refine lv_aload_n hx hb dL_draw_6 rfl (lv_at hl 0 rfl) ?_
  refine lv_iload_n hx hb dL_draw_7 rfl (lv_at hl 1 rfl) ?_
  refine va_sld hx hb hpre hbl (fun z => z) hS (vp_in_nI c_t (by omega)) dL_draw_8 ?_
  rw [nI_clamp (by omega)]
  refine lv_goto (tgt := 27) hx hb dL_draw_9 (by decide) ?_
  exact RET _ _ _ trivial dL_draw_27
theorem kn_L_call : yL_call.cls ≠ "java/lang/invoke/MethodHandle" ∧ yL_call.cls ≠ "java/lang/invoke/VarHandle" ∧ (parseMethodDescriptor yL_call.desc).map (fun d => d.parameters.length) = some 5 := by decide +kernel
theorem kn_L_ask : yL_ask.cls ≠ "java/lang/invoke/MethodHandle" ∧ yL_ask.cls ≠ "java/lang/invoke/VarHandle" ∧ (parseMethodDescriptor yL_ask.desc).map (fun d => d.parameters.length) = some 5 := by decide +kernel
theorem cMake_ex {σ : SG} {x1 : Int32} (h : (cMake σ x1).1 ≠ 0) : ((cMake σ x1).1 = 1 ∨ (cMake σ x1).1 = 2 ∨ (cMake σ x1).1 = 3) ∧ (cMake σ x1).2.2 = σ := by
  revert h; unfold cMake; (repeat' split) <;> simp
set_option maxHeartbeats 4000000 in
set_option maxRecDepth 100000 in
theorem c_L_call_make (l : Launch) (hf : l.stackTraces = false) (D : va_G) (cI : ClassId) (q : Nat → Nat) (hq : ijQ 12 q) (σ : SG) (ok : okG σ) (hz : ∀ P, gN σ ≤ P → gLen σ P = 0) (x1 x2 x3 : Int32) : vx_Met l yL_call wsL_call ({ frames := 8, cells := 1, slots := 6, locals := 124 }) (va_Pc [.ref (q 0), .int 0, .int x1, .int x2, .int x3] (PX D cI q σ)) (wQ (adQ 12 q) (fun v H1 => (cMake σ x1).1 = 0 ∧ v = some (.int ((cMake σ x1).2.1)) ∧ va_P D vwCl (wG cI q (cMake σ x1).2.2) H1)) (xQ (fun E => (cMake σ x1).1 ≠ 0 ∧ E = exN (cMake σ x1).1)) 1 6 (adQ 12 q) := by
  refine openC (cc := cL_call) (maxL := 5) (by decide) rfl (Nat.le_of_ble_eq_true rfl) ?_
  intro p e s m args below meth c hx hb hml hts hown hpre Q RET OUT ls hl
  have hown : s.vm.findClass RL = some m.cls := hown
  have hl : lv_has ls 5 [(0, .ref (q 0)), (1, .int 0), (2, .int x1), (3, .int x2), (4, .int x3)] := hl
  obtain ⟨⟨hP, hK, hE⟩, hX⟩ := hpre
  have hS : va_S (adQ 12 q) s.heap s.heap [] := va_S.rf
  refine lv_iload_n hx hb dL_call_0 rfl (lv_at hl 1 rfl) ?_
  refine lv_if_ne (tgt := 12) hx hb dL_call_1 (by decide) (fun c_1 => absurd (by decide) c_1) (fun c_1 => ?_)
  refine lv_aload_n hx hb dL_call_4 rfl (lv_at hl 0 rfl) ?_
  refine lv_iload_n hx hb dL_call_5 rfl (lv_at hl 2 rfl) ?_
  refine y_call (vx_runV (As := [.int x1]) (rest := []) ⟨hx, hb, hml, hown, hts⟩ (c_X1_make l hf D cI q σ hq x1 ok hz) (cwV 1 hts gL_call_X1_make rfl rfl rfl kd_X1_make ⟨Nat.le_of_ble_eq_true rfl, Nat.le_of_ble_eq_true rfl⟩) (pV_P hP hK hE hX) rfl rfl hl.1 rfl (lv_room (Nat.le_of_ble_eq_true rfl)) dL_call_6 ⟨Nat.le_of_ble_eq_true rfl, Nat.le_of_ble_eq_true rfl⟩) hS (fun _ h => h) (fun E9 ce q9 H1 l1 hψ hz9 hk9 hS hce hcv hcl => ?_) (fun v H1 l1 hv hz9 hk9 hS => ?_)
  · exact OUT _ _ _ _ _ _ _ _ hψ hz9 hk9 hS hce hcv hcl
  obtain ⟨h0, rfl, hP1⟩ := hv
  refine lv_goto (tgt := 116) hx hb dL_call_9 (by decide) ?_
  exact RET _ _ _ _ _ ⟨h0, rfl, hP1⟩ hS dL_call_116
theorem cLoad_ex {σ : SG} {x1 x2 x3 : Int32} (h : (cLoad σ x1 x2 x3).1 ≠ 0) : ((cLoad σ x1 x2 x3).1 = 1 ∨ (cLoad σ x1 x2 x3).1 = 2 ∨ (cLoad σ x1 x2 x3).1 = 3) ∧ (cLoad σ x1 x2 x3).2.2 = σ := by
  revert h; unfold cLoad; (repeat' split) <;> simp
set_option maxHeartbeats 4000000 in
set_option maxRecDepth 100000 in
theorem c_L_call_load (l : Launch) (hf : l.stackTraces = false) (D : va_G) (cI : ClassId) (q : Nat → Nat) (hq : ijQ 12 q) (σ : SG) (ok : okG σ) (hz : ∀ P, gN σ ≤ P → gLen σ P = 0) (x1 x2 x3 : Int32) : vx_Met l yL_call wsL_call ({ frames := 8, cells := 1, slots := 6, locals := 163 }) (va_Pc [.ref (q 0), .int 1, .int x1, .int x2, .int x3] (PX D cI q σ)) (wQ (adQ 12 q) (fun v H1 => (cLoad σ x1 x2 x3).1 = 0 ∧ v = some (.int ((cLoad σ x1 x2 x3).2.1)) ∧ va_P D vwCl (wG cI q (cLoad σ x1 x2 x3).2.2) H1)) (xQ (fun E => (cLoad σ x1 x2 x3).1 ≠ 0 ∧ E = exN (cLoad σ x1 x2 x3).1)) 1 6 (adQ 12 q) := by
  refine openC (cc := cL_call) (maxL := 5) (by decide) rfl (Nat.le_of_ble_eq_true rfl) ?_
  intro p e s m args below meth c hx hb hml hts hown hpre Q RET OUT ls hl
  have hown : s.vm.findClass RL = some m.cls := hown
  have hl : lv_has ls 5 [(0, .ref (q 0)), (1, .int 1), (2, .int x1), (3, .int x2), (4, .int x3)] := hl
  obtain ⟨⟨hP, hK, hE⟩, hX⟩ := hpre
  have hS : va_S (adQ 12 q) s.heap s.heap [] := va_S.rf
  refine lv_iload_n hx hb dL_call_0 rfl (lv_at hl 1 rfl) ?_
  refine lv_if_ne (tgt := 12) hx hb dL_call_1 (by decide) (fun c_1 => ?_) (fun c_1 => absurd c_1 (by decide))
  refine lv_iload_n hx hb dL_call_12 rfl (lv_at hl 1 rfl) ?_
  refine lv_iconst (v := 1) hx hb dL_call_13 (by decide) ?_
  refine lv_icmp_ne (tgt := 28) hx hb dL_call_14 (by decide) (fun c_2 => absurd (by decide) c_2) (fun c_2 => ?_)
  refine lv_aload_n hx hb dL_call_17 rfl (lv_at hl 0 rfl) ?_
  refine lv_iload_n hx hb dL_call_18 rfl (lv_at hl 2 rfl) ?_
  refine lv_iload_n hx hb dL_call_19 rfl (lv_at hl 3 rfl) ?_
  refine lv_iload hx hb dL_call_20 (lv_at hl 4 rfl) ?_
  refine y_call (vx_runV (As := [.int x1, .int x2, .int x3]) (rest := []) ⟨hx, hb, hml, hown, hts⟩ (c_X1_load l hf D cI q σ hq x1 x2 x3 ok hz) (cwV 3 hts gL_call_X1_load rfl rfl rfl kd_X1_load ⟨Nat.le_of_ble_eq_true rfl, Nat.le_of_ble_eq_true rfl⟩) (pV_P hP hK hE hX) rfl rfl hl.1 rfl (lv_room (Nat.le_of_ble_eq_true rfl)) dL_call_22 ⟨Nat.le_of_ble_eq_true rfl, Nat.le_of_ble_eq_true rfl⟩) hS (fun _ h => h) (fun E9 ce q9 H1 l1 hψ hz9 hk9 hS hce hcv hcl => ?_) (fun v H1 l1 hv hz9 hk9 hS => ?_)
  · exact OUT _ _ _ _ _ _ _ _ hψ hz9 hk9 hS hce hcv hcl
  obtain ⟨h0, rfl, hP1⟩ := hv
  refine lv_goto (tgt := 116) hx hb dL_call_25 (by decide) ?_
  exact RET _ _ _ _ _ ⟨h0, rfl, hP1⟩ hS dL_call_116
theorem cPart_ex {σ : SG} {x1 x2 x3 : Int32} (h : (cPart σ x1 x2 x3).1 ≠ 0) : ((cPart σ x1 x2 x3).1 = 1 ∨ (cPart σ x1 x2 x3).1 = 2 ∨ (cPart σ x1 x2 x3).1 = 3) ∧ (cPart σ x1 x2 x3).2.2 = σ := by
  revert h; unfold cPart; (repeat' split) <;> simp
set_option maxHeartbeats 4000000 in
set_option maxRecDepth 100000 in
theorem c_L_call_part (l : Launch) (hf : l.stackTraces = false) (D : va_G) (cI : ClassId) (q : Nat → Nat) (hq : ijQ 12 q) (σ : SG) (ok : okG σ) (hz : ∀ P, gN σ ≤ P → gLen σ P = 0) (x1 x2 x3 : Int32) : vx_Met l yL_call wsL_call ({ frames := 8, cells := 1, slots := 6, locals := 164 }) (va_Pc [.ref (q 0), .int 2, .int x1, .int x2, .int x3] (PX D cI q σ)) (wQ (adQ 12 q) (fun v H1 => (cPart σ x1 x2 x3).1 = 0 ∧ v = some (.int ((cPart σ x1 x2 x3).2.1)) ∧ va_P D vwCl (wG cI q (cPart σ x1 x2 x3).2.2) H1)) (xQ (fun E => (cPart σ x1 x2 x3).1 ≠ 0 ∧ E = exN (cPart σ x1 x2 x3).1)) 1 6 (adQ 12 q) := by
  refine openC (cc := cL_call) (maxL := 5) (by decide) rfl (Nat.le_of_ble_eq_true rfl) ?_
  intro p e s m args below meth c hx hb hml hts hown hpre Q RET OUT ls hl
  have hown : s.vm.findClass RL = some m.cls := hown
  have hl : lv_has ls 5 [(0, .ref (q 0)), (1, .int 2), (2, .int x1), (3, .int x2), (4, .int x3)] := hl
  obtain ⟨⟨hP, hK, hE⟩, hX⟩ := hpre
  have hS : va_S (adQ 12 q) s.heap s.heap [] := va_S.rf
  refine lv_iload_n hx hb dL_call_0 rfl (lv_at hl 1 rfl) ?_
  refine lv_if_ne (tgt := 12) hx hb dL_call_1 (by decide) (fun c_1 => ?_) (fun c_1 => absurd c_1 (by decide))
  refine lv_iload_n hx hb dL_call_12 rfl (lv_at hl 1 rfl) ?_
  refine lv_iconst (v := 1) hx hb dL_call_13 (by decide) ?_
  refine lv_icmp_ne (tgt := 28) hx hb dL_call_14 (by decide) (fun c_2 => ?_) (fun c_2 => absurd c_2 (by decide))
  refine lv_iload_n hx hb dL_call_28 rfl (lv_at hl 1 rfl) ?_
  refine lv_iconst (v := 2) hx hb dL_call_29 (by decide) ?_
  refine lv_icmp_ne (tgt := 44) hx hb dL_call_30 (by decide) (fun c_3 => absurd (by decide) c_3) (fun c_3 => ?_)
  refine lv_aload_n hx hb dL_call_33 rfl (lv_at hl 0 rfl) ?_
  refine lv_iload_n hx hb dL_call_34 rfl (lv_at hl 2 rfl) ?_
  refine lv_iload_n hx hb dL_call_35 rfl (lv_at hl 3 rfl) ?_
  refine lv_iload hx hb dL_call_36 (lv_at hl 4 rfl) ?_
  refine y_call (vx_runV (As := [.int x1, .int x2, .int x3]) (rest := []) ⟨hx, hb, hml, hown, hts⟩ (c_X1_part l hf D cI q σ hq x1 x2 x3 ok hz) (cwV 3 hts gL_call_X1_part rfl rfl rfl kd_X1_part ⟨Nat.le_of_ble_eq_true rfl, Nat.le_of_ble_eq_true rfl⟩) (pV_P hP hK hE hX) rfl rfl hl.1 rfl (lv_room (Nat.le_of_ble_eq_true rfl)) dL_call_38 ⟨Nat.le_of_ble_eq_true rfl, Nat.le_of_ble_eq_true rfl⟩) hS (fun _ h => h) (fun E9 ce q9 H1 l1 hψ hz9 hk9 hS hce hcv hcl => ?_) (fun v H1 l1 hv hz9 hk9 hS => ?_)
  · exact OUT _ _ _ _ _ _ _ _ hψ hz9 hk9 hS hce hcv hcl
  obtain ⟨h0, rfl, hP1⟩ := hv
  refine lv_goto (tgt := 116) hx hb dL_call_41 (by decide) ?_
  exact RET _ _ _ _ _ ⟨h0, rfl, hP1⟩ hS dL_call_116
theorem cJoin_ex {σ : SG} {x1 x2 : Int32} (h : (cJoin σ x1 x2).1 ≠ 0) : ((cJoin σ x1 x2).1 = 1 ∨ (cJoin σ x1 x2).1 = 2 ∨ (cJoin σ x1 x2).1 = 3) ∧ (cJoin σ x1 x2).2.2 = σ := by
  revert h; unfold cJoin; (repeat' split) <;> simp
set_option maxHeartbeats 4000000 in
set_option maxRecDepth 100000 in
theorem c_L_call_join (l : Launch) (hf : l.stackTraces = false) (D : va_G) (cI : ClassId) (q : Nat → Nat) (hq : ijQ 12 q) (σ : SG) (ok : okG σ) (hz : ∀ P, gN σ ≤ P → gLen σ P = 0) (x1 x2 x3 : Int32) : vx_Met l yL_call wsL_call ({ frames := 8, cells := 1, slots := 6, locals := 164 }) (va_Pc [.ref (q 0), .int 3, .int x1, .int x2, .int x3] (PX D cI q σ)) (wQ (adQ 12 q) (fun v H1 => (cJoin σ x1 x2).1 = 0 ∧ v = some (.int ((cJoin σ x1 x2).2.1)) ∧ va_P D vwCl (wG cI q (cJoin σ x1 x2).2.2) H1)) (xQ (fun E => (cJoin σ x1 x2).1 ≠ 0 ∧ E = exN (cJoin σ x1 x2).1)) 1 6 (adQ 12 q) := by
  refine openC (cc := cL_call) (maxL := 5) (by decide) rfl (Nat.le_of_ble_eq_true rfl) ?_
  intro p e s m args below meth c hx hb hml hts hown hpre Q RET OUT ls hl
  have hown : s.vm.findClass RL = some m.cls := hown
  have hl : lv_has ls 5 [(0, .ref (q 0)), (1, .int 3), (2, .int x1), (3, .int x2), (4, .int x3)] := hl
  obtain ⟨⟨hP, hK, hE⟩, hX⟩ := hpre
  have hS : va_S (adQ 12 q) s.heap s.heap [] := va_S.rf
  refine lv_iload_n hx hb dL_call_0 rfl (lv_at hl 1 rfl) ?_
  refine lv_if_ne (tgt := 12) hx hb dL_call_1 (by decide) (fun c_1 => ?_) (fun c_1 => absurd c_1 (by decide))
  refine lv_iload_n hx hb dL_call_12 rfl (lv_at hl 1 rfl) ?_
  refine lv_iconst (v := 1) hx hb dL_call_13 (by decide) ?_
  refine lv_icmp_ne (tgt := 28) hx hb dL_call_14 (by decide) (fun c_2 => ?_) (fun c_2 => absurd c_2 (by decide))
  refine lv_iload_n hx hb dL_call_28 rfl (lv_at hl 1 rfl) ?_
  refine lv_iconst (v := 2) hx hb dL_call_29 (by decide) ?_
  refine lv_icmp_ne (tgt := 44) hx hb dL_call_30 (by decide) (fun c_3 => ?_) (fun c_3 => absurd c_3 (by decide))
  refine lv_iload_n hx hb dL_call_44 rfl (lv_at hl 1 rfl) ?_
  refine lv_iconst (v := 3) hx hb dL_call_45 (by decide) ?_
  refine lv_icmp_ne (tgt := 58) hx hb dL_call_46 (by decide) (fun c_4 => absurd (by decide) c_4) (fun c_4 => ?_)
  refine lv_aload_n hx hb dL_call_49 rfl (lv_at hl 0 rfl) ?_
  refine lv_iload_n hx hb dL_call_50 rfl (lv_at hl 2 rfl) ?_
  refine lv_iload_n hx hb dL_call_51 rfl (lv_at hl 3 rfl) ?_
  refine y_call (vx_runV (As := [.int x1, .int x2]) (rest := []) ⟨hx, hb, hml, hown, hts⟩ (c_X1_join l hf D cI q σ hq x1 x2 ok hz) (cwV 2 hts gL_call_X1_join rfl rfl rfl kd_X1_join ⟨Nat.le_of_ble_eq_true rfl, Nat.le_of_ble_eq_true rfl⟩) (pV_P hP hK hE hX) rfl rfl hl.1 rfl (lv_room (Nat.le_of_ble_eq_true rfl)) dL_call_52 ⟨Nat.le_of_ble_eq_true rfl, Nat.le_of_ble_eq_true rfl⟩) hS (fun _ h => h) (fun E9 ce q9 H1 l1 hψ hz9 hk9 hS hce hcv hcl => ?_) (fun v H1 l1 hv hz9 hk9 hS => ?_)
  · exact OUT _ _ _ _ _ _ _ _ hψ hz9 hk9 hS hce hcv hcl
  obtain ⟨h0, rfl, hP1⟩ := hv
  refine lv_goto (tgt := 116) hx hb dL_call_55 (by decide) ?_
  exact RET _ _ _ _ _ ⟨h0, rfl, hP1⟩ hS dL_call_116
theorem cMove_ex {σ : SG} {x1 x2 : Int32} (h : (cMove σ x1 x2).1 ≠ 0) : ((cMove σ x1 x2).1 = 1 ∨ (cMove σ x1 x2).1 = 2 ∨ (cMove σ x1 x2).1 = 3) ∧ (cMove σ x1 x2).2.2 = σ := by
  revert h; unfold cMove; (repeat' split) <;> simp
set_option maxHeartbeats 4000000 in
set_option maxRecDepth 100000 in
theorem c_L_call_move (l : Launch) (hf : l.stackTraces = false) (D : va_G) (cI : ClassId) (q : Nat → Nat) (hq : ijQ 12 q) (σ : SG) (ok : okG σ) (hz : ∀ P, gN σ ≤ P → gLen σ P = 0) (x1 x2 x3 : Int32) : vx_Met l yL_call wsL_call ({ frames := 8, cells := 1, slots := 6, locals := 162 }) (va_Pc [.ref (q 0), .int 4, .int x1, .int x2, .int x3] (PX D cI q σ)) (wQ (adQ 12 q) (fun v H1 => (cMove σ x1 x2).1 = 0 ∧ v = some (.int ((cMove σ x1 x2).2.1)) ∧ va_P D vwCl (wG cI q (cMove σ x1 x2).2.2) H1)) (xQ (fun E => (cMove σ x1 x2).1 ≠ 0 ∧ E = exN (cMove σ x1 x2).1)) 1 6 (adQ 12 q) := by
  refine openC (cc := cL_call) (maxL := 5) (by decide) rfl (Nat.le_of_ble_eq_true rfl) ?_
  intro p e s m args below meth c hx hb hml hts hown hpre Q RET OUT ls hl
  have hown : s.vm.findClass RL = some m.cls := hown
  have hl : lv_has ls 5 [(0, .ref (q 0)), (1, .int 4), (2, .int x1), (3, .int x2), (4, .int x3)] := hl
  obtain ⟨⟨hP, hK, hE⟩, hX⟩ := hpre
  have hS : va_S (adQ 12 q) s.heap s.heap [] := va_S.rf
  refine lv_iload_n hx hb dL_call_0 rfl (lv_at hl 1 rfl) ?_
  refine lv_if_ne (tgt := 12) hx hb dL_call_1 (by decide) (fun c_1 => ?_) (fun c_1 => absurd c_1 (by decide))
  refine lv_iload_n hx hb dL_call_12 rfl (lv_at hl 1 rfl) ?_
  refine lv_iconst (v := 1) hx hb dL_call_13 (by decide) ?_
  refine lv_icmp_ne (tgt := 28) hx hb dL_call_14 (by decide) (fun c_2 => ?_) (fun c_2 => absurd c_2 (by decide))
  refine lv_iload_n hx hb dL_call_28 rfl (lv_at hl 1 rfl) ?_
  refine lv_iconst (v := 2) hx hb dL_call_29 (by decide) ?_
  refine lv_icmp_ne (tgt := 44) hx hb dL_call_30 (by decide) (fun c_3 => ?_) (fun c_3 => absurd c_3 (by decide))
  refine lv_iload_n hx hb dL_call_44 rfl (lv_at hl 1 rfl) ?_
  refine lv_iconst (v := 3) hx hb dL_call_45 (by decide) ?_
  refine lv_icmp_ne (tgt := 58) hx hb dL_call_46 (by decide) (fun c_4 => ?_) (fun c_4 => absurd c_4 (by decide))
  refine lv_iload_n hx hb dL_call_58 rfl (lv_at hl 1 rfl) ?_
  refine lv_iconst (v := 4) hx hb dL_call_59 (by decide) ?_
  refine lv_icmp_ne (tgt := 72) hx hb dL_call_60 (by decide) (fun c_5 => absurd (by decide) c_5) (fun c_5 => ?_)
  refine lv_aload_n hx hb dL_call_63 rfl (lv_at hl 0 rfl) ?_
  refine lv_iload_n hx hb dL_call_64 rfl (lv_at hl 2 rfl) ?_
  refine lv_iload_n hx hb dL_call_65 rfl (lv_at hl 3 rfl) ?_
  refine y_call (vx_runV (As := [.int x1, .int x2]) (rest := []) ⟨hx, hb, hml, hown, hts⟩ (c_X1_move l hf D cI q σ hq x1 x2 ok hz) (cwV 2 hts gL_call_X1_move rfl rfl rfl kd_X1_move ⟨Nat.le_of_ble_eq_true rfl, Nat.le_of_ble_eq_true rfl⟩) (pV_P hP hK hE hX) rfl rfl hl.1 rfl (lv_room (Nat.le_of_ble_eq_true rfl)) dL_call_66 ⟨Nat.le_of_ble_eq_true rfl, Nat.le_of_ble_eq_true rfl⟩) hS (fun _ h => h) (fun E9 ce q9 H1 l1 hψ hz9 hk9 hS hce hcv hcl => ?_) (fun v H1 l1 hv hz9 hk9 hS => ?_)
  · exact OUT _ _ _ _ _ _ _ _ hψ hz9 hk9 hS hce hcv hcl
  obtain ⟨h0, rfl, hP1⟩ := hv
  refine lv_goto (tgt := 116) hx hb dL_call_69 (by decide) ?_
  exact RET _ _ _ _ _ ⟨h0, rfl, hP1⟩ hS dL_call_116
theorem cHold_ex {σ : SG} {x1 : Int32} (h : (cHold σ x1).1 ≠ 0) : ((cHold σ x1).1 = 1 ∨ (cHold σ x1).1 = 2 ∨ (cHold σ x1).1 = 3) ∧ (cHold σ x1).2.2 = σ := by
  revert h; unfold cHold; (repeat' split) <;> simp
set_option maxHeartbeats 4000000 in
set_option maxRecDepth 100000 in
theorem c_L_call_hold (l : Launch) (hf : l.stackTraces = false) (D : va_G) (cI : ClassId) (q : Nat → Nat) (hq : ijQ 12 q) (σ : SG) (ok : okG σ) (hz : ∀ P, gN σ ≤ P → gLen σ P = 0) (x1 x2 x3 : Int32) : vx_Met l yL_call wsL_call ({ frames := 8, cells := 1, slots := 6, locals := 124 }) (va_Pc [.ref (q 0), .int 5, .int x1, .int x2, .int x3] (PX D cI q σ)) (wQ (adQ 12 q) (fun v H1 => (cHold σ x1).1 = 0 ∧ v = some (.int (bI (cHold σ x1).2.1)) ∧ va_P D vwCl (wG cI q (cHold σ x1).2.2) H1)) (xQ (fun E => (cHold σ x1).1 ≠ 0 ∧ E = exN (cHold σ x1).1)) 1 6 (adQ 12 q) := by
  refine openC (cc := cL_call) (maxL := 5) (by decide) rfl (Nat.le_of_ble_eq_true rfl) ?_
  intro p e s m args below meth c hx hb hml hts hown hpre Q RET OUT ls hl
  have hown : s.vm.findClass RL = some m.cls := hown
  have hl : lv_has ls 5 [(0, .ref (q 0)), (1, .int 5), (2, .int x1), (3, .int x2), (4, .int x3)] := hl
  obtain ⟨⟨hP, hK, hE⟩, hX⟩ := hpre
  have hS : va_S (adQ 12 q) s.heap s.heap [] := va_S.rf
  refine lv_iload_n hx hb dL_call_0 rfl (lv_at hl 1 rfl) ?_
  refine lv_if_ne (tgt := 12) hx hb dL_call_1 (by decide) (fun c_1 => ?_) (fun c_1 => absurd c_1 (by decide))
  refine lv_iload_n hx hb dL_call_12 rfl (lv_at hl 1 rfl) ?_
  refine lv_iconst (v := 1) hx hb dL_call_13 (by decide) ?_
  refine lv_icmp_ne (tgt := 28) hx hb dL_call_14 (by decide) (fun c_2 => ?_) (fun c_2 => absurd c_2 (by decide))
  refine lv_iload_n hx hb dL_call_28 rfl (lv_at hl 1 rfl) ?_
  refine lv_iconst (v := 2) hx hb dL_call_29 (by decide) ?_
  refine lv_icmp_ne (tgt := 44) hx hb dL_call_30 (by decide) (fun c_3 => ?_) (fun c_3 => absurd c_3 (by decide))
  refine lv_iload_n hx hb dL_call_44 rfl (lv_at hl 1 rfl) ?_
  refine lv_iconst (v := 3) hx hb dL_call_45 (by decide) ?_
  refine lv_icmp_ne (tgt := 58) hx hb dL_call_46 (by decide) (fun c_4 => ?_) (fun c_4 => absurd c_4 (by decide))
  refine lv_iload_n hx hb dL_call_58 rfl (lv_at hl 1 rfl) ?_
  refine lv_iconst (v := 4) hx hb dL_call_59 (by decide) ?_
  refine lv_icmp_ne (tgt := 72) hx hb dL_call_60 (by decide) (fun c_5 => ?_) (fun c_5 => absurd c_5 (by decide))
  refine lv_iload_n hx hb dL_call_72 rfl (lv_at hl 1 rfl) ?_
  refine lv_iconst (v := 5) hx hb dL_call_73 (by decide) ?_
  refine lv_icmp_ne (tgt := 93) hx hb dL_call_74 (by decide) (fun c_6 => absurd (by decide) c_6) (fun c_6 => ?_)
  refine lv_aload_n hx hb dL_call_77 rfl (lv_at hl 0 rfl) ?_
  refine lv_iload_n hx hb dL_call_78 rfl (lv_at hl 2 rfl) ?_
  refine y_call (vx_runV (As := [.int x1]) (rest := []) ⟨hx, hb, hml, hown, hts⟩ (c_X1_hold l hf D cI q σ hq x1 ok hz) (cwV 1 hts gL_call_X1_hold rfl rfl rfl kd_X1_hold ⟨Nat.le_of_ble_eq_true rfl, Nat.le_of_ble_eq_true rfl⟩) (pV_P hP hK hE hX) rfl rfl hl.1 rfl (lv_room (Nat.le_of_ble_eq_true rfl)) dL_call_79 ⟨Nat.le_of_ble_eq_true rfl, Nat.le_of_ble_eq_true rfl⟩) hS (fun _ h => h) (fun E9 ce q9 H1 l1 hψ hz9 hk9 hS hce hcv hcl => ?_) (fun v H1 l1 hv hz9 hk9 hS => ?_)
  · exact OUT _ _ _ _ _ _ _ _ hψ hz9 hk9 hS hce hcv hcl
  obtain ⟨h0, rfl, hP1⟩ := hv
  refine eqB ((cHold σ x1).2.1) (tgt := 89) hx hb rfl dL_call_82 (by decide) (fun c_1 => ?_) (fun c_1 => ?_)
  · skip
    refine lv_iconst (v := 0) hx hb dL_call_89 (by decide) ?_
    refine lv_goto (tgt := 116) hx hb dL_call_90 (by decide) ?_
    exact RET _ _ _ _ _ ⟨h0, by rw [c_1]; rfl, hP1⟩ hS dL_call_116
  refine lv_iconst (v := 1) hx hb dL_call_85 (by decide) ?_
  refine lv_goto (tgt := 116) hx hb dL_call_86 (by decide) ?_
  exact RET _ _ _ _ _ ⟨h0, by rw [c_1]; rfl, hP1⟩ hS dL_call_116
theorem cSpoil_ex {σ : SG} {x1 x2 x3 : Int32} (h : (cSpoil σ x1 x2 x3).1 ≠ 0) : ((cSpoil σ x1 x2 x3).1 = 1 ∨ (cSpoil σ x1 x2 x3).1 = 2 ∨ (cSpoil σ x1 x2 x3).1 = 3) ∧ (cSpoil σ x1 x2 x3).2.2 = σ := by
  revert h; unfold cSpoil; (repeat' split) <;> simp
set_option maxHeartbeats 4000000 in
set_option maxRecDepth 100000 in
theorem c_L_call_spoil (l : Launch) (hf : l.stackTraces = false) (D : va_G) (cI : ClassId) (q : Nat → Nat) (hq : ijQ 12 q) (σ : SG) (ok : okG σ) (hz : ∀ P, gN σ ≤ P → gLen σ P = 0) (x1 x2 x3 : Int32) : vx_Met l yL_call wsL_call ({ frames := 8, cells := 1, slots := 6, locals := 126 }) (va_Pc [.ref (q 0), .int 6, .int x1, .int x2, .int x3] (PX D cI q σ)) (wQ (adQ 12 q) (fun v H1 => (cSpoil σ x1 x2 x3).1 = 0 ∧ v = some (.int ((cSpoil σ x1 x2 x3).2.1)) ∧ va_P D vwCl (wG cI q (cSpoil σ x1 x2 x3).2.2) H1)) (xQ (fun E => (cSpoil σ x1 x2 x3).1 ≠ 0 ∧ E = exN (cSpoil σ x1 x2 x3).1)) 1 6 (adQ 12 q) := by
  refine openC (cc := cL_call) (maxL := 5) (by decide) rfl (Nat.le_of_ble_eq_true rfl) ?_
  intro p e s m args below meth c hx hb hml hts hown hpre Q RET OUT ls hl
  have hown : s.vm.findClass RL = some m.cls := hown
  have hl : lv_has ls 5 [(0, .ref (q 0)), (1, .int 6), (2, .int x1), (3, .int x2), (4, .int x3)] := hl
  obtain ⟨⟨hP, hK, hE⟩, hX⟩ := hpre
  have hS : va_S (adQ 12 q) s.heap s.heap [] := va_S.rf
  refine lv_iload_n hx hb dL_call_0 rfl (lv_at hl 1 rfl) ?_
  refine lv_if_ne (tgt := 12) hx hb dL_call_1 (by decide) (fun c_1 => ?_) (fun c_1 => absurd c_1 (by decide))
  refine lv_iload_n hx hb dL_call_12 rfl (lv_at hl 1 rfl) ?_
  refine lv_iconst (v := 1) hx hb dL_call_13 (by decide) ?_
  refine lv_icmp_ne (tgt := 28) hx hb dL_call_14 (by decide) (fun c_2 => ?_) (fun c_2 => absurd c_2 (by decide))
  refine lv_iload_n hx hb dL_call_28 rfl (lv_at hl 1 rfl) ?_
  refine lv_iconst (v := 2) hx hb dL_call_29 (by decide) ?_
  refine lv_icmp_ne (tgt := 44) hx hb dL_call_30 (by decide) (fun c_3 => ?_) (fun c_3 => absurd c_3 (by decide))
  refine lv_iload_n hx hb dL_call_44 rfl (lv_at hl 1 rfl) ?_
  refine lv_iconst (v := 3) hx hb dL_call_45 (by decide) ?_
  refine lv_icmp_ne (tgt := 58) hx hb dL_call_46 (by decide) (fun c_4 => ?_) (fun c_4 => absurd c_4 (by decide))
  refine lv_iload_n hx hb dL_call_58 rfl (lv_at hl 1 rfl) ?_
  refine lv_iconst (v := 4) hx hb dL_call_59 (by decide) ?_
  refine lv_icmp_ne (tgt := 72) hx hb dL_call_60 (by decide) (fun c_5 => ?_) (fun c_5 => absurd c_5 (by decide))
  refine lv_iload_n hx hb dL_call_72 rfl (lv_at hl 1 rfl) ?_
  refine lv_iconst (v := 5) hx hb dL_call_73 (by decide) ?_
  refine lv_icmp_ne (tgt := 93) hx hb dL_call_74 (by decide) (fun c_6 => ?_) (fun c_6 => absurd c_6 (by decide))
  refine lv_iload_n hx hb dL_call_93 rfl (lv_at hl 1 rfl) ?_
  refine lv_bipush (v := 6) hx hb dL_call_94 (by decide) ?_
  refine lv_icmp_ne (tgt := 110) hx hb dL_call_96 (by decide) (fun c_7 => absurd (by decide) c_7) (fun c_7 => ?_)
  refine lv_aload_n hx hb dL_call_99 rfl (lv_at hl 0 rfl) ?_
  refine lv_iload_n hx hb dL_call_100 rfl (lv_at hl 2 rfl) ?_
  refine lv_iload_n hx hb dL_call_101 rfl (lv_at hl 3 rfl) ?_
  refine lv_iload hx hb dL_call_102 (lv_at hl 4 rfl) ?_
  refine y_call (vx_runV (As := [.int x1, .int x2, .int x3]) (rest := []) ⟨hx, hb, hml, hown, hts⟩ (c_X1_spoil l hf D cI q σ hq x1 x2 x3 ok hz) (cwV 3 hts gL_call_X1_spoil rfl rfl rfl kd_X1_spoil ⟨Nat.le_of_ble_eq_true rfl, Nat.le_of_ble_eq_true rfl⟩) (pV_P hP hK hE hX) rfl rfl hl.1 rfl (lv_room (Nat.le_of_ble_eq_true rfl)) dL_call_104 ⟨Nat.le_of_ble_eq_true rfl, Nat.le_of_ble_eq_true rfl⟩) hS (fun _ h => h) (fun E9 ce q9 H1 l1 hψ hz9 hk9 hS hce hcv hcl => ?_) (fun v H1 l1 hv hz9 hk9 hS => ?_)
  · exact OUT _ _ _ _ _ _ _ _ hψ hz9 hk9 hS hce hcv hcl
  obtain ⟨h0, rfl, hP1⟩ := hv
  refine lv_goto (tgt := 116) hx hb dL_call_107 (by decide) ?_
  exact RET _ _ _ _ _ ⟨h0, rfl, hP1⟩ hS dL_call_116
theorem cRepair_ex {σ : SG} {x1 x2 : Int32} (h : (cRepair σ x1 x2).1 ≠ 0) : ((cRepair σ x1 x2).1 = 1 ∨ (cRepair σ x1 x2).1 = 2 ∨ (cRepair σ x1 x2).1 = 3) ∧ (cRepair σ x1 x2).2.2 = σ := by
  revert h; unfold cRepair; (repeat' split) <;> simp
set_option maxHeartbeats 4000000 in
set_option maxRecDepth 100000 in
theorem c_L_call_repair (l : Launch) (hf : l.stackTraces = false) (D : va_G) (cI : ClassId) (q : Nat → Nat) (hq : ijQ 12 q) (σ : SG) (ok : okG σ) (hz : ∀ P, gN σ ≤ P → gLen σ P = 0) (x1 x2 x3 : Int32) : vx_Met l yL_call wsL_call ({ frames := 8, cells := 1, slots := 6, locals := 125 }) (va_Pc [.ref (q 0), .int 7, .int x1, .int x2, .int x3] (PX D cI q σ)) (wQ (adQ 12 q) (fun v H1 => (cRepair σ x1 x2).1 = 0 ∧ v = some (.int ((cRepair σ x1 x2).2.1)) ∧ va_P D vwCl (wG cI q (cRepair σ x1 x2).2.2) H1)) (xQ (fun E => (cRepair σ x1 x2).1 ≠ 0 ∧ E = exN (cRepair σ x1 x2).1)) 1 6 (adQ 12 q) := by
  refine openC (cc := cL_call) (maxL := 5) (by decide) rfl (Nat.le_of_ble_eq_true rfl) ?_
  intro p e s m args below meth c hx hb hml hts hown hpre Q RET OUT ls hl
  have hown : s.vm.findClass RL = some m.cls := hown
  have hl : lv_has ls 5 [(0, .ref (q 0)), (1, .int 7), (2, .int x1), (3, .int x2), (4, .int x3)] := hl
  obtain ⟨⟨hP, hK, hE⟩, hX⟩ := hpre
  have hS : va_S (adQ 12 q) s.heap s.heap [] := va_S.rf
  refine lv_iload_n hx hb dL_call_0 rfl (lv_at hl 1 rfl) ?_
  refine lv_if_ne (tgt := 12) hx hb dL_call_1 (by decide) (fun c_1 => ?_) (fun c_1 => absurd c_1 (by decide))
  refine lv_iload_n hx hb dL_call_12 rfl (lv_at hl 1 rfl) ?_
  refine lv_iconst (v := 1) hx hb dL_call_13 (by decide) ?_
  refine lv_icmp_ne (tgt := 28) hx hb dL_call_14 (by decide) (fun c_2 => ?_) (fun c_2 => absurd c_2 (by decide))
  refine lv_iload_n hx hb dL_call_28 rfl (lv_at hl 1 rfl) ?_
  refine lv_iconst (v := 2) hx hb dL_call_29 (by decide) ?_
  refine lv_icmp_ne (tgt := 44) hx hb dL_call_30 (by decide) (fun c_3 => ?_) (fun c_3 => absurd c_3 (by decide))
  refine lv_iload_n hx hb dL_call_44 rfl (lv_at hl 1 rfl) ?_
  refine lv_iconst (v := 3) hx hb dL_call_45 (by decide) ?_
  refine lv_icmp_ne (tgt := 58) hx hb dL_call_46 (by decide) (fun c_4 => ?_) (fun c_4 => absurd c_4 (by decide))
  refine lv_iload_n hx hb dL_call_58 rfl (lv_at hl 1 rfl) ?_
  refine lv_iconst (v := 4) hx hb dL_call_59 (by decide) ?_
  refine lv_icmp_ne (tgt := 72) hx hb dL_call_60 (by decide) (fun c_5 => ?_) (fun c_5 => absurd c_5 (by decide))
  refine lv_iload_n hx hb dL_call_72 rfl (lv_at hl 1 rfl) ?_
  refine lv_iconst (v := 5) hx hb dL_call_73 (by decide) ?_
  refine lv_icmp_ne (tgt := 93) hx hb dL_call_74 (by decide) (fun c_6 => ?_) (fun c_6 => absurd c_6 (by decide))
  refine lv_iload_n hx hb dL_call_93 rfl (lv_at hl 1 rfl) ?_
  refine lv_bipush (v := 6) hx hb dL_call_94 (by decide) ?_
  refine lv_icmp_ne (tgt := 110) hx hb dL_call_96 (by decide) (fun c_7 => ?_) (fun c_7 => absurd c_7 (by decide))
  refine lv_aload_n hx hb dL_call_110 rfl (lv_at hl 0 rfl) ?_
  refine lv_iload_n hx hb dL_call_111 rfl (lv_at hl 2 rfl) ?_
  refine lv_iload_n hx hb dL_call_112 rfl (lv_at hl 3 rfl) ?_
  refine y_call (vx_runV (As := [.int x1, .int x2]) (rest := []) ⟨hx, hb, hml, hown, hts⟩ (c_X1_repair l hf D cI q σ hq x1 x2 ok hz) (cwV 2 hts gL_call_X1_repair rfl rfl rfl kd_X1_repair ⟨Nat.le_of_ble_eq_true rfl, Nat.le_of_ble_eq_true rfl⟩) (pV_P hP hK hE hX) rfl rfl hl.1 rfl (lv_room (Nat.le_of_ble_eq_true rfl)) dL_call_113 ⟨Nat.le_of_ble_eq_true rfl, Nat.le_of_ble_eq_true rfl⟩) hS (fun _ h => h) (fun E9 ce q9 H1 l1 hψ hz9 hk9 hS hce hcv hcl => ?_) (fun v H1 l1 hv hz9 hk9 hS => ?_)
  · exact OUT _ _ _ _ _ _ _ _ hψ hz9 hk9 hS hce hcv hcl
  obtain ⟨h0, rfl, hP1⟩ := hv
  exact RET _ _ _ _ _ ⟨h0, rfl, hP1⟩ hS dL_call_116
set_option maxHeartbeats 4000000 in
set_option maxRecDepth 100000 in
theorem c_L_ask_make (l : Launch) (hf : l.stackTraces = false) (D : va_G) (cI : ClassId) (q : Nat → Nat) (hq : ijQ 12 q) (σ : SG) (ok : okG σ) (hz : ∀ P, gN σ ≤ P → gLen σ P = 0) (x1 x2 x3 : Int32) : Met l yL_ask wsL_ask ({ frames := 9, cells := 1, slots := 6, locals := 148 }) (va_Pc [.ref (q 0), .int 0, .int x1, .int x2, .int x3] (PQ D cI q σ)) (wQ (adQ 12 q) (fun v H1 => v = some (.int (askV (cMake σ x1).1 ((cMake σ x1).2.1))) ∧ va_P D vwCl (wG cI q (cMake σ x1).2.2) H1)) 1 6 (adQ 12 q) := by
  refine openL (cc := cL_ask) (maxL := 6) (by decide) rfl (Nat.le_of_ble_eq_true rfl) ?_
  intro p e s m args below meth c hx hb hml hts hown htab hpre Q RET ls hl
  have hown : s.vm.findClass RL = some m.cls := hown
  have hl : lv_has ls 6 [(0, .ref (q 0)), (1, .int 0), (2, .int x1), (3, .int x2), (4, .int x3)] := hl
  obtain ⟨⟨⟨hP, hK, hE⟩, hX⟩, hN⟩ := hpre
  have hS : va_S (adQ 12 q) s.heap s.heap [] := va_S.rf
  refine lv_aload_n hx hb dL_ask_0 rfl (lv_at hl 0 rfl) ?_
  refine lv_iload_n hx hb dL_ask_1 rfl (lv_at hl 1 rfl) ?_
  refine lv_iload_n hx hb dL_ask_2 rfl (lv_at hl 2 rfl) ?_
  refine lv_iload_n hx hb dL_ask_3 rfl (lv_at hl 3 rfl) ?_
  refine lv_iload hx hb dL_ask_4 (lv_at hl 4 rfl) ?_
  refine y_call (vx_runS (As := [.ref (q 0), .int 0, .int x1, .int x2, .int x3]) (rest := []) ⟨hx, hb, hml, hown, hts⟩ (c_L_call_make l hf D cI q hq σ ok hz x1 x2 x3) (va_cwS 5 hts gL_ask_L_call rfl rfl rfl kn_L_call ⟨Nat.le_of_ble_eq_true rfl, Nat.le_of_ble_eq_true rfl⟩) (pS_P hP hK hE hX) rfl rfl hl.1 rfl (lv_room (Nat.le_of_ble_eq_true rfl)) dL_ask_6 ⟨Nat.le_of_ble_eq_true rfl, Nat.le_of_ble_eq_true rfl⟩) hS (fun _ h => h) (fun E9 ce q9 H1 l1 hψ hz9 hk9 hS hce hcv hcl => ?_) (fun v H1 l1 hv hz9 hk9 hS => ?_)
  · obtain ⟨hc0, rfl⟩ := hψ
    obtain ⟨hcs, hst⟩ := cMake_ex hc0
    have hP1 : va_P D vwCl (wG cI q (cMake σ x1).2.2) H1 := by rw [hst]; exact hP.kept (fun kk pp hp => hk9 _ (hP kk pp hp).lt)
    rcases hcs with h1 | h1 | h1
    · rw [h1] at hcl
      refine vx_catch (E := E1) (name := "java/lang/IndexOutOfBoundsException") hown [] ⟨0, 9, 10, 43⟩ [⟨0, 9, 16, 45⟩, ⟨0, 9, 22, 47⟩] (by rw [htab]; rfl) (fun _ h => nomatch h) (by decide) (by decide) (hts (.classLink RL 43 "java/lang/IndexOutOfBoundsException") (by decide +kernel)) (va_Nw.use rfl hX.1.2.2.2.1) hce hcv hcl ?_
      refine lv_astore (lv' := [(5, .ref q9), (0, .ref (q 0)), (1, .int 0), (2, .int x1), (3, .int x2), (4, .int x3)]) hx hb dL_ask_10 hl (by decide) rfl (fun ls hl => ?_)
      refine lv_sipush (v := (-1011)) hx hb dL_ask_12 (by decide) ?_
      exact RET _ _ _ _ _ ⟨by rw [h1]; rfl, hP1⟩ hS dL_ask_15
    · rw [h1] at hcl
      refine vx_catch (E := E2) (name := "java/lang/IllegalArgumentException") hown [⟨0, 9, 10, 43⟩] ⟨0, 9, 16, 45⟩ [⟨0, 9, 22, 47⟩] (by rw [htab]; rfl) (List.forall_mem_cons.mpr ⟨Or.inr ⟨by decide, _, hts (.classLink RL 43 "java/lang/IndexOutOfBoundsException") (by decide +kernel), hN.1⟩, fun _ h => nomatch h⟩) (by decide) (by decide) (hts (.classLink RL 45 "java/lang/IllegalArgumentException") (by decide +kernel)) (va_Nw.use rfl hX.1.2.2.2.2.1) hce hcv hcl ?_
      refine lv_astore (lv' := [(5, .ref q9), (0, .ref (q 0)), (1, .int 0), (2, .int x1), (3, .int x2), (4, .int x3)]) hx hb dL_ask_16 hl (by decide) rfl (fun ls hl => ?_)
      refine lv_sipush (v := (-1012)) hx hb dL_ask_18 (by decide) ?_
      exact RET _ _ _ _ _ ⟨by rw [h1]; rfl, hP1⟩ hS dL_ask_21
    · rw [h1] at hcl
      refine vx_catch (E := E3) (name := "java/lang/IllegalStateException") hown [⟨0, 9, 10, 43⟩, ⟨0, 9, 16, 45⟩] ⟨0, 9, 22, 47⟩ [] (by rw [htab]; rfl) (List.forall_mem_cons.mpr ⟨Or.inr ⟨by decide, _, hts (.classLink RL 43 "java/lang/IndexOutOfBoundsException") (by decide +kernel), hN.2.1⟩, List.forall_mem_cons.mpr ⟨Or.inr ⟨by decide, _, hts (.classLink RL 45 "java/lang/IllegalArgumentException") (by decide +kernel), hN.2.2⟩, fun _ h => nomatch h⟩⟩) (by decide) (by decide) (hts (.classLink RL 47 "java/lang/IllegalStateException") (by decide +kernel)) (va_Nw.use rfl hX.1.2.2.2.2.2) hce hcv hcl ?_
      refine lv_astore (lv' := [(5, .ref q9), (0, .ref (q 0)), (1, .int 0), (2, .int x1), (3, .int x2), (4, .int x3)]) hx hb dL_ask_22 hl (by decide) rfl (fun ls hl => ?_)
      refine lv_sipush (v := (-1013)) hx hb dL_ask_24 (by decide) ?_
      exact RET _ _ _ _ _ ⟨by rw [h1]; rfl, hP1⟩ hS dL_ask_27
  · obtain ⟨h0, rfl, hP1⟩ := hv
    exact RET _ _ _ _ _ ⟨by rw [h0]; rfl, hP1⟩ hS dL_ask_9
set_option maxHeartbeats 4000000 in
set_option maxRecDepth 100000 in
theorem c_L_ask_load (l : Launch) (hf : l.stackTraces = false) (D : va_G) (cI : ClassId) (q : Nat → Nat) (hq : ijQ 12 q) (σ : SG) (ok : okG σ) (hz : ∀ P, gN σ ≤ P → gLen σ P = 0) (x1 x2 x3 : Int32) : Met l yL_ask wsL_ask ({ frames := 9, cells := 1, slots := 6, locals := 187 }) (va_Pc [.ref (q 0), .int 1, .int x1, .int x2, .int x3] (PQ D cI q σ)) (wQ (adQ 12 q) (fun v H1 => v = some (.int (askV (cLoad σ x1 x2 x3).1 ((cLoad σ x1 x2 x3).2.1))) ∧ va_P D vwCl (wG cI q (cLoad σ x1 x2 x3).2.2) H1)) 1 6 (adQ 12 q) := by
  refine openL (cc := cL_ask) (maxL := 6) (by decide) rfl (Nat.le_of_ble_eq_true rfl) ?_
  intro p e s m args below meth c hx hb hml hts hown htab hpre Q RET ls hl
  have hown : s.vm.findClass RL = some m.cls := hown
  have hl : lv_has ls 6 [(0, .ref (q 0)), (1, .int 1), (2, .int x1), (3, .int x2), (4, .int x3)] := hl
  obtain ⟨⟨⟨hP, hK, hE⟩, hX⟩, hN⟩ := hpre
  have hS : va_S (adQ 12 q) s.heap s.heap [] := va_S.rf
  refine lv_aload_n hx hb dL_ask_0 rfl (lv_at hl 0 rfl) ?_
  refine lv_iload_n hx hb dL_ask_1 rfl (lv_at hl 1 rfl) ?_
  refine lv_iload_n hx hb dL_ask_2 rfl (lv_at hl 2 rfl) ?_
  refine lv_iload_n hx hb dL_ask_3 rfl (lv_at hl 3 rfl) ?_
  refine lv_iload hx hb dL_ask_4 (lv_at hl 4 rfl) ?_
  refine y_call (vx_runS (As := [.ref (q 0), .int 1, .int x1, .int x2, .int x3]) (rest := []) ⟨hx, hb, hml, hown, hts⟩ (c_L_call_load l hf D cI q hq σ ok hz x1 x2 x3) (va_cwS 5 hts gL_ask_L_call rfl rfl rfl kn_L_call ⟨Nat.le_of_ble_eq_true rfl, Nat.le_of_ble_eq_true rfl⟩) (pS_P hP hK hE hX) rfl rfl hl.1 rfl (lv_room (Nat.le_of_ble_eq_true rfl)) dL_ask_6 ⟨Nat.le_of_ble_eq_true rfl, Nat.le_of_ble_eq_true rfl⟩) hS (fun _ h => h) (fun E9 ce q9 H1 l1 hψ hz9 hk9 hS hce hcv hcl => ?_) (fun v H1 l1 hv hz9 hk9 hS => ?_)
  · obtain ⟨hc0, rfl⟩ := hψ
    obtain ⟨hcs, hst⟩ := cLoad_ex hc0
    have hP1 : va_P D vwCl (wG cI q (cLoad σ x1 x2 x3).2.2) H1 := by rw [hst]; exact hP.kept (fun kk pp hp => hk9 _ (hP kk pp hp).lt)
    rcases hcs with h1 | h1 | h1
    · rw [h1] at hcl
      refine vx_catch (E := E1) (name := "java/lang/IndexOutOfBoundsException") hown [] ⟨0, 9, 10, 43⟩ [⟨0, 9, 16, 45⟩, ⟨0, 9, 22, 47⟩] (by rw [htab]; rfl) (fun _ h => nomatch h) (by decide) (by decide) (hts (.classLink RL 43 "java/lang/IndexOutOfBoundsException") (by decide +kernel)) (va_Nw.use rfl hX.1.2.2.2.1) hce hcv hcl ?_
      refine lv_astore (lv' := [(5, .ref q9), (0, .ref (q 0)), (1, .int 1), (2, .int x1), (3, .int x2), (4, .int x3)]) hx hb dL_ask_10 hl (by decide) rfl (fun ls hl => ?_)
      refine lv_sipush (v := (-1011)) hx hb dL_ask_12 (by decide) ?_
      exact RET _ _ _ _ _ ⟨by rw [h1]; rfl, hP1⟩ hS dL_ask_15
    · rw [h1] at hcl
      refine vx_catch (E := E2) (name := "java/lang/IllegalArgumentException") hown [⟨0, 9, 10, 43⟩] ⟨0, 9, 16, 45⟩ [⟨0, 9, 22, 47⟩] (by rw [htab]; rfl) (List.forall_mem_cons.mpr ⟨Or.inr ⟨by decide, _, hts (.classLink RL 43 "java/lang/IndexOutOfBoundsException") (by decide +kernel), hN.1⟩, fun _ h => nomatch h⟩) (by decide) (by decide) (hts (.classLink RL 45 "java/lang/IllegalArgumentException") (by decide +kernel)) (va_Nw.use rfl hX.1.2.2.2.2.1) hce hcv hcl ?_
      refine lv_astore (lv' := [(5, .ref q9), (0, .ref (q 0)), (1, .int 1), (2, .int x1), (3, .int x2), (4, .int x3)]) hx hb dL_ask_16 hl (by decide) rfl (fun ls hl => ?_)
      refine lv_sipush (v := (-1012)) hx hb dL_ask_18 (by decide) ?_
      exact RET _ _ _ _ _ ⟨by rw [h1]; rfl, hP1⟩ hS dL_ask_21
    · rw [h1] at hcl
      refine vx_catch (E := E3) (name := "java/lang/IllegalStateException") hown [⟨0, 9, 10, 43⟩, ⟨0, 9, 16, 45⟩] ⟨0, 9, 22, 47⟩ [] (by rw [htab]; rfl) (List.forall_mem_cons.mpr ⟨Or.inr ⟨by decide, _, hts (.classLink RL 43 "java/lang/IndexOutOfBoundsException") (by decide +kernel), hN.2.1⟩, List.forall_mem_cons.mpr ⟨Or.inr ⟨by decide, _, hts (.classLink RL 45 "java/lang/IllegalArgumentException") (by decide +kernel), hN.2.2⟩, fun _ h => nomatch h⟩⟩) (by decide) (by decide) (hts (.classLink RL 47 "java/lang/IllegalStateException") (by decide +kernel)) (va_Nw.use rfl hX.1.2.2.2.2.2) hce hcv hcl ?_
      refine lv_astore (lv' := [(5, .ref q9), (0, .ref (q 0)), (1, .int 1), (2, .int x1), (3, .int x2), (4, .int x3)]) hx hb dL_ask_22 hl (by decide) rfl (fun ls hl => ?_)
      refine lv_sipush (v := (-1013)) hx hb dL_ask_24 (by decide) ?_
      exact RET _ _ _ _ _ ⟨by rw [h1]; rfl, hP1⟩ hS dL_ask_27
  · obtain ⟨h0, rfl, hP1⟩ := hv
    exact RET _ _ _ _ _ ⟨by rw [h0]; rfl, hP1⟩ hS dL_ask_9
set_option maxHeartbeats 4000000 in
set_option maxRecDepth 100000 in
theorem c_L_ask_part (l : Launch) (hf : l.stackTraces = false) (D : va_G) (cI : ClassId) (q : Nat → Nat) (hq : ijQ 12 q) (σ : SG) (ok : okG σ) (hz : ∀ P, gN σ ≤ P → gLen σ P = 0) (x1 x2 x3 : Int32) : Met l yL_ask wsL_ask ({ frames := 9, cells := 1, slots := 6, locals := 188 }) (va_Pc [.ref (q 0), .int 2, .int x1, .int x2, .int x3] (PQ D cI q σ)) (wQ (adQ 12 q) (fun v H1 => v = some (.int (askV (cPart σ x1 x2 x3).1 ((cPart σ x1 x2 x3).2.1))) ∧ va_P D vwCl (wG cI q (cPart σ x1 x2 x3).2.2) H1)) 1 6 (adQ 12 q) := by
  refine openL (cc := cL_ask) (maxL := 6) (by decide) rfl (Nat.le_of_ble_eq_true rfl) ?_
  intro p e s m args below meth c hx hb hml hts hown htab hpre Q RET ls hl
  have hown : s.vm.findClass RL = some m.cls := hown
  have hl : lv_has ls 6 [(0, .ref (q 0)), (1, .int 2), (2, .int x1), (3, .int x2), (4, .int x3)] := hl
  obtain ⟨⟨⟨hP, hK, hE⟩, hX⟩, hN⟩ := hpre
  have hS : va_S (adQ 12 q) s.heap s.heap [] := va_S.rf
  refine lv_aload_n hx hb dL_ask_0 rfl (lv_at hl 0 rfl) ?_
  refine lv_iload_n hx hb dL_ask_1 rfl (lv_at hl 1 rfl) ?_
  refine lv_iload_n hx hb dL_ask_2 rfl (lv_at hl 2 rfl) ?_
  refine lv_iload_n hx hb dL_ask_3 rfl (lv_at hl 3 rfl) ?_
  refine lv_iload hx hb dL_ask_4 (lv_at hl 4 rfl) ?_
  refine y_call (vx_runS (As := [.ref (q 0), .int 2, .int x1, .int x2, .int x3]) (rest := []) ⟨hx, hb, hml, hown, hts⟩ (c_L_call_part l hf D cI q hq σ ok hz x1 x2 x3) (va_cwS 5 hts gL_ask_L_call rfl rfl rfl kn_L_call ⟨Nat.le_of_ble_eq_true rfl, Nat.le_of_ble_eq_true rfl⟩) (pS_P hP hK hE hX) rfl rfl hl.1 rfl (lv_room (Nat.le_of_ble_eq_true rfl)) dL_ask_6 ⟨Nat.le_of_ble_eq_true rfl, Nat.le_of_ble_eq_true rfl⟩) hS (fun _ h => h) (fun E9 ce q9 H1 l1 hψ hz9 hk9 hS hce hcv hcl => ?_) (fun v H1 l1 hv hz9 hk9 hS => ?_)
  · obtain ⟨hc0, rfl⟩ := hψ
    obtain ⟨hcs, hst⟩ := cPart_ex hc0
    have hP1 : va_P D vwCl (wG cI q (cPart σ x1 x2 x3).2.2) H1 := by rw [hst]; exact hP.kept (fun kk pp hp => hk9 _ (hP kk pp hp).lt)
    rcases hcs with h1 | h1 | h1
    · rw [h1] at hcl
      refine vx_catch (E := E1) (name := "java/lang/IndexOutOfBoundsException") hown [] ⟨0, 9, 10, 43⟩ [⟨0, 9, 16, 45⟩, ⟨0, 9, 22, 47⟩] (by rw [htab]; rfl) (fun _ h => nomatch h) (by decide) (by decide) (hts (.classLink RL 43 "java/lang/IndexOutOfBoundsException") (by decide +kernel)) (va_Nw.use rfl hX.1.2.2.2.1) hce hcv hcl ?_
      refine lv_astore (lv' := [(5, .ref q9), (0, .ref (q 0)), (1, .int 2), (2, .int x1), (3, .int x2), (4, .int x3)]) hx hb dL_ask_10 hl (by decide) rfl (fun ls hl => ?_)
      refine lv_sipush (v := (-1011)) hx hb dL_ask_12 (by decide) ?_
      exact RET _ _ _ _ _ ⟨by rw [h1]; rfl, hP1⟩ hS dL_ask_15
    · rw [h1] at hcl
      refine vx_catch (E := E2) (name := "java/lang/IllegalArgumentException") hown [⟨0, 9, 10, 43⟩] ⟨0, 9, 16, 45⟩ [⟨0, 9, 22, 47⟩] (by rw [htab]; rfl) (List.forall_mem_cons.mpr ⟨Or.inr ⟨by decide, _, hts (.classLink RL 43 "java/lang/IndexOutOfBoundsException") (by decide +kernel), hN.1⟩, fun _ h => nomatch h⟩) (by decide) (by decide) (hts (.classLink RL 45 "java/lang/IllegalArgumentException") (by decide +kernel)) (va_Nw.use rfl hX.1.2.2.2.2.1) hce hcv hcl ?_
      refine lv_astore (lv' := [(5, .ref q9), (0, .ref (q 0)), (1, .int 2), (2, .int x1), (3, .int x2), (4, .int x3)]) hx hb dL_ask_16 hl (by decide) rfl (fun ls hl => ?_)
      refine lv_sipush (v := (-1012)) hx hb dL_ask_18 (by decide) ?_
      exact RET _ _ _ _ _ ⟨by rw [h1]; rfl, hP1⟩ hS dL_ask_21
    · rw [h1] at hcl
      refine vx_catch (E := E3) (name := "java/lang/IllegalStateException") hown [⟨0, 9, 10, 43⟩, ⟨0, 9, 16, 45⟩] ⟨0, 9, 22, 47⟩ [] (by rw [htab]; rfl) (List.forall_mem_cons.mpr ⟨Or.inr ⟨by decide, _, hts (.classLink RL 43 "java/lang/IndexOutOfBoundsException") (by decide +kernel), hN.2.1⟩, List.forall_mem_cons.mpr ⟨Or.inr ⟨by decide, _, hts (.classLink RL 45 "java/lang/IllegalArgumentException") (by decide +kernel), hN.2.2⟩, fun _ h => nomatch h⟩⟩) (by decide) (by decide) (hts (.classLink RL 47 "java/lang/IllegalStateException") (by decide +kernel)) (va_Nw.use rfl hX.1.2.2.2.2.2) hce hcv hcl ?_
      refine lv_astore (lv' := [(5, .ref q9), (0, .ref (q 0)), (1, .int 2), (2, .int x1), (3, .int x2), (4, .int x3)]) hx hb dL_ask_22 hl (by decide) rfl (fun ls hl => ?_)
      refine lv_sipush (v := (-1013)) hx hb dL_ask_24 (by decide) ?_
      exact RET _ _ _ _ _ ⟨by rw [h1]; rfl, hP1⟩ hS dL_ask_27
  · obtain ⟨h0, rfl, hP1⟩ := hv
    exact RET _ _ _ _ _ ⟨by rw [h0]; rfl, hP1⟩ hS dL_ask_9
set_option maxHeartbeats 4000000 in
set_option maxRecDepth 100000 in
theorem c_L_ask_join (l : Launch) (hf : l.stackTraces = false) (D : va_G) (cI : ClassId) (q : Nat → Nat) (hq : ijQ 12 q) (σ : SG) (ok : okG σ) (hz : ∀ P, gN σ ≤ P → gLen σ P = 0) (x1 x2 x3 : Int32) : Met l yL_ask wsL_ask ({ frames := 9, cells := 1, slots := 6, locals := 188 }) (va_Pc [.ref (q 0), .int 3, .int x1, .int x2, .int x3] (PQ D cI q σ)) (wQ (adQ 12 q) (fun v H1 => v = some (.int (askV (cJoin σ x1 x2).1 ((cJoin σ x1 x2).2.1))) ∧ va_P D vwCl (wG cI q (cJoin σ x1 x2).2.2) H1)) 1 6 (adQ 12 q) := by
  refine openL (cc := cL_ask) (maxL := 6) (by decide) rfl (Nat.le_of_ble_eq_true rfl) ?_
  intro p e s m args below meth c hx hb hml hts hown htab hpre Q RET ls hl
  have hown : s.vm.findClass RL = some m.cls := hown
  have hl : lv_has ls 6 [(0, .ref (q 0)), (1, .int 3), (2, .int x1), (3, .int x2), (4, .int x3)] := hl
  obtain ⟨⟨⟨hP, hK, hE⟩, hX⟩, hN⟩ := hpre
  have hS : va_S (adQ 12 q) s.heap s.heap [] := va_S.rf
  refine lv_aload_n hx hb dL_ask_0 rfl (lv_at hl 0 rfl) ?_
  refine lv_iload_n hx hb dL_ask_1 rfl (lv_at hl 1 rfl) ?_
  refine lv_iload_n hx hb dL_ask_2 rfl (lv_at hl 2 rfl) ?_
  refine lv_iload_n hx hb dL_ask_3 rfl (lv_at hl 3 rfl) ?_
  refine lv_iload hx hb dL_ask_4 (lv_at hl 4 rfl) ?_
  refine y_call (vx_runS (As := [.ref (q 0), .int 3, .int x1, .int x2, .int x3]) (rest := []) ⟨hx, hb, hml, hown, hts⟩ (c_L_call_join l hf D cI q hq σ ok hz x1 x2 x3) (va_cwS 5 hts gL_ask_L_call rfl rfl rfl kn_L_call ⟨Nat.le_of_ble_eq_true rfl, Nat.le_of_ble_eq_true rfl⟩) (pS_P hP hK hE hX) rfl rfl hl.1 rfl (lv_room (Nat.le_of_ble_eq_true rfl)) dL_ask_6 ⟨Nat.le_of_ble_eq_true rfl, Nat.le_of_ble_eq_true rfl⟩) hS (fun _ h => h) (fun E9 ce q9 H1 l1 hψ hz9 hk9 hS hce hcv hcl => ?_) (fun v H1 l1 hv hz9 hk9 hS => ?_)
  · obtain ⟨hc0, rfl⟩ := hψ
    obtain ⟨hcs, hst⟩ := cJoin_ex hc0
    have hP1 : va_P D vwCl (wG cI q (cJoin σ x1 x2).2.2) H1 := by rw [hst]; exact hP.kept (fun kk pp hp => hk9 _ (hP kk pp hp).lt)
    rcases hcs with h1 | h1 | h1
    · rw [h1] at hcl
      refine vx_catch (E := E1) (name := "java/lang/IndexOutOfBoundsException") hown [] ⟨0, 9, 10, 43⟩ [⟨0, 9, 16, 45⟩, ⟨0, 9, 22, 47⟩] (by rw [htab]; rfl) (fun _ h => nomatch h) (by decide) (by decide) (hts (.classLink RL 43 "java/lang/IndexOutOfBoundsException") (by decide +kernel)) (va_Nw.use rfl hX.1.2.2.2.1) hce hcv hcl ?_
      refine lv_astore (lv' := [(5, .ref q9), (0, .ref (q 0)), (1, .int 3), (2, .int x1), (3, .int x2), (4, .int x3)]) hx hb dL_ask_10 hl (by decide) rfl (fun ls hl => ?_)
      refine lv_sipush (v := (-1011)) hx hb dL_ask_12 (by decide) ?_
      exact RET _ _ _ _ _ ⟨by rw [h1]; rfl, hP1⟩ hS dL_ask_15
    · rw [h1] at hcl
      refine vx_catch (E := E2) (name := "java/lang/IllegalArgumentException") hown [⟨0, 9, 10, 43⟩] ⟨0, 9, 16, 45⟩ [⟨0, 9, 22, 47⟩] (by rw [htab]; rfl) (List.forall_mem_cons.mpr ⟨Or.inr ⟨by decide, _, hts (.classLink RL 43 "java/lang/IndexOutOfBoundsException") (by decide +kernel), hN.1⟩, fun _ h => nomatch h⟩) (by decide) (by decide) (hts (.classLink RL 45 "java/lang/IllegalArgumentException") (by decide +kernel)) (va_Nw.use rfl hX.1.2.2.2.2.1) hce hcv hcl ?_
      refine lv_astore (lv' := [(5, .ref q9), (0, .ref (q 0)), (1, .int 3), (2, .int x1), (3, .int x2), (4, .int x3)]) hx hb dL_ask_16 hl (by decide) rfl (fun ls hl => ?_)
      refine lv_sipush (v := (-1012)) hx hb dL_ask_18 (by decide) ?_
      exact RET _ _ _ _ _ ⟨by rw [h1]; rfl, hP1⟩ hS dL_ask_21
    · rw [h1] at hcl
      refine vx_catch (E := E3) (name := "java/lang/IllegalStateException") hown [⟨0, 9, 10, 43⟩, ⟨0, 9, 16, 45⟩] ⟨0, 9, 22, 47⟩ [] (by rw [htab]; rfl) (List.forall_mem_cons.mpr ⟨Or.inr ⟨by decide, _, hts (.classLink RL 43 "java/lang/IndexOutOfBoundsException") (by decide +kernel), hN.2.1⟩, List.forall_mem_cons.mpr ⟨Or.inr ⟨by decide, _, hts (.classLink RL 45 "java/lang/IllegalArgumentException") (by decide +kernel), hN.2.2⟩, fun _ h => nomatch h⟩⟩) (by decide) (by decide) (hts (.classLink RL 47 "java/lang/IllegalStateException") (by decide +kernel)) (va_Nw.use rfl hX.1.2.2.2.2.2) hce hcv hcl ?_
      refine lv_astore (lv' := [(5, .ref q9), (0, .ref (q 0)), (1, .int 3), (2, .int x1), (3, .int x2), (4, .int x3)]) hx hb dL_ask_22 hl (by decide) rfl (fun ls hl => ?_)
      refine lv_sipush (v := (-1013)) hx hb dL_ask_24 (by decide) ?_
      exact RET _ _ _ _ _ ⟨by rw [h1]; rfl, hP1⟩ hS dL_ask_27
  · obtain ⟨h0, rfl, hP1⟩ := hv
    exact RET _ _ _ _ _ ⟨by rw [h0]; rfl, hP1⟩ hS dL_ask_9
set_option maxHeartbeats 4000000 in
set_option maxRecDepth 100000 in
theorem c_L_ask_move (l : Launch) (hf : l.stackTraces = false) (D : va_G) (cI : ClassId) (q : Nat → Nat) (hq : ijQ 12 q) (σ : SG) (ok : okG σ) (hz : ∀ P, gN σ ≤ P → gLen σ P = 0) (x1 x2 x3 : Int32) : Met l yL_ask wsL_ask ({ frames := 9, cells := 1, slots := 6, locals := 186 }) (va_Pc [.ref (q 0), .int 4, .int x1, .int x2, .int x3] (PQ D cI q σ)) (wQ (adQ 12 q) (fun v H1 => v = some (.int (askV (cMove σ x1 x2).1 ((cMove σ x1 x2).2.1))) ∧ va_P D vwCl (wG cI q (cMove σ x1 x2).2.2) H1)) 1 6 (adQ 12 q) := by
  refine openL (cc := cL_ask) (maxL := 6) (by decide) rfl (Nat.le_of_ble_eq_true rfl) ?_
  intro p e s m args below meth c hx hb hml hts hown htab hpre Q RET ls hl
  have hown : s.vm.findClass RL = some m.cls := hown
  have hl : lv_has ls 6 [(0, .ref (q 0)), (1, .int 4), (2, .int x1), (3, .int x2), (4, .int x3)] := hl
  obtain ⟨⟨⟨hP, hK, hE⟩, hX⟩, hN⟩ := hpre
  have hS : va_S (adQ 12 q) s.heap s.heap [] := va_S.rf
  refine lv_aload_n hx hb dL_ask_0 rfl (lv_at hl 0 rfl) ?_
  refine lv_iload_n hx hb dL_ask_1 rfl (lv_at hl 1 rfl) ?_
  refine lv_iload_n hx hb dL_ask_2 rfl (lv_at hl 2 rfl) ?_
  refine lv_iload_n hx hb dL_ask_3 rfl (lv_at hl 3 rfl) ?_
  refine lv_iload hx hb dL_ask_4 (lv_at hl 4 rfl) ?_
  refine y_call (vx_runS (As := [.ref (q 0), .int 4, .int x1, .int x2, .int x3]) (rest := []) ⟨hx, hb, hml, hown, hts⟩ (c_L_call_move l hf D cI q hq σ ok hz x1 x2 x3) (va_cwS 5 hts gL_ask_L_call rfl rfl rfl kn_L_call ⟨Nat.le_of_ble_eq_true rfl, Nat.le_of_ble_eq_true rfl⟩) (pS_P hP hK hE hX) rfl rfl hl.1 rfl (lv_room (Nat.le_of_ble_eq_true rfl)) dL_ask_6 ⟨Nat.le_of_ble_eq_true rfl, Nat.le_of_ble_eq_true rfl⟩) hS (fun _ h => h) (fun E9 ce q9 H1 l1 hψ hz9 hk9 hS hce hcv hcl => ?_) (fun v H1 l1 hv hz9 hk9 hS => ?_)
  · obtain ⟨hc0, rfl⟩ := hψ
    obtain ⟨hcs, hst⟩ := cMove_ex hc0
    have hP1 : va_P D vwCl (wG cI q (cMove σ x1 x2).2.2) H1 := by rw [hst]; exact hP.kept (fun kk pp hp => hk9 _ (hP kk pp hp).lt)
    rcases hcs with h1 | h1 | h1
    · rw [h1] at hcl
      refine vx_catch (E := E1) (name := "java/lang/IndexOutOfBoundsException") hown [] ⟨0, 9, 10, 43⟩ [⟨0, 9, 16, 45⟩, ⟨0, 9, 22, 47⟩] (by rw [htab]; rfl) (fun _ h => nomatch h) (by decide) (by decide) (hts (.classLink RL 43 "java/lang/IndexOutOfBoundsException") (by decide +kernel)) (va_Nw.use rfl hX.1.2.2.2.1) hce hcv hcl ?_
      refine lv_astore (lv' := [(5, .ref q9), (0, .ref (q 0)), (1, .int 4), (2, .int x1), (3, .int x2), (4, .int x3)]) hx hb dL_ask_10 hl (by decide) rfl (fun ls hl => ?_)
      refine lv_sipush (v := (-1011)) hx hb dL_ask_12 (by decide) ?_
      exact RET _ _ _ _ _ ⟨by rw [h1]; rfl, hP1⟩ hS dL_ask_15
    · rw [h1] at hcl
      refine vx_catch (E := E2) (name := "java/lang/IllegalArgumentException") hown [⟨0, 9, 10, 43⟩] ⟨0, 9, 16, 45⟩ [⟨0, 9, 22, 47⟩] (by rw [htab]; rfl) (List.forall_mem_cons.mpr ⟨Or.inr ⟨by decide, _, hts (.classLink RL 43 "java/lang/IndexOutOfBoundsException") (by decide +kernel), hN.1⟩, fun _ h => nomatch h⟩) (by decide) (by decide) (hts (.classLink RL 45 "java/lang/IllegalArgumentException") (by decide +kernel)) (va_Nw.use rfl hX.1.2.2.2.2.1) hce hcv hcl ?_
      refine lv_astore (lv' := [(5, .ref q9), (0, .ref (q 0)), (1, .int 4), (2, .int x1), (3, .int x2), (4, .int x3)]) hx hb dL_ask_16 hl (by decide) rfl (fun ls hl => ?_)
      refine lv_sipush (v := (-1012)) hx hb dL_ask_18 (by decide) ?_
      exact RET _ _ _ _ _ ⟨by rw [h1]; rfl, hP1⟩ hS dL_ask_21
    · rw [h1] at hcl
      refine vx_catch (E := E3) (name := "java/lang/IllegalStateException") hown [⟨0, 9, 10, 43⟩, ⟨0, 9, 16, 45⟩] ⟨0, 9, 22, 47⟩ [] (by rw [htab]; rfl) (List.forall_mem_cons.mpr ⟨Or.inr ⟨by decide, _, hts (.classLink RL 43 "java/lang/IndexOutOfBoundsException") (by decide +kernel), hN.2.1⟩, List.forall_mem_cons.mpr ⟨Or.inr ⟨by decide, _, hts (.classLink RL 45 "java/lang/IllegalArgumentException") (by decide +kernel), hN.2.2⟩, fun _ h => nomatch h⟩⟩) (by decide) (by decide) (hts (.classLink RL 47 "java/lang/IllegalStateException") (by decide +kernel)) (va_Nw.use rfl hX.1.2.2.2.2.2) hce hcv hcl ?_
      refine lv_astore (lv' := [(5, .ref q9), (0, .ref (q 0)), (1, .int 4), (2, .int x1), (3, .int x2), (4, .int x3)]) hx hb dL_ask_22 hl (by decide) rfl (fun ls hl => ?_)
      refine lv_sipush (v := (-1013)) hx hb dL_ask_24 (by decide) ?_
      exact RET _ _ _ _ _ ⟨by rw [h1]; rfl, hP1⟩ hS dL_ask_27
  · obtain ⟨h0, rfl, hP1⟩ := hv
    exact RET _ _ _ _ _ ⟨by rw [h0]; rfl, hP1⟩ hS dL_ask_9
set_option maxHeartbeats 4000000 in
set_option maxRecDepth 100000 in
theorem c_L_ask_hold (l : Launch) (hf : l.stackTraces = false) (D : va_G) (cI : ClassId) (q : Nat → Nat) (hq : ijQ 12 q) (σ : SG) (ok : okG σ) (hz : ∀ P, gN σ ≤ P → gLen σ P = 0) (x1 x2 x3 : Int32) : Met l yL_ask wsL_ask ({ frames := 9, cells := 1, slots := 6, locals := 148 }) (va_Pc [.ref (q 0), .int 5, .int x1, .int x2, .int x3] (PQ D cI q σ)) (wQ (adQ 12 q) (fun v H1 => v = some (.int (askV (cHold σ x1).1 (bI (cHold σ x1).2.1))) ∧ va_P D vwCl (wG cI q (cHold σ x1).2.2) H1)) 1 6 (adQ 12 q) := by
  refine openL (cc := cL_ask) (maxL := 6) (by decide) rfl (Nat.le_of_ble_eq_true rfl) ?_
  intro p e s m args below meth c hx hb hml hts hown htab hpre Q RET ls hl
  have hown : s.vm.findClass RL = some m.cls := hown
  have hl : lv_has ls 6 [(0, .ref (q 0)), (1, .int 5), (2, .int x1), (3, .int x2), (4, .int x3)] := hl
  obtain ⟨⟨⟨hP, hK, hE⟩, hX⟩, hN⟩ := hpre
  have hS : va_S (adQ 12 q) s.heap s.heap [] := va_S.rf
  refine lv_aload_n hx hb dL_ask_0 rfl (lv_at hl 0 rfl) ?_
  refine lv_iload_n hx hb dL_ask_1 rfl (lv_at hl 1 rfl) ?_
  refine lv_iload_n hx hb dL_ask_2 rfl (lv_at hl 2 rfl) ?_
  refine lv_iload_n hx hb dL_ask_3 rfl (lv_at hl 3 rfl) ?_
  refine lv_iload hx hb dL_ask_4 (lv_at hl 4 rfl) ?_
  refine y_call (vx_runS (As := [.ref (q 0), .int 5, .int x1, .int x2, .int x3]) (rest := []) ⟨hx, hb, hml, hown, hts⟩ (c_L_call_hold l hf D cI q hq σ ok hz x1 x2 x3) (va_cwS 5 hts gL_ask_L_call rfl rfl rfl kn_L_call ⟨Nat.le_of_ble_eq_true rfl, Nat.le_of_ble_eq_true rfl⟩) (pS_P hP hK hE hX) rfl rfl hl.1 rfl (lv_room (Nat.le_of_ble_eq_true rfl)) dL_ask_6 ⟨Nat.le_of_ble_eq_true rfl, Nat.le_of_ble_eq_true rfl⟩) hS (fun _ h => h) (fun E9 ce q9 H1 l1 hψ hz9 hk9 hS hce hcv hcl => ?_) (fun v H1 l1 hv hz9 hk9 hS => ?_)
  · obtain ⟨hc0, rfl⟩ := hψ
    obtain ⟨hcs, hst⟩ := cHold_ex hc0
    have hP1 : va_P D vwCl (wG cI q (cHold σ x1).2.2) H1 := by rw [hst]; exact hP.kept (fun kk pp hp => hk9 _ (hP kk pp hp).lt)
    rcases hcs with h1 | h1 | h1
    · rw [h1] at hcl
      refine vx_catch (E := E1) (name := "java/lang/IndexOutOfBoundsException") hown [] ⟨0, 9, 10, 43⟩ [⟨0, 9, 16, 45⟩, ⟨0, 9, 22, 47⟩] (by rw [htab]; rfl) (fun _ h => nomatch h) (by decide) (by decide) (hts (.classLink RL 43 "java/lang/IndexOutOfBoundsException") (by decide +kernel)) (va_Nw.use rfl hX.1.2.2.2.1) hce hcv hcl ?_
      refine lv_astore (lv' := [(5, .ref q9), (0, .ref (q 0)), (1, .int 5), (2, .int x1), (3, .int x2), (4, .int x3)]) hx hb dL_ask_10 hl (by decide) rfl (fun ls hl => ?_)
      refine lv_sipush (v := (-1011)) hx hb dL_ask_12 (by decide) ?_
      exact RET _ _ _ _ _ ⟨by rw [h1]; rfl, hP1⟩ hS dL_ask_15
    · rw [h1] at hcl
      refine vx_catch (E := E2) (name := "java/lang/IllegalArgumentException") hown [⟨0, 9, 10, 43⟩] ⟨0, 9, 16, 45⟩ [⟨0, 9, 22, 47⟩] (by rw [htab]; rfl) (List.forall_mem_cons.mpr ⟨Or.inr ⟨by decide, _, hts (.classLink RL 43 "java/lang/IndexOutOfBoundsException") (by decide +kernel), hN.1⟩, fun _ h => nomatch h⟩) (by decide) (by decide) (hts (.classLink RL 45 "java/lang/IllegalArgumentException") (by decide +kernel)) (va_Nw.use rfl hX.1.2.2.2.2.1) hce hcv hcl ?_
      refine lv_astore (lv' := [(5, .ref q9), (0, .ref (q 0)), (1, .int 5), (2, .int x1), (3, .int x2), (4, .int x3)]) hx hb dL_ask_16 hl (by decide) rfl (fun ls hl => ?_)
      refine lv_sipush (v := (-1012)) hx hb dL_ask_18 (by decide) ?_
      exact RET _ _ _ _ _ ⟨by rw [h1]; rfl, hP1⟩ hS dL_ask_21
    · rw [h1] at hcl
      refine vx_catch (E := E3) (name := "java/lang/IllegalStateException") hown [⟨0, 9, 10, 43⟩, ⟨0, 9, 16, 45⟩] ⟨0, 9, 22, 47⟩ [] (by rw [htab]; rfl) (List.forall_mem_cons.mpr ⟨Or.inr ⟨by decide, _, hts (.classLink RL 43 "java/lang/IndexOutOfBoundsException") (by decide +kernel), hN.2.1⟩, List.forall_mem_cons.mpr ⟨Or.inr ⟨by decide, _, hts (.classLink RL 45 "java/lang/IllegalArgumentException") (by decide +kernel), hN.2.2⟩, fun _ h => nomatch h⟩⟩) (by decide) (by decide) (hts (.classLink RL 47 "java/lang/IllegalStateException") (by decide +kernel)) (va_Nw.use rfl hX.1.2.2.2.2.2) hce hcv hcl ?_
      refine lv_astore (lv' := [(5, .ref q9), (0, .ref (q 0)), (1, .int 5), (2, .int x1), (3, .int x2), (4, .int x3)]) hx hb dL_ask_22 hl (by decide) rfl (fun ls hl => ?_)
      refine lv_sipush (v := (-1013)) hx hb dL_ask_24 (by decide) ?_
      exact RET _ _ _ _ _ ⟨by rw [h1]; rfl, hP1⟩ hS dL_ask_27
  · obtain ⟨h0, rfl, hP1⟩ := hv
    exact RET _ _ _ _ _ ⟨by rw [h0]; rfl, hP1⟩ hS dL_ask_9
set_option maxHeartbeats 4000000 in
set_option maxRecDepth 100000 in
theorem c_L_ask_spoil (l : Launch) (hf : l.stackTraces = false) (D : va_G) (cI : ClassId) (q : Nat → Nat) (hq : ijQ 12 q) (σ : SG) (ok : okG σ) (hz : ∀ P, gN σ ≤ P → gLen σ P = 0) (x1 x2 x3 : Int32) : Met l yL_ask wsL_ask ({ frames := 9, cells := 1, slots := 6, locals := 150 }) (va_Pc [.ref (q 0), .int 6, .int x1, .int x2, .int x3] (PQ D cI q σ)) (wQ (adQ 12 q) (fun v H1 => v = some (.int (askV (cSpoil σ x1 x2 x3).1 ((cSpoil σ x1 x2 x3).2.1))) ∧ va_P D vwCl (wG cI q (cSpoil σ x1 x2 x3).2.2) H1)) 1 6 (adQ 12 q) := by
  refine openL (cc := cL_ask) (maxL := 6) (by decide) rfl (Nat.le_of_ble_eq_true rfl) ?_
  intro p e s m args below meth c hx hb hml hts hown htab hpre Q RET ls hl
  have hown : s.vm.findClass RL = some m.cls := hown
  have hl : lv_has ls 6 [(0, .ref (q 0)), (1, .int 6), (2, .int x1), (3, .int x2), (4, .int x3)] := hl
  obtain ⟨⟨⟨hP, hK, hE⟩, hX⟩, hN⟩ := hpre
  have hS : va_S (adQ 12 q) s.heap s.heap [] := va_S.rf
  refine lv_aload_n hx hb dL_ask_0 rfl (lv_at hl 0 rfl) ?_
  refine lv_iload_n hx hb dL_ask_1 rfl (lv_at hl 1 rfl) ?_
  refine lv_iload_n hx hb dL_ask_2 rfl (lv_at hl 2 rfl) ?_
  refine lv_iload_n hx hb dL_ask_3 rfl (lv_at hl 3 rfl) ?_
  refine lv_iload hx hb dL_ask_4 (lv_at hl 4 rfl) ?_
  refine y_call (vx_runS (As := [.ref (q 0), .int 6, .int x1, .int x2, .int x3]) (rest := []) ⟨hx, hb, hml, hown, hts⟩ (c_L_call_spoil l hf D cI q hq σ ok hz x1 x2 x3) (va_cwS 5 hts gL_ask_L_call rfl rfl rfl kn_L_call ⟨Nat.le_of_ble_eq_true rfl, Nat.le_of_ble_eq_true rfl⟩) (pS_P hP hK hE hX) rfl rfl hl.1 rfl (lv_room (Nat.le_of_ble_eq_true rfl)) dL_ask_6 ⟨Nat.le_of_ble_eq_true rfl, Nat.le_of_ble_eq_true rfl⟩) hS (fun _ h => h) (fun E9 ce q9 H1 l1 hψ hz9 hk9 hS hce hcv hcl => ?_) (fun v H1 l1 hv hz9 hk9 hS => ?_)
  · obtain ⟨hc0, rfl⟩ := hψ
    obtain ⟨hcs, hst⟩ := cSpoil_ex hc0
    have hP1 : va_P D vwCl (wG cI q (cSpoil σ x1 x2 x3).2.2) H1 := by rw [hst]; exact hP.kept (fun kk pp hp => hk9 _ (hP kk pp hp).lt)
    rcases hcs with h1 | h1 | h1
    · rw [h1] at hcl
      refine vx_catch (E := E1) (name := "java/lang/IndexOutOfBoundsException") hown [] ⟨0, 9, 10, 43⟩ [⟨0, 9, 16, 45⟩, ⟨0, 9, 22, 47⟩] (by rw [htab]; rfl) (fun _ h => nomatch h) (by decide) (by decide) (hts (.classLink RL 43 "java/lang/IndexOutOfBoundsException") (by decide +kernel)) (va_Nw.use rfl hX.1.2.2.2.1) hce hcv hcl ?_
      refine lv_astore (lv' := [(5, .ref q9), (0, .ref (q 0)), (1, .int 6), (2, .int x1), (3, .int x2), (4, .int x3)]) hx hb dL_ask_10 hl (by decide) rfl (fun ls hl => ?_)
      refine lv_sipush (v := (-1011)) hx hb dL_ask_12 (by decide) ?_
      exact RET _ _ _ _ _ ⟨by rw [h1]; rfl, hP1⟩ hS dL_ask_15
    · rw [h1] at hcl
      refine vx_catch (E := E2) (name := "java/lang/IllegalArgumentException") hown [⟨0, 9, 10, 43⟩] ⟨0, 9, 16, 45⟩ [⟨0, 9, 22, 47⟩] (by rw [htab]; rfl) (List.forall_mem_cons.mpr ⟨Or.inr ⟨by decide, _, hts (.classLink RL 43 "java/lang/IndexOutOfBoundsException") (by decide +kernel), hN.1⟩, fun _ h => nomatch h⟩) (by decide) (by decide) (hts (.classLink RL 45 "java/lang/IllegalArgumentException") (by decide +kernel)) (va_Nw.use rfl hX.1.2.2.2.2.1) hce hcv hcl ?_
      refine lv_astore (lv' := [(5, .ref q9), (0, .ref (q 0)), (1, .int 6), (2, .int x1), (3, .int x2), (4, .int x3)]) hx hb dL_ask_16 hl (by decide) rfl (fun ls hl => ?_)
      refine lv_sipush (v := (-1012)) hx hb dL_ask_18 (by decide) ?_
      exact RET _ _ _ _ _ ⟨by rw [h1]; rfl, hP1⟩ hS dL_ask_21
    · rw [h1] at hcl
      refine vx_catch (E := E3) (name := "java/lang/IllegalStateException") hown [⟨0, 9, 10, 43⟩, ⟨0, 9, 16, 45⟩] ⟨0, 9, 22, 47⟩ [] (by rw [htab]; rfl) (List.forall_mem_cons.mpr ⟨Or.inr ⟨by decide, _, hts (.classLink RL 43 "java/lang/IndexOutOfBoundsException") (by decide +kernel), hN.2.1⟩, List.forall_mem_cons.mpr ⟨Or.inr ⟨by decide, _, hts (.classLink RL 45 "java/lang/IllegalArgumentException") (by decide +kernel), hN.2.2⟩, fun _ h => nomatch h⟩⟩) (by decide) (by decide) (hts (.classLink RL 47 "java/lang/IllegalStateException") (by decide +kernel)) (va_Nw.use rfl hX.1.2.2.2.2.2) hce hcv hcl ?_
      refine lv_astore (lv' := [(5, .ref q9), (0, .ref (q 0)), (1, .int 6), (2, .int x1), (3, .int x2), (4, .int x3)]) hx hb dL_ask_22 hl (by decide) rfl (fun ls hl => ?_)
      refine lv_sipush (v := (-1013)) hx hb dL_ask_24 (by decide) ?_
      exact RET _ _ _ _ _ ⟨by rw [h1]; rfl, hP1⟩ hS dL_ask_27
  · obtain ⟨h0, rfl, hP1⟩ := hv
    exact RET _ _ _ _ _ ⟨by rw [h0]; rfl, hP1⟩ hS dL_ask_9
set_option maxHeartbeats 4000000 in
set_option maxRecDepth 100000 in
theorem c_L_ask_repair (l : Launch) (hf : l.stackTraces = false) (D : va_G) (cI : ClassId) (q : Nat → Nat) (hq : ijQ 12 q) (σ : SG) (ok : okG σ) (hz : ∀ P, gN σ ≤ P → gLen σ P = 0) (x1 x2 x3 : Int32) : Met l yL_ask wsL_ask ({ frames := 9, cells := 1, slots := 6, locals := 149 }) (va_Pc [.ref (q 0), .int 7, .int x1, .int x2, .int x3] (PQ D cI q σ)) (wQ (adQ 12 q) (fun v H1 => v = some (.int (askV (cRepair σ x1 x2).1 ((cRepair σ x1 x2).2.1))) ∧ va_P D vwCl (wG cI q (cRepair σ x1 x2).2.2) H1)) 1 6 (adQ 12 q) := by
  refine openL (cc := cL_ask) (maxL := 6) (by decide) rfl (Nat.le_of_ble_eq_true rfl) ?_
  intro p e s m args below meth c hx hb hml hts hown htab hpre Q RET ls hl
  have hown : s.vm.findClass RL = some m.cls := hown
  have hl : lv_has ls 6 [(0, .ref (q 0)), (1, .int 7), (2, .int x1), (3, .int x2), (4, .int x3)] := hl
  obtain ⟨⟨⟨hP, hK, hE⟩, hX⟩, hN⟩ := hpre
  have hS : va_S (adQ 12 q) s.heap s.heap [] := va_S.rf
  refine lv_aload_n hx hb dL_ask_0 rfl (lv_at hl 0 rfl) ?_
  refine lv_iload_n hx hb dL_ask_1 rfl (lv_at hl 1 rfl) ?_
  refine lv_iload_n hx hb dL_ask_2 rfl (lv_at hl 2 rfl) ?_
  refine lv_iload_n hx hb dL_ask_3 rfl (lv_at hl 3 rfl) ?_
  refine lv_iload hx hb dL_ask_4 (lv_at hl 4 rfl) ?_
  refine y_call (vx_runS (As := [.ref (q 0), .int 7, .int x1, .int x2, .int x3]) (rest := []) ⟨hx, hb, hml, hown, hts⟩ (c_L_call_repair l hf D cI q hq σ ok hz x1 x2 x3) (va_cwS 5 hts gL_ask_L_call rfl rfl rfl kn_L_call ⟨Nat.le_of_ble_eq_true rfl, Nat.le_of_ble_eq_true rfl⟩) (pS_P hP hK hE hX) rfl rfl hl.1 rfl (lv_room (Nat.le_of_ble_eq_true rfl)) dL_ask_6 ⟨Nat.le_of_ble_eq_true rfl, Nat.le_of_ble_eq_true rfl⟩) hS (fun _ h => h) (fun E9 ce q9 H1 l1 hψ hz9 hk9 hS hce hcv hcl => ?_) (fun v H1 l1 hv hz9 hk9 hS => ?_)
  · obtain ⟨hc0, rfl⟩ := hψ
    obtain ⟨hcs, hst⟩ := cRepair_ex hc0
    have hP1 : va_P D vwCl (wG cI q (cRepair σ x1 x2).2.2) H1 := by rw [hst]; exact hP.kept (fun kk pp hp => hk9 _ (hP kk pp hp).lt)
    rcases hcs with h1 | h1 | h1
    · rw [h1] at hcl
      refine vx_catch (E := E1) (name := "java/lang/IndexOutOfBoundsException") hown [] ⟨0, 9, 10, 43⟩ [⟨0, 9, 16, 45⟩, ⟨0, 9, 22, 47⟩] (by rw [htab]; rfl) (fun _ h => nomatch h) (by decide) (by decide) (hts (.classLink RL 43 "java/lang/IndexOutOfBoundsException") (by decide +kernel)) (va_Nw.use rfl hX.1.2.2.2.1) hce hcv hcl ?_
      refine lv_astore (lv' := [(5, .ref q9), (0, .ref (q 0)), (1, .int 7), (2, .int x1), (3, .int x2), (4, .int x3)]) hx hb dL_ask_10 hl (by decide) rfl (fun ls hl => ?_)
      refine lv_sipush (v := (-1011)) hx hb dL_ask_12 (by decide) ?_
      exact RET _ _ _ _ _ ⟨by rw [h1]; rfl, hP1⟩ hS dL_ask_15
    · rw [h1] at hcl
      refine vx_catch (E := E2) (name := "java/lang/IllegalArgumentException") hown [⟨0, 9, 10, 43⟩] ⟨0, 9, 16, 45⟩ [⟨0, 9, 22, 47⟩] (by rw [htab]; rfl) (List.forall_mem_cons.mpr ⟨Or.inr ⟨by decide, _, hts (.classLink RL 43 "java/lang/IndexOutOfBoundsException") (by decide +kernel), hN.1⟩, fun _ h => nomatch h⟩) (by decide) (by decide) (hts (.classLink RL 45 "java/lang/IllegalArgumentException") (by decide +kernel)) (va_Nw.use rfl hX.1.2.2.2.2.1) hce hcv hcl ?_
      refine lv_astore (lv' := [(5, .ref q9), (0, .ref (q 0)), (1, .int 7), (2, .int x1), (3, .int x2), (4, .int x3)]) hx hb dL_ask_16 hl (by decide) rfl (fun ls hl => ?_)
      refine lv_sipush (v := (-1012)) hx hb dL_ask_18 (by decide) ?_
      exact RET _ _ _ _ _ ⟨by rw [h1]; rfl, hP1⟩ hS dL_ask_21
    · rw [h1] at hcl
      refine vx_catch (E := E3) (name := "java/lang/IllegalStateException") hown [⟨0, 9, 10, 43⟩, ⟨0, 9, 16, 45⟩] ⟨0, 9, 22, 47⟩ [] (by rw [htab]; rfl) (List.forall_mem_cons.mpr ⟨Or.inr ⟨by decide, _, hts (.classLink RL 43 "java/lang/IndexOutOfBoundsException") (by decide +kernel), hN.2.1⟩, List.forall_mem_cons.mpr ⟨Or.inr ⟨by decide, _, hts (.classLink RL 45 "java/lang/IllegalArgumentException") (by decide +kernel), hN.2.2⟩, fun _ h => nomatch h⟩⟩) (by decide) (by decide) (hts (.classLink RL 47 "java/lang/IllegalStateException") (by decide +kernel)) (va_Nw.use rfl hX.1.2.2.2.2.2) hce hcv hcl ?_
      refine lv_astore (lv' := [(5, .ref q9), (0, .ref (q 0)), (1, .int 7), (2, .int x1), (3, .int x2), (4, .int x3)]) hx hb dL_ask_22 hl (by decide) rfl (fun ls hl => ?_)
      refine lv_sipush (v := (-1013)) hx hb dL_ask_24 (by decide) ?_
      exact RET _ _ _ _ _ ⟨by rw [h1]; rfl, hP1⟩ hS dL_ask_27
  · obtain ⟨h0, rfl, hP1⟩ := hv
    exact RET _ _ _ _ _ ⟨by rw [h0]; rfl, hP1⟩ hS dL_ask_9
