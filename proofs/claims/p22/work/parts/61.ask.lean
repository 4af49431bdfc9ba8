/-! the law's methods: what a call needs of the start; the law's own world -/
def z_wA (cI : ClassId) (q : Nat → Nat) (σ : SG) : va_W := wG cI q σ ++ [(q 12, .inl (cI, 6, .inl (fun _ => 0))), (q 13, .inl (cI, 14, .inl (fun _ => 0)))]
def z_PY (D : va_G) (cI : ClassId) (q : Nat → Nat) (σ : SG) (U : State) : Prop := PX D cI q σ U ∧ va_P D vwCl [(q 12, .inl (cI, 6, .inl (fun _ => 0)))] U.heap
def z_NC (U : State) : Prop := va_Nc E2 E1 U ∧ va_Nc E3 E1 U ∧ va_Nc E3 E2 U
theorem z_NC_moved {s U : State} (h : s.vm.Alike U.vm) (n : z_NC s) : z_NC U := ⟨n.1.moved h, n.2.1.moved h, n.2.2.moved h⟩
theorem z_ij12 {q : Nat → Nat} (hq : ijQ 14 q) : ijQ 12 q := fun i j hi hj h => hq i j (by omega) (by omega) h
theorem z_wA_G {D : va_G} {cI : ClassId} {q : Nat → Nat} {σ : SG} {H : Heap} (h : va_P D vwCl (z_wA cI q σ) H) : va_P D vwCl (wG cI q σ) H := fun k p hk => h k p (by rw [z_wA, List.getElem?_append_left (by exact (List.getElem?_eq_some_iff.mp hk).1)]; exact hk)
theorem z_wA_a {D : va_G} {cI : ClassId} {q : Nat → Nat} {σ : SG} {H : Heap} (h : va_P D vwCl (z_wA cI q σ) H) : va_P D vwCl [(q 12, .inl (cI, 6, .inl (fun _ => 0)))] H := h.sub [12] rfl
theorem z_wA_s {D : va_G} {cI : ClassId} {q : Nat → Nat} {σ : SG} {H : Heap} (h : va_P D vwCl (z_wA cI q σ) H) : va_P D vwCl [(q 13, .inl (cI, 14, .inl (fun _ => 0)))] H := h.sub [13] rfl
theorem z_wA_two {D : va_G} {cI : ClassId} {q : Nat → Nat} {σ : SG} {H : Heap} (h : va_P D vwCl (z_wA cI q σ) H) : va_P D vwCl [(q 12, .inl (cI, 6, .inl (fun _ => 0))), (q 13, .inl (cI, 14, .inl (fun _ => 0)))] H := h.sub [12, 13] rfl
theorem z_wA_call {D : va_G} {cI : ClassId} {q : Nat → Nat} {σ σ' : SG} {H H1 : Heap} (hq : ijQ 14 q) (h : va_P D vwCl (z_wA cI q σ) H) (h1 : va_P D vwCl (wG cI q σ') H1) (hk : ∀ a : Nat, a < H.size → ¬ adQ 12 q a → H1[a]? = H[a]?) : va_P D vwCl (z_wA cI q σ') H1 :=
  va_P.app h1 ((z_wA_two h).kept (fun k p hp => by
    match k, hp with
    | 0, hp => cases hp; exact hk _ ((z_wA_two h) 0 _ rfl).lt (fun ⟨j, a, b⟩ => by have := hq 12 j (by omega) (by omega) b; omega)
    | 1, hp => cases hp; exact hk _ ((z_wA_two h) 1 _ rfl).lt (fun ⟨j, a, b⟩ => by have := hq 13 j (by omega) (by omega) b; omega)
    | k + 2, hp => simp at hp))
section PW
variable {s : State} {H : Heap} {D : va_G} {cI : ClassId} {q : Nat → Nat} {σ : SG} {As : List Value}
theorem z_pV_P (hP : va_P D vwCl (wG cI q σ) H) (hK : va_K D vwCl [(cI, .int)] s) (hE : EN s) (hX : EX (adQ 12 q) s H) : PreV s H RX1 (q 0) (va_Pc (.ref (q 0) :: As) (PX D cI q σ)) As :=
  ⟨fun a U g mk h => ⟨h.1, ⟨h.2.1.1, va_K.moved (u := U) (U := U.calling g mk a) (Vm.Alike.refl U.vm) h.2.1.2.1, EN_call h.2.1.2.2⟩, EX_call (U := U) h.2.2⟩, va_recv hK hP (ci := 1) (q0 := 0) rfl rfl,
    fun U hU hW => ⟨rfl, ⟨by rw [hU]; exact hP, va_K.moved hW.alike hK, EN_warm hW hE⟩, by show EX (adQ 12 q) U U.heap; rw [hU]; exact EX_warm hW hX⟩⟩
theorem z_pS_P (hP : va_P D vwCl (wG cI q σ) H) (hK : va_K D vwCl [(cI, .int)] s) (hE : EN s) (hX : EX (adQ 12 q) s H) : PreS s H (va_Pc As (PX D cI q σ)) As :=
  ⟨fun a U g mk h => ⟨h.1, ⟨h.2.1.1, va_K.moved (u := U) (U := U.calling g mk a) (Vm.Alike.refl U.vm) h.2.1.2.1, EN_call h.2.1.2.2⟩, EX_call (U := U) h.2.2⟩,
    fun U hU hW => ⟨rfl, ⟨by rw [hU]; exact hP, va_K.moved hW.alike hK, EN_warm hW hE⟩, by show EX (adQ 12 q) U U.heap; rw [hU]; exact EX_warm hW hX⟩⟩
theorem z_pS_Y (hP : va_P D vwCl (wG cI q σ) H) (hP2 : va_P D vwCl [(q 12, .inl (cI, 6, .inl (fun _ => 0)))] H) (hK : va_K D vwCl [(cI, .int)] s) (hE : EN s) (hX : EX (adQ 12 q) s H) : PreS s H (va_Pc As (z_PY D cI q σ)) As :=
  ⟨fun a U g mk h => ⟨h.1, ⟨⟨h.2.1.1.1, va_K.moved (u := U) (U := U.calling g mk a) (Vm.Alike.refl U.vm) h.2.1.1.2.1, EN_call h.2.1.1.2.2⟩, EX_call (U := U) h.2.1.2⟩, h.2.2⟩,
    fun U hU hW => ⟨rfl, ⟨⟨by rw [hU]; exact hP, va_K.moved hW.alike hK, EN_warm hW hE⟩, by show EX (adQ 12 q) U U.heap; rw [hU]; exact EX_warm hW hX⟩, by rw [hU]; exact hP2⟩⟩
theorem z_pS_X {b L : Nat} {xs : Nat → Int32} (hX : va_X b L xs s H) : PreS s H (va_Pc As (fun U => va_X b L xs U U.heap)) As :=
  ⟨fun a U g mk h => ⟨h.1, h.2.moved (u := U) (U := U.calling g mk a) (Vm.Alike.refl U.vm)⟩, fun U hU hW => ⟨rfl, by show va_X b L xs U U.heap; rw [hU]; exact hX.moved hW.alike⟩⟩
/-- the asking method's start: the class's world, the heap's size, and that one exception is none of another class -/
def z_PQ (D : va_G) (cI : ClassId) (q : Nat → Nat) (σ : SG) (sz : Nat) (U : State) : Prop := PX D cI q σ U ∧ z_NC U ∧ U.heap.size = sz
theorem z_pS_Q {sz : Nat} (hP : va_P D vwCl (wG cI q σ) H) (hK : va_K D vwCl [(cI, .int)] s) (hE : EN s) (hX : EX (adQ 12 q) s H) (hN : z_NC s) (hz : H.size = sz) : PreS s H (va_Pc As (z_PQ D cI q σ sz)) As :=
  ⟨fun a U g mk h => ⟨h.1, ⟨⟨h.2.1.1.1, va_K.moved (u := U) (U := U.calling g mk a) (Vm.Alike.refl U.vm) h.2.1.1.2.1, EN_call h.2.1.1.2.2⟩, EX_call (U := U) h.2.1.2⟩, z_NC_moved (s := U) (Vm.Alike.refl U.vm) h.2.2.1, h.2.2.2⟩,
    fun U hU hW => ⟨rfl, ⟨⟨by rw [hU]; exact hP, va_K.moved hW.alike hK, EN_warm hW hE⟩, by show EX (adQ 12 q) U U.heap; rw [hU]; exact EX_warm hW hX⟩, z_NC_moved hW.alike hN, by rw [hU]; exact hz⟩⟩
end PW
section YC
variable {p : Program} {l : Launch} {e : Env} {R : Room} {s : State} {m : MethodId} {args : Array Value} {below : List Frame} {meth : Method} {c : Code} {H H0 : Heap} {locs : List Loc} {cells slots : Nat} {Q : State → Prop}
variable {pc : Nat} {ls : Array Slot} {rest st0 : List Value} {a : Array Value} {cc : ByteArray} {D : va_G} {cI : ClassId} {q : Nat → Nat}
theorem z_y_call {mc ms : Nat} {A1 A0 : Nat → Prop} {φ : Option Value → Heap → Prop} {ψ : String → Prop} (hr : vx_Run p l e R s m args below meth c H locs cells slots mc ms (F0 m pc ls st0) rest (wQ A1 φ a) (xQ ψ) A1) (hS : va_S A0 H0 H locs) (hA : ∀ q, A1 q → A0 q)
    (kx : ∀ (E : String) (ce : Cell) (q9 : Addr) (H1 : Heap) (locs1 : List Loc), ψ E → H.size < H1.size → (∀ q : Nat, q < H.size → H1[q]? = H[q]?) → va_S A0 H0 H1 locs1 → H1[q9]? = some ce → ce.vm = .none → s.vm.findClass E = some ce.cls → vx_W p l e R s m args below meth c H1 locs1 (cells + mc) (slots + ms) Q (F0 m pc ls rest) q9)
    (kk : ∀ (v : Option Value) (H1 : Heap) (locs1 : List Loc), φ v H1 → H.size ≤ H1.size → (∀ q : Nat, q < H.size → ¬ A1 q → H1[q]? = H[q]?) → va_S A0 H0 H1 locs1 → W p l e R s m args below meth c H1 locs1 (cells + mc) (slots + ms) Q (F0 m (pc + 3) ls (v.toList ++ rest))) : W p l e R s m args below meth c H locs cells slots Q (F0 m pc ls st0) := by
  intro T hT X
  rcases hr T hT X with ⟨v, st₀, t, T', L, h0, X', hL, e1, e2, ⟨r, hv, hp, hz, hk⟩, st⟩ | ⟨q, st₀, t, T', L, E, ce, h0, X', hL, e1, e2, ⟨hp, hz, hk⟩, hce, hcv, hcl, st⟩
  · cases hv
    rw [h0] at hz hk
    obtain ⟨t2, a1, b1⟩ := kk v T'.heap (locs ++ L) (by rw [e1]; exact hp) (by rw [e1]; exact hz) (fun q h1 h2 => by rw [e1]; exact hk q h1 h2)
      ⟨Nat.le_trans hS.1 (by rw [e1]; exact hz), fun q h1 h2 => by rw [e1, hk q (Nat.lt_of_lt_of_le h1 hS.1) (fun z => h2 (hA q z))]; exact hS.2.1 q h1 h2, fun q hq => by
        rcases List.mem_append.mp hq with h | h
        · exact hS.2.2 q h
        · exact hA _ (hL q h)⟩ T' rfl X'
    exact ⟨t2, st t2 a1, b1⟩
  · rw [h0] at hz hk
    obtain ⟨t2, a1, b1⟩ := kx E ce q T'.heap (locs ++ L) hp (by rw [e1]; exact hz) (fun q h1 => by rw [e1]; exact hk q h1)
      ⟨Nat.le_trans hS.1 (by rw [e1]; exact Nat.le_of_lt hz), fun q h1 h2 => by rw [e1, hk q (Nat.lt_of_lt_of_le h1 hS.1)]; exact hS.2.1 q h1 h2, fun q hq => by
        rcases List.mem_append.mp hq with h | h
        · exact hS.2.2 q h
        · exact hA _ (hL q h)⟩ (by rw [e1]; exact hce) hcv hcl T' rfl X'
    exact ⟨t2, st.trans a1, b1⟩
end YC
section YO
variable {l : Launch} {y : MethodName} {ws ws' : List Cond} {rm : Room} {av : List Value} {maxL : Nat} {cc : ByteArray} {Pre : State → Prop} {A : Nat → Prop} {hh : List (Nat × Nat × Nat × Nat)}
/-- the start of a method that hands on what it calls throws -/
theorem z_openC {φ : Option Value → Heap → Prop} {ψ : String → Prop} (hy : plainName y.cls = true) (hw : ws = Cond.code y cc maxL (some .int) :: ws') (hle : (lg_sl av).length ≤ maxL)
    (body : ∀ (p : Program) (e : Env) (s : State) (m : MethodId) (args : Array Value) (below : List Frame) (meth : Method) (c : Code), p.tables.exec = Jvm.exec → c.code = cc → c.maxLocals = maxL → (∀ w ∈ ws, w.before args s = true) → s.vm.findClass y.cls = some m.cls → Pre s →
      ∀ (Q : State → Prop), (∀ (v : Int32) (pc : Nat) (ls : Array Slot) (H : Heap) (locs : List Loc), φ (some (.int v)) H → va_S A s.heap H locs → decode cc pc = .ok (.ireturn, 1) → W p l e rm s m args below meth c H locs (0 + 1) (0 + 6) Q (F0 m pc ls [.int v])) →
      (∀ (E : String) (ce : Cell) (q9 : Addr) (H1 : Heap) (locs : List Loc) (pc : Nat) (ls : Array Slot) (rest : List Value), ψ E → s.heap.size < H1.size → (∀ q : Nat, q < s.heap.size → H1[q]? = s.heap[q]?) → va_S A s.heap H1 locs → H1[q9]? = some ce → ce.vm = .none → s.vm.findClass E = some ce.cls → vx_W p l e rm s m args below meth c H1 locs (0 + 1) (0 + 6) Q (F0 m pc ls rest) q9) →
      ∀ ls : Array Slot, lv_has ls maxL (lv_args 0 av) → W p l e rm s m args below meth c s.heap [] 0 0 Q (F0 m 0 ls [])) : vx_Met l y ws rm (va_Pc av Pre) (wQ A φ) (xQ ψ) 1 6 A := by
  refine vx_ofW hy hw ?_
  intro p e s m args below meth c s₁ B hml hex hv
  obtain ⟨rfl, hpre⟩ := hv
  have hl := lv_entry av (n := maxL) hle
  rw [lg_entry_eq]
  exact body p e s m _ below meth c B.exec B.bytes hml (atoms_spec (ws := ws) B.pre) (findClass_of_methodNamed B.named) hpre _
    (fun v pc ls H locs hφ hS hd => vx_ret (W.iret B.exec B.bytes B.returns (fun t ht hW => ⟨some (.int v), rfl, by rw [ht]; exact hφ, hS.F ht⟩) hS.2.2 hd B.notSynchronized))
    (fun E ce q9 H1 locs pc ls rest hψ hz hk hS hce hv hcl => vx_out (fun x hx => (hex x hx).elim) B.notSynchronized hce hv hcl (fun t ht _ => ⟨hψ, by rw [ht]; exact hz, fun q h => by rw [ht]; exact hk q h⟩) hS.2.2 (by decide) (by decide)) _ hl
theorem z_openL {φ : Option Value → Heap → Prop} (hy : plainName y.cls = true) (hw : ws = Cond.codeWith y cc maxL (some .int) hh :: ws') (hle : (lg_sl av).length ≤ maxL)
    (body : ∀ (p : Program) (e : Env) (s : State) (m : MethodId) (args : Array Value) (below : List Frame) (meth : Method) (c : Code), p.tables.exec = Jvm.exec → c.code = cc → c.maxLocals = maxL → (∀ w ∈ ws, w.before args s = true) → s.vm.findClass y.cls = some m.cls → c.exceptionTable.toList = tableOf hh → Pre s →
      ∀ (Q : State → Prop), (∀ (v : Int32) (pc : Nat) (ls : Array Slot) (H : Heap) (locs : List Loc), φ (some (.int v)) H → va_S A s.heap H locs → decode cc pc = .ok (.ireturn, 1) → W p l e rm s m args below meth c H locs (0 + 1) (0 + 6) Q (F0 m pc ls [.int v])) →
      ∀ ls : Array Slot, lv_has ls maxL (lv_args 0 av) → W p l e rm s m args below meth c s.heap [] 0 0 Q (F0 m 0 ls [])) : Met l y ws rm (va_Pc av Pre) (wQ A φ) 1 6 A := by
  refine MetFree.of_bodyS (code := cc) (maxLocals := maxL) (ret := some .int) hy ?_ ?_
  · intro args s m h hn
    obtain ⟨m9, meth, c, hn9, h1, h2, h3, h4, -, h5, h6, -⟩ := Cond.codeWith_spec (atoms_spec (ws := ws) h _ (by rw [hw]; exact List.mem_cons_self))
    cases hn.symm.trans hn9
    exact ⟨meth, c, h1, h2, h3, h4, h5, h6⟩
  · intro p e s m args below meth c s₁ B hml hv _
    obtain ⟨rfl, hpre⟩ := hv
    have hh0 : s₁.heap = s.heap := by rw [B.state]; rfl
    have hts := atoms_spec (ws := ws) B.pre
    have htab : c.exceptionTable.toList = tableOf hh := vx_table (x := y) B (hts _ (by rw [hw]; exact List.mem_cons_self))
    have hl := lv_entry av (n := maxL) hle
    have key : W p l e rm s m av.toArray below meth c s.heap [] 0 0 (MQ below (wQ A φ) av.toArray s 1 6 A) (entryFrame m av.toArray maxL) := by
      rw [lg_entry_eq]
      exact body p e s m _ below meth c B.exec B.bytes hml hts (findClass_of_methodNamed B.named) htab hpre _ (fun v pc ls H locs hφ hS hd => W.iret B.exec B.bytes B.returns (fun t ht hW => ⟨some (.int v), rfl, by rw [ht]; exact hφ, hS.F ht⟩) hS.2.2 hd B.notSynchronized) _ hl
    obtain ⟨t, a1, o, b1, b2, b3⟩ := key s₁ hh0 (Stand.of_body B)
    exact ⟨t, o, a1, b1, b2, ⟨b3.1, b3.2⟩⟩
end YO
theorem z_kn_L_draw : yL_draw.cls ≠ "java/lang/invoke/MethodHandle" ∧ yL_draw.cls ≠ "java/lang/invoke/VarHandle" ∧ (parseMethodDescriptor yL_draw.desc).map (fun d => d.parameters.length) = some 2 := by decide +kernel
set_option maxHeartbeats 4000000 in
set_option maxRecDepth 100000 in
theorem z_c_L_draw (l : Launch) (b L : Nat) (xs : Nat → Int32) (t : Nat) (ht : t < L) (hL : L ≤ 260) : Met l yL_draw wsL_draw ({ frames := 0, cells := 0, slots := 0, locals := 0 }) (va_Pc [.ref b, .int (nI t)] (fun U => va_X b L xs U U.heap)) (rQ (fun r => r = xs t)) 0 0 noF := by
  refine openR (cc := cL_draw) (maxL := 2) (by decide) rfl (Nat.le_of_ble_eq_true rfl) ?_
  intro p e s m args below meth c hx hb hml hts hown hpre Q RET ls hl
  have hown : s.vm.findClass RL = some m.cls := hown
  have hl : lv_has ls 2 [(0, .ref b), (1, .int (nI t))] := hl
  have hbl : b < s.heap.size := (Array.getElem?_eq_some_iff.mp hpre.choose_spec.1).1
  have hS : va_S noF s.heap s.heap [] := va_S.rf
  refine lv_iload_n hx hb dL_draw_0 rfl (lv_at hl 1 rfl) ?_
  refine lv_aload_n hx hb dL_draw_1 rfl (lv_at hl 0 rfl) ?_
  refine va_slen hx hb hpre hbl (fun z => z) hS dL_draw_2 ?_
  refine geN t L (tgt := 12) hx hb rfl rfl (by omega) (by omega) dL_draw_3 (by decide) (fun c_1 => absurd c_1 (by omega)) (fun c_1 => ?_)
  refine lv_aload_n hx hb dL_draw_6 rfl (lv_at hl 0 rfl) ?_
  refine lv_iload_n hx hb dL_draw_7 rfl (lv_at hl 1 rfl) ?_
  refine va_sld hx hb hpre hbl (fun z => z) hS (vp_in_nI ht (by omega)) dL_draw_8 ?_
  rw [nI_clamp (by omega)]
  refine lv_goto (tgt := 27) hx hb dL_draw_9 (by decide) ?_
  exact RET _ _ _ rfl dL_draw_27
theorem z_kn_L_call : yL_call.cls ≠ "java/lang/invoke/MethodHandle" ∧ yL_call.cls ≠ "java/lang/invoke/VarHandle" ∧ (parseMethodDescriptor yL_call.desc).map (fun d => d.parameters.length) = some 5 := by decide +kernel
set_option maxHeartbeats 4000000 in
set_option maxRecDepth 100000 in
theorem c_L_call0 (l : Launch) (hf : l.stackTraces = false) (D : va_G) (cI : ClassId) (q : Nat → Nat) (hq : ijQ 12 q) (k : Nat) (hk : k ≤ 14) : vx_Met l yL_call wsL_call ({ frames := 8, cells := 1, slots := 6, locals := 124 }) (va_Pc [.ref (q 0), .int 0, .int 0, .int 0, .int 0] (PX D cI q (kS k))) (wQ (adQ 12 q) (fun v H1 => (cMake (kS k) 0).1 = 0 ∧ v = some (.int (cMake (kS k) 0).2.1) ∧ va_P D vwCl (wG cI q (cMake (kS k) 0).2.2) H1)) (xQ (fun E => (cMake (kS k) 0).1 ≠ 0 ∧ E = exN (cMake (kS k) 0).1)) 1 6 (adQ 12 q) := by
  refine z_openC (cc := cL_call) (maxL := 5) (by decide) rfl (Nat.le_of_ble_eq_true rfl) ?_
  intro p e s m args below meth c hx hb hml hts hown hpre Q RET OUT ls hl
  have hown : s.vm.findClass RL = some m.cls := hown
  have hl : lv_has ls 5 [(0, .ref (q 0)), (1, .int 0), (2, .int 0), (3, .int 0), (4, .int 0)] := hl
  obtain ⟨⟨hP, hK, hE⟩, hX⟩ := hpre
  have hS : va_S (adQ 12 q) s.heap s.heap [] := va_S.rf
  refine lv_iload_n hx hb dL_call_0 rfl (lv_at hl 1 rfl) ?_
  refine lv_if_ne (tgt := 12) hx hb dL_call_1 (by decide) (fun c_1 => absurd (by decide) c_1) (fun c_1 => ?_)
  refine lv_aload_n hx hb dL_call_4 rfl (lv_at hl 0 rfl) ?_
  refine lv_iload_n hx hb dL_call_5 rfl (lv_at hl 2 rfl) ?_
  refine z_y_call (vx_runV (As := [.int 0]) (rest := []) ⟨hx, hb, hml, hown, hts⟩ (c_X1_make l hf D cI q (kS k) hq 0 (ok_kS hk) hz_kS) (cwV 1 hts gL_call_X1_make rfl rfl rfl kd_X1_make ⟨Nat.le_of_ble_eq_true rfl, Nat.le_of_ble_eq_true rfl⟩) (z_pV_P hP hK hE hX) rfl rfl hl.1 rfl (lv_room (Nat.le_of_ble_eq_true rfl)) dL_call_6 ⟨Nat.le_of_ble_eq_true rfl, Nat.le_of_ble_eq_true rfl⟩) hS (fun _ h => h) (fun E9 ce q9 H1 l1 hψ hz9 hk9 hS hce hcv hcl => ?_) (fun v H1 l1 hv hz9 hk9 hS => ?_)
  · exact OUT _ _ _ _ _ _ _ _ hψ hz9 hk9 hS hce hcv hcl
  obtain ⟨h0, rfl, hP1⟩ := hv
  refine lv_goto (tgt := 116) hx hb dL_call_9 (by decide) ?_
  exact RET _ _ _ _ _ ⟨h0, rfl, hP1⟩ hS dL_call_116
theorem z_kn_L_ask : yL_ask.cls ≠ "java/lang/invoke/MethodHandle" ∧ yL_ask.cls ≠ "java/lang/invoke/VarHandle" ∧ (parseMethodDescriptor yL_ask.desc).map (fun d => d.parameters.length) = some 5 := by decide +kernel
set_option maxHeartbeats 4000000 in
set_option maxRecDepth 100000 in
theorem c_L_ask0 (l : Launch) (hf : l.stackTraces = false) (D : va_G) (cI : ClassId) (q : Nat → Nat) (hq : ijQ 12 q) (k : Nat) (hk : k ≤ 14) (sz : Nat) : Met l yL_ask wsL_ask ({ frames := 9, cells := 1, slots := 6, locals := 148 }) (va_Pc [.ref (q 0), .int 0, .int 0, .int 0, .int 0] (z_PQ D cI q (kS k) sz)) (wQ (adQ 12 q) (fun v H1 => (k < 14 ∧ v = some (.int (nI k)) ∧ va_P D vwCl (wG cI q (kS (k + 1))) H1) ∨ (k = 14 ∧ v = some (.int (-1013)) ∧ va_P D vwCl (wG cI q (kS 14)) H1 ∧ sz < H1.size))) 1 6 (adQ 12 q) := by
  refine z_openL (cc := cL_ask) (maxL := 6) (by decide) rfl (Nat.le_of_ble_eq_true rfl) ?_
  intro p e s m args below meth c hx hb hml hts hown htab hpre Q RET ls hl
  have hown : s.vm.findClass RL = some m.cls := hown
  have hl : lv_has ls 6 [(0, .ref (q 0)), (1, .int 0), (2, .int 0), (3, .int 0), (4, .int 0)] := hl
  obtain ⟨⟨⟨hP, hK, hE⟩, hX⟩, hN, hsz⟩ := hpre
  have hS : va_S (adQ 12 q) s.heap s.heap [] := va_S.rf
  refine lv_aload_n hx hb dL_ask_0 rfl (lv_at hl 0 rfl) ?_
  refine lv_iload_n hx hb dL_ask_1 rfl (lv_at hl 1 rfl) ?_
  refine lv_iload_n hx hb dL_ask_2 rfl (lv_at hl 2 rfl) ?_
  refine lv_iload_n hx hb dL_ask_3 rfl (lv_at hl 3 rfl) ?_
  refine lv_iload hx hb dL_ask_4 (lv_at hl 4 rfl) ?_
  refine z_y_call (vx_runS (As := [.ref (q 0), .int 0, .int 0, .int 0, .int 0]) (rest := []) ⟨hx, hb, hml, hown, hts⟩ (c_L_call0 l hf D cI q hq k hk) (va_cwS 5 hts gL_ask_L_call rfl rfl rfl z_kn_L_call ⟨Nat.le_of_ble_eq_true rfl, Nat.le_of_ble_eq_true rfl⟩) (z_pS_P hP hK hE hX) rfl rfl hl.1 rfl (lv_room (Nat.le_of_ble_eq_true rfl)) dL_ask_6 ⟨Nat.le_of_ble_eq_true rfl, Nat.le_of_ble_eq_true rfl⟩) hS (fun _ h => h) (fun E9 ce q9 H1 l1 hψ hz9 hk9 hS hce hcv hcl => ?_) (fun v H1 l1 hv hz9 hk9 hS => ?_)
  · obtain ⟨h0, rfl⟩ := hψ
    have hk14 : k = 14 := by
      rcases Nat.lt_or_ge k 14 with z | z
      · exact absurd (congrArg Prod.fst (evMk z)) h0
      · omega
    subst hk14
    rw [show (cMake (kS 14) 0).1 = 3 from congrArg Prod.fst evMk14] at hcl
    refine vx_catch (E := E3) (name := "java/lang/IllegalStateException") hown [⟨0, 9, 10, 43⟩, ⟨0, 9, 16, 45⟩] ⟨0, 9, 22, 47⟩ [] (by rw [htab]; rfl) (List.forall_mem_cons.mpr ⟨Or.inr ⟨by decide, _, hts (.classLink RL 43 "java/lang/IndexOutOfBoundsException") (by decide +kernel), hN.2.1⟩, List.forall_mem_cons.mpr ⟨Or.inr ⟨by decide, _, hts (.classLink RL 45 "java/lang/IllegalArgumentException") (by decide +kernel), hN.2.2⟩, fun _ h => nomatch h⟩⟩) (by decide) (by decide) (hts (.classLink RL 47 "java/lang/IllegalStateException") (by decide +kernel)) (va_Nw.use rfl hX.1.2.2.2.2.2) hce hcv hcl ?_
    refine lv_astore (lv' := [(5, .ref q9), (0, .ref (q 0)), (1, .int 0), (2, .int 0), (3, .int 0), (4, .int 0)]) hx hb dL_ask_22 hl (by decide) rfl (fun ls hl => ?_)
    refine lv_sipush (v := (-1013)) hx hb dL_ask_24 (by decide) ?_
    exact RET _ _ _ _ _ (Or.inr ⟨rfl, rfl, hP.kept (fun kk pp hp => hk9 _ (hP kk pp hp).lt), by rw [← hsz]; exact hz9⟩) hS dL_ask_27
  · obtain ⟨h0, rfl, hP1⟩ := hv
    have hk13 : k < 14 := by
      rcases Nat.lt_or_ge k 14 with z | z
      · exact z
      · have hk14 : k = 14 := by omega
        subst hk14
        exact absurd ((congrArg Prod.fst evMk14).symm.trans h0) (by decide)
    have ev := evMk hk13
    rw [show (cMake (kS k) 0).2.2 = kS (k + 1) from congrArg (fun z => z.2.2) ev] at hP1
    exact RET _ _ _ _ _ (Or.inl ⟨hk13, by rw [show (cMake (kS k) 0).2.1 = nI k from congrArg (fun z => z.2.1) ev], hP1⟩) hS dL_ask_9
