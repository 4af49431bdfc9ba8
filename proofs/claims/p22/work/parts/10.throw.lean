/-! throwing: what a throw needs of the start (EX), calls that return with the heap as it was or throw, the three methods that throw -/
def bN : List String := ["java/lang/RuntimeException", "java/lang/Exception"]
def E1 : String := "java/lang/IndexOutOfBoundsException"
def E2 : String := "java/lang/IllegalArgumentException"
def E3 : String := "java/lang/IllegalStateException"
def exN (k : Nat) : String := if k = 1 then E1 else if k = 2 then E2 else E3
def EXw (U : State) : Prop := va_Nw (.declares (Bundle.initS "java/lang/RuntimeException")) U ∧ va_Nw (.declares (Bundle.initS "java/lang/Exception")) U ∧ va_Nw (.declares (Bundle.initS Bundle.tN)) U ∧ va_Nw (.castable E1 E1) U ∧ va_Nw (.castable E2 E2) U ∧ va_Nw (.castable E3 E3) U
def EXs (U : State) : Prop := (∃ a, vk_R RX1 154 "no such pallet, entry, holder or good" a U) ∧ (∃ a, vk_R RX1 161 "an argument is out of range" a U) ∧ (∃ a, vk_R RX1 166 "this cannot be done now" a U)
def EXh (A : Nat → Prop) (U : State) (H : Heap) : Prop := vx_Zq Bundle.tN "UNASSIGNED_STACK" Bundle.steD A U H ∧ vx_Zq Bundle.tN "SUPPRESSED_SENTINEL" Bundle.listD A U H
def EX (A : Nat → Prop) (U : State) (H : Heap) : Prop := EXw U ∧ EXs U ∧ EXh A U H
theorem EXw_warm {s U : State} (hW : s.WarmedH U.vm) (h : EXw s) : EXw U := ⟨va_Nw.warmD hW h.1, va_Nw.warmD hW h.2.1, va_Nw.warmD hW h.2.2.1, va_Nw.warmC hW h.2.2.2.1, va_Nw.warmC hW h.2.2.2.2.1, va_Nw.warmC hW h.2.2.2.2.2⟩
theorem EXw_same {s U : State} (hv : s.vm = U.vm) (h : EXw s) : EXw U := ⟨va_Nw.same rfl hv h.1, va_Nw.same rfl hv h.2.1, va_Nw.same rfl hv h.2.2.1, va_Nw.same rfl hv h.2.2.2.1, va_Nw.same rfl hv h.2.2.2.2.1, va_Nw.same rfl hv h.2.2.2.2.2⟩
theorem EXs_warm {s U : State} (hW : s.WarmedH U.vm) (h : EXs s) : EXs U := ⟨h.1.elim (fun a z => ⟨a, vk_R.warm hW z⟩), h.2.1.elim (fun a z => ⟨a, vk_R.warm hW z⟩), h.2.2.elim (fun a z => ⟨a, vk_R.warm hW z⟩)⟩
theorem EXs_same {s U : State} (hv : U.vm = s.vm) (h : EXs s) : EXs U := ⟨h.1.elim (fun a z => ⟨a, vk_R.same hv z⟩), h.2.1.elim (fun a z => ⟨a, vk_R.same hv z⟩), h.2.2.elim (fun a z => ⟨a, vk_R.same hv z⟩)⟩
theorem EX_warm {A : Nat → Prop} {s U : State} {H : Heap} (hW : s.WarmedH U.vm) (h : EX A s H) : EX A U H := ⟨EXw_warm hW h.1, EXs_warm hW h.2.1, h.2.2.1.moved hW.alike, h.2.2.2.moved hW.alike⟩
theorem EX_call {A : Nat → Prop} {U : State} {g : JFrame} {mk : MethodId} {a : Array Value} {H : Heap} (h : EX A U H) : EX A (U.calling g mk a) H := ⟨EXw_same (s := U) rfl h.1, EXs_same (s := U) rfl h.2.1, h.2.2.1.moved (u := U) (Vm.Alike.refl U.vm), h.2.2.2.moved (u := U) (Vm.Alike.refl U.vm)⟩
theorem EX_narrow {A B : Nat → Prop} {s : State} {H : Heap} (h : EX A s H) (hAB : ∀ q, B q → A q) : EX B s H := ⟨h.1, h.2.1, h.2.2.1.narrow hAB, h.2.2.2.narrow hAB⟩
theorem EX_kept {A : Nat → Prop} {s : State} {H H1 : Heap} (h : EX A s H) (hk : ∀ a : Nat, a < H.size → ¬ A a → H1[a]? = H[a]?) : EX A s H1 := ⟨h.1, h.2.1, h.2.2.1.kept hk, h.2.2.2.kept hk⟩
def PE (U : State) : Prop := EX noF U U.heap
def PX (D : va_G) (cI : ClassId) (q : Nat → Nat) (σ : SG) (U : State) : Prop := PG D cI q σ U ∧ EX (adQ 12 q) U U.heap
def vQ (C : Prop) : Array Value → State → Outcome → State → Prop := fun _ st oc t => oc = .returned none ∧ C ∧ t.heap = st.heap
def xQ (ψ : String → Prop) : String → State → State → Prop := fun E st t => ψ E ∧ st.heap.size < t.heap.size ∧ ∀ q : Nat, q < st.heap.size → t.heap[q]? = st.heap[q]?
theorem stand_same {p : Program} {l : Launch} {e : Env} {R : Room} {s : State} {m : MethodId} {args : Array Value} {below : List Frame} {meth : Method} {c : Code} {T T' : State} {locs locs' : List Loc} {cells slots k n : Nat}
    (X : Stand p l e R s m args below meth c T locs cells slots) (X' : Stand p l e R s m args below meth c T' locs' k n) (h : T'.heap = T.heap) : Stand p l e R s m args below meth c T' locs cells slots := by
  obtain ⟨a1, a2, a3, a4, a5, a6, a7, a8, a9, a10, a11, a12, a13, a14⟩ := X'
  obtain ⟨b1, b2, b3, b4, b5, b6⟩ := X.same
  obtain ⟨c1, c2, c3, c4, c5, c6⟩ := a14
  have h' : (T'.setVm s.vm).heap = (T.setVm s.vm).heap := h
  exact ⟨a1, a2, a3, a4, a5, a6, a7, a8, a9, a10, a11, a12, a13, c1, by rw [h']; exact b2, by rw [h']; exact b3, c4, by rw [h']; exact b5, by rw [h']; exact b6⟩
section XB
variable {p : Program} {l : Launch} {e : Env} {R : Room} {s : State} {m : MethodId} {args : Array Value} {below : List Frame} {meth : Method} {c : Code} {H : Heap} {locs : List Loc} {cells slots : Nat} {Q : State → Prop}
variable {pc : Nat} {ls : Array Slot} {rest st0 : List Value} {a : Array Value} {cc : ByteArray}
theorem x_call {mc ms : Nat} {C : Prop} {ψ : String → Prop} (hr : vx_Run p l e R s m args below meth c H locs cells slots mc ms (F0 m pc ls st0) rest (vQ C a) (xQ ψ) noF)
    (kx : ∀ (E : String) (ce : Cell) (q9 : Addr) (H1 : Heap), ψ E → H.size < H1.size → (∀ q : Nat, q < H.size → H1[q]? = H[q]?) → H1[q9]? = some ce → ce.vm = .none → s.vm.findClass E = some ce.cls → vx_W p l e R s m args below meth c H1 locs (cells + mc) (slots + ms) Q (F0 m pc ls rest) q9)
    (kk : C → W p l e R s m args below meth c H locs cells slots Q (F0 m (pc + 3) ls rest)) : W p l e R s m args below meth c H locs cells slots Q (F0 m pc ls st0) := by
  intro T hT X
  rcases hr T hT X with ⟨v, st₀, t, T', L, h0, X', hL, e1, e2, ⟨hv, hC, hh⟩, st⟩ | ⟨q, st₀, t, T', L, E, ce, h0, X', hL, e1, e2, ⟨hp, hz, hk⟩, hce, hcv, hcl, st⟩
  · cases hv
    have hT' : T'.heap = T.heap := by rw [e1, hh, h0, hT]
    obtain ⟨t2, a1, b1⟩ := kk hC T' (by rw [hT', hT]) (stand_same X X' hT')
    exact ⟨t2, st t2 a1, b1⟩
  · have hL0 : L = [] := List.eq_nil_iff_forall_not_mem.mpr (fun z hz => hL z hz)
    subst hL0
    rw [List.append_nil] at X'
    rw [h0] at hz hk
    obtain ⟨t2, a1, b1⟩ := kx E ce q T'.heap hp (by rw [e1]; exact hz) (fun q h1 => by rw [e1]; exact hk q h1) (by rw [e1]; exact hce) hcv hcl T' rfl X'
    exact ⟨t2, st.trans a1, b1⟩
theorem pS_E {As : List Value} {A : Nat → Prop} (hX : EX A s H) : PreS s H (va_Pc As PE) As := ⟨fun a U g mk h => ⟨h.1, EX_call (U := U) h.2⟩, fun U hU hW => ⟨rfl, by show EX noF U U.heap; rw [hU]; exact EX_narrow (EX_warm hW hX) (fun _ z => z.elim)⟩⟩
end XB
section XO
variable {l : Launch} {y : MethodName} {ws ws' : List Cond} {rm : Room} {av : List Value} {maxL : Nat} {cc : ByteArray} {Pre : State → Prop} {A : Nat → Prop}
/-- the start of a method that throws before it writes, or returns an int -/
theorem openX {φ : Option Value → Heap → Prop} {ψ : String → Prop} (hy : plainName y.cls = true) (hw : ws = Cond.code y cc maxL (some .int) :: ws') (hle : (lg_sl av).length ≤ maxL)
    (body : ∀ (p : Program) (e : Env) (s : State) (m : MethodId) (args : Array Value) (below : List Frame) (meth : Method) (c : Code), p.tables.exec = Jvm.exec → c.code = cc → c.maxLocals = maxL → (∀ w ∈ ws, w.before args s = true) → s.vm.findClass y.cls = some m.cls → Pre s →
      ∀ (Q : State → Prop), (∀ (v : Int32) (pc : Nat) (ls : Array Slot) (H : Heap) (locs : List Loc), φ (some (.int v)) H → va_S A s.heap H locs → decode cc pc = .ok (.ireturn, 1) → W p l e rm s m args below meth c H locs 0 0 Q (F0 m pc ls [.int v])) →
      (∀ (E : String) (ce : Cell) (q9 : Addr) (H1 : Heap) (pc : Nat) (ls : Array Slot) (rest : List Value), ψ E → s.heap.size < H1.size → (∀ q : Nat, q < s.heap.size → H1[q]? = s.heap[q]?) → H1[q9]? = some ce → ce.vm = .none → s.vm.findClass E = some ce.cls → vx_W p l e rm s m args below meth c H1 [] (0 + 1) (0 + 6) Q (F0 m pc ls rest) q9) →
      ∀ ls : Array Slot, lv_has ls maxL (lv_args 0 av) → W p l e rm s m args below meth c s.heap [] 0 0 Q (F0 m 0 ls [])) : vx_Met l y ws rm (va_Pc av Pre) (wQ A φ) (xQ ψ) 1 6 A := by
  refine vx_ofW hy hw ?_
  intro p e s m args below meth c s₁ B hml hex hv
  obtain ⟨rfl, hpre⟩ := hv
  have hl := lv_entry av (n := maxL) hle
  rw [lg_entry_eq]
  exact body p e s m _ below meth c B.exec B.bytes hml (atoms_spec (ws := ws) B.pre) (findClass_of_methodNamed B.named) hpre _
    (fun v pc ls H locs hφ hS hd => W.widen (k := 1) (n := 6) (by decide) (by decide) (vx_ret (W.iret B.exec B.bytes B.returns (fun t ht hW => ⟨some (.int v), rfl, by rw [ht]; exact hφ, hS.F ht⟩) hS.2.2 hd B.notSynchronized)))
    (fun E ce q9 H1 pc ls rest hψ hz hk hce hv hcl => vx_out (fun x hx => (hex x hx).elim) B.notSynchronized hce hv hcl (fun t ht _ => ⟨hψ, by rw [ht]; exact hz, fun q h => by rw [ht]; exact hk q h⟩) (by intro z h; cases h) (by decide) (by decide)) _ hl
theorem openXZ {φ : Option Value → Heap → Prop} {ψ : String → Prop} (hy : plainName y.cls = true) (hw : ws = Cond.code y cc maxL (some .boolean) :: ws') (hle : (lg_sl av).length ≤ maxL)
    (body : ∀ (p : Program) (e : Env) (s : State) (m : MethodId) (args : Array Value) (below : List Frame) (meth : Method) (c : Code), p.tables.exec = Jvm.exec → c.code = cc → c.maxLocals = maxL → (∀ w ∈ ws, w.before args s = true) → s.vm.findClass y.cls = some m.cls → Pre s →
      ∀ (Q : State → Prop), (∀ (b : Bool) (pc : Nat) (ls : Array Slot) (H : Heap) (locs : List Loc), φ (some (.int (bI b))) H → va_S A s.heap H locs → decode cc pc = .ok (.ireturn, 1) → W p l e rm s m args below meth c H locs 0 0 Q (F0 m pc ls [.int (bI b)])) →
      (∀ (E : String) (ce : Cell) (q9 : Addr) (H1 : Heap) (pc : Nat) (ls : Array Slot) (rest : List Value), ψ E → s.heap.size < H1.size → (∀ q : Nat, q < s.heap.size → H1[q]? = s.heap[q]?) → H1[q9]? = some ce → ce.vm = .none → s.vm.findClass E = some ce.cls → vx_W p l e rm s m args below meth c H1 [] (0 + 1) (0 + 6) Q (F0 m pc ls rest) q9) →
      ∀ ls : Array Slot, lv_has ls maxL (lv_args 0 av) → W p l e rm s m args below meth c s.heap [] 0 0 Q (F0 m 0 ls [])) : vx_Met l y ws rm (va_Pc av Pre) (wQ A φ) (xQ ψ) 1 6 A := by
  refine vx_ofW hy hw ?_
  intro p e s m args below meth c s₁ B hml hex hv
  obtain ⟨rfl, hpre⟩ := hv
  have hl := lv_entry av (n := maxL) hle
  rw [lg_entry_eq]
  exact body p e s m _ below meth c B.exec B.bytes hml (atoms_spec (ws := ws) B.pre) (findClass_of_methodNamed B.named) hpre _
    (fun b pc ls H locs hφ hS hd => W.widen (k := 1) (n := 6) (by decide) (by decide) (vx_ret (W.zret B.exec B.bytes B.returns nar_bI (fun t ht hW => ⟨some (.int (bI b)), rfl, by rw [ht]; exact hφ, hS.F ht⟩) hS.2.2 hd B.notSynchronized)))
    (fun E ce q9 H1 pc ls rest hψ hz hk hce hv hcl => vx_out (fun x hx => (hex x hx).elim) B.notSynchronized hce hv hcl (fun t ht _ => ⟨hψ, by rw [ht]; exact hz, fun q h => by rw [ht]; exact hk q h⟩) (by intro z h; cases h) (by decide) (by decide)) _ hl
end XO

set_option maxHeartbeats 4000000 in
set_option maxRecDepth 100000 in
theorem c_X1_needThere (l : Launch) (hf : l.stackTraces = false) (b : Bool) : vx_Met l yX1_needThere wsX1_needThere ({ frames := 6, cells := 1, slots := 6, locals := 82 }) (va_Pc [.int (bI b)] PE) (vQ (b = true)) (xQ (fun E => b = false ∧ E = "java/lang/IndexOutOfBoundsException")) 1 6 noF := by
  refine vx_ofW (cc := cX1_needThere) (maxL := 1) (ret := none) (by decide) rfl ?_
  intro p e s m args below meth c s₁ B hml hex hv
  obtain ⟨rfl, h⟩ := hv
  have hx := B.exec
  have hb := B.bytes
  have hts := atoms_spec (ws := wsX1_needThere) B.pre
  have hown : s.vm.findClass RX1 = some m.cls := findClass_of_methodNamed B.named
  have hl := lv_entry ([.int (bI b)]) (n := 1) (Nat.le_of_ble_eq_true rfl)
  rw [lg_entry_eq]
  generalize (lg_sl ([.int (bI b)]) ++ List.replicate (1 - (lg_sl ([.int (bI b)])).length) Slot.unset).toArray = ls at hl ⊢
  have hl : lv_has ls 1 [(0, .int (bI b))] := hl
  refine lv_iload_n hx hb dX1_needThere_0 rfl (lv_at hl 0 rfl) ?_
  refine neB b (tgt := 14) hx hb rfl dX1_needThere_1 (by decide) (fun c_1 => ?_) (fun c_1 => ?_)
  · refine W.widen (k := 1) (n := 6) (by decide) (by decide) ?_
    exact vx_ret (W.vret hx hb B.returns (fun t ht hW => ⟨rfl, c_1, ht⟩) (by intro q h; cases h) dX1_needThere_14 B.notSynchronized)
  · obtain ⟨sa, hstr⟩ := h.2.1.1
    exact vx_throwS (A := noF) (names := bN) hx hb hf hown (by decide +kernel) (by decide +kernel) (hts (.classLink RX1 152 "java/lang/IndexOutOfBoundsException") (by decide +kernel)) (hts (.initialized "java/lang/IndexOutOfBoundsException") (by decide +kernel)) hstr
      (vx_hat (B := [.declares (Bundle.initS "java/lang/RuntimeException"), .declares (Bundle.initS "java/lang/Exception"), .declares (Bundle.initS Bundle.tN), .castable "java/lang/IndexOutOfBoundsException" "java/lang/IndexOutOfBoundsException"]) (fun w hw => hts w (List.mem_cons_of_mem _ (List.mem_append_right _ hw))) (by decide +kernel)
        (vx_c (va_Nw.use rfl h.1.1) (vx_c (va_Nw.use rfl h.1.2.1) (vx_c (va_Nw.use rfl h.1.2.2.1) (vx_c (va_Nw.use rfl h.1.2.2.2.1) vx_n)))))
      (by decide +kernel) h.2.2.1 h.2.2.2 va_S.rf (by rw [hml]; exact hl.1) dX1_needThere_4 dX1_needThere_7 dX1_needThere_8 dX1_needThere_10 dX1_needThere_13 (fun x hx => (hex x hx).elim)
      (Nat.le_of_ble_eq_true rfl) (Nat.le_of_ble_eq_true rfl) (Nat.le_of_ble_eq_true rfl) (Nat.le_of_ble_eq_true rfl) B.notSynchronized (fun t _ h1 h2 => ⟨⟨c_1, rfl⟩, h1, h2⟩) (by intro z h; cases h) (Nat.le_of_ble_eq_true rfl) (Nat.le_of_ble_eq_true rfl)
theorem kn_X1_needThere : yX1_needThere.cls ≠ "java/lang/invoke/MethodHandle" ∧ yX1_needThere.cls ≠ "java/lang/invoke/VarHandle" ∧ (parseMethodDescriptor yX1_needThere.desc).map (fun d => d.parameters.length) = some 1 := by decide +kernel

set_option maxHeartbeats 4000000 in
set_option maxRecDepth 100000 in
theorem c_X1_needRange (l : Launch) (hf : l.stackTraces = false) (b : Bool) : vx_Met l yX1_needRange wsX1_needRange ({ frames := 6, cells := 1, slots := 6, locals := 82 }) (va_Pc [.int (bI b)] PE) (vQ (b = true)) (xQ (fun E => b = false ∧ E = "java/lang/IllegalArgumentException")) 1 6 noF := by
  refine vx_ofW (cc := cX1_needRange) (maxL := 1) (ret := none) (by decide) rfl ?_
  intro p e s m args below meth c s₁ B hml hex hv
  obtain ⟨rfl, h⟩ := hv
  have hx := B.exec
  have hb := B.bytes
  have hts := atoms_spec (ws := wsX1_needRange) B.pre
  have hown : s.vm.findClass RX1 = some m.cls := findClass_of_methodNamed B.named
  have hl := lv_entry ([.int (bI b)]) (n := 1) (Nat.le_of_ble_eq_true rfl)
  rw [lg_entry_eq]
  generalize (lg_sl ([.int (bI b)]) ++ List.replicate (1 - (lg_sl ([.int (bI b)])).length) Slot.unset).toArray = ls at hl ⊢
  have hl : lv_has ls 1 [(0, .int (bI b))] := hl
  refine lv_iload_n hx hb dX1_needRange_0 rfl (lv_at hl 0 rfl) ?_
  refine neB b (tgt := 14) hx hb rfl dX1_needRange_1 (by decide) (fun c_1 => ?_) (fun c_1 => ?_)
  · refine W.widen (k := 1) (n := 6) (by decide) (by decide) ?_
    exact vx_ret (W.vret hx hb B.returns (fun t ht hW => ⟨rfl, c_1, ht⟩) (by intro q h; cases h) dX1_needRange_14 B.notSynchronized)
  · obtain ⟨sa, hstr⟩ := h.2.1.2.1
    exact vx_throwS (A := noF) (names := bN) hx hb hf hown (by decide +kernel) (by decide +kernel) (hts (.classLink RX1 159 "java/lang/IllegalArgumentException") (by decide +kernel)) (hts (.initialized "java/lang/IllegalArgumentException") (by decide +kernel)) hstr
      (vx_hat (B := [.declares (Bundle.initS "java/lang/RuntimeException"), .declares (Bundle.initS "java/lang/Exception"), .declares (Bundle.initS Bundle.tN), .castable "java/lang/IllegalArgumentException" "java/lang/IllegalArgumentException"]) (fun w hw => hts w (List.mem_cons_of_mem _ (List.mem_append_right _ hw))) (by decide +kernel)
        (vx_c (va_Nw.use rfl h.1.1) (vx_c (va_Nw.use rfl h.1.2.1) (vx_c (va_Nw.use rfl h.1.2.2.1) (vx_c (va_Nw.use rfl h.1.2.2.2.2.1) vx_n)))))
      (by decide +kernel) h.2.2.1 h.2.2.2 va_S.rf (by rw [hml]; exact hl.1) dX1_needRange_4 dX1_needRange_7 dX1_needRange_8 dX1_needRange_10 dX1_needRange_13 (fun x hx => (hex x hx).elim)
      (Nat.le_of_ble_eq_true rfl) (Nat.le_of_ble_eq_true rfl) (Nat.le_of_ble_eq_true rfl) (Nat.le_of_ble_eq_true rfl) B.notSynchronized (fun t _ h1 h2 => ⟨⟨c_1, rfl⟩, h1, h2⟩) (by intro z h; cases h) (Nat.le_of_ble_eq_true rfl) (Nat.le_of_ble_eq_true rfl)
theorem kn_X1_needRange : yX1_needRange.cls ≠ "java/lang/invoke/MethodHandle" ∧ yX1_needRange.cls ≠ "java/lang/invoke/VarHandle" ∧ (parseMethodDescriptor yX1_needRange.desc).map (fun d => d.parameters.length) = some 1 := by decide +kernel

set_option maxHeartbeats 4000000 in
set_option maxRecDepth 100000 in
theorem c_X1_needState (l : Launch) (hf : l.stackTraces = false) (b : Bool) : vx_Met l yX1_needState wsX1_needState ({ frames := 6, cells := 1, slots := 6, locals := 82 }) (va_Pc [.int (bI b)] PE) (vQ (b = true)) (xQ (fun E => b = false ∧ E = "java/lang/IllegalStateException")) 1 6 noF := by
  refine vx_ofW (cc := cX1_needState) (maxL := 1) (ret := none) (by decide) rfl ?_
  intro p e s m args below meth c s₁ B hml hex hv
  obtain ⟨rfl, h⟩ := hv
  have hx := B.exec
  have hb := B.bytes
  have hts := atoms_spec (ws := wsX1_needState) B.pre
  have hown : s.vm.findClass RX1 = some m.cls := findClass_of_methodNamed B.named
  have hl := lv_entry ([.int (bI b)]) (n := 1) (Nat.le_of_ble_eq_true rfl)
  rw [lg_entry_eq]
  generalize (lg_sl ([.int (bI b)]) ++ List.replicate (1 - (lg_sl ([.int (bI b)])).length) Slot.unset).toArray = ls at hl ⊢
  have hl : lv_has ls 1 [(0, .int (bI b))] := hl
  refine lv_iload_n hx hb dX1_needState_0 rfl (lv_at hl 0 rfl) ?_
  refine neB b (tgt := 14) hx hb rfl dX1_needState_1 (by decide) (fun c_1 => ?_) (fun c_1 => ?_)
  · refine W.widen (k := 1) (n := 6) (by decide) (by decide) ?_
    exact vx_ret (W.vret hx hb B.returns (fun t ht hW => ⟨rfl, c_1, ht⟩) (by intro q h; cases h) dX1_needState_14 B.notSynchronized)
  · obtain ⟨sa, hstr⟩ := h.2.1.2.2
    exact vx_throwS (A := noF) (names := bN) hx hb hf hown (by decide +kernel) (by decide +kernel) (hts (.classLink RX1 164 "java/lang/IllegalStateException") (by decide +kernel)) (hts (.initialized "java/lang/IllegalStateException") (by decide +kernel)) hstr
      (vx_hat (B := [.declares (Bundle.initS "java/lang/RuntimeException"), .declares (Bundle.initS "java/lang/Exception"), .declares (Bundle.initS Bundle.tN), .castable "java/lang/IllegalStateException" "java/lang/IllegalStateException"]) (fun w hw => hts w (List.mem_cons_of_mem _ (List.mem_append_right _ hw))) (by decide +kernel)
        (vx_c (va_Nw.use rfl h.1.1) (vx_c (va_Nw.use rfl h.1.2.1) (vx_c (va_Nw.use rfl h.1.2.2.1) (vx_c (va_Nw.use rfl h.1.2.2.2.2.2) vx_n)))))
      (by decide +kernel) h.2.2.1 h.2.2.2 va_S.rf (by rw [hml]; exact hl.1) dX1_needState_4 dX1_needState_7 dX1_needState_8 dX1_needState_10 dX1_needState_13 (fun x hx => (hex x hx).elim)
      (Nat.le_of_ble_eq_true rfl) (Nat.le_of_ble_eq_true rfl) (Nat.le_of_ble_eq_true rfl) (Nat.le_of_ble_eq_true rfl) B.notSynchronized (fun t _ h1 h2 => ⟨⟨c_1, rfl⟩, h1, h2⟩) (by intro z h; cases h) (Nat.le_of_ble_eq_true rfl) (Nat.le_of_ble_eq_true rfl)
theorem kn_X1_needState : yX1_needState.cls ≠ "java/lang/invoke/MethodHandle" ∧ yX1_needState.cls ≠ "java/lang/invoke/VarHandle" ∧ (parseMethodDescriptor yX1_needState.desc).map (fun d => d.parameters.length) = some 1 := by decide +kernel
