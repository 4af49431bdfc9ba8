/-! methods that throw, or read and leave the heap as it is -/
def rX (φ : Int32 → Prop) : Array Value → State → Outcome → State → Prop := fun _ st oc t => ∃ r : Int32, oc = .returned (some (.int r)) ∧ φ r ∧ t.heap = st.heap
section RX
variable {p : Program} {l : Launch} {e : Env} {R : Room} {s : State} {m : MethodId} {args : Array Value} {below : List Frame} {meth : Method} {c : Code} {H : Heap} {locs : List Loc} {cells slots : Nat} {Q : State → Prop}
variable {pc : Nat} {ls : Array Slot} {rest st0 : List Value} {a : Array Value} {cc : ByteArray}
/-- a call that may throw (what then: kx), or reads: the heap as it was, no room used -/
theorem z_call {mc ms : Nat} {φ : Int32 → Prop} {ψ : String → Prop} (hr : vx_Run p l e R s m args below meth c H locs cells slots mc ms (F0 m pc ls st0) rest (rX φ a) (xQ ψ) noF)
    (kx : ∀ (E : String) (ce : Cell) (q9 : Addr) (H1 : Heap), ψ E → H.size < H1.size → (∀ q : Nat, q < H.size → H1[q]? = H[q]?) → H1[q9]? = some ce → ce.vm = .none → s.vm.findClass E = some ce.cls → vx_W p l e R s m args below meth c H1 locs (cells + mc) (slots + ms) Q (F0 m pc ls rest) q9)
    (kk : ∀ r : Int32, φ r → W p l e R s m args below meth c H locs cells slots Q (F0 m (pc + 3) ls (.int r :: rest))) : W p l e R s m args below meth c H locs cells slots Q (F0 m pc ls st0) := by
  intro T hT X
  rcases hr T hT X with ⟨v, st₀, t, T', L, h0, X', hL, e1, e2, ⟨r, hv, hC, hh⟩, st⟩ | ⟨q, st₀, t, T', L, E, ce, h0, X', hL, e1, e2, ⟨hp, hz, hk⟩, hce, hcv, hcl, st⟩
  · cases hv
    have hT' : T'.heap = T.heap := by rw [e1, hh, h0, hT]
    obtain ⟨t2, a1, b1⟩ := kk r hC T' (by rw [hT', hT]) (stand_same X X' hT')
    exact ⟨t2, st t2 a1, b1⟩
  · have hL0 : L = [] := List.eq_nil_iff_forall_not_mem.mpr (fun z hz => hL z hz)
    subst hL0
    rw [List.append_nil] at X'
    rw [h0] at hz hk
    obtain ⟨t2, a1, b1⟩ := kx E ce q T'.heap hp (by rw [e1]; exact hz) (fun q h1 => by rw [e1]; exact hk q h1) (by rw [e1]; exact hce) hcv hcl T' rfl X'
    exact ⟨t2, st.trans a1, b1⟩
/-- a call that reads, and doesn't throw here -/
theorem z_callE {mc ms : Nat} {φ : Int32 → Prop} {ψ : String → Prop} {x : Int32} (hr : vx_Run p l e R s m args below meth c H locs cells slots mc ms (F0 m pc ls st0) rest (rX φ a) (xQ ψ) noF) (hn : ∀ E, ¬ ψ E) (hφ : ∀ r, φ r → r = x)
    (kk : W p l e R s m args below meth c H locs cells slots Q (F0 m (pc + 3) ls (.int x :: rest))) : W p l e R s m args below meth c H locs cells slots Q (F0 m pc ls st0) :=
  z_call hr (fun E _ _ _ h => absurd h (hn E)) (fun r h => by rw [hφ r h]; exact kk)
end RX
section RO
variable {l : Launch} {y : MethodName} {ws ws' : List Cond} {rm : Room} {av : List Value} {maxL : Nat} {cc : ByteArray} {Pre : State → Prop}
theorem openXR {φ : Int32 → Prop} {ψ : String → Prop} (hy : plainName y.cls = true) (hw : ws = Cond.code y cc maxL (some .int) :: ws') (hle : (lg_sl av).length ≤ maxL)
    (body : ∀ (p : Program) (e : Env) (s : State) (m : MethodId) (args : Array Value) (below : List Frame) (meth : Method) (c : Code), p.tables.exec = Jvm.exec → c.code = cc → c.maxLocals = maxL → (∀ w ∈ ws, w.before args s = true) → s.vm.findClass y.cls = some m.cls → Pre s →
      ∀ (Q : State → Prop), (∀ (v : Int32) (pc : Nat) (ls : Array Slot), φ v → decode cc pc = .ok (.ireturn, 1) → W p l e rm s m args below meth c s.heap [] 0 0 Q (F0 m pc ls [.int v])) →
      (∀ (E : String) (ce : Cell) (q9 : Addr) (H1 : Heap) (pc : Nat) (ls : Array Slot) (rest : List Value), ψ E → s.heap.size < H1.size → (∀ q : Nat, q < s.heap.size → H1[q]? = s.heap[q]?) → H1[q9]? = some ce → ce.vm = .none → s.vm.findClass E = some ce.cls → vx_W p l e rm s m args below meth c H1 [] (0 + 1) (0 + 6) Q (F0 m pc ls rest) q9) →
      ∀ ls : Array Slot, lv_has ls maxL (lv_args 0 av) → W p l e rm s m args below meth c s.heap [] 0 0 Q (F0 m 0 ls [])) : vx_Met l y ws rm (va_Pc av Pre) (rX φ) (xQ ψ) 1 6 noF := by
  refine vx_ofW hy hw ?_
  intro p e s m args below meth c s₁ B hml hex hv
  obtain ⟨rfl, hpre⟩ := hv
  have hl := lv_entry av (n := maxL) hle
  rw [lg_entry_eq]
  exact body p e s m _ below meth c B.exec B.bytes hml (atoms_spec (ws := ws) B.pre) (findClass_of_methodNamed B.named) hpre _
    (fun v pc ls hφ hd => W.widen (k := 1) (n := 6) (by decide) (by decide) (vx_ret (W.iret B.exec B.bytes B.returns (fun t ht hW => ⟨v, rfl, hφ, ht⟩) (by intro q h; cases h) hd B.notSynchronized)))
    (fun E ce q9 H1 pc ls rest hψ hz hk hce hv hcl => vx_out (fun x hx => (hex x hx).elim) B.notSynchronized hce hv hcl (fun t ht _ => ⟨hψ, by rw [ht]; exact hz, fun q h => by rw [ht]; exact hk q h⟩) (by intro z h; cases h) (by decide) (by decide)) _ hl
theorem openXRZ {φ : Int32 → Prop} {ψ : String → Prop} (hy : plainName y.cls = true) (hw : ws = Cond.code y cc maxL (some .boolean) :: ws') (hle : (lg_sl av).length ≤ maxL)
    (body : ∀ (p : Program) (e : Env) (s : State) (m : MethodId) (args : Array Value) (below : List Frame) (meth : Method) (c : Code), p.tables.exec = Jvm.exec → c.code = cc → c.maxLocals = maxL → (∀ w ∈ ws, w.before args s = true) → s.vm.findClass y.cls = some m.cls → Pre s →
      ∀ (Q : State → Prop), (∀ (b : Bool) (pc : Nat) (ls : Array Slot), φ (bI b) → decode cc pc = .ok (.ireturn, 1) → W p l e rm s m args below meth c s.heap [] 0 0 Q (F0 m pc ls [.int (bI b)])) →
      (∀ (E : String) (ce : Cell) (q9 : Addr) (H1 : Heap) (pc : Nat) (ls : Array Slot) (rest : List Value), ψ E → s.heap.size < H1.size → (∀ q : Nat, q < s.heap.size → H1[q]? = s.heap[q]?) → H1[q9]? = some ce → ce.vm = .none → s.vm.findClass E = some ce.cls → vx_W p l e rm s m args below meth c H1 [] (0 + 1) (0 + 6) Q (F0 m pc ls rest) q9) →
      ∀ ls : Array Slot, lv_has ls maxL (lv_args 0 av) → W p l e rm s m args below meth c s.heap [] 0 0 Q (F0 m 0 ls [])) : vx_Met l y ws rm (va_Pc av Pre) (rX φ) (xQ ψ) 1 6 noF := by
  refine vx_ofW hy hw ?_
  intro p e s m args below meth c s₁ B hml hex hv
  obtain ⟨rfl, hpre⟩ := hv
  have hl := lv_entry av (n := maxL) hle
  rw [lg_entry_eq]
  exact body p e s m _ below meth c B.exec B.bytes hml (atoms_spec (ws := ws) B.pre) (findClass_of_methodNamed B.named) hpre _
    (fun b pc ls hφ hd => W.widen (k := 1) (n := 6) (by decide) (by decide) (vx_ret (W.zret B.exec B.bytes B.returns nar_bI (fun t ht hW => ⟨bI b, rfl, hφ, ht⟩) (by intro q h; cases h) hd B.notSynchronized)))
    (fun E ce q9 H1 pc ls rest hψ hz hk hce hv hcl => vx_out (fun x hx => (hex x hx).elim) B.notSynchronized hce hv hcl (fun t ht _ => ⟨hψ, by rw [ht]; exact hz, fun q h => by rw [ht]; exact hk q h⟩) (by intro z h; cases h) (by decide) (by decide)) _ hl
end RO
