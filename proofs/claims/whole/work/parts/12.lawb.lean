/-! the law's own small methods: a call of the class, its answer put away, its exceptions caught -/
def wL (cI cJ : ClassId) (q : Nat → Nat) (σ : SG) (o : Nat → Int64) : va_W := wG cI q σ ++ [(q 12, .inl (cJ, 1, .inr (.inl o)))]
def NC (U : State) : Prop := va_Nc E2 E1 U ∧ va_Nc E3 E1 U ∧ va_Nc E3 E2 U
def PL (D : va_G) (cI cJ : ClassId) (q : Nat → Nat) (σ : SG) (o : Nat → Int64) (U : State) : Prop := va_P D vwCl (wL cI cJ q σ o) U.heap ∧ va_K D vwCl [(cI, .int), (cJ, .long)] U ∧ EN U ∧ EX (adQ 13 q) U U.heap ∧ NC U
theorem NC_moved {s U : State} (h : s.vm.Alike U.vm) (n : NC s) : NC U := ⟨n.1.moved h, n.2.1.moved h, n.2.2.moved h⟩
theorem dL {cI cJ : ClassId} {q : Nat → Nat} {σ : SG} {o : Nat → Int64} (hq : ijQ 13 q) : va_D (adQ 13 q) (wL cI cJ q σ o) := dQ hq rfl
theorem ij12 {q : Nat → Nat} (hq : ijQ 13 q) : ijQ 12 q := fun i j hi hj h => hq i j (by omega) (by omega) h
theorem ad12 {q : Nat → Nat} {a : Nat} (h : adQ 12 q a) : adQ 13 q a := h.elim (fun k z => ⟨k, by omega, z.2⟩)
theorem nad12 {q : Nat → Nat} (hq : ijQ 13 q) : ¬ adQ 12 q (q 12) := fun ⟨k, h1, h2⟩ => by have := hq 12 k (by omega) (by omega) h2; omega
theorem wL_G {D : va_G} {cI cJ : ClassId} {q : Nat → Nat} {σ : SG} {o : Nat → Int64} {H : Heap} (h : va_P D vwCl (wL cI cJ q σ o) H) : va_P D vwCl (wG cI q σ) H := fun k p hk => h k p (by rw [wL, List.getElem?_append_left (by exact (List.getElem?_eq_some_iff.mp hk).1)]; exact hk)
theorem wL_o {D : va_G} {cI cJ : ClassId} {q : Nat → Nat} {σ : SG} {o : Nat → Int64} {H : Heap} (h : va_P D vwCl (wL cI cJ q σ o) H) : va_P D vwCl [(q 12, .inl (cJ, 1, .inr (.inl o)))] H := h.sub [12] rfl
theorem wL_mk {D : va_G} {cI cJ : ClassId} {q : Nat → Nat} {σ : SG} {o : Nat → Int64} {H : Heap} (h1 : va_P D vwCl (wG cI q σ) H) (h2 : va_P D vwCl [(q 12, .inl (cJ, 1, .inr (.inl o)))] H) : va_P D vwCl (wL cI cJ q σ o) H := va_P.app h1 h2
/-- behind a call of the class: its world anew, the law's row as it was -/
theorem wL_call {D : va_G} {cI cJ : ClassId} {q : Nat → Nat} {σ σ' : SG} {o : Nat → Int64} {H H1 : Heap} (hq : ijQ 13 q) (h : va_P D vwCl (wL cI cJ q σ o) H) (h1 : va_P D vwCl (wG cI q σ') H1) (hk : ∀ a : Nat, a < H.size → ¬ adQ 12 q a → H1[a]? = H[a]?) : va_P D vwCl (wL cI cJ q σ' o) H1 :=
  wL_mk h1 ((wL_o h).kept (fun k p hp => by
    match k, hp with
    | 0, hp => cases hp; exact hk _ ((wL_o h) 0 _ rfl).lt (nad12 hq)
    | k + 1, hp => simp at hp))
theorem wL_keep {D : va_G} {cI cJ : ClassId} {q : Nat → Nat} {σ : SG} {o : Nat → Int64} {H H1 : Heap} (h : va_P D vwCl (wL cI cJ q σ o) H) (hk : ∀ a : Nat, a < H.size → H1[a]? = H[a]?) : va_P D vwCl (wL cI cJ q σ o) H1 := h.kept (fun k p hp => hk _ (h k p hp).lt)
def kB (c : Nat) : Nat := if c = 3 then 2 else c
def kE (c : Nat) : Nat := if c = 2 then 1 else c
def oF (o : Nat → Int64) (c : Nat) (x : Int32) : Nat → Int64 := if c = 0 then vp_updL o 0 x.toInt64 else o
section LB
variable {p : Program} {l : Launch} {e : Env} {R : Room} {s : State} {m : MethodId} {args : Array Value} {below : List Frame} {meth : Method} {c : Code} {H H0 : Heap} {locs : List Loc} {cells slots : Nat} {Q : State → Prop}
variable {pc : Nat} {ls : Array Slot} {rest st0 : List Value} {a : Array Value} {cc : ByteArray} {D : va_G} {cI cJ : ClassId} {q : Nat → Nat}
theorem y_call {mc ms : Nat} {A1 A0 : Nat → Prop} {φ : Option Value → Heap → Prop} {ψ : String → Prop} (hr : vx_Run p l e R s m args below meth c H locs cells slots mc ms (F0 m pc ls st0) rest (wQ A1 φ a) (xQ ψ) A1) (hS : va_S A0 H0 H locs) (hA : ∀ q, A1 q → A0 q)
    (kx : ∀ (E : String) (ce : Cell) (q9 : Addr) (H1 : Heap) (locs1 : List Loc), ψ E → H.size ≤ H1.size → (∀ q : Nat, q < H.size → H1[q]? = H[q]?) → va_S A0 H0 H1 locs1 → H1[q9]? = some ce → ce.vm = .none → s.vm.findClass E = some ce.cls → vx_W p l e R s m args below meth c H1 locs1 (cells + mc) (slots + ms) Q (F0 m pc ls rest) q9)
    (kk : ∀ (v : Option Value) (H1 : Heap) (locs1 : List Loc), φ v H1 → H.size ≤ H1.size → (∀ q : Nat, q < H.size → ¬ A1 q → H1[q]? = H[q]?) → va_S A0 H0 H1 locs1 → W p l e R s m args below meth c H1 locs1 (cells + mc) (slots + ms) Q (F0 m (pc + 3) ls (v.toList ++ rest))) : W p l e R s m args below meth c H locs cells slots Q (F0 m pc ls st0) := by
  intro T hT X
  rcases hr T hT X with ⟨v, st₀, t, T', L, h0, X', hL, e1, e2, ⟨r, hv, hp, hz, hk⟩, st⟩ | ⟨q, st₀, t, T', L, E, ce, h0, X', hL, e1, e2, ⟨hp, hz, hk⟩, hce, hcv, hcl, st⟩
  · cases hv
    rw [h0] at hz hk
    obtain ⟨t2, a1, b1⟩ := kk v T'.heap (locs ++ L) (by rw [e1]; exact hp) (by rw [e1]; exact hz) (fun q h1 h2 => by rw [e1]; exact hk q h1 h2)
      ⟨Nat.le_trans hS.1 (by rw [e1]; exact hz), fun q h1 h2 => by rw [e1, hk q (Nat.lt_of_lt_of_le h1 hS.1) (fun z => h2 (hA q z))]; exact hS.2.1 q h1 h2, fun q hq => by
        rcases List.mem_append.mp hq with h | h
        · exact hS.2.2 q h
        · exact hA _ (hL q h)⟩ T' rfl X'
    exact ⟨t2, st t2 a1, b1⟩
  · rw [h0] at hz hk
    obtain ⟨t2, a1, b1⟩ := kx E ce q T'.heap (locs ++ L) hp (by rw [e1]; exact hz) (fun q h1 => by rw [e1]; exact hk q h1)
      ⟨Nat.le_trans hS.1 (by rw [e1]; exact hz), fun q h1 h2 => by rw [e1, hk q (Nat.lt_of_lt_of_le h1 hS.1)]; exact hS.2.1 q h1 h2, fun q hq => by
        rcases List.mem_append.mp hq with h | h
        · exact hS.2.2 q h
        · exact hA _ (hL q h)⟩ (by rw [e1]; exact hce) hcv hcl T' rfl X'
    exact ⟨t2, st.trans a1, b1⟩
theorem pV_X {As : List Value} {σ : SG} {o : Nat → Int64} (hP : va_P D vwCl (wL cI cJ q σ o) H) (hK : va_K D vwCl [(cI, .int), (cJ, .long)] s) (hE : EN s) (hX : EX (adQ 13 q) s H) : PreV s H RX1 (q 0) (va_Pc (.ref (q 0) :: As) (PX D cI q σ)) As :=
  have hK1 : va_K D vwCl [(cI, .int)] s := hK.sub [0] rfl
  ⟨fun a U g mk h => ⟨h.1, ⟨h.2.1.1, va_K.moved (u := U) (U := U.calling g mk a) (Vm.Alike.refl U.vm) h.2.1.2.1, EN_call h.2.1.2.2⟩, EX_call (U := U) h.2.2⟩, va_recv hK1 (wL_G hP) (ci := 1) (q0 := 0) rfl rfl,
    fun U hU hW => ⟨rfl, ⟨by rw [hU]; exact wL_G hP, va_K.moved hW.alike hK1, EN_warm hW hE⟩, by show EX (adQ 12 q) U U.heap; rw [hU]; exact EX_narrow (EX_warm hW hX) (fun _ => ad12)⟩⟩
theorem lst_12 {σ : SG} {o : Nat → Int64} {x : Int64} (hx : p.tables.exec = Jvm.exec) (hb : c.code = cc) (hK : va_K D vwCl [(cI, .int), (cJ, .long)] s) (hP : va_P D vwCl (wL cI cJ q σ o) H) (hq : ijQ 13 q) (hS : va_S (adQ 13 q) H0 H locs) (hd : decode cc pc = .ok (.lastore, 1))
    (kk : ∀ (H1 : Heap) (locs1 : List Loc), va_P D vwCl (wL cI cJ q σ (vp_updL o 0 x)) H1 → va_S (adQ 13 q) H0 H1 locs1 → W p l e R s m args below meth c H1 locs1 cells slots Q (F0 m (pc + 1) ls rest)) : W p l e R s m args below meth c H locs cells slots Q (F0 m pc ls (.long x :: .int 0 :: .ref (q 12) :: rest)) :=
  va_last hx hb hK hP (dL hq) hS 12 1 rfl rfl (i := 0) (vp_in_nI (n := 0) (N := 1) (by decide) (by decide)) hd (fun H1 l1 h1 _ h3 => kk H1 l1 h1 h3)
end LB
section LO
variable {l : Launch} {y : MethodName} {ws ws' : List Cond} {rm : Room} {av : List Value} {maxL : Nat} {cc : ByteArray} {Pre : State → Prop} {A : Nat → Prop} {hh : List (Nat × Nat × Nat × Nat)}
theorem openL {φ : Option Value → Heap → Prop} (hy : plainName y.cls = true) (hw : ws = Cond.codeWith y cc maxL (some .int) hh :: ws') (hle : (lg_sl av).length ≤ maxL)
    (body : ∀ (p : Program) (e : Env) (s : State) (m : MethodId) (args : Array Value) (below : List Frame) (meth : Method) (c : Code), p.tables.exec = Jvm.exec → c.code = cc → c.maxLocals = maxL → (∀ w ∈ ws, w.before args s = true) → s.vm.findClass y.cls = some m.cls → c.exceptionTable.toList = tableOf hh → Pre s →
      ∀ (Q : State → Prop), (∀ (v : Int32) (pc : Nat) (ls : Array Slot) (H : Heap) (locs : List Loc), φ (some (.int v)) H → va_S A s.heap H locs → decode cc pc = .ok (.ireturn, 1) → W p l e rm s m args below meth c H locs (0 + 1) (0 + 6) Q (F0 m pc ls [.int v])) →
      ∀ ls : Array Slot, lv_has ls maxL (lv_args 0 av) → W p l e rm s m args below meth c s.heap [] 0 0 Q (F0 m 0 ls [])) : Met l y ws rm (va_Pc av Pre) (wQ A φ) 1 6 A := by
  refine MetFree.of_bodyS (code := cc) (maxLocals := maxL) (ret := some .int) hy ?_ ?_
  · intro args s m h hn
    obtain ⟨m9, meth, c, hn9, h1, h2, h3, h4, -, h5, h6, -⟩ := Cond.codeWith_spec (atoms_spec (ws := ws) h _ (by rw [hw]; exact List.mem_cons_self))
    cases hn.symm.trans hn9
    exact ⟨meth, c, h1, h2, h3, h4, h5, h6⟩
  · intro p e s m args below meth c s₁ B hml hv _
    obtain ⟨rfl, hpre⟩ := hv
    have hh0 : s₁.heap = s.heap := by rw [B.state]; rfl
    have hts := atoms_spec (ws := ws) B.pre
    have htab : c.exceptionTable.toList = tableOf hh := vx_table (x := y) B (hts _ (by rw [hw]; exact List.mem_cons_self))
    have hl := lv_entry av (n := maxL) hle
    have key : W p l e rm s m av.toArray below meth c s.heap [] 0 0 (MQ below (wQ A φ) av.toArray s 1 6 A) (entryFrame m av.toArray maxL) := by
      rw [lg_entry_eq]
      exact body p e s m _ below meth c B.exec B.bytes hml hts (findClass_of_methodNamed B.named) htab hpre _ (fun v pc ls H locs hφ hS hd => W.iret B.exec B.bytes B.returns (fun t ht hW => ⟨some (.int v), rfl, by rw [ht]; exact hφ, hS.F ht⟩) hS.2.2 hd B.notSynchronized) _ hl
    obtain ⟨t, a1, o, b1, b2, b3⟩ := key s₁ hh0 (Stand.of_body B)
    exact ⟨t, o, a1, b1, b2, ⟨b3.1, b3.2⟩⟩
end LO
