/-! the base: words for methods that only read (rQ), and for methods that write their own world (wQ); numbers and truth values on the stack -/
def bI : Bool → Int32 | true => 1 | false => 0
def nF (f : Nat → Nat) : Nat → Int32 := fun k => nI (f k)
def bF (f : Nat → Bool) : Nat → Int32 := fun k => bI (f k)
theorem upd_nF {f : Nat → Nat} {k x : Nat} : upd (nF f) k (nI x) = nF (va_up f k x) := by
  funext j
  by_cases h : j = k <;> simp [upd, nF, va_up, h]
theorem vnar_bI {b : Bool} : vp_nar .boolean (bI b) = bI b := by cases b <;> rfl
theorem nar_bI {b : Bool} : narrow .boolean (.int (bI b)) = .int (bI b) := by cases b <;> rfl
theorem upd_bF {f : Nat → Bool} {k : Nat} {x : Bool} : upd (bF f) k (vp_nar .boolean (bI x)) = bF (va_up f k x) := by
  rw [vnar_bI]
  funext j
  by_cases h : j = k <;> simp [upd, bF, va_up, h]
def noF : Nat → Prop := fun _ => False
def rQ (φ : Int32 → Prop) : Array Value → State → Outcome → State → Prop := fun _ st oc t => ∃ r : Int32, oc = .returned (some (.int r)) ∧ φ r ∧ t.heap = st.heap
def wQ (A : Nat → Prop) (φ : Option Value → Heap → Prop) : Array Value → State → Outcome → State → Prop := fun _ st oc t => ∃ v : Option Value, oc = .returned v ∧ φ v t.heap ∧ va_F A st t
theorem iincN (k : Nat) : nI k + Int32.ofInt 1 = nI (k + 1) := nI_1 k
theorem iincN4 (k : Nat) : nI k + Int32.ofInt 4 = nI (k + 4) := nI_add k 4
section MB
variable {p : Program} {l : Launch} {e : Env} {R : Room} {s : State} {m : MethodId} {args : Array Value} {below : List Frame} {meth : Method} {c : Code} {H H0 : Heap} {locs : List Loc} {cells slots : Nat} {Q : State → Prop}
variable {pc : Nat} {ls : Array Slot} {rest st0 : List Value} {a : Array Value} {cc : ByteArray}
theorem r_call {φ : Int32 → Prop} (hr : va_Run p l e R s m args below meth c H locs cells slots 0 0 (F0 m pc ls st0) rest (rQ φ a) noF)
    (kk : ∀ r : Int32, φ r → W p l e R s m args below meth c H locs cells slots Q (F0 m (pc + 3) ls (.int r :: rest))) : W p l e R s m args below meth c H locs cells slots Q (F0 m pc ls st0) := by
  intro T hT X
  obtain ⟨v, st₀, t, T', L, h0, X', hL, e1, e2, ⟨r, hv, hp, hh⟩, st⟩ := hr T hT X
  cases hv
  obtain ⟨t2, a1, b1⟩ := kk r hp T' (by rw [e1, hh, h0]) (Stand.forget X' (fun q h => (hL q h).elim))
  exact ⟨t2, st t2 a1, b1⟩
theorem r_callE {x : Int32} (hr : va_Run p l e R s m args below meth c H locs cells slots 0 0 (F0 m pc ls st0) rest (rQ (fun r => r = x) a) noF)
    (kk : W p l e R s m args below meth c H locs cells slots Q (F0 m (pc + 3) ls (.int x :: rest))) : W p l e R s m args below meth c H locs cells slots Q (F0 m pc ls st0) := r_call hr (fun r hr => by rw [hr]; exact kk)
theorem w_call {mc ms : Nat} {A1 A0 : Nat → Prop} {φ : Option Value → Heap → Prop} (hr : va_Run p l e R s m args below meth c H locs cells slots mc ms (F0 m pc ls st0) rest (wQ A1 φ a) A1) (hS : va_S A0 H0 H locs) (hA : ∀ q, A1 q → A0 q)
    (kk : ∀ (v : Option Value) (H1 : Heap) (locs1 : List Loc), φ v H1 → H.size ≤ H1.size → (∀ q : Nat, q < H.size → ¬ A1 q → H1[q]? = H[q]?) → va_S A0 H0 H1 locs1 → W p l e R s m args below meth c H1 locs1 (cells + mc) (slots + ms) Q (F0 m (pc + 3) ls (v.toList ++ rest))) : W p l e R s m args below meth c H locs cells slots Q (F0 m pc ls st0) := by
  intro T hT X
  obtain ⟨v, st₀, t, T', L, h0, X', hL, e1, e2, ⟨r, hv, hp, hz, hk⟩, st⟩ := hr T hT X
  cases hv
  rw [h0] at hz hk
  obtain ⟨t2, a1, b1⟩ := kk v T'.heap (locs ++ L) (by rw [e1]; exact hp) (by rw [e1]; exact hz) (fun q h1 h2 => by rw [e1]; exact hk q h1 h2)
    ⟨Nat.le_trans hS.1 (by rw [e1]; exact hz), fun q h1 h2 => by rw [e1, hk q (Nat.lt_of_lt_of_le h1 hS.1) (fun z => h2 (hA q z))]; exact hS.2.1 q h1 h2, fun q hq => by
      rcases List.mem_append.mp hq with h | h
      · exact hS.2.2 q h
      · exact hA _ (hL q h)⟩ T' rfl X'
  exact ⟨t2, st t2 a1, b1⟩
theorem lv_topE {x y : Int32} (h : x = y) (kk : W p l e R s m args below meth c H locs cells slots Q (F0 m pc ls (.int y :: rest))) : W p l e R s m args below meth c H locs cells slots Q (F0 m pc ls (.int x :: rest)) := by rw [h]; exact kk
theorem mulN {x y : Int32} (a b : Nat) (hx : p.tables.exec = Jvm.exec) (hb : c.code = cc) (h1 : x = nI a) (h2 : y = nI b) (hd : decode cc pc = .ok (.imul, 1)) (kk : W p l e R s m args below meth c H locs cells slots Q (F0 m (pc + 1) ls (.int (nI (a * b)) :: rest))) : W p l e R s m args below meth c H locs cells slots Q (F0 m pc ls (.int y :: .int x :: rest)) :=
  lv_imul hx hb hd (by rw [h1, h2, pk_mul]; exact kk)
theorem addN {x y : Int32} (a b : Nat) (hx : p.tables.exec = Jvm.exec) (hb : c.code = cc) (h1 : x = nI a) (h2 : y = nI b) (hd : decode cc pc = .ok (.iadd, 1)) (kk : W p l e R s m args below meth c H locs cells slots Q (F0 m (pc + 1) ls (.int (nI (a + b)) :: rest))) : W p l e R s m args below meth c H locs cells slots Q (F0 m pc ls (.int y :: .int x :: rest)) :=
  lv_iadd hx hb hd (by rw [h1, h2, nI_add]; exact kk)
theorem mulNc {x y : Int32} (a b : Nat) (hx : p.tables.exec = Jvm.exec) (hb : c.code = cc) (h1 : x = nI a) (h2 : y = nI b) (hd : decode cc pc = .ok (.imul, 1)) (kk : W p l e R s m args below meth c H locs cells slots Q (F0 m (pc + 1) ls (.int (nI (b * a)) :: rest))) : W p l e R s m args below meth c H locs cells slots Q (F0 m pc ls (.int y :: .int x :: rest)) :=
  lv_imul hx hb hd (by rw [h1, h2, pk_mul, Nat.mul_comm]; exact kk)
theorem subN {x y : Int32} (a b : Nat) (hx : p.tables.exec = Jvm.exec) (hb : c.code = cc) (h1 : x = nI a) (h2 : y = nI b) (h : b ≤ a) (hd : decode cc pc = .ok (.isub, 1)) (kk : W p l e R s m args below meth c H locs cells slots Q (F0 m (pc + 1) ls (.int (nI (a - b)) :: rest))) : W p l e R s m args below meth c H locs cells slots Q (F0 m pc ls (.int y :: .int x :: rest)) :=
  lv_isub hx hb hd (by rw [h1, h2, pk_sub h]; exact kk)
theorem eqB {x : Int32} (b : Bool) (hx : p.tables.exec = Jvm.exec) (hb : c.code = cc) (h : x = bI b) {off : Int} {tgt : Nat} (hd : decode cc pc = .ok (.ifCond .eq off, 3)) (ht : (pc : Int) + off = (tgt : Int)) (kt : b = false → W p l e R s m args below meth c H locs cells slots Q (F0 m tgt ls rest)) (kf : b = true → W p l e R s m args below meth c H locs cells slots Q (F0 m (pc + 3) ls rest)) : W p l e R s m args below meth c H locs cells slots Q (F0 m pc ls (.int x :: rest)) := by
  subst h
  refine lv_if_eq hx hb hd ht (fun q => kt ?_) (fun q => kf ?_) <;> (cases b <;> first | rfl | exact absurd rfl q | exact absurd q (by decide))
theorem neB {x : Int32} (b : Bool) (hx : p.tables.exec = Jvm.exec) (hb : c.code = cc) (h : x = bI b) {off : Int} {tgt : Nat} (hd : decode cc pc = .ok (.ifCond .ne off, 3)) (ht : (pc : Int) + off = (tgt : Int)) (kt : b = true → W p l e R s m args below meth c H locs cells slots Q (F0 m tgt ls rest)) (kf : b = false → W p l e R s m args below meth c H locs cells slots Q (F0 m (pc + 3) ls rest)) : W p l e R s m args below meth c H locs cells slots Q (F0 m pc ls (.int x :: rest)) := by
  subst h
  refine lv_if_ne hx hb hd ht (fun q => kt ?_) (fun q => kf ?_) <;> (cases b <;> first | rfl | exact absurd rfl q | exact absurd q (by decide))
theorem geN {x y : Int32} (a b : Nat) (hx : p.tables.exec = Jvm.exec) (hb : c.code = cc) (h1 : x = nI a) (h2 : y = nI b) (ha : a < 2 ^ 31) (hb2 : b < 2 ^ 31) {off : Int} {tgt : Nat} (hd : decode cc pc = .ok (.if_icmp .ge off, 3)) (ht : (pc : Int) + off = (tgt : Int)) (kt : b ≤ a → W p l e R s m args below meth c H locs cells slots Q (F0 m tgt ls rest)) (kf : a < b → W p l e R s m args below meth c H locs cells slots Q (F0 m (pc + 3) ls rest)) : W p l e R s m args below meth c H locs cells slots Q (F0 m pc ls (.int y :: .int x :: rest)) := by
  subst h1; subst h2
  exact lv_icmp_ge hx hb hd ht (fun q => kt ((nI_leI hb2 ha).mp q)) (fun q => kf (Nat.lt_of_not_le (fun z => q ((nI_leI hb2 ha).mpr z))))
theorem gtN {x y : Int32} (a b : Nat) (hx : p.tables.exec = Jvm.exec) (hb : c.code = cc) (h1 : x = nI a) (h2 : y = nI b) (ha : a < 2 ^ 31) (hb2 : b < 2 ^ 31) {off : Int} {tgt : Nat} (hd : decode cc pc = .ok (.if_icmp .gt off, 3)) (ht : (pc : Int) + off = (tgt : Int)) (kt : b < a → W p l e R s m args below meth c H locs cells slots Q (F0 m tgt ls rest)) (kf : a ≤ b → W p l e R s m args below meth c H locs cells slots Q (F0 m (pc + 3) ls rest)) : W p l e R s m args below meth c H locs cells slots Q (F0 m pc ls (.int y :: .int x :: rest)) := by
  subst h1; subst h2
  exact lv_icmp_gt hx hb hd ht (fun q => kt ((nI_ltI hb2 ha).mp q)) (fun q => kf (Nat.le_of_not_lt (fun z => q ((nI_ltI hb2 ha).mpr z))))
theorem ltN {x y : Int32} (a b : Nat) (hx : p.tables.exec = Jvm.exec) (hb : c.code = cc) (h1 : x = nI a) (h2 : y = nI b) (ha : a < 2 ^ 31) (hb2 : b < 2 ^ 31) {off : Int} {tgt : Nat} (hd : decode cc pc = .ok (.if_icmp .lt off, 3)) (ht : (pc : Int) + off = (tgt : Int)) (kt : a < b → W p l e R s m args below meth c H locs cells slots Q (F0 m tgt ls rest)) (kf : b ≤ a → W p l e R s m args below meth c H locs cells slots Q (F0 m (pc + 3) ls rest)) : W p l e R s m args below meth c H locs cells slots Q (F0 m pc ls (.int y :: .int x :: rest)) := by
  subst h1; subst h2
  exact lv_icmp_lt hx hb hd ht (fun q => kt ((nI_ltI ha hb2).mp q)) (fun q => kf (Nat.le_of_not_lt (fun z => q ((nI_ltI ha hb2).mpr z))))
theorem leN {x y : Int32} (a b : Nat) (hx : p.tables.exec = Jvm.exec) (hb : c.code = cc) (h1 : x = nI a) (h2 : y = nI b) (ha : a < 2 ^ 31) (hb2 : b < 2 ^ 31) {off : Int} {tgt : Nat} (hd : decode cc pc = .ok (.if_icmp .le off, 3)) (ht : (pc : Int) + off = (tgt : Int)) (kt : a ≤ b → W p l e R s m args below meth c H locs cells slots Q (F0 m tgt ls rest)) (kf : b < a → W p l e R s m args below meth c H locs cells slots Q (F0 m (pc + 3) ls rest)) : W p l e R s m args below meth c H locs cells slots Q (F0 m pc ls (.int y :: .int x :: rest)) := by
  subst h1; subst h2
  exact lv_icmp_le hx hb hd ht (fun q => kt ((nI_leI ha hb2).mp q)) (fun q => kf (Nat.lt_of_not_le (fun z => q ((nI_leI ha hb2).mpr z))))
theorem neN {x y : Int32} (a b : Nat) (hx : p.tables.exec = Jvm.exec) (hb : c.code = cc) (h1 : x = nI a) (h2 : y = nI b) (ha : a < 2 ^ 31) (hb2 : b < 2 ^ 31) {off : Int} {tgt : Nat} (hd : decode cc pc = .ok (.if_icmp .ne off, 3)) (ht : (pc : Int) + off = (tgt : Int)) (kt : ¬ a = b → W p l e R s m args below meth c H locs cells slots Q (F0 m tgt ls rest)) (kf : a = b → W p l e R s m args below meth c H locs cells slots Q (F0 m (pc + 3) ls rest)) : W p l e R s m args below meth c H locs cells slots Q (F0 m pc ls (.int y :: .int x :: rest)) := by
  subst h1; subst h2
  exact lv_icmp_ne hx hb hd ht (fun q => kt (fun z => q ((nI_eq ha hb2).mpr z))) (fun q => kf ((nI_eq ha hb2).mp q))
theorem eqN {x y : Int32} (a b : Nat) (hx : p.tables.exec = Jvm.exec) (hb : c.code = cc) (h1 : x = nI a) (h2 : y = nI b) (ha : a < 2 ^ 31) (hb2 : b < 2 ^ 31) {off : Int} {tgt : Nat} (hd : decode cc pc = .ok (.if_icmp .eq off, 3)) (ht : (pc : Int) + off = (tgt : Int)) (kt : a = b → W p l e R s m args below meth c H locs cells slots Q (F0 m tgt ls rest)) (kf : ¬ a = b → W p l e R s m args below meth c H locs cells slots Q (F0 m (pc + 3) ls rest)) : W p l e R s m args below meth c H locs cells slots Q (F0 m pc ls (.int y :: .int x :: rest)) := by
  subst h1; subst h2
  exact lv_icmp_eq hx hb hd ht (fun q => kt ((nI_eq ha hb2).mp q)) (fun q => kf (fun z => q ((nI_eq ha hb2).mpr z)))
theorem neZN {x : Int32} (a : Nat) (hx : p.tables.exec = Jvm.exec) (hb : c.code = cc) (h1 : x = nI a) (ha : a < 2 ^ 31) {off : Int} {tgt : Nat} (hd : decode cc pc = .ok (.ifCond .ne off, 3)) (ht : (pc : Int) + off = (tgt : Int)) (kt : ¬ a = 0 → W p l e R s m args below meth c H locs cells slots Q (F0 m tgt ls rest)) (kf : a = 0 → W p l e R s m args below meth c H locs cells slots Q (F0 m (pc + 3) ls rest)) : W p l e R s m args below meth c H locs cells slots Q (F0 m pc ls (.int x :: rest)) := by
  subst h1
  exact lv_if_ne hx hb hd ht (fun q => kt (fun z => q (by rw [z]; rfl))) (fun q => kf ((nI_eq ha (by decide)).mp q))
theorem leZN {x : Int32} (a : Nat) (hx : p.tables.exec = Jvm.exec) (hb : c.code = cc) (h1 : x = nI a) (ha : a < 2 ^ 31) {off : Int} {tgt : Nat} (hd : decode cc pc = .ok (.ifCond .le off, 3)) (ht : (pc : Int) + off = (tgt : Int)) (kt : a = 0 → W p l e R s m args below meth c H locs cells slots Q (F0 m tgt ls rest)) (kf : 0 < a → W p l e R s m args below meth c H locs cells slots Q (F0 m (pc + 3) ls rest)) : W p l e R s m args below meth c H locs cells slots Q (F0 m pc ls (.int x :: rest)) := by
  subst h1
  exact lv_if_le hx hb hd ht (fun q => kt (Nat.le_zero.mp ((nI_leI ha (by decide)).mp q))) (fun q => kf (Nat.pos_of_ne_zero (fun z => q (by rw [z]; exact Int32.le_refl _))))
theorem cutI {x : Int32} {pcM : Nat} {st : List Value} (J : W p l e R s m args below meth c H locs cells slots Q (F0 m pcM ls (.int x :: st))) (k : (∀ y : Int32, y = x → W p l e R s m args below meth c H locs cells slots Q (F0 m pcM ls (.int y :: st))) → W p l e R s m args below meth c H locs cells slots Q (F0 m pc ls st0)) : W p l e R s m args below meth c H locs cells slots Q (F0 m pc ls st0) := k (fun y hy => by rw [hy]; exact J)
theorem loopW {N k0 : Nat} (I : Nat → Array Slot → Prop) {ls0 : Array Slot} (h0 : k0 ≤ N) (hI : I k0 ls0)
    (step : ∀ (k : Nat) (ls : Array Slot), k ≤ N → I k ls → (k < N → ∀ ls' : Array Slot, I (k + 1) ls' → W p l e R s m args below meth c H locs cells slots Q (F0 m pc ls' rest)) → W p l e R s m args below meth c H locs cells slots Q (F0 m pc ls rest)) : W p l e R s m args below meth c H locs cells slots Q (F0 m pc ls0 rest) := by
  have key : ∀ (d k : Nat) (ls : Array Slot), N + 1 ≤ k + d → k ≤ N → I k ls → W p l e R s m args below meth c H locs cells slots Q (F0 m pc ls rest) := by
    intro d
    induction d with
    | zero => intro k ls h1 h2; omega
    | succ d ih => intro k ls h1 h2 h3; exact step k ls h2 h3 (fun hlt ls' h4 => ih (k + 1) ls' (by omega) hlt h4)
  exact key (N + 1) k0 ls0 (by omega) h0 hI
theorem loopH {N k0 : Nat} (I : Nat → Array Slot → Heap → List Loc → Prop) {ls0 : Array Slot} (h0 : k0 ≤ N) (hI : I k0 ls0 H locs)
    (step : ∀ (k : Nat) (ls : Array Slot) (H : Heap) (locs : List Loc), k ≤ N → I k ls H locs → (k < N → ∀ (ls' : Array Slot) (H' : Heap) (locs' : List Loc), I (k + 1) ls' H' locs' → W p l e R s m args below meth c H' locs' cells slots Q (F0 m pc ls' rest)) → W p l e R s m args below meth c H locs cells slots Q (F0 m pc ls rest)) : W p l e R s m args below meth c H locs cells slots Q (F0 m pc ls0 rest) := by
  have key : ∀ (d k : Nat) (ls : Array Slot) (H : Heap) (locs : List Loc), N + 1 ≤ k + d → k ≤ N → I k ls H locs → W p l e R s m args below meth c H locs cells slots Q (F0 m pc ls rest) := by
    intro d
    induction d with
    | zero => intro k ls H locs h1 h2; omega
    | succ d ih => intro k ls H locs h1 h2 h3; exact step k ls H locs h2 h3 (fun hlt ls' H' locs' h4 => ih (k + 1) ls' H' locs' (by omega) hlt h4)
  exact key (N + 1) k0 ls0 H locs (by omega) h0 hI
/-- a loop whose measure falls -/
theorem loopM {S : Type} (I : S → Array Slot → Prop) (μ : S → Nat) (x0 : S) {ls0 : Array Slot} (hI : I x0 ls0)
    (step : ∀ (x : S) (ls : Array Slot), I x ls → (∀ (x' : S) (ls' : Array Slot), μ x' < μ x → I x' ls' → W p l e R s m args below meth c H locs cells slots Q (F0 m pc ls' rest)) → W p l e R s m args below meth c H locs cells slots Q (F0 m pc ls rest)) : W p l e R s m args below meth c H locs cells slots Q (F0 m pc ls0 rest) := by
  have key : ∀ (d : Nat) (x : S) (ls : Array Slot), μ x < d → I x ls → W p l e R s m args below meth c H locs cells slots Q (F0 m pc ls rest) := by
    intro d
    induction d with
    | zero => intro x ls h1; omega
    | succ d ih => intro x ls h1 h3; exact step x ls h3 (fun x' ls' h4 h5 => ih x' ls' (by omega) h5)
  exact key (μ x0 + 1) x0 ls0 (Nat.lt_succ_self _) hI
end MB
section OP
variable {l : Launch} {y : MethodName} {ws ws' : List Cond} {rm : Room} {av : List Value} {maxL : Nat} {cc : ByteArray} {Pre : State → Prop} {A : Nat → Prop}
theorem openR {φ : Int32 → Prop} (hy : plainName y.cls = true) (hw : ws = Cond.code y cc maxL (some .int) :: ws') (hle : (lg_sl av).length ≤ maxL)
    (body : ∀ (p : Program) (e : Env) (s : State) (m : MethodId) (args : Array Value) (below : List Frame) (meth : Method) (c : Code), p.tables.exec = Jvm.exec → c.code = cc → c.maxLocals = maxL → (∀ w ∈ ws, w.before args s = true) → s.vm.findClass y.cls = some m.cls → Pre s →
      ∀ (Q : State → Prop), (∀ (v : Int32) (pc : Nat) (ls : Array Slot), φ v → decode cc pc = .ok (.ireturn, 1) → W p l e rm s m args below meth c s.heap [] 0 0 Q (F0 m pc ls [.int v])) →
      ∀ ls : Array Slot, lv_has ls maxL (lv_args 0 av) → W p l e rm s m args below meth c s.heap [] 0 0 Q (F0 m 0 ls [])) : Met l y ws rm (va_Pc av Pre) (rQ φ) 0 0 noF := by
  refine Met.ofW hy hw ?_
  intro p e s m args below meth c s₁ B hml hv
  obtain ⟨rfl, hpre⟩ := hv
  have hl := lv_entry av (n := maxL) hle
  rw [lg_entry_eq]
  exact body p e s m _ below meth c B.exec B.bytes hml (atoms_spec (ws := ws) B.pre) (findClass_of_methodNamed B.named) hpre _ (fun v pc ls hφ hd => W.iret B.exec B.bytes B.returns (fun t ht hW => ⟨v, rfl, hφ, ht⟩) (by intro q h; cases h) hd B.notSynchronized) _ hl
theorem openZ {φ : Int32 → Prop} (hy : plainName y.cls = true) (hw : ws = Cond.code y cc maxL (some .boolean) :: ws') (hle : (lg_sl av).length ≤ maxL)
    (body : ∀ (p : Program) (e : Env) (s : State) (m : MethodId) (args : Array Value) (below : List Frame) (meth : Method) (c : Code), p.tables.exec = Jvm.exec → c.code = cc → c.maxLocals = maxL → (∀ w ∈ ws, w.before args s = true) → s.vm.findClass y.cls = some m.cls → Pre s →
      ∀ (Q : State → Prop), (∀ (b : Bool) (pc : Nat) (ls : Array Slot), φ (bI b) → decode cc pc = .ok (.ireturn, 1) → W p l e rm s m args below meth c s.heap [] 0 0 Q (F0 m pc ls [.int (bI b)])) →
      ∀ ls : Array Slot, lv_has ls maxL (lv_args 0 av) → W p l e rm s m args below meth c s.heap [] 0 0 Q (F0 m 0 ls [])) : Met l y ws rm (va_Pc av Pre) (rQ φ) 0 0 noF := by
  refine Met.ofW hy hw ?_
  intro p e s m args below meth c s₁ B hml hv
  obtain ⟨rfl, hpre⟩ := hv
  have hl := lv_entry av (n := maxL) hle
  rw [lg_entry_eq]
  exact body p e s m _ below meth c B.exec B.bytes hml (atoms_spec (ws := ws) B.pre) (findClass_of_methodNamed B.named) hpre _ (fun b pc ls hφ hd => W.zret B.exec B.bytes B.returns nar_bI (fun t ht hW => ⟨bI b, rfl, hφ, ht⟩) (by intro q h; cases h) hd B.notSynchronized) _ hl
theorem openW {φ : Option Value → Heap → Prop} (hy : plainName y.cls = true) (hw : ws = Cond.code y cc maxL (some .int) :: ws') (hle : (lg_sl av).length ≤ maxL)
    (body : ∀ (p : Program) (e : Env) (s : State) (m : MethodId) (args : Array Value) (below : List Frame) (meth : Method) (c : Code), p.tables.exec = Jvm.exec → c.code = cc → c.maxLocals = maxL → (∀ w ∈ ws, w.before args s = true) → s.vm.findClass y.cls = some m.cls → Pre s →
      ∀ (Q : State → Prop), (∀ (v : Int32) (pc : Nat) (ls : Array Slot) (H : Heap) (locs : List Loc), φ (some (.int v)) H → va_S A s.heap H locs → decode cc pc = .ok (.ireturn, 1) → W p l e rm s m args below meth c H locs 0 0 Q (F0 m pc ls [.int v])) →
      ∀ ls : Array Slot, lv_has ls maxL (lv_args 0 av) → W p l e rm s m args below meth c s.heap [] 0 0 Q (F0 m 0 ls [])) : Met l y ws rm (va_Pc av Pre) (wQ A φ) 0 0 A := by
  refine Met.ofW hy hw ?_
  intro p e s m args below meth c s₁ B hml hv
  obtain ⟨rfl, hpre⟩ := hv
  have hl := lv_entry av (n := maxL) hle
  rw [lg_entry_eq]
  exact body p e s m _ below meth c B.exec B.bytes hml (atoms_spec (ws := ws) B.pre) (findClass_of_methodNamed B.named) hpre _ (fun v pc ls H locs hφ hS hd => W.iret B.exec B.bytes B.returns (fun t ht hW => ⟨some (.int v), rfl, by rw [ht]; exact hφ, hS.F ht⟩) hS.2.2 hd B.notSynchronized) _ hl
theorem openY {φ : Option Value → Heap → Prop} (hy : plainName y.cls = true) (hw : ws = Cond.code y cc maxL (some .boolean) :: ws') (hle : (lg_sl av).length ≤ maxL)
    (body : ∀ (p : Program) (e : Env) (s : State) (m : MethodId) (args : Array Value) (below : List Frame) (meth : Method) (c : Code), p.tables.exec = Jvm.exec → c.code = cc → c.maxLocals = maxL → (∀ w ∈ ws, w.before args s = true) → s.vm.findClass y.cls = some m.cls → Pre s →
      ∀ (Q : State → Prop), (∀ (b : Bool) (pc : Nat) (ls : Array Slot) (H : Heap) (locs : List Loc), φ (some (.int (bI b))) H → va_S A s.heap H locs → decode cc pc = .ok (.ireturn, 1) → W p l e rm s m args below meth c H locs 0 0 Q (F0 m pc ls [.int (bI b)])) →
      ∀ ls : Array Slot, lv_has ls maxL (lv_args 0 av) → W p l e rm s m args below meth c s.heap [] 0 0 Q (F0 m 0 ls [])) : Met l y ws rm (va_Pc av Pre) (wQ A φ) 0 0 A := by
  refine Met.ofW hy hw ?_
  intro p e s m args below meth c s₁ B hml hv
  obtain ⟨rfl, hpre⟩ := hv
  have hl := lv_entry av (n := maxL) hle
  rw [lg_entry_eq]
  exact body p e s m _ below meth c B.exec B.bytes hml (atoms_spec (ws := ws) B.pre) (findClass_of_methodNamed B.named) hpre _ (fun b pc ls H locs hφ hS hd => W.zret B.exec B.bytes B.returns nar_bI (fun t ht hW => ⟨some (.int (bI b)), rfl, by rw [ht]; exact hφ, hS.F ht⟩) hS.2.2 hd B.notSynchronized) _ hl
theorem openV {φ : Option Value → Heap → Prop} (hy : plainName y.cls = true) (hw : ws = Cond.code y cc maxL none :: ws') (hle : (lg_sl av).length ≤ maxL)
    (body : ∀ (p : Program) (e : Env) (s : State) (m : MethodId) (args : Array Value) (below : List Frame) (meth : Method) (c : Code), p.tables.exec = Jvm.exec → c.code = cc → c.maxLocals = maxL → (∀ w ∈ ws, w.before args s = true) → s.vm.findClass y.cls = some m.cls → Pre s →
      ∀ (Q : State → Prop), (∀ (pc : Nat) (ls : Array Slot) (H : Heap) (locs : List Loc), φ none H → va_S A s.heap H locs → decode cc pc = .ok (.return_, 1) → W p l e rm s m args below meth c H locs 0 0 Q (F0 m pc ls [])) →
      ∀ ls : Array Slot, lv_has ls maxL (lv_args 0 av) → W p l e rm s m args below meth c s.heap [] 0 0 Q (F0 m 0 ls [])) : Met l y ws rm (va_Pc av Pre) (wQ A φ) 0 0 A := by
  refine Met.ofW hy hw ?_
  intro p e s m args below meth c s₁ B hml hv
  obtain ⟨rfl, hpre⟩ := hv
  have hl := lv_entry av (n := maxL) hle
  rw [lg_entry_eq]
  exact body p e s m _ below meth c B.exec B.bytes hml (atoms_spec (ws := ws) B.pre) (findClass_of_methodNamed B.named) hpre _ (fun pc ls H locs hφ hS hd => W.vret B.exec B.bytes B.returns (fun t ht hW => ⟨none, rfl, by rw [ht]; exact hφ, hS.F ht⟩) hS.2.2 hd B.notSynchronized) _ hl
end OP
