/-! the law's loop: its world, its context, a case each -/
def wA (cI cZ cJ : ClassId) (Z : Nat → Nat) (σ : SG) (τ : SM) (o : Nat → Int64) : va_W := wL cI cJ Z σ o ++ wM cI cZ (fun k => Z (13 + k)) τ
abbrev tyA (cI cZ cJ : ClassId) : List (ClassId × FieldType) := [(cI, .int), (cZ, .boolean), (cJ, .long)]
theorem wA_L {D : va_G} {cI cZ cJ : ClassId} {Z : Nat → Nat} {σ : SG} {τ : SM} {o : Nat → Int64} {H : Heap} (h : va_P D vwCl (wA cI cZ cJ Z σ τ o) H) : va_P D vwCl (wL cI cJ Z σ o) H := fun k p hk => h k p (by rw [wA, List.getElem?_append_left (by exact (List.getElem?_eq_some_iff.mp hk).1)]; exact hk)
theorem wA_M {D : va_G} {cI cZ cJ : ClassId} {Z : Nat → Nat} {σ : SG} {τ : SM} {o : Nat → Int64} {H : Heap} (h : va_P D vwCl (wA cI cZ cJ Z σ τ o) H) : va_P D vwCl (wM cI cZ (fun k => Z (13 + k)) τ) H := fun k p hk => h (13 + k) p (by
  rw [wA, List.getElem?_append_right (by show 13 ≤ 13 + k; omega)]
  show (wM cI cZ (fun k => Z (13 + k)) τ)[13 + k - 13]? = some p
  rw [show 13 + k - 13 = k by omega]; exact hk)
theorem wA_mk {D : va_G} {cI cZ cJ : ClassId} {Z : Nat → Nat} {σ : SG} {τ : SM} {o : Nat → Int64} {H : Heap} (h1 : va_P D vwCl (wL cI cJ Z σ o) H) (h2 : va_P D vwCl (wM cI cZ (fun k => Z (13 + k)) τ) H) : va_P D vwCl (wA cI cZ cJ Z σ τ o) H := va_P.app h1 h2
theorem adr_L {cI cJ : ClassId} {Z : Nat → Nat} {σ : SG} {o : Nat → Int64} {k : Nat} {p : Nat × va_E} (h : (wL cI cJ Z σ o)[k]? = some p) : k < 13 ∧ p.1 = Z k := by
  have h1 : ((wL cI cJ Z σ o).map Prod.fst)[k]? = some p.1 := by rw [List.getElem?_map, h]; rfl
  rw [show (wL cI cJ Z σ o).map Prod.fst = (List.range 13).map Z from rfl, List.getElem?_map] at h1
  by_cases hlt : k < 13
  · rw [List.getElem?_range hlt] at h1
    exact ⟨hlt, (Option.some.inj h1).symm⟩
  · rw [List.getElem?_eq_none (by simp; omega)] at h1
    cases h1
theorem adr_M {cI cZ : ClassId} {q : Nat → Nat} {τ : SM} {k : Nat} {p : Nat × va_E} (h : (wM cI cZ q τ)[k]? = some p) : k < 20 ∧ p.1 = q k := by
  have h1 : ((wM cI cZ q τ).map Prod.fst)[k]? = some p.1 := by rw [List.getElem?_map, h]; rfl
  rw [show (wM cI cZ q τ).map Prod.fst = (List.range 20).map q from rfl, List.getElem?_map] at h1
  by_cases hlt : k < 20
  · rw [List.getElem?_range hlt] at h1
    exact ⟨hlt, (Option.some.inj h1).symm⟩
  · rw [List.getElem?_eq_none (by simp; omega)] at h1
    cases h1
theorem wA_callL {D : va_G} {cI cZ cJ : ClassId} {Z : Nat → Nat} {σ σ' : SG} {τ : SM} {o o' : Nat → Int64} {H H1 : Heap} (hZ : ijQ 33 Z) (h : va_P D vwCl (wA cI cZ cJ Z σ τ o) H) (h1 : va_P D vwCl (wL cI cJ Z σ' o') H1) (hk : ∀ a : Nat, a < H.size → ¬ adQ 13 Z a → H1[a]? = H[a]?) : va_P D vwCl (wA cI cZ cJ Z σ' τ o') H1 :=
  wA_mk h1 ((wA_M h).kept (fun k p hp => hk _ ((wA_M h) k p hp).lt (fun ⟨j, h2, h3⟩ => by
    obtain ⟨h4, h5⟩ := adr_M hp
    have := hZ (13 + k) j (by omega) (by omega) (h5.symm.trans h3)
    omega)))
theorem wA_callM {D : va_G} {cI cZ cJ : ClassId} {Z : Nat → Nat} {σ : SG} {τ τ' : SM} {o : Nat → Int64} {H H1 : Heap} (hZ : ijQ 33 Z) (h : va_P D vwCl (wA cI cZ cJ Z σ τ o) H) (h1 : va_P D vwCl (wM cI cZ (fun k => Z (13 + k)) τ') H1) (hk : ∀ a : Nat, a < H.size → ¬ adQ 20 (fun k => Z (13 + k)) a → H1[a]? = H[a]?) : va_P D vwCl (wA cI cZ cJ Z σ τ' o) H1 :=
  wA_mk ((wA_L h).kept (fun k p hp => hk _ ((wA_L h) k p hp).lt (fun ⟨j, h2, h3⟩ => by
    obtain ⟨h4, h5⟩ := adr_L hp
    have := hZ k (13 + j) (by omega) (by omega) (h5.symm.trans h3)
    omega))) h1
theorem ijL {Z : Nat → Nat} (hZ : ijQ 33 Z) : ijQ 13 Z := fun i j hi hj h => hZ i j (by omega) (by omega) h
theorem ijM {Z : Nat → Nat} (hZ : ijQ 33 Z) : ijQ 20 (fun k => Z (13 + k)) := fun i j hi hj h => by have := hZ (13 + i) (13 + j) (by omega) (by omega) h; omega
/-- what stays all through the loop -/
def LC (p : Program) (s : State) (m : MethodId) (c : Code) (b L : Nat) (xs : Nat → Int32) (D : va_G) (cI cZ cJ : ClassId) (Z : Nat → Nat) : Prop :=
  p.tables.exec = Jvm.exec ∧ c.code = cL_law ∧ c.maxLocals = 7 ∧ s.vm.findClass RL = some m.cls ∧ (∀ w ∈ wsL_law, w.before #[Value.ref b] s = true) ∧ va_X b L xs s s.heap ∧ b < s.heap.size ∧ ijQ 33 Z ∧ (∀ k, k < 33 → s.heap.size ≤ Z k) ∧ va_K D vwCl (tyA cI cZ cJ) s ∧ EN s ∧ NC s ∧ EX (fun a : Nat => s.heap.size ≤ a) s s.heap
def fxG (σ : SG) : Prop := okG σ ∧ ∀ P, gN σ ≤ P → gLen σ P = 0
def fxM (τ : SM) : Prop := okM τ ∧ othM τ ∧ (∀ P, mN τ ≤ P → mMan τ P = 0) ∧ (∀ P O, cjF τ P O = true → mGor τ < 14) ∧ (∀ r i, 7 ≤ i → i < 32 → bt (mCop τ r) i = false)
/-- one call keeps the relation, and both answer alike -/
def stepI (Rel : SG → SM → Prop) (c : SG → Nat × Int32 × SG) (m : SM → Int32 × SM) (k : Nat → Nat) : Prop :=
  ∀ σ τ, Rel σ τ → nI (k (c σ).1) = mThr (m τ).2 ∧ k (c σ).1 < 4 ∧ (k (c σ).1 = 0 → (c σ).1 = 0) ∧ ((c σ).1 = 0 → (c σ).2.1 = (m τ).1) ∧ Rel (c σ).2.2 (m τ).2
def stepB (Rel : SG → SM → Prop) (c : SG → Nat × Bool × SG) (m : SM → Bool × SM) (k : Nat → Nat) : Prop :=
  ∀ σ τ, Rel σ τ → nI (k (c σ).1) = mThr (m τ).2 ∧ k (c σ).1 < 4 ∧ (k (c σ).1 = 0 → (c σ).1 = 0) ∧ ((c σ).1 = 0 → (c σ).2.1 = (m τ).1) ∧ Rel (c σ).2.2 (m τ).2
theorem cmp_eq {x y : Int64} (h : x = y) : lg_cmp x y = 0 := by subst h; simp [lg_cmp]
section LLB
variable {p : Program} {l : Launch} {e : Env} {R : Room} {s : State} {m : MethodId} {args : Array Value} {below : List Frame} {meth : Method} {c : Code} {H H0 : Heap} {locs : List Loc} {cells slots : Nat} {Q : State → Prop}
variable {pc : Nat} {ls : Array Slot} {rest st0 : List Value} {a : Array Value} {cc : ByteArray} {D : va_G} {cI cZ cJ : ClassId} {Z : Nat → Nat}
theorem pS_L {As : List Value} {σ : SG} {τ : SM} {o : Nat → Int64} (hP : va_P D vwCl (wA cI cZ cJ Z σ τ o) H) (hK : va_K D vwCl (tyA cI cZ cJ) s) (hE : EN s) (hN : NC s) (hX : EX (adQ 13 Z) s H) : PreS s H (va_Pc As (PL D cI cJ Z σ o)) As :=
  have hK1 : va_K D vwCl [(cI, .int), (cJ, .long)] s := hK.sub [0, 2] rfl
  ⟨fun a U g mk h => ⟨h.1, h.2.1, va_K.moved (u := U) (U := U.calling g mk a) (Vm.Alike.refl U.vm) h.2.2.1, EN_call h.2.2.2.1, EX_call (U := U) h.2.2.2.2.1, NC_moved (s := U) (Vm.Alike.refl U.vm) h.2.2.2.2.2⟩,
    fun U hU hW => ⟨rfl, by rw [hU]; exact wA_L hP, va_K.moved hW.alike hK1, EN_warm hW hE, by show EX _ U U.heap; rw [hU]; exact EX_warm hW hX, NC_moved hW.alike hN⟩⟩
theorem pV_A {As : List Value} {σ : SG} {τ : SM} {o : Nat → Int64} (hP : va_P D vwCl (wA cI cZ cJ Z σ τ o) H) (hK : va_K D vwCl (tyA cI cZ cJ) s) : PreV s H RX2 (Z 13) (va_Pc (.ref (Z 13) :: As) (PM D cI cZ (fun k => Z (13 + k)) τ)) As :=
  have hK1 : va_K D vwCl [(cI, .int), (cZ, .boolean)] s := hK.sub [0, 1] rfl
  ⟨bl_M, va_recv hK1 (wA_M hP) (ci := 2) (q0 := 0) rfl rfl, fun U hU hW => ⟨rfl, by rw [hU]; exact wA_M hP, va_K.moved hW.alike hK1⟩⟩
theorem lld_12 {σ : SG} {τ : SM} {o : Nat → Int64} (hx : p.tables.exec = Jvm.exec) (hb : c.code = cc) (hK : va_K D vwCl (tyA cI cZ cJ) s) (hP : va_P D vwCl (wA cI cZ cJ Z σ τ o) H) (hd : decode cc pc = .ok (.laload, 1)) (kk : W p l e R s m args below meth c H locs cells slots Q (F0 m (pc + 1) ls (.long (o 0) :: rest))) : W p l e R s m args below meth c H locs cells slots Q (F0 m pc ls (.int 0 :: .ref (Z 12) :: rest)) :=
  va_lald hx hb hK (wA_L hP) 12 2 rfl rfl (i := 0) (vp_in_nI (n := 0) (N := 1) (by decide) (by decide)) hd kk
theorem lrd {b L i : Nat} {xs : Nat → Int32} {A : Nat → Prop} {ix : Int32} (hx : p.tables.exec = Jvm.exec) (hb : c.code = cc) (hX : va_X b L xs s H0) (hbl : b < H0.size) (hbA : ¬ A b) (hS : va_S A H0 H locs) (he : ix = nI i) (hi : i < L) (hL : L ≤ 2048) (hd : decode cc pc = .ok (.iaload, 1)) (kk : W p l e R s m args below meth c H locs cells slots Q (F0 m (pc + 1) ls (.int (xs i) :: rest))) : W p l e R s m args below meth c H locs cells slots Q (F0 m pc ls (.int ix :: .ref b :: rest)) := by
  subst he
  refine va_sld hx hb hX hbl hbA hS (vp_in_nI hi (by omega)) hd ?_
  rw [nI_clamp (by omega)]
  exact kk
end LLB
theorem guard4 {L i : Nat} (hL : L ≤ 2048) (hi : i ≤ 2052) (h : ¬ nI L - 4 < nI i) : i + 4 ≤ L := by
  rw [Int32.lt_iff_toInt_lt, show nI L - 4 = nI L - nI 4 from rfl, pk_sub_toInt (by omega) (by decide), nI_toInt (by omega)] at h
  omega
