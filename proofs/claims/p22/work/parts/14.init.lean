/-! the constructors -/
def fI : Nat → (Nat → Int32)
  | 0 => fun _ => 0
  | k + 1 => va_up (fI k) k (nI (k + 1))
def G0 : SG := (fun _ => 0, fun _ => 0, fun _ => 0, fI 10, fun _ => 0, fun _ => 0, fun _ => 0, fun _ => 0, fun _ => 0, fun _ => 0, 0)
def M0 : SM := (0, fun _ => 0, fun _ => 0, fun _ => 0, fun _ => false, fun _ => false, 0, fun _ => 0, 0, fun _ => 0, fun _ => 0, fun _ => 0, fun _ => 0, fun _ => 0, fun _ => 0, fun _ => 0, fun _ => 0, fun _ => 0, fun _ => 0, fI 10, fun _ => 0, fun _ => 0)
theorem dOne {h0 sz : Nat} {e : va_E} : va_D (va_A [(h0, e)] sz) [(h0, e)] := va_D.self (A := fun _ => True) ⟨fun i j p q hi hj _ => by
  have h1 : i < 1 := (List.getElem?_eq_some_iff.mp hi).1
  have h2 : j < 1 := (List.getElem?_eq_some_iff.mp hj).1
  omega, fun _ _ _ => trivial⟩
theorem dSame {A : Nat → Prop} {ws ws' : va_W} (h : va_D A ws) (e : ws.map Prod.fst = ws'.map Prod.fst) : va_D A ws' := by
  have key : ∀ (k : Nat) (p : Nat × va_E), ws'[k]? = some p → ∃ p', ws[k]? = some p' ∧ p'.1 = p.1 := by
    intro k p hk
    have h1 : (ws'.map Prod.fst)[k]? = some p.1 := by rw [List.getElem?_map, hk]; rfl
    rw [← e, List.getElem?_map] at h1
    cases hq : ws[k]? with
    | none => rw [hq] at h1; cases h1
    | some p' => rw [hq] at h1; exact ⟨p', rfl, Option.some.inj h1⟩
  refine ⟨fun i j x y hi hj hxy => ?_, fun k p hk => ?_⟩
  · obtain ⟨x', a1, a2⟩ := key i x hi
    obtain ⟨y', b1, b2⟩ := key j y hj
    exact h.1 i j x' y' a1 b1 (by rw [a2, b2, hxy])
  · obtain ⟨p', a1, a2⟩ := key k p hk
    rw [← a2]; exact h.2 k p' a1
section IB
variable {p : Program} {l : Launch} {e : Env} {R : Room} {s : State} {m : MethodId} {args : Array Value} {below : List Frame} {meth : Method} {c : Code} {H H0 : Heap} {locs : List Loc} {cells slots : Nat} {Q : State → Prop}
variable {pc : Nat} {ls : Array Slot} {rest st0 : List Value} {cc : ByteArray} {D : va_G} {A : Nat → Prop} {ws : va_W} {tys : List (ClassId × FieldType)}
theorem n_newi {cA : ClassId} {N' : Nat} {n : Int32} (hx : p.tables.exec = Jvm.exec) (hb : c.code = cc) (harr : (Cond.arrayClass .int).before args s = true) (hK : va_K D vwCl tys s) (t0 : Nat) (ht : tys[t0]? = some (cA, .int)) (hP : va_P D vwCl ws H) (hD : va_D A ws) (hS : va_S A H0 H locs) (hA : ∀ q, H0.size ≤ q → A q) (hn : ¬ n < 0) (hN : n.toNatClampNeg = N') (hbytes : N' * componentBytes .int ≤ 536870912) (hcells : cells + 1 ≤ R.cells) (hslots : slots + N' ≤ R.slots) (hdg : decode cc pc = .ok (.newarray .int, 2))
    (kk : ∀ (q : Nat) (H1 : Heap), va_P D vwCl (ws ++ [(q, .inl (cA, N', .inl (fun _ => 0)))]) H1 → va_D A (ws ++ [(q, .inl (cA, N', .inl (fun _ => 0)))]) → va_S A H0 H1 locs → W p l e R s m args below meth c H1 locs (cells + 1) (slots + N') Q (F0 m (pc + 2) ls (.ref q :: rest))) : W p l e R s m args below meth c H locs cells slots Q (F0 m pc ls (.int n :: rest)) := by
  have h0 : newarray.typeOf .int = .int := by decide
  refine va_newa (atype := .int) (ty := .int) (a0 := (N', .inl (fun _ => 0))) hx hb (by rw [h0]; exact harr) h0 hK hP hD hS hA (fun _ => rfl) hn hN hbytes hcells hslots hdg (fun q cB H1 hK1 hP1 hD1 hS1 => ?_)
  have h1 := (hK1.2 tys.length (cB, .int) (by simp)).2
  have h2 := (hK.2 t0 _ ht).2
  have h3 : cB = cA := Option.some.inj (h1.symm.trans h2)
  subst h3
  exact kk q H1 hP1 hD1 hS1
end IB
set_option maxHeartbeats 8000000 in
set_option maxRecDepth 100000 in
theorem c_X0_init (l : Launch) (D : va_G) (cI : ClassId) (h0 sz : Nat) : Met l yX0_init wsX0_init ({ frames := 1, cells := 5, slots := 3794, locals := 12 }) (va_Pc [.ref h0] (fun U => U.heap.size = sz ∧ va_P D vwCl [(h0, .inr (0, [.null, .null, .null, .null, .null]))] U.heap ∧ va_K D vwCl [(cI, .int)] U)) (va_Qv (fun _ : Unit => True) (fun _ t => ∃ q7 q8 q9 q10 q11 : Nat, va_P D vwCl [(h0, .inr (0, [.ref q7, .ref q8, .ref q9, .ref q10, .ref q11])), (q7, .inl (cI, 14, .inl (fun _ => 0))), (q8, .inl (cI, 2520, .inl (fun _ => 0))), (q9, .inl (cI, 420, .inl (fun _ => 0))), (q10, .inl (cI, 420, .inl (fun _ => 0))), (q11, .inl (cI, 420, .inl (fun _ => 0)))] t.heap ∧ va_D (va_A [(h0, .inr (0, [.null, .null, .null, .null, .null]))] sz) [(h0, .inr (0, [.ref q7, .ref q8, .ref q9, .ref q10, .ref q11])), (q7, .inl (cI, 14, .inl (fun _ => 0))), (q8, .inl (cI, 2520, .inl (fun _ => 0))), (q9, .inl (cI, 420, .inl (fun _ => 0))), (q10, .inl (cI, 420, .inl (fun _ => 0))), (q11, .inl (cI, 420, .inl (fun _ => 0)))]) (va_A [(h0, .inr (0, [.null, .null, .null, .null, .null]))] sz)) 5 3794 (va_A [(h0, .inr (0, [.null, .null, .null, .null, .null]))] sz) := by
  refine Met.ofW (cc := cX0_init) (maxL := 1) (ret := none) (by decide) rfl ?_
  intro p e s m args below meth c s₁ B hml hv
  obtain ⟨rfl, hsz, hP, hK⟩ := hv
  have hx := B.exec
  have hb := B.bytes
  have hr := B.returns
  have hts := atoms_spec (ws := wsX0_init) B.pre
  have hown : s.vm.findClass RX0 = some m.cls := findClass_of_methodNamed B.named
  have hlocks := B.notSynchronized
  have hin : meth.name = "<init>" := (name_of_methodNamed B.named B.method).1
  subst hsz
  have hD : va_D (va_A [(h0, .inr (0, [.null, .null, .null, .null, .null]))] s.heap.size) [(h0, .inr (0, [.null, .null, .null, .null, .null]))] := dOne
  generalize hAe : va_A [(h0, .inr (0, [.null, .null, .null, .null, .null]))] s.heap.size = A at hD ⊢
  have hA : ∀ q : Nat, s.heap.size ≤ q → A q := fun q h => by rw [← hAe]; exact Or.inr h
  have hS : va_S A s.heap s.heap [] := va_S.rf
  have hl := lv_entry ([.ref h0]) (n := 1) (Nat.le_of_ble_eq_true rfl)
  rw [lg_entry_eq]
  generalize (lg_sl ([.ref h0]) ++ List.replicate (1 - (lg_sl ([.ref h0])).length) Slot.unset).toArray = ls at hl ⊢
  have hl : lv_has ls 1 [(0, .ref h0)] := hl
  have hiX0 : ∀ w ∈ wsX00, w ∈ wsX0_init := by decide +kernel
  refine lv_aload_n hx hb dX0_init_0 rfl (lv_at hl 0 rfl) ?_
  refine W.objInit hx hb hown (hts (.methodLink RX0 3 objectInit) (by decide +kernel)) (hts (.instanceMethod objectInit) (by decide +kernel)) (hts (.code objectInit ⟨#[0xb1]⟩ 1 none) (by decide +kernel)) rfl (by rw [hml]; exact hl.1) rfl dX0_init_1 (Nat.le_of_ble_eq_true rfl) (Nat.le_of_ble_eq_true rfl) ?_
  refine W.eq (g2 := F0 m 4 ls []) rfl ?_
  refine lv_aload_n hx hb dX0_init_4 rfl (lv_at hl 0 rfl) ?_
  refine lv_bipush (v := 14) hx hb dX0_init_5 (by decide) ?_
  refine n_newi (N' := 14) hx hb (hts (.arrayClass .int) (by decide +kernel)) hK 0 rfl hP hD hS hA (by decide) (by decide) (Nat.le_of_ble_eq_true rfl) (Nat.le_of_ble_eq_true rfl) (Nat.le_of_ble_eq_true rfl) dX0_init_7 (fun q7 H hP hD hS => ?_)
  have hP : va_P D vwCl [(h0, .inr (0, [.null, .null, .null, .null, .null])), (q7, .inl (cI, 14, .inl (fun _ => 0)))] H := hP
  have hD : va_D A [(h0, .inr (0, [.null, .null, .null, .null, .null])), (q7, .inl (cI, 14, .inl (fun _ => 0)))] := hD
  refine va_putF (D := D) (ci := 0) (v := .ref q7) (ty := .array .int) (C := RX0) (T := TX0) (N := 5) hx hb hts hiX0 tyX0 tyX0_ok nmX0 hown hK hP hD hS 0 rfl rfl 0 (by decide) (hts (.fieldLink RX0 9 "PalletGram$Chains" "lengths" "[I") (by decide +kernel)) (fun _ h9 => h9) rfl hin rfl (by decide +kernel) rfl rfl (Nat.le_of_ble_eq_true rfl) dX0_init_9 (fun H locs hP hD hS => ?_)
  have hP : va_P D vwCl [(h0, .inr (0, [.ref q7, .null, .null, .null, .null])), (q7, .inl (cI, 14, .inl (fun _ => 0)))] H := hP
  have hD : va_D A [(h0, .inr (0, [.ref q7, .null, .null, .null, .null])), (q7, .inl (cI, 14, .inl (fun _ => 0)))] := hD
  refine lv_aload_n hx hb dX0_init_12 rfl (lv_at hl 0 rfl) ?_
  refine lv_sipush (v := 2520) hx hb dX0_init_13 (by decide) ?_
  refine n_newi (N' := 2520) hx hb (hts (.arrayClass .int) (by decide +kernel)) hK 0 rfl hP hD hS hA (by decide) (by decide) (Nat.le_of_ble_eq_true rfl) (Nat.le_of_ble_eq_true rfl) (Nat.le_of_ble_eq_true rfl) dX0_init_16 (fun q8 H hP hD hS => ?_)
  have hP : va_P D vwCl [(h0, .inr (0, [.ref q7, .null, .null, .null, .null])), (q7, .inl (cI, 14, .inl (fun _ => 0))), (q8, .inl (cI, 2520, .inl (fun _ => 0)))] H := hP
  have hD : va_D A [(h0, .inr (0, [.ref q7, .null, .null, .null, .null])), (q7, .inl (cI, 14, .inl (fun _ => 0))), (q8, .inl (cI, 2520, .inl (fun _ => 0)))] := hD
  refine va_putF (D := D) (ci := 0) (v := .ref q8) (ty := .array .int) (C := RX0) (T := TX0) (N := 5) hx hb hts hiX0 tyX0 tyX0_ok nmX0 hown hK hP hD hS 0 rfl rfl 1 (by decide) (hts (.fieldLink RX0 15 "PalletGram$Chains" "numbers" "[I") (by decide +kernel)) (fun _ h9 => h9) rfl hin rfl (by decide +kernel) rfl rfl (Nat.le_of_ble_eq_true rfl) dX0_init_18 (fun H locs hP hD hS => ?_)
  have hP : va_P D vwCl [(h0, .inr (0, [.ref q7, .ref q8, .null, .null, .null])), (q7, .inl (cI, 14, .inl (fun _ => 0))), (q8, .inl (cI, 2520, .inl (fun _ => 0)))] H := hP
  have hD : va_D A [(h0, .inr (0, [.ref q7, .ref q8, .null, .null, .null])), (q7, .inl (cI, 14, .inl (fun _ => 0))), (q8, .inl (cI, 2520, .inl (fun _ => 0)))] := hD
  refine lv_aload_n hx hb dX0_init_21 rfl (lv_at hl 0 rfl) ?_
  refine lv_sipush (v := 420) hx hb dX0_init_22 (by decide) ?_
  refine n_newi (N' := 420) hx hb (hts (.arrayClass .int) (by decide +kernel)) hK 0 rfl hP hD hS hA (by decide) (by decide) (Nat.le_of_ble_eq_true rfl) (Nat.le_of_ble_eq_true rfl) (Nat.le_of_ble_eq_true rfl) dX0_init_25 (fun q9 H hP hD hS => ?_)
  have hP : va_P D vwCl [(h0, .inr (0, [.ref q7, .ref q8, .null, .null, .null])), (q7, .inl (cI, 14, .inl (fun _ => 0))), (q8, .inl (cI, 2520, .inl (fun _ => 0))), (q9, .inl (cI, 420, .inl (fun _ => 0)))] H := hP
  have hD : va_D A [(h0, .inr (0, [.ref q7, .ref q8, .null, .null, .null])), (q7, .inl (cI, 14, .inl (fun _ => 0))), (q8, .inl (cI, 2520, .inl (fun _ => 0))), (q9, .inl (cI, 420, .inl (fun _ => 0)))] := hD
  refine va_putF (D := D) (ci := 0) (v := .ref q9) (ty := .array .int) (C := RX0) (T := TX0) (N := 5) hx hb hts hiX0 tyX0 tyX0_ok nmX0 hown hK hP hD hS 0 rfl rfl 2 (by decide) (hts (.fieldLink RX0 18 "PalletGram$Chains" "proofs" "[I") (by decide +kernel)) (fun _ h9 => h9) rfl hin rfl (by decide +kernel) rfl rfl (Nat.le_of_ble_eq_true rfl) dX0_init_27 (fun H locs hP hD hS => ?_)
  have hP : va_P D vwCl [(h0, .inr (0, [.ref q7, .ref q8, .ref q9, .null, .null])), (q7, .inl (cI, 14, .inl (fun _ => 0))), (q8, .inl (cI, 2520, .inl (fun _ => 0))), (q9, .inl (cI, 420, .inl (fun _ => 0)))] H := hP
  have hD : va_D A [(h0, .inr (0, [.ref q7, .ref q8, .ref q9, .null, .null])), (q7, .inl (cI, 14, .inl (fun _ => 0))), (q8, .inl (cI, 2520, .inl (fun _ => 0))), (q9, .inl (cI, 420, .inl (fun _ => 0)))] := hD
  refine lv_aload_n hx hb dX0_init_30 rfl (lv_at hl 0 rfl) ?_
  refine lv_sipush (v := 420) hx hb dX0_init_31 (by decide) ?_
  refine n_newi (N' := 420) hx hb (hts (.arrayClass .int) (by decide +kernel)) hK 0 rfl hP hD hS hA (by decide) (by decide) (Nat.le_of_ble_eq_true rfl) (Nat.le_of_ble_eq_true rfl) (Nat.le_of_ble_eq_true rfl) dX0_init_34 (fun q10 H hP hD hS => ?_)
  have hP : va_P D vwCl [(h0, .inr (0, [.ref q7, .ref q8, .ref q9, .null, .null])), (q7, .inl (cI, 14, .inl (fun _ => 0))), (q8, .inl (cI, 2520, .inl (fun _ => 0))), (q9, .inl (cI, 420, .inl (fun _ => 0))), (q10, .inl (cI, 420, .inl (fun _ => 0)))] H := hP
  have hD : va_D A [(h0, .inr (0, [.ref q7, .ref q8, .ref q9, .null, .null])), (q7, .inl (cI, 14, .inl (fun _ => 0))), (q8, .inl (cI, 2520, .inl (fun _ => 0))), (q9, .inl (cI, 420, .inl (fun _ => 0))), (q10, .inl (cI, 420, .inl (fun _ => 0)))] := hD
  refine va_putF (D := D) (ci := 0) (v := .ref q10) (ty := .array .int) (C := RX0) (T := TX0) (N := 5) hx hb hts hiX0 tyX0 tyX0_ok nmX0 hown hK hP hD hS 0 rfl rfl 3 (by decide) (hts (.fieldLink RX0 21 "PalletGram$Chains" "copies" "[I") (by decide +kernel)) (fun _ h9 => h9) rfl hin rfl (by decide +kernel) rfl rfl (Nat.le_of_ble_eq_true rfl) dX0_init_36 (fun H locs hP hD hS => ?_)
  have hP : va_P D vwCl [(h0, .inr (0, [.ref q7, .ref q8, .ref q9, .ref q10, .null])), (q7, .inl (cI, 14, .inl (fun _ => 0))), (q8, .inl (cI, 2520, .inl (fun _ => 0))), (q9, .inl (cI, 420, .inl (fun _ => 0))), (q10, .inl (cI, 420, .inl (fun _ => 0)))] H := hP
  have hD : va_D A [(h0, .inr (0, [.ref q7, .ref q8, .ref q9, .ref q10, .null])), (q7, .inl (cI, 14, .inl (fun _ => 0))), (q8, .inl (cI, 2520, .inl (fun _ => 0))), (q9, .inl (cI, 420, .inl (fun _ => 0))), (q10, .inl (cI, 420, .inl (fun _ => 0)))] := hD
  refine lv_aload_n hx hb dX0_init_39 rfl (lv_at hl 0 rfl) ?_
  refine lv_sipush (v := 420) hx hb dX0_init_40 (by decide) ?_
  refine n_newi (N' := 420) hx hb (hts (.arrayClass .int) (by decide +kernel)) hK 0 rfl hP hD hS hA (by decide) (by decide) (Nat.le_of_ble_eq_true rfl) (Nat.le_of_ble_eq_true rfl) (Nat.le_of_ble_eq_true rfl) dX0_init_43 (fun q11 H hP hD hS => ?_)
  have hP : va_P D vwCl [(h0, .inr (0, [.ref q7, .ref q8, .ref q9, .ref q10, .null])), (q7, .inl (cI, 14, .inl (fun _ => 0))), (q8, .inl (cI, 2520, .inl (fun _ => 0))), (q9, .inl (cI, 420, .inl (fun _ => 0))), (q10, .inl (cI, 420, .inl (fun _ => 0))), (q11, .inl (cI, 420, .inl (fun _ => 0)))] H := hP
  have hD : va_D A [(h0, .inr (0, [.ref q7, .ref q8, .ref q9, .ref q10, .null])), (q7, .inl (cI, 14, .inl (fun _ => 0))), (q8, .inl (cI, 2520, .inl (fun _ => 0))), (q9, .inl (cI, 420, .inl (fun _ => 0))), (q10, .inl (cI, 420, .inl (fun _ => 0))), (q11, .inl (cI, 420, .inl (fun _ => 0)))] := hD
  refine va_putF (D := D) (ci := 0) (v := .ref q11) (ty := .array .int) (C := RX0) (T := TX0) (N := 5) hx hb hts hiX0 tyX0 tyX0_ok nmX0 hown hK hP hD hS 0 rfl rfl 4 (by decide) (hts (.fieldLink RX0 24 "PalletGram$Chains" "amountsMade" "[I") (by decide +kernel)) (fun _ h9 => h9) rfl hin rfl (by decide +kernel) rfl rfl (Nat.le_of_ble_eq_true rfl) dX0_init_45 (fun H locs hP hD hS => ?_)
  have hP : va_P D vwCl [(h0, .inr (0, [.ref q7, .ref q8, .ref q9, .ref q10, .ref q11])), (q7, .inl (cI, 14, .inl (fun _ => 0))), (q8, .inl (cI, 2520, .inl (fun _ => 0))), (q9, .inl (cI, 420, .inl (fun _ => 0))), (q10, .inl (cI, 420, .inl (fun _ => 0))), (q11, .inl (cI, 420, .inl (fun _ => 0)))] H := hP
  have hD : va_D A [(h0, .inr (0, [.ref q7, .ref q8, .ref q9, .ref q10, .ref q11])), (q7, .inl (cI, 14, .inl (fun _ => 0))), (q8, .inl (cI, 2520, .inl (fun _ => 0))), (q9, .inl (cI, 420, .inl (fun _ => 0))), (q10, .inl (cI, 420, .inl (fun _ => 0))), (q11, .inl (cI, 420, .inl (fun _ => 0)))] := hD
  exact W.vret hx hb hr (fun t ht hW => ⟨⟨(), rfl, trivial, q7, q8, q9, q10, q11, by rw [ht]; exact hP, hD⟩, hS.F ht⟩) hS.2.2 dX0_init_48 hlocks
set_option maxHeartbeats 8000000 in
set_option maxRecDepth 100000 in
theorem c_X1_init (l : Launch) (D : va_G) (cI : ClassId) (h0 sz : Nat) : Met l yX1_init wsX1_init ({ frames := 2, cells := 11, slots := 3926, locals := 32 }) (va_Pc [.ref h0] (fun U => U.heap.size = sz ∧ va_P D vwCl [(h0, .inr (1, [.null, .null, .null, .null, .null, .null, .int 0]))] U.heap ∧ va_K D vwCl [(cI, .int)] U ∧ EN U)) (va_Qv (fun _ : Unit => True) (fun _ t => ∃ q : Nat → Nat, va_P D vwCl (wG cI q G0) t.heap ∧ va_D (va_A [(h0, .inr (1, [.null, .null, .null, .null, .null, .null, .int 0]))] sz) (wG cI q G0) ∧ q 0 = h0) (va_A [(h0, .inr (1, [.null, .null, .null, .null, .null, .null, .int 0]))] sz)) 11 3926 (va_A [(h0, .inr (1, [.null, .null, .null, .null, .null, .null, .int 0]))] sz) := by
  refine Met.ofW (cc := cX1_init) (maxL := 2) (ret := none) (by decide) rfl ?_
  intro p e s m args below meth c s₁ B hml hv
  obtain ⟨rfl, hsz, hP, hK, hE⟩ := hv
  have hx := B.exec
  have hb := B.bytes
  have hr := B.returns
  have hts := atoms_spec (ws := wsX1_init) B.pre
  have hown : s.vm.findClass RX1 = some m.cls := findClass_of_methodNamed B.named
  have hlocks := B.notSynchronized
  have hin : meth.name = "<init>" := (name_of_methodNamed B.named B.method).1
  subst hsz
  have hD : va_D (va_A [(h0, .inr (1, [.null, .null, .null, .null, .null, .null, .int 0]))] s.heap.size) [(h0, .inr (1, [.null, .null, .null, .null, .null, .null, .int 0]))] := dOne
  generalize hAe : va_A [(h0, .inr (1, [.null, .null, .null, .null, .null, .null, .int 0]))] s.heap.size = A at hD ⊢
  have hA : ∀ q : Nat, s.heap.size ≤ q → A q := fun q h => by rw [← hAe]; exact Or.inr h
  have hS : va_S A s.heap s.heap [] := va_S.rf
  have hl := lv_entry ([.ref h0]) (n := 2) (Nat.le_of_ble_eq_true rfl)
  rw [lg_entry_eq]
  generalize (lg_sl ([.ref h0]) ++ List.replicate (2 - (lg_sl ([.ref h0])).length) Slot.unset).toArray = ls at hl ⊢
  have hl : lv_has ls 2 [(0, .ref h0)] := hl
  have hiX1 : ∀ w ∈ wsX10, w ∈ wsX1_init := by decide +kernel
  have hiX0 : ∀ w ∈ wsX00, w ∈ wsX1_init := by decide +kernel
  refine lv_aload_n hx hb dX1_init_0 rfl (lv_at hl 0 rfl) ?_
  refine W.objInit hx hb hown (hts (.methodLink RX1 1 objectInit) (by decide +kernel)) (hts (.instanceMethod objectInit) (by decide +kernel)) (hts (.code objectInit ⟨#[0xb1]⟩ 1 none) (by decide +kernel)) rfl (by rw [hml]; exact hl.1) rfl dX1_init_1 (Nat.le_of_ble_eq_true rfl) (Nat.le_of_ble_eq_true rfl) ?_
  refine W.eq (g2 := F0 m 4 ls []) rfl ?_
  refine lv_aload_n hx hb dX1_init_4 rfl (lv_at hl 0 rfl) ?_
  refine va_new (ci := 0) (fs := [.null, .null, .null, .null, .null]) (C := RX0) (T := TX0) (N := 5) hx hb hts hiX0 tyX0 tyX0_ok hown (hts (.classLink RX1 7 RX0) (by decide +kernel)) (hts (.instantiable RX0 5) (by decide +kernel)) (hts (.initialized RX0) (by decide +kernel)) hK hP hD hS hA rfl (fun j hj => by rcases (show j = 0 ∨ j = 1 ∨ j = 2 ∨ j = 3 ∨ j = 4 by omega) with rfl | rfl | rfl | rfl | rfl <;> rfl) (Nat.le_of_ble_eq_true rfl) (Nat.le_of_ble_eq_true rfl) dX1_init_5 (fun qc H hP hD hS => ?_)
  have hP : va_P D vwCl [(h0, .inr (1, [.null, .null, .null, .null, .null, .null, .int 0])), (qc, .inr (0, [.null, .null, .null, .null, .null]))] H := hP
  have hD : va_D A [(h0, .inr (1, [.null, .null, .null, .null, .null, .null, .int 0])), (qc, .inr (0, [.null, .null, .null, .null, .null]))] := hD
  refine lv_dup hx hb dX1_init_8 rfl ?_
  have hPc := hP.sub (ws' := [(qc, .inr (0, [.null, .null, .null, .null, .null]))]) [1] rfl
  have hFc := va_free (wc := [(qc, .inr (0, [.null, .null, .null, .null, .null]))]) hD hS hA [1] rfl
  refine va_callv (va_runIN (As := []) (rest := [.ref qc, .ref h0]) ⟨hx, hb, hml, hown, hts⟩ (c_X0_init l D cI qc H.size) ⟨va_cnB 0 hts gX1_init_X0_init_n9 rfl rfl rfl hE.2 (hts (.initialized RX0) (by decide +kernel)) (by decide +kernel) ⟨Nat.le_of_ble_eq_true rfl, Nat.le_of_ble_eq_true rfl⟩, rfl, hts (.instanceMethod yX0_init) (by decide +kernel)⟩ ⟨fun a U g mk h => ⟨h.1, h.2.1, h.2.2.1, va_K.moved (u := U) (U := U.calling g mk a) (Vm.Alike.refl U.vm) h.2.2.2⟩, fun U hU hW => ⟨rfl, by rw [hU], by rw [hU]; exact hPc, va_K.moved hW.alike hK⟩⟩ rfl rfl hl.1 rfl (lv_room (Nat.le_of_ble_eq_true rfl)) dX1_init_9 ⟨Nat.le_of_ble_eq_true rfl, Nat.le_of_ble_eq_true rfl⟩) hS (fun q _ h => hFc q h) hFc (fun u t H1 locs ht hvm hw hB hz1 hk1 hS => ?_)
  obtain ⟨q7, q8, q9, q10, q11, hP1, hD1⟩ := hB
  rw [ht] at hP1
  obtain ⟨hP, hD⟩ := va_join (wr := [(h0, .inr (1, [.null, .null, .null, .null, .null, .null, .int 0]))]) (w1 := [(qc, .inr (0, [.ref q7, .ref q8, .ref q9, .ref q10, .ref q11])), (q7, .inl (cI, 14, .inl (fun _ => 0))), (q8, .inl (cI, 2520, .inl (fun _ => 0))), (q9, .inl (cI, 420, .inl (fun _ => 0))), (q10, .inl (cI, 420, .inl (fun _ => 0))), (q11, .inl (cI, 420, .inl (fun _ => 0)))]) hP hD [1] [0] rfl rfl (by decide) (by decide) hk1 hFc hP1 hD1
  generalize H1 = H at hP hS ⊢
  have hP : va_P D vwCl [(h0, .inr (1, [.null, .null, .null, .null, .null, .null, .int 0])), (qc, .inr (0, [.ref q7, .ref q8, .ref q9, .ref q10, .ref q11])), (q7, .inl (cI, 14, .inl (fun _ => 0))), (q8, .inl (cI, 2520, .inl (fun _ => 0))), (q9, .inl (cI, 420, .inl (fun _ => 0))), (q10, .inl (cI, 420, .inl (fun _ => 0))), (q11, .inl (cI, 420, .inl (fun _ => 0)))] H := hP
  have hD : va_D A [(h0, .inr (1, [.null, .null, .null, .null, .null, .null, .int 0])), (qc, .inr (0, [.ref q7, .ref q8, .ref q9, .ref q10, .ref q11])), (q7, .inl (cI, 14, .inl (fun _ => 0))), (q8, .inl (cI, 2520, .inl (fun _ => 0))), (q9, .inl (cI, 420, .inl (fun _ => 0))), (q10, .inl (cI, 420, .inl (fun _ => 0))), (q11, .inl (cI, 420, .inl (fun _ => 0)))] := hD
  refine va_putF (D := D) (ci := 1) (v := .ref qc) (ty := .object "PalletGram$Chains") (C := RX1) (T := TX1) (N := 7) hx hb hts hiX1 tyX1 tyX1_ok nmX1 hown hK hP hD hS 0 rfl rfl 0 (by decide) (hts (.fieldLink RX1 10 "PalletGram" "chains" "LPalletGram$Chains;") (by decide +kernel)) (fun _ h9 => h9) rfl hin rfl (by decide +kernel) rfl rfl (Nat.le_of_ble_eq_true rfl) dX1_init_12 (fun H locs hP hD hS => ?_)
  have hP : va_P D vwCl [(h0, .inr (1, [.ref qc, .null, .null, .null, .null, .null, .int 0])), (qc, .inr (0, [.ref q7, .ref q8, .ref q9, .ref q10, .ref q11])), (q7, .inl (cI, 14, .inl (fun _ => 0))), (q8, .inl (cI, 2520, .inl (fun _ => 0))), (q9, .inl (cI, 420, .inl (fun _ => 0))), (q10, .inl (cI, 420, .inl (fun _ => 0))), (q11, .inl (cI, 420, .inl (fun _ => 0)))] H := hP
  have hD : va_D A [(h0, .inr (1, [.ref qc, .null, .null, .null, .null, .null, .int 0])), (qc, .inr (0, [.ref q7, .ref q8, .ref q9, .ref q10, .ref q11])), (q7, .inl (cI, 14, .inl (fun _ => 0))), (q8, .inl (cI, 2520, .inl (fun _ => 0))), (q9, .inl (cI, 420, .inl (fun _ => 0))), (q10, .inl (cI, 420, .inl (fun _ => 0))), (q11, .inl (cI, 420, .inl (fun _ => 0)))] := hD
  refine lv_aload_n hx hb dX1_init_15 rfl (lv_at hl 0 rfl) ?_
  refine lv_bipush (v := 14) hx hb dX1_init_16 (by decide) ?_
  refine n_newi (N' := 14) hx hb (hts (.arrayClass .int) (by decide +kernel)) hK 0 rfl hP hD hS hA (by decide) (by decide) (Nat.le_of_ble_eq_true rfl) (Nat.le_of_ble_eq_true rfl) (Nat.le_of_ble_eq_true rfl) dX1_init_18 (fun q2 H hP hD hS => ?_)
  have hP : va_P D vwCl [(h0, .inr (1, [.ref qc, .null, .null, .null, .null, .null, .int 0])), (qc, .inr (0, [.ref q7, .ref q8, .ref q9, .ref q10, .ref q11])), (q7, .inl (cI, 14, .inl (fun _ => 0))), (q8, .inl (cI, 2520, .inl (fun _ => 0))), (q9, .inl (cI, 420, .inl (fun _ => 0))), (q10, .inl (cI, 420, .inl (fun _ => 0))), (q11, .inl (cI, 420, .inl (fun _ => 0))), (q2, .inl (cI, 14, .inl (fun _ => 0)))] H := hP
  have hD : va_D A [(h0, .inr (1, [.ref qc, .null, .null, .null, .null, .null, .int 0])), (qc, .inr (0, [.ref q7, .ref q8, .ref q9, .ref q10, .ref q11])), (q7, .inl (cI, 14, .inl (fun _ => 0))), (q8, .inl (cI, 2520, .inl (fun _ => 0))), (q9, .inl (cI, 420, .inl (fun _ => 0))), (q10, .inl (cI, 420, .inl (fun _ => 0))), (q11, .inl (cI, 420, .inl (fun _ => 0))), (q2, .inl (cI, 14, .inl (fun _ => 0)))] := hD
  refine va_putF (D := D) (ci := 1) (v := .ref q2) (ty := .array .int) (C := RX1) (T := TX1) (N := 7) hx hb hts hiX1 tyX1 tyX1_ok nmX1 hown hK hP hD hS 0 rfl rfl 1 (by decide) (hts (.fieldLink RX1 16 "PalletGram" "holders" "[I") (by decide +kernel)) (fun _ h9 => h9) rfl hin rfl (by decide +kernel) rfl rfl (Nat.le_of_ble_eq_true rfl) dX1_init_20 (fun H locs hP hD hS => ?_)
  have hP : va_P D vwCl [(h0, .inr (1, [.ref qc, .ref q2, .null, .null, .null, .null, .int 0])), (qc, .inr (0, [.ref q7, .ref q8, .ref q9, .ref q10, .ref q11])), (q7, .inl (cI, 14, .inl (fun _ => 0))), (q8, .inl (cI, 2520, .inl (fun _ => 0))), (q9, .inl (cI, 420, .inl (fun _ => 0))), (q10, .inl (cI, 420, .inl (fun _ => 0))), (q11, .inl (cI, 420, .inl (fun _ => 0))), (q2, .inl (cI, 14, .inl (fun _ => 0)))] H := hP
  have hD : va_D A [(h0, .inr (1, [.ref qc, .ref q2, .null, .null, .null, .null, .int 0])), (qc, .inr (0, [.ref q7, .ref q8, .ref q9, .ref q10, .ref q11])), (q7, .inl (cI, 14, .inl (fun _ => 0))), (q8, .inl (cI, 2520, .inl (fun _ => 0))), (q9, .inl (cI, 420, .inl (fun _ => 0))), (q10, .inl (cI, 420, .inl (fun _ => 0))), (q11, .inl (cI, 420, .inl (fun _ => 0))), (q2, .inl (cI, 14, .inl (fun _ => 0)))] := hD
  refine lv_aload_n hx hb dX1_init_23 rfl (lv_at hl 0 rfl) ?_
  refine lv_bipush (v := 84) hx hb dX1_init_24 (by decide) ?_
  refine n_newi (N' := 84) hx hb (hts (.arrayClass .int) (by decide +kernel)) hK 0 rfl hP hD hS hA (by decide) (by decide) (Nat.le_of_ble_eq_true rfl) (Nat.le_of_ble_eq_true rfl) (Nat.le_of_ble_eq_true rfl) dX1_init_26 (fun q3 H hP hD hS => ?_)
  have hP : va_P D vwCl [(h0, .inr (1, [.ref qc, .ref q2, .null, .null, .null, .null, .int 0])), (qc, .inr (0, [.ref q7, .ref q8, .ref q9, .ref q10, .ref q11])), (q7, .inl (cI, 14, .inl (fun _ => 0))), (q8, .inl (cI, 2520, .inl (fun _ => 0))), (q9, .inl (cI, 420, .inl (fun _ => 0))), (q10, .inl (cI, 420, .inl (fun _ => 0))), (q11, .inl (cI, 420, .inl (fun _ => 0))), (q2, .inl (cI, 14, .inl (fun _ => 0))), (q3, .inl (cI, 84, .inl (fun _ => 0)))] H := hP
  have hD : va_D A [(h0, .inr (1, [.ref qc, .ref q2, .null, .null, .null, .null, .int 0])), (qc, .inr (0, [.ref q7, .ref q8, .ref q9, .ref q10, .ref q11])), (q7, .inl (cI, 14, .inl (fun _ => 0))), (q8, .inl (cI, 2520, .inl (fun _ => 0))), (q9, .inl (cI, 420, .inl (fun _ => 0))), (q10, .inl (cI, 420, .inl (fun _ => 0))), (q11, .inl (cI, 420, .inl (fun _ => 0))), (q2, .inl (cI, 14, .inl (fun _ => 0))), (q3, .inl (cI, 84, .inl (fun _ => 0)))] := hD
  refine va_putF (D := D) (ci := 1) (v := .ref q3) (ty := .array .int) (C := RX1) (T := TX1) (N := 7) hx hb hts hiX1 tyX1 tyX1_ok nmX1 hown hK hP hD hS 0 rfl rfl 2 (by decide) (hts (.fieldLink RX1 20 "PalletGram" "goods" "[I") (by decide +kernel)) (fun _ h9 => h9) rfl hin rfl (by decide +kernel) rfl rfl (Nat.le_of_ble_eq_true rfl) dX1_init_28 (fun H locs hP hD hS => ?_)
  have hP : va_P D vwCl [(h0, .inr (1, [.ref qc, .ref q2, .ref q3, .null, .null, .null, .int 0])), (qc, .inr (0, [.ref q7, .ref q8, .ref q9, .ref q10, .ref q11])), (q7, .inl (cI, 14, .inl (fun _ => 0))), (q8, .inl (cI, 2520, .inl (fun _ => 0))), (q9, .inl (cI, 420, .inl (fun _ => 0))), (q10, .inl (cI, 420, .inl (fun _ => 0))), (q11, .inl (cI, 420, .inl (fun _ => 0))), (q2, .inl (cI, 14, .inl (fun _ => 0))), (q3, .inl (cI, 84, .inl (fun _ => 0)))] H := hP
  have hD : va_D A [(h0, .inr (1, [.ref qc, .ref q2, .ref q3, .null, .null, .null, .int 0])), (qc, .inr (0, [.ref q7, .ref q8, .ref q9, .ref q10, .ref q11])), (q7, .inl (cI, 14, .inl (fun _ => 0))), (q8, .inl (cI, 2520, .inl (fun _ => 0))), (q9, .inl (cI, 420, .inl (fun _ => 0))), (q10, .inl (cI, 420, .inl (fun _ => 0))), (q11, .inl (cI, 420, .inl (fun _ => 0))), (q2, .inl (cI, 14, .inl (fun _ => 0))), (q3, .inl (cI, 84, .inl (fun _ => 0)))] := hD
  refine lv_aload_n hx hb dX1_init_31 rfl (lv_at hl 0 rfl) ?_
  refine lv_bipush (v := 12) hx hb dX1_init_32 (by decide) ?_
  refine n_newi (N' := 12) hx hb (hts (.arrayClass .int) (by decide +kernel)) hK 0 rfl hP hD hS hA (by decide) (by decide) (Nat.le_of_ble_eq_true rfl) (Nat.le_of_ble_eq_true rfl) (Nat.le_of_ble_eq_true rfl) dX1_init_34 (fun q4 H hP hD hS => ?_)
  have hP : va_P D vwCl [(h0, .inr (1, [.ref qc, .ref q2, .ref q3, .null, .null, .null, .int 0])), (qc, .inr (0, [.ref q7, .ref q8, .ref q9, .ref q10, .ref q11])), (q7, .inl (cI, 14, .inl (fun _ => 0))), (q8, .inl (cI, 2520, .inl (fun _ => 0))), (q9, .inl (cI, 420, .inl (fun _ => 0))), (q10, .inl (cI, 420, .inl (fun _ => 0))), (q11, .inl (cI, 420, .inl (fun _ => 0))), (q2, .inl (cI, 14, .inl (fun _ => 0))), (q3, .inl (cI, 84, .inl (fun _ => 0))), (q4, .inl (cI, 12, .inl (fun _ => 0)))] H := hP
  have hD : va_D A [(h0, .inr (1, [.ref qc, .ref q2, .ref q3, .null, .null, .null, .int 0])), (qc, .inr (0, [.ref q7, .ref q8, .ref q9, .ref q10, .ref q11])), (q7, .inl (cI, 14, .inl (fun _ => 0))), (q8, .inl (cI, 2520, .inl (fun _ => 0))), (q9, .inl (cI, 420, .inl (fun _ => 0))), (q10, .inl (cI, 420, .inl (fun _ => 0))), (q11, .inl (cI, 420, .inl (fun _ => 0))), (q2, .inl (cI, 14, .inl (fun _ => 0))), (q3, .inl (cI, 84, .inl (fun _ => 0))), (q4, .inl (cI, 12, .inl (fun _ => 0)))] := hD
  refine va_putF (D := D) (ci := 1) (v := .ref q4) (ty := .array .int) (C := RX1) (T := TX1) (N := 7) hx hb hts hiX1 tyX1 tyX1_ok nmX1 hown hK hP hD hS 0 rfl rfl 3 (by decide) (hts (.fieldLink RX1 23 "PalletGram" "declared" "[I") (by decide +kernel)) (fun _ h9 => h9) rfl hin rfl (by decide +kernel) rfl rfl (Nat.le_of_ble_eq_true rfl) dX1_init_36 (fun H locs hP hD hS => ?_)
  have hP : va_P D vwCl [(h0, .inr (1, [.ref qc, .ref q2, .ref q3, .ref q4, .null, .null, .int 0])), (qc, .inr (0, [.ref q7, .ref q8, .ref q9, .ref q10, .ref q11])), (q7, .inl (cI, 14, .inl (fun _ => 0))), (q8, .inl (cI, 2520, .inl (fun _ => 0))), (q9, .inl (cI, 420, .inl (fun _ => 0))), (q10, .inl (cI, 420, .inl (fun _ => 0))), (q11, .inl (cI, 420, .inl (fun _ => 0))), (q2, .inl (cI, 14, .inl (fun _ => 0))), (q3, .inl (cI, 84, .inl (fun _ => 0))), (q4, .inl (cI, 12, .inl (fun _ => 0)))] H := hP
  have hD : va_D A [(h0, .inr (1, [.ref qc, .ref q2, .ref q3, .ref q4, .null, .null, .int 0])), (qc, .inr (0, [.ref q7, .ref q8, .ref q9, .ref q10, .ref q11])), (q7, .inl (cI, 14, .inl (fun _ => 0))), (q8, .inl (cI, 2520, .inl (fun _ => 0))), (q9, .inl (cI, 420, .inl (fun _ => 0))), (q10, .inl (cI, 420, .inl (fun _ => 0))), (q11, .inl (cI, 420, .inl (fun _ => 0))), (q2, .inl (cI, 14, .inl (fun _ => 0))), (q3, .inl (cI, 84, .inl (fun _ => 0))), (q4, .inl (cI, 12, .inl (fun _ => 0)))] := hD
  refine lv_aload_n hx hb dX1_init_39 rfl (lv_at hl 0 rfl) ?_
  refine lv_bipush (v := 10) hx hb dX1_init_40 (by decide) ?_
  refine n_newi (N' := 10) hx hb (hts (.arrayClass .int) (by decide +kernel)) hK 0 rfl hP hD hS hA (by decide) (by decide) (Nat.le_of_ble_eq_true rfl) (Nat.le_of_ble_eq_true rfl) (Nat.le_of_ble_eq_true rfl) dX1_init_42 (fun q5 H hP hD hS => ?_)
  have hP : va_P D vwCl [(h0, .inr (1, [.ref qc, .ref q2, .ref q3, .ref q4, .null, .null, .int 0])), (qc, .inr (0, [.ref q7, .ref q8, .ref q9, .ref q10, .ref q11])), (q7, .inl (cI, 14, .inl (fun _ => 0))), (q8, .inl (cI, 2520, .inl (fun _ => 0))), (q9, .inl (cI, 420, .inl (fun _ => 0))), (q10, .inl (cI, 420, .inl (fun _ => 0))), (q11, .inl (cI, 420, .inl (fun _ => 0))), (q2, .inl (cI, 14, .inl (fun _ => 0))), (q3, .inl (cI, 84, .inl (fun _ => 0))), (q4, .inl (cI, 12, .inl (fun _ => 0))), (q5, .inl (cI, 10, .inl (fun _ => 0)))] H := hP
  have hD : va_D A [(h0, .inr (1, [.ref qc, .ref q2, .ref q3, .ref q4, .null, .null, .int 0])), (qc, .inr (0, [.ref q7, .ref q8, .ref q9, .ref q10, .ref q11])), (q7, .inl (cI, 14, .inl (fun _ => 0))), (q8, .inl (cI, 2520, .inl (fun _ => 0))), (q9, .inl (cI, 420, .inl (fun _ => 0))), (q10, .inl (cI, 420, .inl (fun _ => 0))), (q11, .inl (cI, 420, .inl (fun _ => 0))), (q2, .inl (cI, 14, .inl (fun _ => 0))), (q3, .inl (cI, 84, .inl (fun _ => 0))), (q4, .inl (cI, 12, .inl (fun _ => 0))), (q5, .inl (cI, 10, .inl (fun _ => 0)))] := hD
  refine va_putF (D := D) (ci := 1) (v := .ref q5) (ty := .array .int) (C := RX1) (T := TX1) (N := 7) hx hb hts hiX1 tyX1 tyX1_ok nmX1 hown hK hP hD hS 0 rfl rfl 4 (by decide) (hts (.fieldLink RX1 26 "PalletGram" "fees" "[I") (by decide +kernel)) (fun _ h9 => h9) rfl hin rfl (by decide +kernel) rfl rfl (Nat.le_of_ble_eq_true rfl) dX1_init_44 (fun H locs hP hD hS => ?_)
  have hP : va_P D vwCl [(h0, .inr (1, [.ref qc, .ref q2, .ref q3, .ref q4, .ref q5, .null, .int 0])), (qc, .inr (0, [.ref q7, .ref q8, .ref q9, .ref q10, .ref q11])), (q7, .inl (cI, 14, .inl (fun _ => 0))), (q8, .inl (cI, 2520, .inl (fun _ => 0))), (q9, .inl (cI, 420, .inl (fun _ => 0))), (q10, .inl (cI, 420, .inl (fun _ => 0))), (q11, .inl (cI, 420, .inl (fun _ => 0))), (q2, .inl (cI, 14, .inl (fun _ => 0))), (q3, .inl (cI, 84, .inl (fun _ => 0))), (q4, .inl (cI, 12, .inl (fun _ => 0))), (q5, .inl (cI, 10, .inl (fun _ => 0)))] H := hP
  have hD : va_D A [(h0, .inr (1, [.ref qc, .ref q2, .ref q3, .ref q4, .ref q5, .null, .int 0])), (qc, .inr (0, [.ref q7, .ref q8, .ref q9, .ref q10, .ref q11])), (q7, .inl (cI, 14, .inl (fun _ => 0))), (q8, .inl (cI, 2520, .inl (fun _ => 0))), (q9, .inl (cI, 420, .inl (fun _ => 0))), (q10, .inl (cI, 420, .inl (fun _ => 0))), (q11, .inl (cI, 420, .inl (fun _ => 0))), (q2, .inl (cI, 14, .inl (fun _ => 0))), (q3, .inl (cI, 84, .inl (fun _ => 0))), (q4, .inl (cI, 12, .inl (fun _ => 0))), (q5, .inl (cI, 10, .inl (fun _ => 0)))] := hD
  refine lv_aload_n hx hb dX1_init_47 rfl (lv_at hl 0 rfl) ?_
  refine lv_bipush (v := 7) hx hb dX1_init_48 (by decide) ?_
  refine n_newi (N' := 7) hx hb (hts (.arrayClass .int) (by decide +kernel)) hK 0 rfl hP hD hS hA (by decide) (by decide) (Nat.le_of_ble_eq_true rfl) (Nat.le_of_ble_eq_true rfl) (Nat.le_of_ble_eq_true rfl) dX1_init_50 (fun q6 H hP hD hS => ?_)
  have hP : va_P D vwCl [(h0, .inr (1, [.ref qc, .ref q2, .ref q3, .ref q4, .ref q5, .null, .int 0])), (qc, .inr (0, [.ref q7, .ref q8, .ref q9, .ref q10, .ref q11])), (q7, .inl (cI, 14, .inl (fun _ => 0))), (q8, .inl (cI, 2520, .inl (fun _ => 0))), (q9, .inl (cI, 420, .inl (fun _ => 0))), (q10, .inl (cI, 420, .inl (fun _ => 0))), (q11, .inl (cI, 420, .inl (fun _ => 0))), (q2, .inl (cI, 14, .inl (fun _ => 0))), (q3, .inl (cI, 84, .inl (fun _ => 0))), (q4, .inl (cI, 12, .inl (fun _ => 0))), (q5, .inl (cI, 10, .inl (fun _ => 0))), (q6, .inl (cI, 7, .inl (fun _ => 0)))] H := hP
  have hD : va_D A [(h0, .inr (1, [.ref qc, .ref q2, .ref q3, .ref q4, .ref q5, .null, .int 0])), (qc, .inr (0, [.ref q7, .ref q8, .ref q9, .ref q10, .ref q11])), (q7, .inl (cI, 14, .inl (fun _ => 0))), (q8, .inl (cI, 2520, .inl (fun _ => 0))), (q9, .inl (cI, 420, .inl (fun _ => 0))), (q10, .inl (cI, 420, .inl (fun _ => 0))), (q11, .inl (cI, 420, .inl (fun _ => 0))), (q2, .inl (cI, 14, .inl (fun _ => 0))), (q3, .inl (cI, 84, .inl (fun _ => 0))), (q4, .inl (cI, 12, .inl (fun _ => 0))), (q5, .inl (cI, 10, .inl (fun _ => 0))), (q6, .inl (cI, 7, .inl (fun _ => 0)))] := hD
  refine va_putF (D := D) (ci := 1) (v := .ref q6) (ty := .array .int) (C := RX1) (T := TX1) (N := 7) hx hb hts hiX1 tyX1 tyX1_ok nmX1 hown hK hP hD hS 0 rfl rfl 5 (by decide) (hts (.fieldLink RX1 29 "PalletGram" "debts" "[I") (by decide +kernel)) (fun _ h9 => h9) rfl hin rfl (by decide +kernel) rfl rfl (Nat.le_of_ble_eq_true rfl) dX1_init_52 (fun H locs hP hD hS => ?_)
  have hP : va_P D vwCl [(h0, .inr (1, [.ref qc, .ref q2, .ref q3, .ref q4, .ref q5, .ref q6, .int 0])), (qc, .inr (0, [.ref q7, .ref q8, .ref q9, .ref q10, .ref q11])), (q7, .inl (cI, 14, .inl (fun _ => 0))), (q8, .inl (cI, 2520, .inl (fun _ => 0))), (q9, .inl (cI, 420, .inl (fun _ => 0))), (q10, .inl (cI, 420, .inl (fun _ => 0))), (q11, .inl (cI, 420, .inl (fun _ => 0))), (q2, .inl (cI, 14, .inl (fun _ => 0))), (q3, .inl (cI, 84, .inl (fun _ => 0))), (q4, .inl (cI, 12, .inl (fun _ => 0))), (q5, .inl (cI, 10, .inl (fun _ => 0))), (q6, .inl (cI, 7, .inl (fun _ => 0)))] H := hP
  have hD : va_D A [(h0, .inr (1, [.ref qc, .ref q2, .ref q3, .ref q4, .ref q5, .ref q6, .int 0])), (qc, .inr (0, [.ref q7, .ref q8, .ref q9, .ref q10, .ref q11])), (q7, .inl (cI, 14, .inl (fun _ => 0))), (q8, .inl (cI, 2520, .inl (fun _ => 0))), (q9, .inl (cI, 420, .inl (fun _ => 0))), (q10, .inl (cI, 420, .inl (fun _ => 0))), (q11, .inl (cI, 420, .inl (fun _ => 0))), (q2, .inl (cI, 14, .inl (fun _ => 0))), (q3, .inl (cI, 84, .inl (fun _ => 0))), (q4, .inl (cI, 12, .inl (fun _ => 0))), (q5, .inl (cI, 10, .inl (fun _ => 0))), (q6, .inl (cI, 7, .inl (fun _ => 0)))] := hD
  refine lv_iconst (v := 0) hx hb dX1_init_55 (by decide) ?_
  refine lv_istore_n (lv' := [(1, .int 0), (0, .ref h0)]) hx hb dX1_init_56 rfl hl (by decide) rfl (fun ls hl => ?_)
  have hDk : ∀ k, va_D A [(h0, .inr (1, [.ref qc, .ref q2, .ref q3, .ref q4, .ref q5, .ref q6, .int 0])), (qc, .inr (0, [.ref q7, .ref q8, .ref q9, .ref q10, .ref q11])), (q7, .inl (cI, 14, .inl (fun _ => 0))), (q8, .inl (cI, 2520, .inl (fun _ => 0))), (q9, .inl (cI, 420, .inl (fun _ => 0))), (q10, .inl (cI, 420, .inl (fun _ => 0))), (q11, .inl (cI, 420, .inl (fun _ => 0))), (q2, .inl (cI, 14, .inl (fun _ => 0))), (q3, .inl (cI, 84, .inl (fun _ => 0))), (q4, .inl (cI, 12, .inl (fun _ => 0))), (q5, .inl (cI, 10, .inl (fI k))), (q6, .inl (cI, 7, .inl (fun _ => 0)))] := fun k => dSame hD rfl
  refine loopH (N := 10) (k0 := 0) (fun k ls H locs => lv_has ls 2 [(0, .ref h0), (1, .int (nI k))] ∧ va_P D vwCl [(h0, .inr (1, [.ref qc, .ref q2, .ref q3, .ref q4, .ref q5, .ref q6, .int 0])), (qc, .inr (0, [.ref q7, .ref q8, .ref q9, .ref q10, .ref q11])), (q7, .inl (cI, 14, .inl (fun _ => 0))), (q8, .inl (cI, 2520, .inl (fun _ => 0))), (q9, .inl (cI, 420, .inl (fun _ => 0))), (q10, .inl (cI, 420, .inl (fun _ => 0))), (q11, .inl (cI, 420, .inl (fun _ => 0))), (q2, .inl (cI, 14, .inl (fun _ => 0))), (q3, .inl (cI, 84, .inl (fun _ => 0))), (q4, .inl (cI, 12, .inl (fun _ => 0))), (q5, .inl (cI, 10, .inl (fI k))), (q6, .inl (cI, 7, .inl (fun _ => 0)))] H ∧ va_S A s.heap H locs) (Nat.zero_le _) ⟨lv_sub hl [1, 0] rfl, hP, hS⟩ (fun k ls H locs hk_k hI ih_k => ?_)
  obtain ⟨hl, hP, hS⟩ := hI
  refine lv_iload_n hx hb dX1_init_57 rfl (lv_at hl 1 rfl) ?_
  refine lv_bipush (v := 10) hx hb dX1_init_58 (by decide) ?_
  refine geN k 10 (tgt := 78) hx hb rfl rfl (by omega) (by omega) dX1_init_60 (by decide) (fun c_1 => ?_) (fun c_1 => ?_)
  · have h9 : k = 10 := by omega
    subst k
    have hP9 : va_P D vwCl (wG cI (fun k => match k with | 0 => h0 | 1 => qc | 2 => q2 | 3 => q3 | 4 => q4 | 5 => q5 | 6 => q6 | 7 => q7 | 8 => q8 | 9 => q9 | 10 => q10 | _ => q11) G0) H := hP.sub [0, 1, 7, 8, 9, 10, 11, 2, 3, 4, 5, 6] rfl
    have hD9 : va_D A (wG cI (fun k => match k with | 0 => h0 | 1 => qc | 2 => q2 | 3 => q3 | 4 => q4 | 5 => q5 | 6 => q6 | 7 => q7 | 8 => q8 | 9 => q9 | 10 => q10 | _ => q11) G0) := (hDk 10).sub [0, 1, 7, 8, 9, 10, 11, 2, 3, 4, 5, 6] (by decide) rfl
    exact W.vret hx hb hr (fun t ht hW => ⟨⟨(), rfl, trivial, (fun k => match k with | 0 => h0 | 1 => qc | 2 => q2 | 3 => q3 | 4 => q4 | 5 => q5 | 6 => q6 | 7 => q7 | 8 => q8 | 9 => q9 | 10 => q10 | _ => q11), by rw [ht]; exact hP9, hD9, rfl⟩, hS.F ht⟩) hS.2.2 dX1_init_78 hlocks
  · skip
    refine lv_aload_n hx hb dX1_init_63 rfl (lv_at hl 0 rfl) ?_
    refine va_get (D := D) (ci := 1) (v := .ref q5) (C := RX1) (T := TX1) (N := 7) hx hb hts hiX1 hown hK hP 0 rfl rfl 4 (by decide) (hts (.fieldLink RX1 26 "PalletGram" "fees" "[I") (by decide +kernel)) (fun _ h9 => h9) rfl dX1_init_64 ?_
    refine lv_iload_n hx hb dX1_init_67 rfl (lv_at hl 1 rfl) ?_
    refine lv_iload_n hx hb dX1_init_68 rfl (lv_at hl 1 rfl) ?_
    refine lv_iconst (v := 1) hx hb dX1_init_69 (by decide) ?_
    refine addN k 1 hx hb rfl rfl dX1_init_70 ?_
    refine va_iast hx hb hK hP (hDk k) hS 10 0 rfl rfl (vp_in_nI (n := k) (N := 10) (by omega) (by decide)) dX1_init_71 (fun H locs hP _ hS => ?_)
    rw [nI_clamp (by omega)] at hP
    refine lv_iinc (v := nI (k + 1)) (lv' := [(1, .int (nI (k + 1))), (0, .ref h0)]) hx hb dX1_init_72 hl (k := 1) rfl (iincN k) (by decide) rfl (fun ls hl => ?_)
    refine lv_goto (tgt := 57) hx hb dX1_init_75 (by decide) ?_
    exact ih_k (by omega) _ _ _ ⟨lv_sub hl [1, 0] rfl, hP, hS⟩
