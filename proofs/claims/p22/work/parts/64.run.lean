theorem z_arr_known {args : Array Value} {s : State} {ty : FieldType} (h : (Cond.arrayClass ty).before args s = true) : ∃ cA : ClassId, ArrOfT s cA ty ∧ s.vm.findClass ("[" ++ ty.toString) = some cA := by
  simp only [Cond.before, Cond.holds, Cond.value] at h
  cases h1 : s.vm.findClass ("[" ++ ty.toString) with
  | none => simp [h1] at h
  | some cA =>
    cases h2 : s.vm.classes[cA]? with
    | none => simp [h1, h2] at h
    | some kA =>
      simp [h1, h2] at h
      cases h3 : kA.kind with
      | array comp t =>
        simp [h3] at h
        exact ⟨cA, fun n z => ⟨fun k hk => (by cases hk), kA, h2, comp, by rw [h3, h]⟩, rfl⟩
      | _ => simp [h3] at h
theorem z_vk_Rof {args : Array Value} {s : State} {k : Nat} {tx : String} (h1 : (Cond.stringRef RX1 k tx).before args s = true) (h2 : (Cond.exactly (.string RX1 k) "java/lang/String").before args s = true) : ∃ a, vk_R RX1 k tx a s := by
  obtain ⟨a, c, cA, kA, q1, -⟩ := Cond.exactly_spec (args := args) (first := s) (o := none) (s := s) (idx := []) (t := .string RX1 k) (cls := "java/lang/String") h2
  exact ⟨a, vk_R.of h1 q1⟩
/-! 170 turns, and the law's entry: what was made stays: more than 147 new cells -/
def lw_M (below : List Frame) (s : State) : State → Prop := fun t => ∃ o, t.status = .running ∧ Ended t below o ∧ s.heap.size + 156 ≤ t.heap.size
theorem lw_retM {p : Program} {l : Launch} {e : Env} {R : Room} {s : State} {m : MethodId} {below : List Frame} {meth : Method} {c : Code} {b : Nat} (hx : p.tables.exec = Jvm.exec) (hb : c.code = code) (hr : meth.sig.returnType = ret) (hlocks : meth.locks = false) {pc : Nat} {H : Heap} {locs : List Loc} {cells slots : Nat} {ls : Array Slot} (hH : s.heap.size + 156 ≤ H.size) (hdg : decode code pc = .ok (.ireturn, 1)) : W p l e R s m #[Value.ref b] below meth c H locs cells slots (lw_M below s) (F0 m pc ls [.int 1]) := by
  intro T hT X
  obtain ⟨fs, hret, hrun, hended, hW, hframe⟩ := X.leave (v := some (.int 1)) (hlocks := hlocks) (fun h => by rw [hr] at h; cases h)
  have hmeth' : T.vm.method? m = some meth := X.method'
  refine ⟨T.setFrames fs, ?_, .returned (some (.int 1)), hrun, hended, by show _ ≤ T.heap.size; rw [hT]; exact hH⟩
  jvm_step X.here [X.here.top, hx, hb, hdg, hmeth', hr, ret, narrow_b1]
  (try refine ⟨rfl, ?_⟩); (try refine ⟨rfl, ?_⟩)
  first | (intro acts; rw [hret _ acts rfl rfl rfl]) | rw [hret _ _ rfl rfl rfl]
  exact Steps.refl _
set_option maxHeartbeats 4000000 in
set_option maxRecDepth 100000 in
theorem z_law_run {p : Program} {l : Launch} {e : Env} {s : State} {m : MethodId} {below : List Frame} {meth : Method} {c : Code} {b L : Nat} {xs : Nat → Int32} {D : va_G} {cI : ClassId} {q : Nat → Nat} (hf : l.stackTraces = false) (C0 : LC22 p s m c b L xs D cI q) (hr : meth.sig.returnType = ret) (hlocks : meth.locks = false) (hL : 170 ≤ L) (hL2 : L ≤ 260) (hz : ∀ j, j < 170 → xs j = 0) : ∀ (d t : Nat), 171 ≤ t + d → t ≤ 170 → ∀ (k : Nat) (H : Heap) (locs : List Loc) (ls : Array Slot), k = min t 14 → va_P D vwCl (z_wA cI q (kS k)) H → va_S (fun a : Nat => s.heap.size ≤ a) s.heap H locs → s.heap.size + (t - 14) ≤ H.size → lv_has ls 20 [(0, .ref b), (1, .ref (q 0)), (2, .ref (q 12)), (3, .ref (q 13)), (4, .int (nI k)), (5, .int (nI k)), (6, .int 1), (7, .int 170), (8, .int (nI t))] → W p l e R200 s m #[Value.ref b] below meth c H locs (14 + t) (3953 + 6 * t) (lw_M below s) (F0 m 61 ls []) := by
  intro d
  induction d with
  | zero => intro t h1 h2; omega
  | succ d ih =>
    intro t h1 h2 k H locs ls hk hP hS hg hl
    rcases Nat.lt_or_ge t 170 with ht | ht
    · refine z_law_turn hf C0 hL hL2 hz hk ht hP hS hg hl (fun H locs ls k' hk' hP hS hg hl => ?_)
      exact W.widen (k := 14 + (t + 1)) (n := 3953 + 6 * (t + 1)) (by omega) (by omega) (ih (t + 1) (by omega) (by omega) k' H locs ls hk' hP hS hg hl)
    · have h170 : t = 170 := by omega
      subst h170
      obtain ⟨hx, hb, hml, hown, hts, hXs, hbl, hq14, hZs, hK, hE, hN, hX0⟩ := C0
      refine lv_iload hx hb dL_law_61 (lv_at hl 8 rfl) ?_
      refine lv_iload hx hb dL_law_63 (lv_at hl 7 rfl) ?_
      refine geN 170 170 (tgt := 1188) hx hb rfl rfl (by omega) (by omega) dL_law_65 (by decide) (fun _ => ?_) (fun c_1 => absurd c_1 (by omega))
      refine lv_iload hx hb dL_law_1188 (lv_at hl 6 rfl) ?_
      exact lw_retM hx hb hr hlocks (by omega) dL_law_1190
set_option maxHeartbeats 8000000 in
set_option maxRecDepth 100000 in
theorem law_long {p : Program} {e : Env} {s : State} {m : MethodId} {below : List Frame} {meth : Method} {c : Code} (l : Launch) (hflags : l.flags = flags0) {b L : Nat} {xs : Nat → Int32} (hL : 170 ≤ L) (hL2 : L ≤ 260) (hz : ∀ j, j < 170 → xs j = 0) (C0 : lw_At p s m meth c b L xs) : W p l e R200 s m #[Value.ref b] below meth c s.heap [] 0 0 (lw_M below s) (entryFrame m ([Value.ref b] : List Value).toArray 20) := by
  have hf : l.stackTraces = false := by
    show (!l.flags.contains noTraceFlag) = false
    rw [hflags]; decide +kernel
  obtain ⟨hx, hb, hr, hml, hown, hts, hX, hbl, hlocks, hgv⟩ := id C0
  have htl := hts
  have hts : ∀ w ∈ wsL_law, w.before #[Value.ref b] s = true := fun w h => hts w (wsL_law_in w h)
  have hflat := flat_of_before _ hgv
  have hA : ∀ q : Nat, s.heap.size ≤ q → (fun q : Nat => s.heap.size ≤ q) q := fun _ h => h
  have hbA : ¬ (fun q : Nat => s.heap.size ≤ q) b := Nat.not_le.mpr hbl
  have hAn : ∀ a : Nat, a < s.heap.size → ¬ (fun q : Nat => s.heap.size ≤ q) a := fun a h => Nat.not_le.mpr h
  obtain ⟨c0, iS0, hKn0⟩ := u_known (C := RX0) (T := TX0) (N := 5) (n := 5) hts inlX0 (hts (.instantiable RX0 5) (by decide +kernel))
  obtain ⟨c1, iS1, hKn1⟩ := u_known (C := RX1) (T := TX1) (N := 7) (n := 7) hts inlX1 (hts (.instantiable RX1 7) (by decide +kernel))
  obtain ⟨D, hKc⟩ : ∃ D : va_G, ∀ (k : Nat) (q : vw_C), vwCl[k]? = some q → u_Kn s q.1 q.2.1 q.2.2 (D.1 k) (D.2 k) := by
    refine ⟨(fun k => if k = 0 then c0 else c1, fun k => if k = 0 then iS0 else iS1), ?_⟩
    intro k q hq
    match k, hq with
    | 0, hq => cases hq; exact hKn0
    | 1, hq => cases hq; exact hKn1
    | k + 2, hq => simp [vwCl] at hq
  obtain ⟨cI, hI1, hI2⟩ := z_arr_known (hts (.arrayClass .int) (by decide +kernel))
  have hK : va_K D vwCl [(cI, .int)] s := ⟨hKc, fun k q h => by
    match k, h with
    | 0, h => cases h; exact ⟨hI1, hI2⟩
    | k + 1, h => simp at h⟩
  have hE : EN s := ⟨va_Nw.of rfl (htl (.methodLinkNest RX0 45 yX1_isIn RX1) (by decide +kernel)), va_Nw.of rfl (htl (.methodLinkNest RX1 9 yX0_init RX1) (by decide +kernel))⟩
  have hN : z_NC s := ⟨va_Nc.of (hflat (.not (.castable E2 E1)) (by decide +kernel)), va_Nc.of (hflat (.not (.castable E3 E1)) (by decide +kernel)), va_Nc.of (hflat (.not (.castable E3 E2)) (by decide +kernel))⟩
  have hX0 : EX (fun a : Nat => s.heap.size ≤ a) s s.heap := by
    refine ⟨⟨va_Nw.of rfl (htl (.declares (Bundle.initS "java/lang/RuntimeException")) (by decide +kernel)), va_Nw.of rfl (htl (.declares (Bundle.initS "java/lang/Exception")) (by decide +kernel)), va_Nw.of rfl (htl (.declares (Bundle.initS Bundle.tN)) (by decide +kernel)), va_Nw.of rfl (htl (.castable E1 E1) (by decide +kernel)), va_Nw.of rfl (htl (.castable E2 E2) (by decide +kernel)), va_Nw.of rfl (htl (.castable E3 E3) (by decide +kernel))⟩, ⟨?_, ?_, ?_⟩, ?_, ?_⟩
    · exact z_vk_Rof (htl _ (by decide +kernel)) (hflat _ (by decide +kernel))
    · exact z_vk_Rof (htl _ (by decide +kernel)) (hflat _ (by decide +kernel))
    · exact z_vk_Rof (htl _ (by decide +kernel)) (hflat _ (by decide +kernel))
    · exact vx_Zqof (htl _ (by decide +kernel)) (htl _ (by decide +kernel)) (hflat _ (by decide +kernel)) hAn
    · exact vx_Zqof (htl _ (by decide +kernel)) (htl _ (by decide +kernel)) (hflat _ (by decide +kernel)) hAn
  have hS : va_S (fun q : Nat => s.heap.size ≤ q) s.heap s.heap [] := va_S.rf
  have hP : va_P D vwCl [] s.heap := fun k q h => by simp at h
  have hD : va_D (fun q : Nat => s.heap.size ≤ q) [] := ⟨fun i j p q h => by simp at h, fun k q h => by simp at h⟩
  have hl := lv_entry ([.ref b]) (n := 20) (Nat.le_of_ble_eq_true rfl)
  rw [lg_entry_eq]
  generalize (lg_sl ([.ref b]) ++ List.replicate (20 - (lg_sl ([.ref b])).length) Slot.unset).toArray = ls at hl ⊢
  have hl : lv_has ls 20 [(0, .ref b)] := hl
  refine W.eq (g2 := F0 m 0 ls []) rfl ?_
  refine va_new (ci := 1) (fs := [.null, .null, .null, .null, .null, .null, .int 0]) (C := RX1) (T := TX1) (N := 7) hx hb hts inlX1 tyX1 tyX1_ok hown (hts (.classLink RL 8 RX1) (by decide +kernel)) (hts (.instantiable RX1 7) (by decide +kernel)) (hts (.initialized RX1) (by decide +kernel)) hK hP hD hS hA rfl (fun j hj => by rcases (show j = 0 ∨ j = 1 ∨ j = 2 ∨ j = 3 ∨ j = 4 ∨ j = 5 ∨ j = 6 by omega) with rfl | rfl | rfl | rfl | rfl | rfl | rfl <;> rfl) (Nat.le_of_ble_eq_true rfl) (Nat.le_of_ble_eq_true rfl) dL_law_0 (fun a0 H hP hD hS => ?_)
  have hP : va_P D vwCl [(a0, .inr (1, [.null, .null, .null, .null, .null, .null, .int 0]))] H := hP
  have hD : va_D (fun q : Nat => s.heap.size ≤ q) [(a0, .inr (1, [.null, .null, .null, .null, .null, .null, .int 0]))] := hD
  refine lv_dup hx hb dL_law_3 rfl ?_
  have hFc := va_free (wc := [(a0, .inr (1, [.null, .null, .null, .null, .null, .null, .int 0]))]) hD hS hA [0] rfl
  have hK1 := hK
  refine va_callv (va_runI (As := []) (rest := [.ref a0]) ⟨hx, hb, hml, hown, hts⟩ (c_X1_init l D cI a0 H.size) (cwI 0 hts gL_law_X1_init rfl rfl rfl (hts (.initialized RX1) (by decide +kernel)) (hts (.methodLink RL 69 yX1_init) (by decide +kernel)) (hts (.instanceMethod yX1_init) (by decide +kernel)) rfl (by decide +kernel) ⟨Nat.le_of_ble_eq_true rfl, Nat.le_of_ble_eq_true rfl⟩) ⟨fun a U g mk h => ⟨h.1, h.2.1, h.2.2.1, va_K.moved (u := U) (U := U.calling g mk a) (Vm.Alike.refl U.vm) h.2.2.2.1, EN_call h.2.2.2.2⟩, fun U hU hW => ⟨rfl, by rw [hU], by rw [hU]; exact hP, va_K.moved hW.alike hK1, EN_warm hW hE⟩⟩ rfl rfl hl.1 rfl (lv_room (Nat.le_of_ble_eq_true rfl)) dL_law_4 ⟨Nat.le_of_ble_eq_true rfl, Nat.le_of_ble_eq_true rfl⟩) hS (fun q _ h => hFc q h) hFc (fun u t H1 locs ht hvm hw hB hz1 hk1 hS => ?_)
  obtain ⟨qa, hP1, hD1, hqa⟩ := hB
  rw [ht] at hP1
  obtain ⟨hP, hD⟩ := va_join (wr := []) (w1 := wG cI qa G0) hP hD [0] [] rfl rfl (by decide) (by decide) hk1 hFc hP1 hD1
  generalize H1 = H at hP hS ⊢
  have hP : va_P D vwCl (wG cI qa G0) H := hP
  have hD : va_D (fun q : Nat => s.heap.size ≤ q) (wG cI qa G0) := hD
  refine lv_astore_n (lv' := [(1, .ref a0), (0, .ref b)]) hx hb dL_law_7 rfl hl (by decide) rfl (fun ls hl => ?_)
  have hP : va_P D vwCl (wG cI qa G0) H := hP
  refine lv_bipush (v := 6) hx hb dL_law_8 (by decide) ?_
  refine n_newi (N' := 6) hx hb (hts (.arrayClass .int) (by decide +kernel)) hK 0 rfl hP hD hS hA (by decide) (by decide) (Nat.le_of_ble_eq_true rfl) (Nat.le_of_ble_eq_true rfl) (Nat.le_of_ble_eq_true rfl) dL_law_10 (fun a1 H hP hD hS => ?_)
  refine lv_astore_n (lv' := [(2, .ref a1), (1, .ref a0), (0, .ref b)]) hx hb dL_law_12 rfl hl (by decide) rfl (fun ls hl => ?_)
  refine lv_bipush (v := 14) hx hb dL_law_13 (by decide) ?_
  refine n_newi (N' := 14) hx hb (hts (.arrayClass .int) (by decide +kernel)) hK 0 rfl hP hD hS hA (by decide) (by decide) (Nat.le_of_ble_eq_true rfl) (Nat.le_of_ble_eq_true rfl) (Nat.le_of_ble_eq_true rfl) dL_law_15 (fun a2 H hP hD hS => ?_)
  refine lv_astore_n (lv' := [(3, .ref a2), (2, .ref a1), (1, .ref a0), (0, .ref b)]) hx hb dL_law_17 rfl hl (by decide) rfl (fun ls hl => ?_)
  refine lv_iconst (v := 0) hx hb dL_law_18 (by decide) ?_
  refine lv_istore (lv' := [(4, .int 0), (3, .ref a2), (2, .ref a1), (1, .ref a0), (0, .ref b)]) hx hb dL_law_19 hl (by decide) rfl (fun ls hl => ?_)
  refine lv_iconst (v := 0) hx hb dL_law_21 (by decide) ?_
  refine lv_istore (lv' := [(5, .int 0), (4, .int 0), (3, .ref a2), (2, .ref a1), (1, .ref a0), (0, .ref b)]) hx hb dL_law_22 hl (by decide) rfl (fun ls hl => ?_)
  refine lv_iconst (v := 1) hx hb dL_law_24 (by decide) ?_
  refine lv_istore (lv' := [(6, .int 1), (5, .int 0), (4, .int 0), (3, .ref a2), (2, .ref a1), (1, .ref a0), (0, .ref b)]) hx hb dL_law_25 hl (by decide) rfl (fun ls hl => ?_)
  refine lv_aload_n hx hb dL_law_27 rfl (lv_at hl 6 rfl) ?_
  refine va_slen hx hb hX hbl hbA hS dL_law_28 ?_
  refine lv_bipush (v := 60) hx hb dL_law_29 (by decide) ?_
  refine geN L 60 (tgt := 39) hx hb rfl rfl (by omega) (by omega) dL_law_31 (by decide) (fun c_1 => ?_) (fun c_1 => absurd c_1 (by omega))
  refine lv_aload_n hx hb dL_law_39 rfl (lv_at hl 6 rfl) ?_
  refine va_slen hx hb hX hbl hbA hS dL_law_40 ?_
  refine lv_bipush (v := 110) hx hb dL_law_41 (by decide) ?_
  refine geN L 110 (tgt := 53) hx hb rfl rfl (by omega) (by omega) dL_law_43 (by decide) (fun c_2 => ?_) (fun c_2 => absurd c_2 (by omega))
  refine lv_sipush (v := 170) hx hb dL_law_53 (by decide) ?_
  refine lv_istore (lv' := [(7, .int 170), (6, .int 1), (5, .int 0), (4, .int 0), (3, .ref a2), (2, .ref a1), (1, .ref a0), (0, .ref b)]) hx hb dL_law_56 hl (by decide) rfl (fun ls hl => ?_)
  refine lv_iconst (v := 0) hx hb dL_law_58 (by decide) ?_
  refine lv_istore (lv' := [(8, .int 0), (7, .int 170), (6, .int 1), (5, .int 0), (4, .int 0), (3, .ref a2), (2, .ref a1), (1, .ref a0), (0, .ref b)]) hx hb dL_law_59 hl (by decide) rfl (fun ls hl => ?_)
  obtain ⟨Z, hZa, hZb, hZc⟩ : ∃ Z : Nat → Nat, (∀ k, k < 12 → Z k = qa k) ∧ Z 12 = a1 ∧ Z 13 = a2 := ⟨fun k => if k < 12 then qa k else if k = 12 then a1 else a2, fun k h => if_pos h, rfl, rfl⟩
  have hg : wG cI Z G0 = wG cI qa G0 := by simp only [wG, hZa 0 (by decide), hZa 1 (by decide), hZa 2 (by decide), hZa 3 (by decide), hZa 4 (by decide), hZa 5 (by decide), hZa 6 (by decide), hZa 7 (by decide), hZa 8 (by decide), hZa 9 (by decide), hZa 10 (by decide), hZa 11 (by decide)]
  have hwA : z_wA cI Z G0 = wG cI qa G0 ++ [(a1, .inl (cI, 6, .inl (fun _ => 0)))] ++ [(a2, .inl (cI, 14, .inl (fun _ => 0)))] := by
    show wG cI Z G0 ++ [(Z 12, .inl (cI, 6, .inl (fun _ => 0))), (Z 13, .inl (cI, 14, .inl (fun _ => 0)))] = _
    rw [hg, hZb, hZc, List.append_assoc]; rfl
  have hP9 : va_P D vwCl (z_wA cI Z G0) H := by rw [hwA]; exact hP
  have hD9 : va_D (fun q : Nat => s.heap.size ≤ q) (z_wA cI Z G0) := by rw [hwA]; exact hD
  have hat : ∀ k, k < 14 → ∃ e, (z_wA cI Z G0)[k]? = some (Z k, e) := fun k hk => by
    match k, hk with
    | 0, _ => exact ⟨_, rfl⟩
    | 1, _ => exact ⟨_, rfl⟩
    | 2, _ => exact ⟨_, rfl⟩
    | 3, _ => exact ⟨_, rfl⟩
    | 4, _ => exact ⟨_, rfl⟩
    | 5, _ => exact ⟨_, rfl⟩
    | 6, _ => exact ⟨_, rfl⟩
    | 7, _ => exact ⟨_, rfl⟩
    | 8, _ => exact ⟨_, rfl⟩
    | 9, _ => exact ⟨_, rfl⟩
    | 10, _ => exact ⟨_, rfl⟩
    | 11, _ => exact ⟨_, rfl⟩
    | 12, _ => exact ⟨_, rfl⟩
    | 13, _ => exact ⟨_, rfl⟩
    | k + 14, hk => omega
  have hZ : ijQ 14 Z := fun i j hi hj h => by
    obtain ⟨e1, h1⟩ := hat i hi
    obtain ⟨e2, h2⟩ := hat j hj
    exact hD9.1 i j _ _ h1 h2 h
  have hZs : ∀ k, k < 14 → s.heap.size ≤ Z k := fun k hk => by
    obtain ⟨e1, h1⟩ := hat k hk
    exact hD9.2 k _ h1
  have hl : lv_has ls 20 [(0, .ref b), (1, .ref (Z 0)), (2, .ref (Z 12)), (3, .ref (Z 13)), (4, .int (nI 0)), (5, .int (nI 0)), (6, .int 1), (7, .int 170), (8, .int (nI 0))] := by
    rw [hZa 0 (by decide), hZb, hZc, hqa]
    exact lv_sub hl [8, 7, 6, 5, 4, 3, 2, 1, 0] rfl
  have hP9 : va_P D vwCl (z_wA cI Z (kS 0)) H := by rw [kS_0]; exact hP9
  refine W.widen (k := 14 + 0) (n := 3953 + 6 * 0) (Nat.le_of_ble_eq_true rfl) (Nat.le_of_ble_eq_true rfl) ?_
  exact z_law_run hf ⟨hx, hb, hml, hown, hts, hX, hbl, hZ, hZs, hK, hE, hN, hX0⟩ hr hlocks hL hL2 hz 171 0 (by omega) (by omega) 0 H _ ls rfl hP9 hS (by have := hS.1; omega) hl
