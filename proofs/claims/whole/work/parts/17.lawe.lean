/-! the law's loop and its entry, for any relation that every call keeps -/
def stAll (Rel : SG → SM → Prop) : Prop := (∀ x1 : Int32, stepI Rel (fun σ => cMake σ x1) (fun τ => mMake τ x1) kB) ∧ (∀ x1 x2 x3 : Int32, stepI Rel (fun σ => cLoad σ x1 x2 x3) (fun τ => mLoad τ x1 x2 x3) (fun z => z)) ∧ (∀ x1 x2 x3 : Int32, stepI Rel (fun σ => cPart σ x1 x2 x3) (fun τ => mPart τ x1 x2 x3) (fun z => z)) ∧ (∀ x1 x2 : Int32, stepI Rel (fun σ => cJoin σ x1 x2) (fun τ => mJoin τ x1 x2) (fun z => z)) ∧ (∀ x1 x2 : Int32, stepI Rel (fun σ => cMove σ x1 x2) (fun τ => mMove τ x1 x2) kB) ∧ (∀ x1 : Int32, stepB Rel (fun σ => cHold σ x1) (fun τ => mHold τ x1) kB) ∧ (∀ x1 x2 x3 : Int32, stepI Rel (fun σ => cSpoil σ x1 x2 x3) (fun τ => mSpoil τ x1 x2 x3) (fun z => z)) ∧ (∀ x1 : Int32, stepI Rel (fun σ => cLose σ x1) (fun τ => mLose τ x1) (fun z => z)) ∧ (∀ x1 x2 : Int32, stepI Rel (fun σ => cRepair σ x1 x2) (fun τ => mRepair τ x1 x2) kB) ∧ (∀ x1 : Int32, stepI Rel (fun σ => cBroken σ x1) (fun τ => mBroken τ x1) (fun z => z)) ∧ (∀ x1 : Int32, stepB Rel (fun σ => cSound σ x1) (fun τ => mSound τ x1) (fun z => z)) ∧ (∀ x1 x2 : Int32, stepI Rel (fun σ => cPallet σ x1 x2) (fun τ => mPallet τ x1 x2) (fun z => z)) ∧ (∀ x1 x2 x3 : Int32, stepI Rel (fun σ => cEntry σ x1 x2 x3) (fun τ => mEntry τ x1 x2 x3) (fun z => z)) ∧ (∀ x1 x2 : Int32, stepI Rel (fun σ => cContents σ x1 x2) (fun τ => mContents τ x1 x2) (fun z => z)) ∧ (∀ x1 x2 : Int32, stepI Rel (fun σ => cAnew σ x1 x2) (fun τ => mAnew τ x1 x2) (fun z => z)) ∧ (∀ x1 x2 x3 : Int32, stepI Rel (fun σ => cDeclare σ x1 x2 x3) (fun τ => mDeclare τ x1 x2 x3) (fun z => z)) ∧ (∀ x1 : Int32, stepI Rel (fun σ => cMismatch σ x1) (fun τ => mMismatch τ x1) (fun z => z)) ∧ (∀ x1 x2 : Int32, stepI Rel (fun σ => cFeeF σ x1 x2) (fun τ => mFeeF τ x1 x2) kE) ∧ (∀ x1 : Int32, stepI Rel (fun σ => cOwed σ x1) (fun τ => mOwed τ x1) (fun z => z))
theorem arr_known {args : Array Value} {s : State} {ty : FieldType} (h : (Cond.arrayClass ty).before args s = true) : ∃ cA : ClassId, ArrOfT s cA ty ∧ s.vm.findClass ("[" ++ ty.toString) = some cA := by
  simp only [Cond.before, Cond.holds, Cond.value] at h
  cases h1 : s.vm.findClass ("[" ++ ty.toString) with
  | none => simp [h1] at h
  | some cA =>
    cases h2 : s.vm.classes[cA]? with
    | none => simp [h1, h2] at h
    | some kA =>
      simp [h1, h2] at h
      cases h3 : kA.kind with
      | array comp t =>
        simp [h3] at h
        exact ⟨cA, fun n z => ⟨fun k hk => (by cases hk), kA, h2, comp, by rw [h3, h]⟩, rfl⟩
      | _ => simp [h3] at h
theorem vk_Rof {args : Array Value} {s : State} {k : Nat} {tx : String} (h1 : (Cond.stringRef RX1 k tx).before args s = true) (h2 : (Cond.exactly (.string RX1 k) "java/lang/String").before args s = true) : ∃ a, vk_R RX1 k tx a s := by
  obtain ⟨a, c, cA, kA, q1, -⟩ := Cond.exactly_spec (args := args) (first := s) (o := none) (s := s) (idx := []) (t := .string RX1 k) (cls := "java/lang/String") h2
  exact ⟨a, vk_R.of h1 q1⟩
set_option maxHeartbeats 4000000 in
set_option maxRecDepth 100000 in
theorem law_loop {p : Program} {l : Launch} {e : Env} {s : State} {m : MethodId} {below : List Frame} {meth : Method} {c : Code} {b L : Nat} {xs : Nat → Int32} {D : va_G} {cI cZ cJ : ClassId} {Z : Nat → Nat} (hf : l.stackTraces = false) (C0 : LC p s m c b L xs D cI cZ cJ Z) (hr : meth.sig.returnType = ret) (hlocks : meth.locks = false) (hL : L ≤ 2048) {Rel : SG → SM → Prop} (hFx : ∀ σ τ, Rel σ τ → fxG σ ∧ fxM τ) (hst : stAll Rel) : ∀ (d t : Nat), 513 ≤ t + d → t ≤ 512 → ∀ (σ : SG) (τ : SM) (o : Nat → Int64) (H : Heap) (locs : List Loc) (ls : Array Slot), Rel σ τ → va_P D vwCl (wA cI cZ cJ Z σ τ o) H → va_S (fun a : Nat => s.heap.size ≤ a) s.heap H locs → lv_has ls 7 [(0, .ref b), (1, .ref (Z 0)), (2, .ref (Z 13)), (3, .ref (Z 12)), (4, .int (nI (4 * t)))] → W p l e room_1 s m #[Value.ref b] below meth c H locs (33 + t) (7933 + 6 * t) (lw_Z below #[Value.ref b] s) (F0 m 23 ls []) := by
  obtain ⟨s_make, s_load, s_part, s_join, s_move, s_hold, s_spoil, s_lose, s_repair, s_broken, s_isSound, s_pallet, s_entry, s_contents, s_contentsAnew, s_declare, s_mismatch, s_fee, s_owed⟩ := hst
  intro d
  induction d with
  | zero => intro t h1 h2; omega
  | succ d ih =>
    intro t h1 h2 σ τ o H locs ls hR hP hS hl
    obtain ⟨hx, hb, hml, hown, hts, hXs, hbl, hZ, hZs, hK, hE, hN, hX0⟩ := id C0
    have hbA : ¬ (fun a : Nat => s.heap.size ≤ a) b := Nat.not_le.mpr hbl
    have hend : ∀ (σ : SG) (τ : SM) (o : Nat → Int64) (H : Heap) (locs : List Loc) (ls : Array Slot), 4 * t + 4 ≤ L → Rel σ τ → va_P D vwCl (wA cI cZ cJ Z σ τ o) H → va_S (fun a : Nat => s.heap.size ≤ a) s.heap H locs → lv_has ls 7 [(0, .ref b), (1, .ref (Z 0)), (2, .ref (Z 13)), (3, .ref (Z 12)), (4, .int (nI (4 * t)))] → W p l e room_1 s m #[Value.ref b] below meth c H locs ((33 + t) + 1) ((7933 + 6 * t) + 6) (lw_Z below #[Value.ref b] s) (F0 m 1410 ls []) := by
      intro σ τ o H locs ls hiL hR hP hS hl
      refine lv_iinc (v := nI (4 * t + 4)) (lv' := [(4, .int (nI (4 * t + 4))), (0, .ref b), (1, .ref (Z 0)), (2, .ref (Z 13)), (3, .ref (Z 12))]) hx hb dL_law_1410 hl (k := 4) rfl (iincN4 (4 * t)) (by decide) rfl (fun ls hl => ?_)
      refine lv_goto (tgt := 23) hx hb dL_law_1413 (by decide) ?_
      exact ih (t + 1) (by omega) (by omega) σ τ o H locs ls hR hP hS (lv_sub hl [1, 2, 3, 4, 0] rfl)
    refine lv_iload hx hb dL_law_23 (lv_at hl 4 rfl) ?_
    refine lv_aload_n hx hb dL_law_25 rfl (lv_at hl 0 rfl) ?_
    refine va_slen hx hb hXs hbl hbA hS dL_law_26 ?_
    refine lv_iconst (v := 4) hx hb dL_law_27 (by decide) ?_
    refine lv_isub hx hb dL_law_28 ?_
    refine lv_icmp_gt (tgt := 1416) hx hb dL_law_29 (by decide) (fun c_1 => ?_) (fun c_1 => ?_)
    · refine W.widen (k := 1060) (n := 16143) (by omega) (by omega) ?_
      refine va_forget (fun q hq => hS.2.2 q hq) ?_
      refine lv_iconst (v := 1) hx hb dL_law_1416 (by decide) ?_
      exact lw_ret hx hb hr hlocks dL_law_1417
    · have hi : 4 * t + 4 ≤ L := guard4 hL (by omega) c_1
      refine lv_aload_n hx hb dL_law_32 rfl (lv_at hl 0 rfl) ?_
      refine lv_iload hx hb dL_law_33 (lv_at hl 4 rfl) ?_
      refine lrd (i := 4 * t) hx hb hXs hbl hbA hS rfl (by omega) hL dL_law_35 ?_
      refine lv_bipush (v := 31) hx hb dL_law_36 (by decide) ?_
      refine lv_iand hx hb dL_law_38 ?_
      obtain ⟨j, hj, hje⟩ := pk_andE (xs (4 * t)) (m := 31) 5 (by decide)
      rw [hje]
      clear hje
      have hkc : (33 + t) + 1 ≤ 1060 := by omega
      have hkn : (7933 + 6 * t) + 6 ≤ 16143 := by omega
      have hkk := fun (σ : SG) (τ : SM) (o : Nat → Int64) (H : Heap) (locs : List Loc) (ls : Array Slot) => hend σ τ o H locs ls hi
      by_cases e_0 : j = 0
      · subst e_0
        refine lv_tableIn (off := 89) (tgt := 128) hx hb dL_law_39 (by decide) (by decide) (by decide) (by decide) ?_
        exact lc_make hf C0 hL hFx (s_make (xs (4 * t + 1))) hi hkc hkn hR hP hS hl hkk
      by_cases e_1 : j = 1
      · subst e_1
        refine lv_tableIn (off := 145) (tgt := 184) hx hb dL_law_39 (by decide) (by decide) (by decide) (by decide) ?_
        exact lc_load hf C0 hL hFx (s_load (xs (4 * t + 1)) (xs (4 * t + 2)) (xs (4 * t + 3))) hi hkc hkn hR hP hS hl hkk
      by_cases e_2 : j = 2
      · subst e_2
        refine lv_tableIn (off := 225) (tgt := 264) hx hb dL_law_39 (by decide) (by decide) (by decide) (by decide) ?_
        exact lc_part hf C0 hL hFx (s_part (xs (4 * t + 1)) (xs (4 * t + 2)) (xs (4 * t + 3))) hi hkc hkn hR hP hS hl hkk
      by_cases e_3 : j = 3
      · subst e_3
        refine lv_tableIn (off := 305) (tgt := 344) hx hb dL_law_39 (by decide) (by decide) (by decide) (by decide) ?_
        exact lc_join hf C0 hL hFx (s_join (xs (4 * t + 1)) (xs (4 * t + 2))) hi hkc hkn hR hP hS hl hkk
      by_cases e_4 : j = 4
      · subst e_4
        refine lv_tableIn (off := 373) (tgt := 412) hx hb dL_law_39 (by decide) (by decide) (by decide) (by decide) ?_
        exact lc_move hf C0 hL hFx (s_move (xs (4 * t + 1)) (xs (4 * t + 2))) hi hkc hkn hR hP hS hl hkk
      by_cases e_5 : j = 5
      · subst e_5
        refine lv_tableIn (off := 441) (tgt := 480) hx hb dL_law_39 (by decide) (by decide) (by decide) (by decide) ?_
        exact lc_hold hf C0 hL hFx (s_hold (xs (4 * t + 1))) hi hkc hkn hR hP hS hl hkk
      by_cases e_6 : j = 6
      · subst e_6
        refine lv_tableIn (off := 504) (tgt := 543) hx hb dL_law_39 (by decide) (by decide) (by decide) (by decide) ?_
        exact lc_spoil hf C0 hL hFx (s_spoil (xs (4 * t + 1)) (xs (4 * t + 2)) (xs (4 * t + 3))) hi hkc hkn hR hP hS hl hkk
      by_cases e_7 : j = 7
      · subst e_7
        refine lv_tableIn (off := 584) (tgt := 623) hx hb dL_law_39 (by decide) (by decide) (by decide) (by decide) ?_
        exact lc_lose hf C0 hL hFx (s_lose (xs (4 * t + 1))) hi hkc hkn hR hP hS hl hkk
      by_cases e_8 : j = 8
      · subst e_8
        refine lv_tableIn (off := 640) (tgt := 679) hx hb dL_law_39 (by decide) (by decide) (by decide) (by decide) ?_
        exact lc_repair hf C0 hL hFx (s_repair (xs (4 * t + 1)) (xs (4 * t + 2))) hi hkc hkn hR hP hS hl hkk
      by_cases e_9 : j = 9
      · subst e_9
        refine lv_tableIn (off := 708) (tgt := 747) hx hb dL_law_39 (by decide) (by decide) (by decide) (by decide) ?_
        exact lc_broken hf C0 hL hFx (s_broken (xs (4 * t + 1))) hi hkc hkn hR hP hS hl hkk
      by_cases e_10 : j = 10
      · subst e_10
        refine lv_tableIn (off := 764) (tgt := 803) hx hb dL_law_39 (by decide) (by decide) (by decide) (by decide) ?_
        exact lc_isSound hf C0 hL hFx (s_isSound (xs (4 * t + 1))) hi hkc hkn hR hP hS hl hkk
      by_cases e_11 : j = 11
      · subst e_11
        refine lv_tableIn (off := 827) (tgt := 866) hx hb dL_law_39 (by decide) (by decide) (by decide) (by decide) ?_
        exact lc_pallet hf C0 hL hFx (s_pallet (xs (4 * t + 1)) (xs (4 * t + 2))) hi hkc hkn hR hP hS hl hkk
      by_cases e_12 : j = 12
      · subst e_12
        refine lv_tableIn (off := 895) (tgt := 934) hx hb dL_law_39 (by decide) (by decide) (by decide) (by decide) ?_
        exact lc_entry hf C0 hL hFx (s_entry (xs (4 * t + 1)) (xs (4 * t + 2)) (xs (4 * t + 3))) hi hkc hkn hR hP hS hl hkk
      by_cases e_13 : j = 13
      · subst e_13
        refine lv_tableIn (off := 975) (tgt := 1014) hx hb dL_law_39 (by decide) (by decide) (by decide) (by decide) ?_
        exact lc_contents hf C0 hL hFx (s_contents (xs (4 * t + 1)) (xs (4 * t + 2))) hi hkc hkn hR hP hS hl hkk
      by_cases e_14 : j = 14
      · subst e_14
        refine lv_tableIn (off := 1043) (tgt := 1082) hx hb dL_law_39 (by decide) (by decide) (by decide) (by decide) ?_
        exact lc_contentsAnew hf C0 hL hFx (s_contentsAnew (xs (4 * t + 1)) (xs (4 * t + 2))) hi hkc hkn hR hP hS hl hkk
      by_cases e_15 : j = 15
      · subst e_15
        refine lv_tableIn (off := 1111) (tgt := 1150) hx hb dL_law_39 (by decide) (by decide) (by decide) (by decide) ?_
        exact lc_declare hf C0 hL hFx (s_declare (xs (4 * t + 1)) (xs (4 * t + 2)) (xs (4 * t + 3))) hi hkc hkn hR hP hS hl hkk
      by_cases e_16 : j = 16
      · subst e_16
        refine lv_tableIn (off := 1191) (tgt := 1230) hx hb dL_law_39 (by decide) (by decide) (by decide) (by decide) ?_
        exact lc_mismatch hf C0 hL hFx (s_mismatch (xs (4 * t + 1))) hi hkc hkn hR hP hS hl hkk
      by_cases e_17 : j = 17
      · subst e_17
        refine lv_tableIn (off := 1247) (tgt := 1286) hx hb dL_law_39 (by decide) (by decide) (by decide) (by decide) ?_
        exact lc_fee hf C0 hL hFx (s_fee (xs (4 * t + 1)) (xs (4 * t + 2))) hi hkc hkn hR hP hS hl hkk
      by_cases e_18 : j = 18
      · subst e_18
        refine lv_tableIn (off := 1315) (tgt := 1354) hx hb dL_law_39 (by decide) (by decide) (by decide) (by decide) ?_
        exact lc_owed hf C0 hL hFx (s_owed (xs (4 * t + 1))) hi hkc hkn hR hP hS hl hkk
      have hjv : (nI j).toInt = (j : Int) := nI_toInt (by omega)
      refine lv_tableOut (tgt := 1410) hx hb dL_law_39 (by rw [hjv]; omega) (by decide) ?_
      exact W.widen (k := (33 + t) + 1) (n := (7933 + 6 * t) + 6) (by omega) (by omega) (hkk σ τ o H locs ls hR hP hS hl)
set_option maxHeartbeats 8000000 in
set_option maxRecDepth 100000 in
theorem law_entry {p : Program} {e : Env} {s : State} {m : MethodId} {below : List Frame} {meth : Method} {c : Code} (l : Launch) (hflags : l.flags = flags0) {b L : Nat} {xs : Nat → Int32} (hL : L ≤ 2048) (C0 : lw_At p s m meth c b L xs) {Rel : SG → SM → Prop} (hFx : ∀ σ τ, Rel σ τ → fxG σ ∧ fxM τ) (hst : stAll Rel) (hR0 : Rel G0 M0) : W p l e room_1 s m #[Value.ref b] below meth c s.heap [] 0 0 (lw_Z below #[Value.ref b] s) (entryFrame m ([Value.ref b] : List Value).toArray 7) := by
  have hf : l.stackTraces = false := by
    show (!l.flags.contains noTraceFlag) = false
    rw [hflags]; decide +kernel
  obtain ⟨hx, hb, hr, hml, hown, hts, hX, hbl, hlocks, hgv⟩ := id C0
  have htl := hts
  have hts : ∀ w ∈ wsL_law, w.before #[Value.ref b] s = true := fun w h => hts w (wsL_law_in w h)
  have hflat := flat_of_before _ hgv
  have hA : ∀ q : Nat, s.heap.size ≤ q → (fun q : Nat => s.heap.size ≤ q) q := fun _ h => h
  have hbA : ¬ (fun q : Nat => s.heap.size ≤ q) b := Nat.not_le.mpr hbl
  have hAn : ∀ a : Nat, a < s.heap.size → ¬ (fun q : Nat => s.heap.size ≤ q) a := fun a h => Nat.not_le.mpr h
  obtain ⟨c0, iS0, hKn0⟩ := u_known (C := RX0) (T := TX0) (N := 5) (n := 5) hts inlX0 (hts (.instantiable RX0 5) (by decide +kernel))
  obtain ⟨c1, iS1, hKn1⟩ := u_known (C := RX1) (T := TX1) (N := 7) (n := 7) hts inlX1 (hts (.instantiable RX1 7) (by decide +kernel))
  obtain ⟨c2, iS2, hKn2⟩ := u_known (C := RX2) (T := TX2) (N := 22) (n := 22) hts inlX2 (hts (.instantiable RX2 22) (by decide +kernel))
  obtain ⟨D, hKc⟩ : ∃ D : va_G, ∀ (k : Nat) (q : vw_C), vwCl[k]? = some q → u_Kn s q.1 q.2.1 q.2.2 (D.1 k) (D.2 k) := by
    refine ⟨(fun k => if k = 0 then c0 else if k = 1 then c1 else c2, fun k => if k = 0 then iS0 else if k = 1 then iS1 else iS2), ?_⟩
    intro k q hq
    match k, hq with
    | 0, hq => cases hq; exact hKn0
    | 1, hq => cases hq; exact hKn1
    | 2, hq => cases hq; exact hKn2
    | k + 3, hq => simp [vwCl] at hq
  obtain ⟨cI, hI1, hI2⟩ := arr_known (hts (.arrayClass .int) (by decide +kernel))
  obtain ⟨cZ, hZ1, hZ2⟩ := arr_known (hts (.arrayClass .boolean) (by decide +kernel))
  obtain ⟨cJ, hJ1, hJ2⟩ := arr_known (hts (.arrayClass .long) (by decide +kernel))
  have hK : va_K D vwCl (tyA cI cZ cJ) s := ⟨hKc, fun k q h => by
    match k, h with
    | 0, h => cases h; exact ⟨hI1, hI2⟩
    | 1, h => cases h; exact ⟨hZ1, hZ2⟩
    | 2, h => cases h; exact ⟨hJ1, hJ2⟩
    | k + 3, h => simp at h⟩
  have hE : EN s := ⟨va_Nw.of rfl (htl (.methodLinkNest RX0 45 yX1_isIn RX1) (by decide +kernel)), va_Nw.of rfl (htl (.methodLinkNest RX1 9 yX0_init RX1) (by decide +kernel))⟩
  have hN : NC s := ⟨va_Nc.of (hflat (.not (.castable E2 E1)) (by decide +kernel)), va_Nc.of (hflat (.not (.castable E3 E1)) (by decide +kernel)), va_Nc.of (hflat (.not (.castable E3 E2)) (by decide +kernel))⟩
  have hX0 : EX (fun a : Nat => s.heap.size ≤ a) s s.heap := by
    refine ⟨⟨va_Nw.of rfl (htl (.declares (Bundle.initS "java/lang/RuntimeException")) (by decide +kernel)), va_Nw.of rfl (htl (.declares (Bundle.initS "java/lang/Exception")) (by decide +kernel)), va_Nw.of rfl (htl (.declares (Bundle.initS Bundle.tN)) (by decide +kernel)), va_Nw.of rfl (htl (.castable E1 E1) (by decide +kernel)), va_Nw.of rfl (htl (.castable E2 E2) (by decide +kernel)), va_Nw.of rfl (htl (.castable E3 E3) (by decide +kernel))⟩, ⟨?_, ?_, ?_⟩, ?_, ?_⟩
    · exact vk_Rof (htl _ (by decide +kernel)) (hflat _ (by decide +kernel))
    · exact vk_Rof (htl _ (by decide +kernel)) (hflat _ (by decide +kernel))
    · exact vk_Rof (htl _ (by decide +kernel)) (hflat _ (by decide +kernel))
    · exact vx_Zqof (htl _ (by decide +kernel)) (htl _ (by decide +kernel)) (hflat _ (by decide +kernel)) hAn
    · exact vx_Zqof (htl _ (by decide +kernel)) (htl _ (by decide +kernel)) (hflat _ (by decide +kernel)) hAn
  have hS : va_S (fun q : Nat => s.heap.size ≤ q) s.heap s.heap [] := va_S.rf
  have hP : va_P D vwCl [] s.heap := fun k q h => by simp at h
  have hD : va_D (fun q : Nat => s.heap.size ≤ q) [] := ⟨fun i j p q h => by simp at h, fun k q h => by simp at h⟩
  have hl := lv_entry ([.ref b]) (n := 7) (Nat.le_of_ble_eq_true rfl)
  rw [lg_entry_eq]
  generalize (lg_sl ([.ref b]) ++ List.replicate (7 - (lg_sl ([.ref b])).length) Slot.unset).toArray = ls at hl ⊢
  have hl : lv_has ls 7 [(0, .ref b)] := hl
  refine W.eq (g2 := F0 m 0 ls []) rfl ?_
  refine va_new (ci := 1) (fs := [.null, .null, .null, .null, .null, .null, .int 0]) (C := RX1) (T := TX1) (N := 7) hx hb hts inlX1 tyX1 tyX1_ok hown (hts (.classLink RL 8 RX1) (by decide +kernel)) (hts (.instantiable RX1 7) (by decide +kernel)) (hts (.initialized RX1) (by decide +kernel)) hK hP hD hS hA rfl (fun j hj => by rcases (show j = 0 ∨ j = 1 ∨ j = 2 ∨ j = 3 ∨ j = 4 ∨ j = 5 ∨ j = 6 by omega) with rfl | rfl | rfl | rfl | rfl | rfl | rfl <;> rfl) (Nat.le_of_ble_eq_true rfl) (Nat.le_of_ble_eq_true rfl) dL_law_0 (fun a0 H hP hD hS => ?_)
  have hP : va_P D vwCl [(a0, .inr (1, [.null, .null, .null, .null, .null, .null, .int 0]))] H := hP
  have hD : va_D (fun q : Nat => s.heap.size ≤ q) [(a0, .inr (1, [.null, .null, .null, .null, .null, .null, .int 0]))] := hD
  refine lv_dup hx hb dL_law_3 rfl ?_
  have hFc := va_free (wc := [(a0, .inr (1, [.null, .null, .null, .null, .null, .null, .int 0]))]) hD hS hA [0] rfl
  have hK1 := hK.sub (tys' := [(cI, .int)]) [0] rfl
  refine va_callv (va_runI (As := []) (rest := [.ref a0]) ⟨hx, hb, hml, hown, hts⟩ (c_X1_init l D cI a0 H.size) (cwI 0 hts gL_law_X1_init rfl rfl rfl (hts (.initialized RX1) (by decide +kernel)) (hts (.methodLink RL 76 yX1_init) (by decide +kernel)) (hts (.instanceMethod yX1_init) (by decide +kernel)) rfl (by decide +kernel) ⟨Nat.le_of_ble_eq_true rfl, Nat.le_of_ble_eq_true rfl⟩) ⟨fun a U g mk h => ⟨h.1, h.2.1, h.2.2.1, va_K.moved (u := U) (U := U.calling g mk a) (Vm.Alike.refl U.vm) h.2.2.2.1, EN_call h.2.2.2.2⟩, fun U hU hW => ⟨rfl, by rw [hU], by rw [hU]; exact hP, va_K.moved hW.alike hK1, EN_warm hW hE⟩⟩ rfl rfl hl.1 rfl (lv_room (Nat.le_of_ble_eq_true rfl)) dL_law_4 ⟨Nat.le_of_ble_eq_true rfl, Nat.le_of_ble_eq_true rfl⟩) hS (fun q _ h => hFc q h) hFc (fun u t H1 locs ht hvm hw hB hz1 hk1 hS => ?_)
  obtain ⟨qa, hP1, hD1, hqa⟩ := hB
  rw [ht] at hP1
  obtain ⟨hP, hD⟩ := va_join (wr := []) (w1 := wG cI qa G0) hP hD [0] [] rfl rfl (by decide) (by decide) hk1 hFc hP1 hD1
  generalize H1 = H at hP hS ⊢
  have hP : va_P D vwCl (wG cI qa G0) H := hP
  have hD : va_D (fun q : Nat => s.heap.size ≤ q) (wG cI qa G0) := hD
  refine lv_astore_n (lv' := [(1, .ref a0), (0, .ref b)]) hx hb dL_law_7 rfl hl (by decide) rfl (fun ls hl => ?_)
  refine va_new (ci := 2) (fs := [.int 0, .null, .null, .null, .null, .null, .int 0, .null, .int 0, .null, .null, .null, .null, .null, .null, .null, .null, .null, .null, .null, .null, .null]) (C := RX2) (T := TX2) (N := 22) hx hb hts inlX2 tyX2 tyX2_ok hown (hts (.classLink RL 77 RX2) (by decide +kernel)) (hts (.instantiable RX2 22) (by decide +kernel)) (hts (.initialized RX2) (by decide +kernel)) hK hP hD hS hA rfl (fun j hj => by rcases (show j = 0 ∨ j = 1 ∨ j = 2 ∨ j = 3 ∨ j = 4 ∨ j = 5 ∨ j = 6 ∨ j = 7 ∨ j = 8 ∨ j = 9 ∨ j = 10 ∨ j = 11 ∨ j = 12 ∨ j = 13 ∨ j = 14 ∨ j = 15 ∨ j = 16 ∨ j = 17 ∨ j = 18 ∨ j = 19 ∨ j = 20 ∨ j = 21 by omega) with rfl | rfl | rfl | rfl | rfl | rfl | rfl | rfl | rfl | rfl | rfl | rfl | rfl | rfl | rfl | rfl | rfl | rfl | rfl | rfl | rfl | rfl <;> rfl) (Nat.le_of_ble_eq_true rfl) (Nat.le_of_ble_eq_true rfl) dL_law_8 (fun b0 H hP hD hS => ?_)
  refine lv_dup hx hb dL_law_11 rfl ?_
  have hPc := hP.sub (ws' := [(b0, .inr (2, [.int 0, .null, .null, .null, .null, .null, .int 0, .null, .int 0, .null, .null, .null, .null, .null, .null, .null, .null, .null, .null, .null, .null, .null]))]) [12] rfl
  have hFc := va_free (wc := [(b0, .inr (2, [.int 0, .null, .null, .null, .null, .null, .int 0, .null, .int 0, .null, .null, .null, .null, .null, .null, .null, .null, .null, .null, .null, .null, .null]))]) hD hS hA [12] rfl
  have hK1 := hK.sub (tys' := [(cI, .int), (cZ, .boolean)]) [0, 1] rfl
  refine va_callv (va_runI (As := []) (rest := [.ref b0]) ⟨hx, hb, hml, hown, hts⟩ (c_X2_init l D cI cZ b0 H.size) (cwI 0 hts gL_law_X2_init rfl rfl rfl (hts (.initialized RX2) (by decide +kernel)) (hts (.methodLink RL 79 yX2_init) (by decide +kernel)) (hts (.instanceMethod yX2_init) (by decide +kernel)) rfl (by decide +kernel) ⟨Nat.le_of_ble_eq_true rfl, Nat.le_of_ble_eq_true rfl⟩) ⟨fun a U g mk h => ⟨h.1, h.2.1, h.2.2.1, va_K.moved (u := U) (U := U.calling g mk a) (Vm.Alike.refl U.vm) h.2.2.2⟩, fun U hU hW => ⟨rfl, by rw [hU], by rw [hU]; exact hPc, va_K.moved hW.alike hK1⟩⟩ rfl rfl hl.1 rfl (lv_room (Nat.le_of_ble_eq_true rfl)) dL_law_12 ⟨Nat.le_of_ble_eq_true rfl, Nat.le_of_ble_eq_true rfl⟩) hS (fun q _ h => hFc q h) hFc (fun u t H1 locs ht hvm hw hB hz1 hk1 hS => ?_)
  obtain ⟨qb, hP1, hD1, hqb⟩ := hB
  rw [ht] at hP1
  obtain ⟨hP, hD⟩ := va_join (wr := wG cI qa G0) (w1 := wM cI cZ qb M0) hP hD [12] [0, 1, 2, 3, 4, 5, 6, 7, 8, 9, 10, 11] rfl rfl (by decide) (by decide) hk1 hFc hP1 hD1
  generalize H1 = H at hP hS ⊢
  refine lv_astore_n (lv' := [(2, .ref b0), (1, .ref a0), (0, .ref b)]) hx hb dL_law_15 rfl hl (by decide) rfl (fun ls hl => ?_)
  refine lv_iconst (v := 1) hx hb dL_law_16 (by decide) ?_
  refine n_newj (N' := 1) hx hb (hts (.arrayClass .long) (by decide +kernel)) hK 2 rfl hP hD hS hA (by decide) (by decide) (Nat.le_of_ble_eq_true rfl) (Nat.le_of_ble_eq_true rfl) (Nat.le_of_ble_eq_true rfl) dL_law_17 (fun o0 H hP hD hS => ?_)
  refine lv_astore_n (lv' := [(3, .ref o0), (2, .ref b0), (1, .ref a0), (0, .ref b)]) hx hb dL_law_19 rfl hl (by decide) rfl (fun ls hl => ?_)
  refine lv_iconst (v := 0) hx hb dL_law_20 (by decide) ?_
  refine lv_istore (lv' := [(4, .int 0), (3, .ref o0), (2, .ref b0), (1, .ref a0), (0, .ref b)]) hx hb dL_law_21 hl (by decide) rfl (fun ls hl => ?_)
  obtain ⟨Z, hZa, hZb, hZc⟩ : ∃ Z : Nat → Nat, (∀ k, k < 12 → Z k = qa k) ∧ Z 12 = o0 ∧ (∀ k, k < 20 → Z (13 + k) = qb k) := ⟨fun k => if k < 12 then qa k else if k = 12 then o0 else qb (k - 13), fun k h => if_pos h, rfl, fun k h => by
    show (if 13 + k < 12 then qa (13 + k) else if 13 + k = 12 then o0 else qb (13 + k - 13)) = qb k
    rw [if_neg (by omega), if_neg (by omega), show 13 + k - 13 = k by omega]⟩
  have hg : wG cI Z G0 = wG cI qa G0 := by simp only [wG, hZa 0 (by decide), hZa 1 (by decide), hZa 2 (by decide), hZa 3 (by decide), hZa 4 (by decide), hZa 5 (by decide), hZa 6 (by decide), hZa 7 (by decide), hZa 8 (by decide), hZa 9 (by decide), hZa 10 (by decide), hZa 11 (by decide)]
  have hm : wM cI cZ (fun k => Z (13 + k)) M0 = wM cI cZ qb M0 := by simp only [wM, hZc 0 (by decide), hZc 1 (by decide), hZc 2 (by decide), hZc 3 (by decide), hZc 4 (by decide), hZc 5 (by decide), hZc 6 (by decide), hZc 7 (by decide), hZc 8 (by decide), hZc 9 (by decide), hZc 10 (by decide), hZc 11 (by decide), hZc 12 (by decide), hZc 13 (by decide), hZc 14 (by decide), hZc 15 (by decide), hZc 16 (by decide), hZc 17 (by decide), hZc 18 (by decide), hZc 19 (by decide)]
  have hwA : wA cI cZ cJ Z G0 M0 (fun _ => 0) = (wG cI qa G0 ++ [(o0, .inl (cJ, 1, .inr (.inl (fun _ => 0))))]) ++ wM cI cZ qb M0 := by
    show (wG cI Z G0 ++ [(Z 12, .inl (cJ, 1, .inr (.inl (fun _ => 0))))]) ++ wM cI cZ (fun k => Z (13 + k)) M0 = _
    rw [hg, hm, hZb]
  have hP9 : va_P D vwCl (wA cI cZ cJ Z G0 M0 (fun _ => 0)) H := by rw [hwA]; exact hP.sub [0, 1, 2, 3, 4, 5, 6, 7, 8, 9, 10, 11, 32, 12, 13, 14, 15, 16, 17, 18, 19, 20, 21, 22, 23, 24, 25, 26, 27, 28, 29, 30, 31] rfl
  have hD9 : va_D (fun q : Nat => s.heap.size ≤ q) (wA cI cZ cJ Z G0 M0 (fun _ => 0)) := by rw [hwA]; exact hD.sub [0, 1, 2, 3, 4, 5, 6, 7, 8, 9, 10, 11, 32, 12, 13, 14, 15, 16, 17, 18, 19, 20, 21, 22, 23, 24, 25, 26, 27, 28, 29, 30, 31] (by decide) rfl
  have hat : ∀ k, k < 33 → ∃ e, (wA cI cZ cJ Z G0 M0 (fun _ => 0))[k]? = some (Z k, e) := fun k hk => by
    match k, hk with
    | 0, _ => exact ⟨_, rfl⟩
    | 1, _ => exact ⟨_, rfl⟩
    | 2, _ => exact ⟨_, rfl⟩
    | 3, _ => exact ⟨_, rfl⟩
    | 4, _ => exact ⟨_, rfl⟩
    | 5, _ => exact ⟨_, rfl⟩
    | 6, _ => exact ⟨_, rfl⟩
    | 7, _ => exact ⟨_, rfl⟩
    | 8, _ => exact ⟨_, rfl⟩
    | 9, _ => exact ⟨_, rfl⟩
    | 10, _ => exact ⟨_, rfl⟩
    | 11, _ => exact ⟨_, rfl⟩
    | 12, _ => exact ⟨_, rfl⟩
    | 13, _ => exact ⟨_, rfl⟩
    | 14, _ => exact ⟨_, rfl⟩
    | 15, _ => exact ⟨_, rfl⟩
    | 16, _ => exact ⟨_, rfl⟩
    | 17, _ => exact ⟨_, rfl⟩
    | 18, _ => exact ⟨_, rfl⟩
    | 19, _ => exact ⟨_, rfl⟩
    | 20, _ => exact ⟨_, rfl⟩
    | 21, _ => exact ⟨_, rfl⟩
    | 22, _ => exact ⟨_, rfl⟩
    | 23, _ => exact ⟨_, rfl⟩
    | 24, _ => exact ⟨_, rfl⟩
    | 25, _ => exact ⟨_, rfl⟩
    | 26, _ => exact ⟨_, rfl⟩
    | 27, _ => exact ⟨_, rfl⟩
    | 28, _ => exact ⟨_, rfl⟩
    | 29, _ => exact ⟨_, rfl⟩
    | 30, _ => exact ⟨_, rfl⟩
    | 31, _ => exact ⟨_, rfl⟩
    | 32, _ => exact ⟨_, rfl⟩
    | k + 33, hk => omega
  have hZ : ijQ 33 Z := fun i j hi hj h => by
    obtain ⟨e1, h1⟩ := hat i hi
    obtain ⟨e2, h2⟩ := hat j hj
    exact hD9.1 i j _ _ h1 h2 h
  have hZs : ∀ k, k < 33 → s.heap.size ≤ Z k := fun k hk => by
    obtain ⟨e1, h1⟩ := hat k hk
    exact hD9.2 k _ h1
  have hl : lv_has ls 7 [(0, .ref b), (1, .ref (Z 0)), (2, .ref (Z 13)), (3, .ref (Z 12)), (4, .int (nI (4 * 0)))] := by
    rw [hZa 0 (by decide), hZc 0 (by decide), hZb, hqa, hqb]
    exact lv_sub hl [4, 3, 2, 1, 0] rfl
  exact law_loop hf ⟨hx, hb, hml, hown, hts, hX, hbl, hZ, hZs, hK, hE, hN, hX0⟩ hr hlocks hL hFx hst 513 0 (by omega) (by omega) G0 M0 (fun _ => 0) H _ ls hR0 hP9 hS hl
