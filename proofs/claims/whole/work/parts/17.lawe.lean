/-! the law's loop and its entry, for any relation that every call keeps -/
def stAll (Rel : SG → SM → Prop) : Prop := (∀ x1 : Int32, stepI Rel (fun σ => cMake σ x1) (fun τ => mMake τ x1) kB) ∧ (∀ x1 x2 x3 : Int32, stepI Rel (fun σ => cLoad σ x1 x2 x3) (fun τ => mLoad τ x1 x2 x3) (fun z => z)) ∧ (∀ x1 x2 x3 : Int32, stepI Rel (fun σ => cPart σ x1 x2 x3) (fun τ => mPart τ x1 x2 x3) (fun z => z)) ∧ (∀ x1 x2 : Int32, stepI Rel (fun σ => cJoin σ x1 x2) (fun τ => mJoin τ x1 x2) (fun z => z)) ∧ (∀ x1 x2 : Int32, stepI Rel (fun σ => cMove σ x1 x2) (fun τ => mMove τ x1 x2) kB) ∧ (∀ x1 : Int32, stepB Rel (fun σ => cHold σ x1) (fun τ => mHold τ x1) kB) ∧ (∀ x1 x2 x3 : Int32, stepI Rel (fun σ => cSpoil σ x1 x2 x3) (fun τ => mSpoil τ x1 x2 x3) (fun z => z)) ∧ (∀ x1 : Int32, stepI Rel (fun σ => cLose σ x1) (fun τ => mLose τ x1) (fun z => z)) ∧ (∀ x1 x2 : Int32, stepI Rel (fun σ => cRepair σ x1 x2) (fun τ => mRepair τ x1 x2) kB) ∧ (∀ x1 : Int32, stepI Rel (fun σ => cBroken σ x1) (fun τ => mBroken τ x1) (fun z => z)) ∧ (∀ x1 : Int32, stepB Rel (fun σ => cSound σ x1) (fun τ => mSound τ x1) (fun z => z)) ∧ (∀ x1 x2 : Int32, stepI Rel (fun σ => cPallet σ x1 x2) (fun τ => mPallet τ x1 x2) (fun z => z)) ∧ (∀ x1 x2 x3 : Int32, stepI Rel (fun σ => cEntry σ x1 x2 x3) (fun τ => mEntry τ x1 x2 x3) (fun z => z)) ∧ (∀ x1 x2 : Int32, stepI Rel (fun σ => cContents σ x1 x2) (fun τ => mContents τ x1 x2) (fun z => z)) ∧ (∀ x1 x2 : Int32, stepI Rel (fun σ => cAnew σ x1 x2) (fun τ => mAnew τ x1 x2) (fun z => z)) ∧ (∀ x1 x2 x3 : Int32, stepI Rel (fun σ => cDeclare σ x1 x2 x3) (fun τ => mDeclare τ x1 x2 x3) (fun z => z)) ∧ (∀ x1 : Int32, stepI Rel (fun σ => cMismatch σ x1) (fun τ => mMismatch τ x1) (fun z => z)) ∧ (∀ x1 x2 : Int32, stepI Rel (fun σ => cFeeF σ x1 x2) (fun τ => mFeeF τ x1 x2) kE) ∧ (∀ x1 : Int32, stepI Rel (fun σ => cOwed σ x1) (fun τ => mOwed τ x1) (fun z => z))
theorem arr_known {args : Array Value} {s : State} {ty : FieldType} (h : (Cond.arrayClass ty).before args s = true) : ∃ cA : ClassId, ArrOfT s cA ty ∧ s.vm.findClass ("[" ++ ty.toString) = some cA := by
  simp only [Cond.before, Cond.holds, Cond.value] at h
  cases h1 : s.vm.findClass ("[" ++ ty.toString) with
  | none => simp [h1] at h
  | some cA =>
    cases h2 : s.vm.classes[cA]? with
    | none => simp [h1, h2] at h
    | some kA =>
      simp [h1, h2] at h
      cases h3 : kA.kind with
      | array comp t =>
        simp [h3] at h
        exact ⟨cA, fun n z => ⟨fun k hk => by cases hk, kA, h2, comp, by rw [h3, h]⟩, rfl⟩
      | _ => simp [h3] at h
theorem vk_Rof {args : Array Value} {s : State} {k : Nat} {tx : String} (h1 : (Cond.stringRef RX1 k tx).before args s = true) (h2 : (Cond.exactly (.string RX1 k) "java/lang/String").before args s = true) : ∃ a, vk_R RX1 k tx a s := by
  obtain ⟨a, c, cA, kA, q1, -⟩ := Cond.exactly_spec (args := args) (first := s) (o := none) (s := s) (idx := []) (t := .string RX1 k) (cls := "java/lang/String") h2
  exact ⟨a, vk_R.of h1 q1⟩
set_option maxHeartbeats 4000000 in
set_option maxRecDepth 100000 in
theorem law_loop {p : Program} {l : Launch} {e : Env} {s : State} {m : MethodId} {below : List Frame} {meth : Method} {c : Code} {b L : Nat} {xs : Nat → Int32} {D : va_G} {cI cZ cJ : ClassId} {Z : Nat → Nat} (hf : l.stackTraces = false) (C0 : LC p s m c b L xs D cI cZ cJ Z) (hr : meth.sig.returnType = ret) (hlocks : meth.locks = false) (hL : L ≤ 2048) {Rel : SG → SM → Prop} (hFx : ∀ σ τ, Rel σ τ → fxG σ ∧ fxM τ) (hst : stAll Rel) : ∀ (d t : Nat), 513 ≤ t + d → t ≤ 512 → ∀ (σ : SG) (τ : SM) (o : Nat → Int64) (H : Heap) (locs : List Loc) (ls : Array Slot), Rel σ τ → va_P D vwCl (wA cI cZ cJ Z σ τ o) H → va_S (fun a : Nat => s.heap.size ≤ a) s.heap H locs → lv_has ls 7 [(0, .ref b), (1, .ref (Z 0)), (2, .ref (Z 13)), (3, .ref (Z 12)), (4, .int (nI (4 * t)))] → W p l e room_1 s m #[Value.ref b] below meth c H locs (33 + t) (7933 + 6 * t) (lw_Z below #[Value.ref b] s) (F0 m 23 ls []) := by
  obtain ⟨s_make, s_load, s_part, s_join, s_move, s_hold, s_spoil, s_lose, s_repair, s_broken, s_isSound, s_pallet, s_entry, s_contents, s_contentsAnew, s_declare, s_mismatch, s_fee, s_owed⟩ := hst
  intro d
  induction d with
  | zero => intro t h1 h2; omega
  | succ d ih =>
    intro t h1 h2 σ τ o H locs ls hR hP hS hl
    obtain ⟨hx, hb, hml, hown, hts, hXs, hbl, hZ, hZs, hK, hE, hN, hX0⟩ := id C0
    have hbA : ¬ (fun a : Nat => s.heap.size ≤ a) b := Nat.not_le.mpr hbl
    have hend : ∀ (σ : SG) (τ : SM) (o : Nat → Int64) (H : Heap) (locs : List Loc) (ls : Array Slot), 4 * t + 4 ≤ L → Rel σ τ → va_P D vwCl (wA cI cZ cJ Z σ τ o) H → va_S (fun a : Nat => s.heap.size ≤ a) s.heap H locs → lv_has ls 7 [(0, .ref b), (1, .ref (Z 0)), (2, .ref (Z 13)), (3, .ref (Z 12)), (4, .int (nI (4 * t)))] → W p l e room_1 s m #[Value.ref b] below meth c H locs ((33 + t) + 1) ((7933 + 6 * t) + 6) (lw_Z below #[Value.ref b] s) (F0 m 1410 ls []) := by
      intro σ τ o H locs ls hiL hR hP hS hl
      refine lv_iinc (v := nI (4 * t + 4)) (lv' := [(4, .int (nI (4 * t + 4))), (0, .ref b), (1, .ref (Z 0)), (2, .ref (Z 13)), (3, .ref (Z 12))]) hx hb dL_law_1410 hl (k := 4) rfl (iincN4 (4 * t)) (by decide) rfl (fun ls hl => ?_)
      refine lv_goto (tgt := 23) hx hb dL_law_1413 (by decide) ?_
      exact ih (t + 1) (by omega) (by omega) σ τ o H locs ls hR hP hS (lv_sub hl [1, 2, 3, 4, 0] rfl)
    refine lv_iload hx hb dL_law_23 (lv_at hl 4 rfl) ?_
    refine lv_aload_n hx hb dL_law_25 rfl (lv_at hl 0 rfl) ?_
    refine va_slen hx hb hXs hbl hbA hS dL_law_26 ?_
    refine lv_iconst (v := 4) hx hb dL_law_27 (by decide) ?_
    refine lv_isub hx hb dL_law_28 ?_
    refine lv_icmp_gt (tgt := 1416) hx hb dL_law_29 (by decide) (fun c_1 => ?_) (fun c_1 => ?_)
    · refine W.widen (k := 1060) (n := 16143) (by omega) (by omega) ?_
      refine va_forget (fun q hq => hS.2.2 q hq) ?_
      refine lv_iconst (v := 1) hx hb dL_law_1416 (by decide) ?_
      exact lw_ret hx hb hr hlocks dL_law_1417
    · have hi : 4 * t + 4 ≤ L := guard4 hL (by omega) c_1
      refine lv_aload_n hx hb dL_law_32 rfl (lv_at hl 0 rfl) ?_
      refine lv_iload hx hb dL_law_33 (lv_at hl 4 rfl) ?_
      refine lrd (i := 4 * t) hx hb hXs hbl hbA hS rfl (by omega) hL dL_law_35 ?_
      refine lv_bipush (v := 31) hx hb dL_law_36 (by decide) ?_
      refine lv_iand hx hb dL_law_38 ?_
      obtain ⟨j, hj, hje⟩ := pk_andE (xs (4 * t)) (m := 31) 5 (by decide)
      rw [hje]
      clear hje
      have hkc : (33 + t) + 1 ≤ 1060 := by omega
      have hkn : (7933 + 6 * t) + 6 ≤ 16143 := by omega
      have hkk := fun (σ : SG) (τ : SM) (o : Nat → Int64) (H : Heap) (locs : List Loc) (ls : Array Slot) => hend σ τ o H locs ls hi
      by_cases e_0 : j = 0
      · subst e_0
        refine lv_tableIn (off := 89) (tgt := 128) hx hb dL_law_39 (by decide) (by decide) (by decide) (by decide) ?_
        exact lc_make hf C0 hL hFx (s_make (xs (4 * t + 1))) hi hkc hkn hR hP hS hl hkk
      by_cases e_1 : j = 1
      · subst e_1
        refine lv_tableIn (off := 145) (tgt := 184) hx hb dL_law_39 (by decide) (by decide) (by decide) (by decide) ?_
        exact lc_load hf C0 hL hFx (s_load (xs (4 * t + 1)) (xs (4 * t + 2)) (xs (4 * t + 3))) hi hkc hkn hR hP hS hl hkk
      by_cases e_2 : j = 2
      · subst e_2
        refine lv_tableIn (off := 225) (tgt := 264) hx hb dL_law_39 (by decide) (by decide) (by decide) (by decide) ?_
        exact lc_part hf C0 hL hFx (s_part (xs (4 * t + 1)) (xs (4 * t + 2)) (xs (4 * t + 3))) hi hkc hkn hR hP hS hl hkk
      by_cases e_3 : j = 3
      · subst e_3
        refine lv_tableIn (off := 305) (tgt := 344) hx hb dL_law_39 (by decide) (by decide) (by decide) (by decide) ?_
        exact lc_join hf C0 hL hFx (s_join (xs (4 * t + 1)) (xs (4 * t + 2))) hi hkc hkn hR hP hS hl hkk
      by_cases e_4 : j = 4
      · subst e_4
        refine lv_tableIn (off := 373) (tgt := 412) hx hb dL_law_39 (by decide) (by decide) (by decide) (by decide) ?_
        exact lc_move hf C0 hL hFx (s_move (xs (4 * t + 1)) (xs (4 * t + 2))) hi hkc hkn hR hP hS hl hkk
      by_cases e_5 : j = 5
      · subst e_5
        refine lv_tableIn (off := 441) (tgt := 480) hx hb dL_law_39 (by decide) (by decide) (by decide) (by decide) ?_
        exact lc_hold hf C0 hL hFx (s_hold (xs (4 * t + 1))) hi hkc hkn hR hP hS hl hkk
      by_cases e_6 : j = 6
      · subst e_6
        refine lv_tableIn (off := 504) (tgt := 543) hx hb dL_law_39 (by decide) (by decide) (by decide) (by decide) ?_
        exact lc_spoil hf C0 hL hFx (s_spoil (xs (4 * t + 1)) (xs (4 * t + 2)) (xs (4 * t + 3))) hi hkc hkn hR hP hS hl hkk
      by_cases e_7 : j = 7
      · subst e_7
        refine lv_tableIn (off := 584) (tgt := 623) hx hb dL_law_39 (by decide) (by decide) (by decide) (by decide) ?_
        exact lc_lose hf C0 hL hFx (s_lose (xs (4 * t + 1))) hi hkc hkn hR hP hS hl hkk
      by_cases e_8 : j = 8
      · subst e_8
        refine lv_tableIn (off := 640) (tgt := 679) hx hb dL_law_39 (by decide) (by decide) (by decide) (by decide) ?_
        exact lc_repair hf C0 hL hFx (s_repair (xs (4 * t + 1)) (xs (4 * t + 2))) hi hkc hkn hR hP hS hl hkk
      by_cases e_9 : j = 9
      · subst e_9
        refine lv_tableIn (off := 708) (tgt := 747) hx hb dL_law_39 (by decide) (by decide) (by decide) (by decide) ?_
        exact lc_broken hf C0 hL hFx (s_broken (xs (4 * t + 1))) hi hkc hkn hR hP hS hl hkk
      by_cases e_10 : j = 10
      · subst e_10
        refine lv_tableIn (off := 764) (tgt := 803) hx hb dL_law_39 (by decide) (by decide) (by decide) (by decide) ?_
        exact lc_isSound hf C0 hL hFx (s_isSound (xs (4 * t + 1))) hi hkc hkn hR hP hS hl hkk
      by_cases e_11 : j = 11
      · subst e_11
        refine lv_tableIn (off := 827) (tgt := 866) hx hb dL_law_39 (by decide) (by decide) (by decide) (by decide) ?_
        exact lc_pallet hf C0 hL hFx (s_pallet (xs (4 * t + 1)) (xs (4 * t + 2))) hi hkc hkn hR hP hS hl hkk
      by_cases e_12 : j = 12
      · subst e_12
        refine lv_tableIn (off := 895) (tgt := 934) hx hb dL_law_39 (by decide) (by decide) (by decide) (by decide) ?_
        exact lc_entry hf C0 hL hFx (s_entry (xs (4 * t + 1)) (xs (4 * t + 2)) (xs (4 * t + 3))) hi hkc hkn hR hP hS hl hkk
      by_cases e_13 : j = 13
      · subst e_13
        refine lv_tableIn (off := 975) (tgt := 1014) hx hb dL_law_39 (by decide) (by decide) (by decide) (by decide) ?_
        exact lc_contents hf C0 hL hFx (s_contents (xs (4 * t + 1)) (xs (4 * t + 2))) hi hkc hkn hR hP hS hl hkk
      by_cases e_14 : j = 14
      · subst e_14
        refine lv_tableIn (off := 1043) (tgt := 1082) hx hb dL_law_39 (by decide) (by decide) (by decide) (by decide) ?_
        exact lc_contentsAnew hf C0 hL hFx (s_contentsAnew (xs (4 * t + 1)) (xs (4 * t + 2))) hi hkc hkn hR hP hS hl hkk
      by_cases e_15 : j = 15
      · subst e_15
        refine lv_tableIn (off := 1111) (tgt := 1150) hx hb dL_law_39 (by decide) (by decide) (by decide) (by decide) ?_
        exact lc_declare hf C0 hL hFx (s_declare (xs (4 * t + 1)) (xs (4 * t + 2)) (xs (4 * t + 3))) hi hkc hkn hR hP hS hl hkk
      by_cases e_16 : j = 16
      · subst e_16
        refine lv_tableIn (off := 1191) (tgt := 1230) hx hb dL_law_39 (by decide) (by decide) (by decide) (by decide) ?_
        exact lc_mismatch hf C0 hL hFx (s_mismatch (xs (4 * t + 1))) hi hkc hkn hR hP hS hl hkk
      by_cases e_17 : j = 17
      · subst e_17
        refine lv_tableIn (off := 1247) (tgt := 1286) hx hb dL_law_39 (by decide) (by decide) (by decide) (by decide) ?_
        exact lc_fee hf C0 hL hFx (s_fee (xs (4 * t + 1)) (xs (4 * t + 2))) hi hkc hkn hR hP hS hl hkk
      by_cases e_18 : j = 18
      · subst e_18
        refine lv_tableIn (off := 1315) (tgt := 1354) hx hb dL_law_39 (by decide) (by decide) (by decide) (by decide) ?_
        exact lc_owed hf C0 hL hFx (s_owed (xs (4 * t + 1))) hi hkc hkn hR hP hS hl hkk
      have hjv : (nI j).toInt = (j : Int) := nI_toInt (by omega)
      refine lv_tableOut (tgt := 1410) hx hb dL_law_39 (by rw [hjv]; omega) (by decide) ?_
      exact W.widen (k := (33 + t) + 1) (n := (7933 + 6 * t) + 6) (by omega) (by omega) (hkk σ τ o H locs ls hR hP hS hl)
