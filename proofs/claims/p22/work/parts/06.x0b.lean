theorem kn_X0_reach : yX0_reach.cls ≠ "java/lang/invoke/MethodHandle" ∧ yX0_reach.cls ≠ "java/lang/invoke/VarHandle" ∧ (parseMethodDescriptor yX0_reach.desc).map (fun d => d.parameters.length) = some 2 := by decide +kernel
theorem kd_X0_reach : yX0_reach.cls = RX0 ∧ yX0_reach.cls ≠ "java/lang/invoke/MethodHandle" ∧ yX0_reach.cls ≠ "java/lang/invoke/VarHandle" ∧ (parseMethodDescriptor yX0_reach.desc).map (fun d => d.parameters.length) = some 2 := by decide +kernel
set_option maxHeartbeats 4000000 in
set_option maxRecDepth 100000 in
theorem c_X0_reach (l : Launch) (D : va_G) (cI : ClassId) (q : Nat → Nat) (σ : SG) (P : Nat) (wc : Bool) (hP14 : P < 14) (hlen : ∀ P, gLen σ P ≤ 30) : Met l yX0_reach wsX0_reach ({ frames := 3, cells := 0, slots := 0, locals := 69 }) (va_Pc [.ref (q 1), .int (nI (P)), .int (bI (wc))] (PG D cI q σ)) (rQ (fun r => r = rchF (gLen σ) (gNum σ) P wc)) 0 0 noF := by
  refine openR (cc := cX0_reach) (maxL := 7) (by decide) rfl (Nat.le_of_ble_eq_true rfl) ?_
  intro p e s m args below meth c hx hb hml hts hown hpre Q RET ls hl
  have hown : s.vm.findClass RX0 = some m.cls := hown
  have hl : lv_has ls 7 [(0, .ref (q 1)), (1, .int (nI (P))), (2, .int (bI (wc)))] := hl
  obtain ⟨hP, hK, hE⟩ := hpre
  obtain ⟨hol, goo, dec, fee, deb, len, num, prf, cop, mad, n⟩ := σ
  have hlen : ∀ P, len P ≤ 30 := hlen
  refine lv_iconst (v := 1) hx hb dX0_reach_0 (by decide) ?_
  refine lv_iload_n hx hb dX0_reach_1 rfl (lv_at hl 1 rfl) ?_
  refine lv_ishl hx hb dX0_reach_2 ?_
  refine lv_istore_n (lv' := [(3, .int ((1 <<< (nI (P) &&& 31)))), (0, .ref (q 1)), (1, .int (nI (P))), (2, .int (bI (wc)))]) hx hb dX0_reach_3 rfl hl (by decide) rfl (fun ls hl => ?_)
  refine lv_iconst (v := 0) hx hb dX0_reach_4 (by decide) ?_
  refine lv_istore (lv' := [(4, .int 0), (3, .int ((1 <<< (nI (P) &&& 31)))), (0, .ref (q 1)), (1, .int (nI (P))), (2, .int (bI (wc)))]) hx hb dX0_reach_5 hl (by decide) rfl (fun ls hl => ?_)
  refine lv_iconst (v := 0) hx hb dX0_reach_7 (by decide) ?_
  refine lv_istore (lv' := [(5, .int 0), (4, .int 0), (3, .int ((1 <<< (nI (P) &&& 31)))), (0, .ref (q 1)), (1, .int (nI (P))), (2, .int (bI (wc)))]) hx hb dX0_reach_8 hl (by decide) rfl (fun ls hl => ?_)
  refine loopW (N := 14) (k0 := 0) (fun r9 ls => ∃ a9 : Int32, ∃ b9 : Int32, lv_has ls 7 [(0, .ref (q 1)), (1, .int (nI (P))), (2, .int (bI (wc))), (3, .int a9), (4, .int b9), (5, .int (nI (r9)))] ∧ (rcR (tpF len num wc) (14 - r9) (a9, b9) = rcR (tpF len num wc) 14 ((1 <<< (nI P &&& 31)), 0))) (Nat.zero_le _) ⟨_, _, lv_sub hl [3, 4, 5, 2, 1, 0] rfl, rfl⟩ (fun r9 ls hk_r9 hI ih_r9 => ?_)
  obtain ⟨a9, b9, hl, hi⟩ := hI
  refine lv_iload hx hb dX0_reach_10 (lv_at hl 5 rfl) ?_
  refine lv_bipush (v := 14) hx hb dX0_reach_12 (by decide) ?_
  refine geN r9 14 (tgt := 83) hx hb rfl rfl (by omega) (by omega) dX0_reach_14 (by decide) (fun c_1 => ?_) (fun c_1 => ?_)
  · skip
    refine lv_iload_n hx hb dX0_reach_83 rfl (lv_at hl 3 rfl) ?_
    exact RET _ _ _ (by show a9 = rchF len num P wc; rw [rchF, ← hi, show 14 - r9 = 0 by omega]; rfl) dX0_reach_84
  · skip
    refine lv_iload hx hb dX0_reach_17 (lv_at hl 4 rfl) ?_
    refine lv_iload_n hx hb dX0_reach_19 rfl (lv_at hl 3 rfl) ?_
    refine lv_icmp_eq (tgt := 83) hx hb dX0_reach_20 (by decide) (fun c_2 => ?_) (fun c_2 => ?_)
    · skip
      refine lv_iload_n hx hb dX0_reach_83 rfl (lv_at hl 3 rfl) ?_
      exact RET _ _ _ (by show a9 = rchF len num P wc; rw [rchF, ← hi, rcR_eq c_2]) dX0_reach_84
    · skip
      refine lv_iconst (v := 0) hx hb dX0_reach_23 (by decide) ?_
      refine lv_istore (lv' := [(6, .int 0), (0, .ref (q 1)), (1, .int (nI (P))), (2, .int (bI (wc))), (3, .int a9), (4, .int b9), (5, .int (nI (r9)))]) hx hb dX0_reach_24 hl (by decide) rfl (fun ls hl => ?_)
      refine loopW (N := 14) (k0 := 0) (fun k ls => lv_has ls 7 [(0, .ref (q 1)), (1, .int (nI (P))), (2, .int (bI (wc))), (3, .int ((rcS (tpF len num wc) (a9, b9) k).1)), (4, .int ((rcS (tpF len num wc) (a9, b9) k).2)), (5, .int (nI (r9))), (6, .int (nI (k)))]) (Nat.zero_le _) (lv_sub hl [1, 2, 3, 4, 5, 6, 0] rfl) (fun k ls hk_k hI ih_k => ?_)
      have hl := hI
      refine lv_iload hx hb dX0_reach_26 (lv_at hl 6 rfl) ?_
      refine lv_bipush (v := 14) hx hb dX0_reach_28 (by decide) ?_
      refine geN k 14 (tgt := 77) hx hb rfl rfl (by omega) (by omega) dX0_reach_30 (by decide) (fun c_3 => ?_) (fun c_3 => ?_)
      · skip
        obtain rfl : k = 14 := by omega
        refine lv_iinc (v := nI (r9 + 1)) (lv' := [(5, .int (nI (r9 + 1))), (0, .ref (q 1)), (1, .int (nI (P))), (2, .int (bI (wc))), (3, .int ((rcS (tpF len num wc) (a9, b9) 14).1)), (4, .int ((rcS (tpF len num wc) (a9, b9) 14).2)), (6, .int (nI (14)))]) hx hb dX0_reach_77 hl (k := 5) rfl (iincN (r9)) (by decide) rfl (fun ls hl => ?_)
        refine lv_goto (tgt := 10) hx hb dX0_reach_80 (by decide) ?_
        exact ih_r9 (by omega) _ ⟨(rcS (tpF len num wc) (a9, b9) 14).1, (rcS (tpF len num wc) (a9, b9) 14).2, lv_sub hl [1, 2, 3, 4, 5, 0] rfl, (rcR_step (by omega) c_2).symm.trans hi⟩
      · skip
        refine lv_iload_n hx hb dX0_reach_33 rfl (lv_at hl 3 rfl) ?_
        refine lv_iload hx hb dX0_reach_34 (lv_at hl 6 rfl) ?_
        refine r_callE (x := bI (isB ((rcS (tpF len num wc) (a9, b9) k).1) (nI (k)))) (va_runSN (As := [.int ((rcS (tpF len num wc) (a9, b9) k).1), .int (nI (k))]) (rest := []) ⟨hx, hb, hml, hown, hts⟩ (c_X1_isIn l ((rcS (tpF len num wc) (a9, b9) k).1) (nI (k))) (⟨va_cnB 2 hts gX0_reach_X1_isIn_n45 rfl rfl rfl hE.1 (hts (.initialized RX1) (by decide +kernel)) kn_X1_isIn ⟨Nat.le_of_ble_eq_true rfl, Nat.le_of_ble_eq_true rfl⟩, hts (.static yX1_isIn) (by decide +kernel), trivial⟩) (pS_T) rfl rfl hl.1 rfl (lv_room (Nat.le_of_ble_eq_true rfl)) dX0_reach_36 ⟨Nat.le_of_ble_eq_true rfl, Nat.le_of_ble_eq_true rfl⟩) ?_
        refine eqB (isB ((rcS (tpF len num wc) (a9, b9) k).1) (nI (k))) (tgt := 71) hx hb rfl dX0_reach_39 (by decide) (fun c_4 => ?_) (fun c_4 => ?_)
        · skip
          refine lv_iinc (v := nI (k + 1)) (lv' := [(6, .int (nI (k + 1))), (0, .ref (q 1)), (1, .int (nI (P))), (2, .int (bI (wc))), (3, .int ((rcS (tpF len num wc) (a9, b9) k).1)), (4, .int ((rcS (tpF len num wc) (a9, b9) k).2)), (5, .int (nI (r9)))]) hx hb dX0_reach_71 hl (k := 6) rfl (iincN (k)) (by decide) rfl (fun ls hl => ?_)
          refine lv_goto (tgt := 26) hx hb dX0_reach_74 (by decide) ?_
          have hl : lv_has ls 7 [(6, .int (nI (k + 1))), (0, .ref (q 1)), (1, .int (nI (P))), (2, .int (bI (wc))), (3, .int ((rcS (tpF len num wc) (a9, b9) (k + 1)).1)), (4, .int ((rcS (tpF len num wc) (a9, b9) k).2)), (5, .int (nI (r9)))] := by rw [← (show ((rcS (tpF len num wc) (a9, b9) k).1 : Int32) = (rcS (tpF len num wc) (a9, b9) (k + 1)).1 from by simp [rcS, tpF, c_1, c_2, c_3, c_4, gHol, gGoo, gDec, gFee, gDeb, gLen, gNum, gPrf, gCop, gMad, gN])]; exact hl
          have hl : lv_has ls 7 [(6, .int (nI (k + 1))), (0, .ref (q 1)), (1, .int (nI (P))), (2, .int (bI (wc))), (3, .int ((rcS (tpF len num wc) (a9, b9) (k + 1)).1)), (4, .int ((rcS (tpF len num wc) (a9, b9) (k + 1)).2)), (5, .int (nI (r9)))] := by rw [← (show ((rcS (tpF len num wc) (a9, b9) k).2 : Int32) = (rcS (tpF len num wc) (a9, b9) (k + 1)).2 from by simp [rcS, tpF, c_1, c_2, c_3, c_4, gHol, gGoo, gDec, gFee, gDeb, gLen, gNum, gPrf, gCop, gMad, gN])]; exact hl
          exact ih_k (by omega) _ (lv_sub hl [1, 2, 3, 4, 5, 6, 0] rfl)
        · skip
          refine lv_iload hx hb dX0_reach_42 (lv_at hl 4 rfl) ?_
          refine lv_iload hx hb dX0_reach_44 (lv_at hl 6 rfl) ?_
          refine r_callE (x := bI (isB ((rcS (tpF len num wc) (a9, b9) k).2) (nI (k)))) (va_runSN (As := [.int ((rcS (tpF len num wc) (a9, b9) k).2), .int (nI (k))]) (rest := []) ⟨hx, hb, hml, hown, hts⟩ (c_X1_isIn l ((rcS (tpF len num wc) (a9, b9) k).2) (nI (k))) (⟨va_cnB 2 hts gX0_reach_X1_isIn_n45 rfl rfl rfl hE.1 (hts (.initialized RX1) (by decide +kernel)) kn_X1_isIn ⟨Nat.le_of_ble_eq_true rfl, Nat.le_of_ble_eq_true rfl⟩, hts (.static yX1_isIn) (by decide +kernel), trivial⟩) (pS_T) rfl rfl hl.1 rfl (lv_room (Nat.le_of_ble_eq_true rfl)) dX0_reach_46 ⟨Nat.le_of_ble_eq_true rfl, Nat.le_of_ble_eq_true rfl⟩) ?_
          refine neB (isB ((rcS (tpF len num wc) (a9, b9) k).2) (nI (k))) (tgt := 71) hx hb rfl dX0_reach_49 (by decide) (fun c_5 => ?_) (fun c_5 => ?_)
          · skip
            refine lv_iinc (v := nI (k + 1)) (lv' := [(6, .int (nI (k + 1))), (0, .ref (q 1)), (1, .int (nI (P))), (2, .int (bI (wc))), (3, .int ((rcS (tpF len num wc) (a9, b9) k).1)), (4, .int ((rcS (tpF len num wc) (a9, b9) k).2)), (5, .int (nI (r9)))]) hx hb dX0_reach_71 hl (k := 6) rfl (iincN (k)) (by decide) rfl (fun ls hl => ?_)
            refine lv_goto (tgt := 26) hx hb dX0_reach_74 (by decide) ?_
            have hl : lv_has ls 7 [(6, .int (nI (k + 1))), (0, .ref (q 1)), (1, .int (nI (P))), (2, .int (bI (wc))), (3, .int ((rcS (tpF len num wc) (a9, b9) (k + 1)).1)), (4, .int ((rcS (tpF len num wc) (a9, b9) k).2)), (5, .int (nI (r9)))] := by rw [← (show ((rcS (tpF len num wc) (a9, b9) k).1 : Int32) = (rcS (tpF len num wc) (a9, b9) (k + 1)).1 from by simp [rcS, tpF, c_1, c_2, c_3, c_4, c_5, gHol, gGoo, gDec, gFee, gDeb, gLen, gNum, gPrf, gCop, gMad, gN])]; exact hl
            have hl : lv_has ls 7 [(6, .int (nI (k + 1))), (0, .ref (q 1)), (1, .int (nI (P))), (2, .int (bI (wc))), (3, .int ((rcS (tpF len num wc) (a9, b9) (k + 1)).1)), (4, .int ((rcS (tpF len num wc) (a9, b9) (k + 1)).2)), (5, .int (nI (r9)))] := by rw [← (show ((rcS (tpF len num wc) (a9, b9) k).2 : Int32) = (rcS (tpF len num wc) (a9, b9) (k + 1)).2 from by simp [rcS, tpF, c_1, c_2, c_3, c_4, c_5, gHol, gGoo, gDec, gFee, gDeb, gLen, gNum, gPrf, gCop, gMad, gN])]; exact hl
            exact ih_k (by omega) _ (lv_sub hl [1, 2, 3, 4, 5, 6, 0] rfl)
          · skip
            refine lv_iload hx hb dX0_reach_52 (lv_at hl 4 rfl) ?_
            refine lv_iconst (v := 1) hx hb dX0_reach_54 (by decide) ?_
            refine lv_iload hx hb dX0_reach_55 (lv_at hl 6 rfl) ?_
            refine lv_ishl hx hb dX0_reach_57 ?_
            refine lv_ior hx hb dX0_reach_58 ?_
            refine lv_istore (lv' := [(4, .int (((rcS (tpF len num wc) (a9, b9) k).2 ||| (1 <<< (nI (k) &&& 31))))), (0, .ref (q 1)), (1, .int (nI (P))), (2, .int (bI (wc))), (3, .int ((rcS (tpF len num wc) (a9, b9) k).1)), (5, .int (nI (r9))), (6, .int (nI (k)))]) hx hb dX0_reach_59 hl (by decide) rfl (fun ls hl => ?_)
            refine lv_iload_n hx hb dX0_reach_61 rfl (lv_at hl 4 rfl) ?_
            refine lv_aload_n hx hb dX0_reach_62 rfl (lv_at hl 1 rfl) ?_
            refine lv_iload hx hb dX0_reach_63 (lv_at hl 6 rfl) ?_
            refine lv_iload_n hx hb dX0_reach_65 rfl (lv_at hl 3 rfl) ?_
            refine r_callE (x := (tpS num k wc (len k))) (va_runV (As := [.int (nI (k)), .int (bI (wc))]) (rest := [.int ((rcS (tpF len num wc) (a9, b9) k).1)]) ⟨hx, hb, hml, hown, hts⟩ (c_X0_toldPallets l D cI q (hol, goo, dec, fee, deb, len, num, prf, cop, mad, n) k wc (by omega) hlen) (cwV 2 hts gX0_reach_X0_toldPallets rfl rfl rfl kd_X0_toldPallets ⟨Nat.le_of_ble_eq_true rfl, Nat.le_of_ble_eq_true rfl⟩) (pV_G1 hP hK hE) rfl rfl hl.1 rfl (lv_room (Nat.le_of_ble_eq_true rfl)) dX0_reach_66 ⟨Nat.le_of_ble_eq_true rfl, Nat.le_of_ble_eq_true rfl⟩) ?_
            refine lv_ior hx hb dX0_reach_69 ?_
            refine lv_istore_n (lv' := [(3, .int (((rcS (tpF len num wc) (a9, b9) k).1 ||| (tpS num k wc (len k))))), (4, .int (((rcS (tpF len num wc) (a9, b9) k).2 ||| (1 <<< (nI (k) &&& 31))))), (0, .ref (q 1)), (1, .int (nI (P))), (2, .int (bI (wc))), (5, .int (nI (r9))), (6, .int (nI (k)))]) hx hb dX0_reach_70 rfl hl (by decide) rfl (fun ls hl => ?_)
            refine lv_iinc (v := nI (k + 1)) (lv' := [(6, .int (nI (k + 1))), (3, .int (((rcS (tpF len num wc) (a9, b9) k).1 ||| (tpS num k wc (len k))))), (4, .int (((rcS (tpF len num wc) (a9, b9) k).2 ||| (1 <<< (nI (k) &&& 31))))), (0, .ref (q 1)), (1, .int (nI (P))), (2, .int (bI (wc))), (5, .int (nI (r9)))]) hx hb dX0_reach_71 hl (k := 6) rfl (iincN (k)) (by decide) rfl (fun ls hl => ?_)
            refine lv_goto (tgt := 26) hx hb dX0_reach_74 (by decide) ?_
            have hl : lv_has ls 7 [(6, .int (nI (k + 1))), (3, .int ((rcS (tpF len num wc) (a9, b9) (k + 1)).1)), (4, .int (((rcS (tpF len num wc) (a9, b9) k).2 ||| (1 <<< (nI (k) &&& 31))))), (0, .ref (q 1)), (1, .int (nI (P))), (2, .int (bI (wc))), (5, .int (nI (r9)))] := by rw [← (show (((rcS (tpF len num wc) (a9, b9) k).1 ||| (tpS num k wc (len k))) : Int32) = (rcS (tpF len num wc) (a9, b9) (k + 1)).1 from by simp [rcS, tpF, c_1, c_2, c_3, c_4, c_5, gHol, gGoo, gDec, gFee, gDeb, gLen, gNum, gPrf, gCop, gMad, gN])]; exact hl
            have hl : lv_has ls 7 [(6, .int (nI (k + 1))), (3, .int ((rcS (tpF len num wc) (a9, b9) (k + 1)).1)), (4, .int ((rcS (tpF len num wc) (a9, b9) (k + 1)).2)), (0, .ref (q 1)), (1, .int (nI (P))), (2, .int (bI (wc))), (5, .int (nI (r9)))] := by rw [← (show (((rcS (tpF len num wc) (a9, b9) k).2 ||| (1 <<< (nI (k) &&& 31))) : Int32) = (rcS (tpF len num wc) (a9, b9) (k + 1)).2 from by simp [rcS, tpF, c_1, c_2, c_3, c_4, c_5, gHol, gGoo, gDec, gFee, gDeb, gLen, gNum, gPrf, gCop, gMad, gN])]; exact hl
            exact ih_k (by omega) _ (lv_sub hl [3, 4, 5, 1, 2, 6, 0] rfl)
theorem kn_X0_add : yX0_add.cls ≠ "java/lang/invoke/MethodHandle" ∧ yX0_add.cls ≠ "java/lang/invoke/VarHandle" ∧ (parseMethodDescriptor yX0_add.desc).map (fun d => d.parameters.length) = some 7 := by decide +kernel
theorem kd_X0_add : yX0_add.cls = RX0 ∧ yX0_add.cls ≠ "java/lang/invoke/MethodHandle" ∧ yX0_add.cls ≠ "java/lang/invoke/VarHandle" ∧ (parseMethodDescriptor yX0_add.desc).map (fun d => d.parameters.length) = some 7 := by decide +kernel
set_option maxHeartbeats 4000000 in
set_option maxRecDepth 100000 in
theorem c_X0_add (l : Launch) (D : va_G) (cI : ClassId) (q : Nat → Nat) (σ : SG) (hq : ijQ 12 q) (P kd mk : Nat) (g a o oe : Int32) (hP14 : P < 14) (hE9 : gLen σ P < 30) : Met l yX0_add wsX0_add ({ frames := 2, cells := 0, slots := 0, locals := 46 }) (va_Pc [.ref (q 1), .int (nI (P)), .int (nI (kd)), .int (nI (mk)), .int g, .int a, .int o, .int oe] (PG D cI q σ)) (wQ (adQ 12 q) (fun v H1 => v = none ∧ va_P D vwCl (wG cI q (adF σ P kd mk g a o oe)) H1)) 0 0 (adQ 12 q) := by
  refine openV (cc := cX0_add) (maxL := 10) (by decide) rfl (Nat.le_of_ble_eq_true rfl) ?_
  intro p e s m args below meth c hx hb hml hts hown hpre Q RET ls hl
  have hown : s.vm.findClass RX0 = some m.cls := hown
  have hl : lv_has ls 10 [(0, .ref (q 1)), (1, .int (nI (P))), (2, .int (nI (kd))), (3, .int (nI (mk))), (4, .int g), (5, .int a), (6, .int o), (7, .int oe)] := hl
  obtain ⟨hP, hK, hE⟩ := hpre
  have hS : va_S (adQ 12 q) s.heap s.heap [] := va_S.rf
  have hiX0 : ∀ w ∈ wsX00, w ∈ wsX0_add := by decide +kernel
  have hf9 := hts (.fieldLink RX0 9 "PalletGram$Chains" "lengths" "[I") (by decide +kernel)
  have hf15 := hts (.fieldLink RX0 15 "PalletGram$Chains" "numbers" "[I") (by decide +kernel)
  have hf18 := hts (.fieldLink RX0 18 "PalletGram$Chains" "proofs" "[I") (by decide +kernel)
  have hf21 := hts (.fieldLink RX0 21 "PalletGram$Chains" "copies" "[I") (by decide +kernel)
  have hf24 := hts (.fieldLink RX0 24 "PalletGram$Chains" "amountsMade" "[I") (by decide +kernel)
  obtain ⟨hol, goo, dec, fee, deb, len, num, prf, cop, mad, n⟩ := σ
  have hE9 : len P < 30 := hE9
  refine lv_aload_n hx hb dX0_add_0 rfl (lv_at hl 0 rfl) ?_
  refine gf_0_0 hx hb hts hiX0 hown hK hP hf9 dX0_add_1 ?_
  refine lv_iload_n hx hb dX0_add_4 rfl (lv_at hl 1 rfl) ?_
  refine gld_7 (k := P) (v := len P) hx hb hK hP rfl (by omega) rfl dX0_add_5 ?_
  refine lv_istore (lv' := [(8, .int (nI (len P))), (0, .ref (q 1)), (1, .int (nI (P))), (2, .int (nI (kd))), (3, .int (nI (mk))), (4, .int g), (5, .int a), (6, .int o), (7, .int oe)]) hx hb dX0_add_6 hl (by decide) rfl (fun ls hl => ?_)
  refine lv_iload_n hx hb dX0_add_8 rfl (lv_at hl 2 rfl) ?_
  refine lv_iload hx hb dX0_add_9 (lv_at hl 0 rfl) ?_
  refine r_callE (x := nI (P * 30 + (len P))) (va_runS (As := [.int (nI (P)), .int (nI (len P))]) (rest := []) ⟨hx, hb, hml, hown, hts⟩ (c_X0_row l P (len P)) (va_cwS 2 hts gX0_add_X0_row rfl rfl rfl kn_X0_row ⟨Nat.le_of_ble_eq_true rfl, Nat.le_of_ble_eq_true rfl⟩) (pS_T) rfl rfl hl.1 rfl (lv_room (Nat.le_of_ble_eq_true rfl)) dX0_add_11 ⟨Nat.le_of_ble_eq_true rfl, Nat.le_of_ble_eq_true rfl⟩) ?_
  refine lv_istore (lv' := [(9, .int (nI (P * 30 + (len P)))), (8, .int (nI (len P))), (0, .ref (q 1)), (1, .int (nI (P))), (2, .int (nI (kd))), (3, .int (nI (mk))), (4, .int g), (5, .int a), (6, .int o), (7, .int oe)]) hx hb dX0_add_14 hl (by decide) rfl (fun ls hl => ?_)
  refine lv_aload_n hx hb dX0_add_16 rfl (lv_at hl 2 rfl) ?_
  refine gf_0_1 hx hb hts hiX0 hown hK hP hf15 dX0_add_17 ?_
  refine lv_iload hx hb dX0_add_20 (lv_at hl 0 rfl) ?_
  refine lv_bipush (v := 6) hx hb dX0_add_22 (by decide) ?_
  refine mulN (P * 30 + (len P)) 6 hx hb rfl rfl dX0_add_24 ?_
  refine lv_iconst (v := 0) hx hb dX0_add_25 (by decide) ?_
  refine addN ((P * 30 + (len P)) * 6) 0 hx hb rfl rfl dX0_add_26 ?_
  refine lv_iload_n hx hb dX0_add_27 rfl (lv_at hl 4 rfl) ?_
  refine gst_8 (k := (P * 30 + (len P)) * 6 + 0) (x := nI (kd)) hx hb hK hP hq hS rfl (by omega) dX0_add_28 (fun num_1 e_num_1 H locs hP hS => ?_)
  have hP : va_P D vwCl (wG cI q (hol, goo, dec, fee, deb, len, num_1, prf, cop, mad, n)) H := hP
  refine lv_aload_n hx hb dX0_add_29 rfl (lv_at hl 2 rfl) ?_
  refine gf_0_1 hx hb hts hiX0 hown hK hP hf15 dX0_add_30 ?_
  refine lv_iload hx hb dX0_add_33 (lv_at hl 0 rfl) ?_
  refine lv_bipush (v := 6) hx hb dX0_add_35 (by decide) ?_
  refine mulN (P * 30 + (len P)) 6 hx hb rfl rfl dX0_add_37 ?_
  refine lv_iconst (v := 1) hx hb dX0_add_38 (by decide) ?_
  refine addN ((P * 30 + (len P)) * 6) 1 hx hb rfl rfl dX0_add_39 ?_
  refine lv_iload_n hx hb dX0_add_40 rfl (lv_at hl 5 rfl) ?_
  refine gst_8 (k := (P * 30 + (len P)) * 6 + 1) (x := nI (mk)) hx hb hK hP hq hS rfl (by omega) dX0_add_41 (fun num_2 e_num_2 H locs hP hS => ?_)
  have hP : va_P D vwCl (wG cI q (hol, goo, dec, fee, deb, len, num_2, prf, cop, mad, n)) H := hP
  refine lv_aload_n hx hb dX0_add_42 rfl (lv_at hl 2 rfl) ?_
  refine gf_0_1 hx hb hts hiX0 hown hK hP hf15 dX0_add_43 ?_
  refine lv_iload hx hb dX0_add_46 (lv_at hl 0 rfl) ?_
  refine lv_bipush (v := 6) hx hb dX0_add_48 (by decide) ?_
  refine mulN (P * 30 + (len P)) 6 hx hb rfl rfl dX0_add_50 ?_
  refine lv_iconst (v := 2) hx hb dX0_add_51 (by decide) ?_
  refine addN ((P * 30 + (len P)) * 6) 2 hx hb rfl rfl dX0_add_52 ?_
  refine lv_iload hx hb dX0_add_53 (lv_at hl 6 rfl) ?_
  refine gst_8 (k := (P * 30 + (len P)) * 6 + 2) (x := g) hx hb hK hP hq hS rfl (by omega) dX0_add_55 (fun num_3 e_num_3 H locs hP hS => ?_)
  have hP : va_P D vwCl (wG cI q (hol, goo, dec, fee, deb, len, num_3, prf, cop, mad, n)) H := hP
  refine lv_aload_n hx hb dX0_add_56 rfl (lv_at hl 2 rfl) ?_
  refine gf_0_1 hx hb hts hiX0 hown hK hP hf15 dX0_add_57 ?_
  refine lv_iload hx hb dX0_add_60 (lv_at hl 0 rfl) ?_
  refine lv_bipush (v := 6) hx hb dX0_add_62 (by decide) ?_
  refine mulN (P * 30 + (len P)) 6 hx hb rfl rfl dX0_add_64 ?_
  refine lv_iconst (v := 3) hx hb dX0_add_65 (by decide) ?_
  refine addN ((P * 30 + (len P)) * 6) 3 hx hb rfl rfl dX0_add_66 ?_
  refine lv_iload hx hb dX0_add_67 (lv_at hl 7 rfl) ?_
  refine gst_8 (k := (P * 30 + (len P)) * 6 + 3) (x := a) hx hb hK hP hq hS rfl (by omega) dX0_add_69 (fun num_4 e_num_4 H locs hP hS => ?_)
  have hP : va_P D vwCl (wG cI q (hol, goo, dec, fee, deb, len, num_4, prf, cop, mad, n)) H := hP
  refine lv_aload_n hx hb dX0_add_70 rfl (lv_at hl 2 rfl) ?_
  refine gf_0_1 hx hb hts hiX0 hown hK hP hf15 dX0_add_71 ?_
  refine lv_iload hx hb dX0_add_74 (lv_at hl 0 rfl) ?_
  refine lv_bipush (v := 6) hx hb dX0_add_76 (by decide) ?_
  refine mulN (P * 30 + (len P)) 6 hx hb rfl rfl dX0_add_78 ?_
  refine lv_iconst (v := 4) hx hb dX0_add_79 (by decide) ?_
  refine addN ((P * 30 + (len P)) * 6) 4 hx hb rfl rfl dX0_add_80 ?_
  refine lv_iload hx hb dX0_add_81 (lv_at hl 8 rfl) ?_
  refine gst_8 (k := (P * 30 + (len P)) * 6 + 4) (x := o) hx hb hK hP hq hS rfl (by omega) dX0_add_83 (fun num_5 e_num_5 H locs hP hS => ?_)
  have hP : va_P D vwCl (wG cI q (hol, goo, dec, fee, deb, len, num_5, prf, cop, mad, n)) H := hP
  refine lv_aload_n hx hb dX0_add_84 rfl (lv_at hl 2 rfl) ?_
  refine gf_0_1 hx hb hts hiX0 hown hK hP hf15 dX0_add_85 ?_
  refine lv_iload hx hb dX0_add_88 (lv_at hl 0 rfl) ?_
  refine lv_bipush (v := 6) hx hb dX0_add_90 (by decide) ?_
  refine mulN (P * 30 + (len P)) 6 hx hb rfl rfl dX0_add_92 ?_
  refine lv_iconst (v := 5) hx hb dX0_add_93 (by decide) ?_
  refine addN ((P * 30 + (len P)) * 6) 5 hx hb rfl rfl dX0_add_94 ?_
  refine lv_iload hx hb dX0_add_95 (lv_at hl 9 rfl) ?_
  refine gst_8 (k := (P * 30 + (len P)) * 6 + 5) (x := oe) hx hb hK hP hq hS rfl (by omega) dX0_add_97 (fun num_6 e_num_6 H locs hP hS => ?_)
  have hP : va_P D vwCl (wG cI q (hol, goo, dec, fee, deb, len, num_6, prf, cop, mad, n)) H := hP
  refine lv_aload_n hx hb dX0_add_98 rfl (lv_at hl 2 rfl) ?_
  refine gf_0_2 hx hb hts hiX0 hown hK hP hf18 dX0_add_99 ?_
  refine lv_iload hx hb dX0_add_102 (lv_at hl 0 rfl) ?_
  refine lv_aload_n hx hb dX0_add_104 rfl (lv_at hl 2 rfl) ?_
  refine lv_iload_n hx hb dX0_add_105 rfl (lv_at hl 3 rfl) ?_
  refine lv_iload hx hb dX0_add_106 (lv_at hl 1 rfl) ?_
  refine r_callE (x := (pmS prf num_6 P (len P) 6)) (va_runV (As := [.int (nI (P)), .int (nI (len P))]) (rest := [.int (nI (P * 30 + (len P))), .ref (q 9)]) ⟨hx, hb, hml, hown, hts⟩ (c_X0_proofMade l D cI q (hol, goo, dec, fee, deb, len, num_6, prf, cop, mad, n) P (len P) (by omega) (by omega)) (cwV 2 hts gX0_add_X0_proofMade rfl rfl rfl kd_X0_proofMade ⟨Nat.le_of_ble_eq_true rfl, Nat.le_of_ble_eq_true rfl⟩) (pV_G1 hP hK hE) rfl rfl hl.1 rfl (lv_room (Nat.le_of_ble_eq_true rfl)) dX0_add_108 ⟨Nat.le_of_ble_eq_true rfl, Nat.le_of_ble_eq_true rfl⟩) ?_
  refine gst_9 (k := P * 30 + (len P)) (x := (pmS prf num_6 P (len P) 6)) hx hb hK hP hq hS rfl (by omega) dX0_add_111 (fun prf_7 e_prf_7 H locs hP hS => ?_)
  have hP : va_P D vwCl (wG cI q (hol, goo, dec, fee, deb, len, num_6, prf_7, cop, mad, n)) H := hP
  refine lv_aload_n hx hb dX0_add_112 rfl (lv_at hl 2 rfl) ?_
  refine gf_0_3 hx hb hts hiX0 hown hK hP hf21 dX0_add_113 ?_
  refine lv_iload hx hb dX0_add_116 (lv_at hl 0 rfl) ?_
  refine lv_iload_n hx hb dX0_add_118 rfl (lv_at hl 4 rfl) ?_
  refine lv_iload_n hx hb dX0_add_119 rfl (lv_at hl 5 rfl) ?_
  refine lv_iload hx hb dX0_add_120 (lv_at hl 7 rfl) ?_
  refine r_callE (x := (witF (nI (kd)) (nI (mk)) a)) (va_runS (As := [.int (nI (kd)), .int (nI (mk)), .int a]) (rest := [.int (nI (P * 30 + (len P))), .ref (q 10)]) ⟨hx, hb, hml, hown, hts⟩ (c_X0_witnesses l (nI (kd)) (nI (mk)) a) (va_cwS 3 hts gX0_add_X0_witnesses rfl rfl rfl kn_X0_witnesses ⟨Nat.le_of_ble_eq_true rfl, Nat.le_of_ble_eq_true rfl⟩) (pS_T) rfl rfl hl.1 rfl (lv_room (Nat.le_of_ble_eq_true rfl)) dX0_add_122 ⟨Nat.le_of_ble_eq_true rfl, Nat.le_of_ble_eq_true rfl⟩) ?_
  refine gst_10 (k := P * 30 + (len P)) (x := (witF (nI (kd)) (nI (mk)) a)) hx hb hK hP hq hS rfl (by omega) dX0_add_125 (fun cop_8 e_cop_8 H locs hP hS => ?_)
  have hP : va_P D vwCl (wG cI q (hol, goo, dec, fee, deb, len, num_6, prf_7, cop_8, mad, n)) H := hP
  refine lv_aload_n hx hb dX0_add_126 rfl (lv_at hl 2 rfl) ?_
  refine gf_0_4 hx hb hts hiX0 hown hK hP hf24 dX0_add_127 ?_
  refine lv_iload hx hb dX0_add_130 (lv_at hl 0 rfl) ?_
  refine lv_iload hx hb dX0_add_132 (lv_at hl 7 rfl) ?_
  refine gst_11 (k := P * 30 + (len P)) (x := a) hx hb hK hP hq hS rfl (by omega) dX0_add_134 (fun mad_9 e_mad_9 H locs hP hS => ?_)
  have hP : va_P D vwCl (wG cI q (hol, goo, dec, fee, deb, len, num_6, prf_7, cop_8, mad_9, n)) H := hP
  refine lv_aload_n hx hb dX0_add_135 rfl (lv_at hl 2 rfl) ?_
  refine gf_0_0 hx hb hts hiX0 hown hK hP hf9 dX0_add_136 ?_
  refine lv_iload_n hx hb dX0_add_139 rfl (lv_at hl 3 rfl) ?_
  refine lv_iload hx hb dX0_add_140 (lv_at hl 1 rfl) ?_
  refine lv_iconst (v := 1) hx hb dX0_add_142 (by decide) ?_
  refine addN (len P) 1 hx hb rfl rfl dX0_add_143 ?_
  refine gst_7 (k := P) (x := (len P) + 1) hx hb hK hP hq hS rfl (by omega) dX0_add_144 (fun len_10 e_len_10 H locs hP hS => ?_)
  have hP : va_P D vwCl (wG cI q (hol, goo, dec, fee, deb, len_10, num_6, prf_7, cop_8, mad_9, n)) H := hP
  exact RET _ _ _ _ (⟨rfl, by subst e_num_1 e_num_2 e_num_3 e_num_4 e_num_5 e_num_6 e_prf_7 e_cop_8 e_mad_9 e_len_10; exact hP⟩) hS dX0_add_145
theorem kn_X0_putAmount : yX0_putAmount.cls ≠ "java/lang/invoke/MethodHandle" ∧ yX0_putAmount.cls ≠ "java/lang/invoke/VarHandle" ∧ (parseMethodDescriptor yX0_putAmount.desc).map (fun d => d.parameters.length) = some 3 := by decide +kernel
theorem kd_X0_putAmount : yX0_putAmount.cls = RX0 ∧ yX0_putAmount.cls ≠ "java/lang/invoke/MethodHandle" ∧ yX0_putAmount.cls ≠ "java/lang/invoke/VarHandle" ∧ (parseMethodDescriptor yX0_putAmount.desc).map (fun d => d.parameters.length) = some 3 := by decide +kernel
set_option maxHeartbeats 4000000 in
set_option maxRecDepth 100000 in
theorem c_X0_putAmount (l : Launch) (D : va_G) (cI : ClassId) (q : Nat → Nat) (σ : SG) (hq : ijQ 12 q) (P E : Nat) (a : Int32) (hP14 : P < 14) (hE30 : E < 30) : Met l yX0_putAmount wsX0_putAmount ({ frames := 1, cells := 0, slots := 0, locals := 21 }) (va_Pc [.ref (q 1), .int (nI (P)), .int (nI (E)), .int a] (PG D cI q σ)) (wQ (adQ 12 q) (fun v H1 => v = none ∧ va_P D vwCl (wG cI q (gsNum σ (va_up (gNum σ) ((P * 30 + E) * 6 + 3) a))) H1)) 0 0 (adQ 12 q) := by
  refine openV (cc := cX0_putAmount) (maxL := 4) (by decide) rfl (Nat.le_of_ble_eq_true rfl) ?_
  intro p e s m args below meth c hx hb hml hts hown hpre Q RET ls hl
  have hown : s.vm.findClass RX0 = some m.cls := hown
  have hl : lv_has ls 4 [(0, .ref (q 1)), (1, .int (nI (P))), (2, .int (nI (E))), (3, .int a)] := hl
  obtain ⟨hP, hK, hE⟩ := hpre
  have hS : va_S (adQ 12 q) s.heap s.heap [] := va_S.rf
  have hiX0 : ∀ w ∈ wsX00, w ∈ wsX0_putAmount := by decide +kernel
  have hf15 := hts (.fieldLink RX0 15 "PalletGram$Chains" "numbers" "[I") (by decide +kernel)
  obtain ⟨hol, goo, dec, fee, deb, len, num, prf, cop, mad, n⟩ := σ
  refine lv_aload_n hx hb dX0_putAmount_0 rfl (lv_at hl 0 rfl) ?_
  refine gf_0_1 hx hb hts hiX0 hown hK hP hf15 dX0_putAmount_1 ?_
  refine lv_iload_n hx hb dX0_putAmount_4 rfl (lv_at hl 1 rfl) ?_
  refine lv_iload_n hx hb dX0_putAmount_5 rfl (lv_at hl 2 rfl) ?_
  refine r_callE (x := nI (P * 30 + E)) (va_runS (As := [.int (nI (P)), .int (nI (E))]) (rest := [.ref (q 8)]) ⟨hx, hb, hml, hown, hts⟩ (c_X0_row l P E) (va_cwS 2 hts gX0_putAmount_X0_row rfl rfl rfl kn_X0_row ⟨Nat.le_of_ble_eq_true rfl, Nat.le_of_ble_eq_true rfl⟩) (pS_T) rfl rfl hl.1 rfl (lv_room (Nat.le_of_ble_eq_true rfl)) dX0_putAmount_6 ⟨Nat.le_of_ble_eq_true rfl, Nat.le_of_ble_eq_true rfl⟩) ?_
  refine lv_bipush (v := 6) hx hb dX0_putAmount_9 (by decide) ?_
  refine mulN (P * 30 + E) 6 hx hb rfl rfl dX0_putAmount_11 ?_
  refine lv_iconst (v := 3) hx hb dX0_putAmount_12 (by decide) ?_
  refine addN ((P * 30 + E) * 6) 3 hx hb rfl rfl dX0_putAmount_13 ?_
  refine lv_iload_n hx hb dX0_putAmount_14 rfl (lv_at hl 3 rfl) ?_
  refine gst_8 (k := (P * 30 + E) * 6 + 3) (x := a) hx hb hK hP hq hS rfl (by omega) dX0_putAmount_15 (fun num_1 e_num_1 H locs hP hS => ?_)
  have hP : va_P D vwCl (wG cI q (hol, goo, dec, fee, deb, len, num_1, prf, cop, mad, n)) H := hP
  exact RET _ _ _ _ (⟨rfl, by subst e_num_1; exact hP⟩) hS dX0_putAmount_16
theorem kn_X0_putAmountBack : yX0_putAmountBack.cls ≠ "java/lang/invoke/MethodHandle" ∧ yX0_putAmountBack.cls ≠ "java/lang/invoke/VarHandle" ∧ (parseMethodDescriptor yX0_putAmountBack.desc).map (fun d => d.parameters.length) = some 2 := by decide +kernel
theorem kd_X0_putAmountBack : yX0_putAmountBack.cls = RX0 ∧ yX0_putAmountBack.cls ≠ "java/lang/invoke/MethodHandle" ∧ yX0_putAmountBack.cls ≠ "java/lang/invoke/VarHandle" ∧ (parseMethodDescriptor yX0_putAmountBack.desc).map (fun d => d.parameters.length) = some 2 := by decide +kernel
set_option maxHeartbeats 4000000 in
set_option maxRecDepth 100000 in
theorem c_X0_putAmountBack (l : Launch) (D : va_G) (cI : ClassId) (q : Nat → Nat) (σ : SG) (hq : ijQ 12 q) (P E : Nat) (hP14 : P < 14) (hE30 : E < 30) : Met l yX0_putAmountBack wsX0_putAmountBack ({ frames := 2, cells := 0, slots := 0, locals := 44 }) (va_Pc [.ref (q 1), .int (nI (P)), .int (nI (E))] (PG D cI q σ)) (wQ (adQ 12 q) (fun v H1 => v = none ∧ va_P D vwCl (wG cI q (gsNum σ (va_up (gNum σ) ((P * 30 + E) * 6 + 3) (gMad σ (P * 30 + E))))) H1)) 0 0 (adQ 12 q) := by
  refine openV (cc := cX0_putAmountBack) (maxL := 3) (by decide) rfl (Nat.le_of_ble_eq_true rfl) ?_
  intro p e s m args below meth c hx hb hml hts hown hpre Q RET ls hl
  have hown : s.vm.findClass RX0 = some m.cls := hown
  have hl : lv_has ls 3 [(0, .ref (q 1)), (1, .int (nI (P))), (2, .int (nI (E)))] := hl
  obtain ⟨hP, hK, hE⟩ := hpre
  have hS : va_S (adQ 12 q) s.heap s.heap [] := va_S.rf
  have hiX0 : ∀ w ∈ wsX00, w ∈ wsX0_putAmountBack := by decide +kernel
  have hf24 := hts (.fieldLink RX0 24 "PalletGram$Chains" "amountsMade" "[I") (by decide +kernel)
  obtain ⟨hol, goo, dec, fee, deb, len, num, prf, cop, mad, n⟩ := σ
  refine lv_aload_n hx hb dX0_putAmountBack_0 rfl (lv_at hl 0 rfl) ?_
  refine lv_iload_n hx hb dX0_putAmountBack_1 rfl (lv_at hl 1 rfl) ?_
  refine lv_iload_n hx hb dX0_putAmountBack_2 rfl (lv_at hl 2 rfl) ?_
  refine lv_aload_n hx hb dX0_putAmountBack_3 rfl (lv_at hl 0 rfl) ?_
  refine gf_0_4 hx hb hts hiX0 hown hK hP hf24 dX0_putAmountBack_4 ?_
  refine lv_iload_n hx hb dX0_putAmountBack_7 rfl (lv_at hl 1 rfl) ?_
  refine lv_iload_n hx hb dX0_putAmountBack_8 rfl (lv_at hl 2 rfl) ?_
  refine r_callE (x := nI (P * 30 + E)) (va_runS (As := [.int (nI (P)), .int (nI (E))]) (rest := [.ref (q 11), .int (nI (E)), .int (nI (P)), .ref (q 1)]) ⟨hx, hb, hml, hown, hts⟩ (c_X0_row l P E) (va_cwS 2 hts gX0_putAmountBack_X0_row rfl rfl rfl kn_X0_row ⟨Nat.le_of_ble_eq_true rfl, Nat.le_of_ble_eq_true rfl⟩) (pS_T) rfl rfl hl.1 rfl (lv_room (Nat.le_of_ble_eq_true rfl)) dX0_putAmountBack_9 ⟨Nat.le_of_ble_eq_true rfl, Nat.le_of_ble_eq_true rfl⟩) ?_
  refine gld_11 (k := P * 30 + E) (v := mad (P * 30 + E)) hx hb hK hP rfl (by omega) rfl dX0_putAmountBack_12 ?_
  refine w_call (va_runV (As := [.int (nI (P)), .int (nI (E)), .int ((mad (P * 30 + E)))]) (rest := []) ⟨hx, hb, hml, hown, hts⟩ (c_X0_putAmount l D cI q (hol, goo, dec, fee, deb, len, num, prf, cop, mad, n) hq P E ((mad (P * 30 + E))) (by omega) (by omega)) (cwV 3 hts gX0_putAmountBack_X0_putAmount rfl rfl rfl kd_X0_putAmount ⟨Nat.le_of_ble_eq_true rfl, Nat.le_of_ble_eq_true rfl⟩) (pV_G1 hP hK hE) rfl rfl hl.1 rfl (lv_room (Nat.le_of_ble_eq_true rfl)) dX0_putAmountBack_13 ⟨Nat.le_of_ble_eq_true rfl, Nat.le_of_ble_eq_true rfl⟩) hS (fun _ h => h) (fun v_1 H locs hv_1 _ _ hS => ?_)
  obtain ⟨rfl, hP⟩ := hv_1
  have hP : va_P D vwCl (wG cI q (hol, goo, dec, fee, deb, len, (va_up num ((P * 30 + E) * 6 + 3) ((mad (P * 30 + E)))), prf, cop, mad, n)) H := hP
  exact RET _ _ _ _ (⟨rfl, hP⟩) hS dX0_putAmountBack_16
