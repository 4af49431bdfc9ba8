theorem kn_X1_isIn : yX1_isIn.cls ≠ "java/lang/invoke/MethodHandle" ∧ yX1_isIn.cls ≠ "java/lang/invoke/VarHandle" ∧ (parseMethodDescriptor yX1_isIn.desc).map (fun d => d.parameters.length) = some 2 := by decide +kernel
theorem kd_X1_isIn : yX1_isIn.cls = RX1 ∧ yX1_isIn.cls ≠ "java/lang/invoke/MethodHandle" ∧ yX1_isIn.cls ≠ "java/lang/invoke/VarHandle" ∧ (parseMethodDescriptor yX1_isIn.desc).map (fun d => d.parameters.length) = some 2 := by decide +kernel
set_option maxHeartbeats 4000000 in
set_option maxRecDepth 100000 in
theorem c_X1_isIn (l : Launch)  (set k : Int32) : Met l yX1_isIn wsX1_isIn ({ frames := 0, cells := 0, slots := 0, locals := 0 }) (va_Pc [.int set, .int k] (PT)) (rQ (fun r => r = bI (isB set k))) 0 0 noF := by
  refine openZ (cc := cX1_isIn) (maxL := 2) (by decide) rfl (Nat.le_of_ble_eq_true rfl) ?_
  intro p e s m args below meth c hx hb hml hts hown hpre Q RET ls hl
  have hown : s.vm.findClass RX1 = some m.cls := hown
  have hl : lv_has ls 2 [(0, .int set), (1, .int k)] := hl
  refine lv_iload_n hx hb dX1_isIn_0 rfl (lv_at hl 0 rfl) ?_
  refine lv_iload_n hx hb dX1_isIn_1 rfl (lv_at hl 1 rfl) ?_
  refine lv_ishr hx hb dX1_isIn_2 ?_
  refine lv_iconst (v := 1) hx hb dX1_isIn_3 (by decide) ?_
  refine lv_iand hx hb dX1_isIn_4 ?_
  refine lv_if_eq (tgt := 12) hx hb dX1_isIn_5 (by decide) (fun c_1 => ?_) (fun c_1 => ?_)
  · skip
    refine lv_iconst (v := 0) hx hb dX1_isIn_12 (by decide) ?_
    exact RET (false) _ _ (congrArg bI (by simp [isB, c_1])) dX1_isIn_13
  · skip
    refine lv_iconst (v := 1) hx hb dX1_isIn_8 (by decide) ?_
    refine lv_goto (tgt := 13) hx hb dX1_isIn_9 (by decide) ?_
    exact RET (true) _ _ (congrArg bI (by simp [isB, c_1])) dX1_isIn_13
theorem kn_X0_row : yX0_row.cls ≠ "java/lang/invoke/MethodHandle" ∧ yX0_row.cls ≠ "java/lang/invoke/VarHandle" ∧ (parseMethodDescriptor yX0_row.desc).map (fun d => d.parameters.length) = some 2 := by decide +kernel
theorem kd_X0_row : yX0_row.cls = RX0 ∧ yX0_row.cls ≠ "java/lang/invoke/MethodHandle" ∧ yX0_row.cls ≠ "java/lang/invoke/VarHandle" ∧ (parseMethodDescriptor yX0_row.desc).map (fun d => d.parameters.length) = some 2 := by decide +kernel
set_option maxHeartbeats 4000000 in
set_option maxRecDepth 100000 in
theorem c_X0_row (l : Launch)  (P E : Nat) : Met l yX0_row wsX0_row ({ frames := 0, cells := 0, slots := 0, locals := 0 }) (va_Pc [.int (nI (P)), .int (nI (E))] (PT)) (rQ (fun r => r = nI (P * 30 + E))) 0 0 noF := by
  refine openR (cc := cX0_row) (maxL := 2) (by decide) rfl (Nat.le_of_ble_eq_true rfl) ?_
  intro p e s m args below meth c hx hb hml hts hown hpre Q RET ls hl
  have hown : s.vm.findClass RX0 = some m.cls := hown
  have hl : lv_has ls 2 [(0, .int (nI (P))), (1, .int (nI (E)))] := hl
  refine lv_iload_n hx hb dX0_row_0 rfl (lv_at hl 0 rfl) ?_
  refine lv_bipush (v := 30) hx hb dX0_row_1 (by decide) ?_
  refine mulN P 30 hx hb rfl rfl dX0_row_3 ?_
  refine lv_iload_n hx hb dX0_row_4 rfl (lv_at hl 1 rfl) ?_
  refine addN (P * 30) E hx hb rfl rfl dX0_row_5 ?_
  exact RET _ _ _ (rfl) dX0_row_6
theorem kn_X0_witnesses : yX0_witnesses.cls ≠ "java/lang/invoke/MethodHandle" ∧ yX0_witnesses.cls ≠ "java/lang/invoke/VarHandle" ∧ (parseMethodDescriptor yX0_witnesses.desc).map (fun d => d.parameters.length) = some 3 := by decide +kernel
theorem kd_X0_witnesses : yX0_witnesses.cls = RX0 ∧ yX0_witnesses.cls ≠ "java/lang/invoke/MethodHandle" ∧ yX0_witnesses.cls ≠ "java/lang/invoke/VarHandle" ∧ (parseMethodDescriptor yX0_witnesses.desc).map (fun d => d.parameters.length) = some 3 := by decide +kernel
set_option maxHeartbeats 4000000 in
set_option maxRecDepth 100000 in
theorem c_X0_witnesses (l : Launch)  (k mk a : Int32) : Met l yX0_witnesses wsX0_witnesses ({ frames := 0, cells := 0, slots := 0, locals := 0 }) (va_Pc [.int k, .int mk, .int a] (PT)) (rQ (fun r => r = witF k mk a)) 0 0 noF := by
  refine openR (cc := cX0_witnesses) (maxL := 4) (by decide) rfl (Nat.le_of_ble_eq_true rfl) ?_
  intro p e s m args below meth c hx hb hml hts hown hpre Q RET ls hl
  have hown : s.vm.findClass RX0 = some m.cls := hown
  have hl : lv_has ls 4 [(0, .int k), (1, .int mk), (2, .int a)] := hl
  refine lv_iconst (v := 1) hx hb dX0_witnesses_0 (by decide) ?_
  refine lv_iload_n hx hb dX0_witnesses_1 rfl (lv_at hl 1 rfl) ?_
  refine lv_ishl hx hb dX0_witnesses_2 ?_
  refine lv_istore_n (lv' := [(3, .int ((1 <<< (mk &&& 31)))), (0, .int k), (1, .int mk), (2, .int a)]) hx hb dX0_witnesses_3 rfl hl (by decide) rfl (fun ls hl => ?_)
  refine lv_iload_n hx hb dX0_witnesses_4 rfl (lv_at hl 1 rfl) ?_
  refine lv_bipush (v := 7) hx hb dX0_witnesses_5 (by decide) ?_
  refine lv_icmp_ne (tgt := 16) hx hb dX0_witnesses_7 (by decide) (fun c_1 => ?_) (fun c_1 => ?_)
  · skip
    refine lv_iload_n hx hb dX0_witnesses_16 rfl (lv_at hl 1 rfl) ?_
    refine lv_iconst (v := 5) hx hb dX0_witnesses_17 (by decide) ?_
    refine lv_icmp_eq (tgt := 26) hx hb dX0_witnesses_18 (by decide) (fun c_2 => ?_) (fun c_2 => ?_)
    · skip
      refine lv_iload_n hx hb dX0_witnesses_26 rfl (lv_at hl 0 rfl) ?_
      refine lv_bipush (v := 64) hx hb dX0_witnesses_27 (by decide) ?_
      refine lv_ior hx hb dX0_witnesses_29 ?_
      refine lv_istore_n (lv' := [(3, .int (((1 <<< (mk &&& 31)) ||| 64))), (0, .int k), (1, .int mk), (2, .int a)]) hx hb dX0_witnesses_30 rfl hl (by decide) rfl (fun ls hl => ?_)
      refine lv_iload_n hx hb dX0_witnesses_31 rfl (lv_at hl 0 rfl) ?_
      exact RET _ _ _ (by first | (simp [witF, c_1, c_2]; done) | exact absurd (c_1.symm.trans c_2) (by decide)) dX0_witnesses_32
    · skip
      refine lv_iload_n hx hb dX0_witnesses_21 rfl (lv_at hl 1 rfl) ?_
      refine lv_iconst (v := 3) hx hb dX0_witnesses_22 (by decide) ?_
      refine lv_icmp_ne (tgt := 31) hx hb dX0_witnesses_23 (by decide) (fun c_3 => ?_) (fun c_3 => ?_)
      · skip
        refine lv_iload_n hx hb dX0_witnesses_31 rfl (lv_at hl 0 rfl) ?_
        exact RET _ _ _ (by first | (simp [witF, c_1, c_2, c_3]; done) | exact absurd (c_1.symm.trans c_3) (by decide)) dX0_witnesses_32
      · skip
        refine lv_iload_n hx hb dX0_witnesses_26 rfl (lv_at hl 0 rfl) ?_
        refine lv_bipush (v := 64) hx hb dX0_witnesses_27 (by decide) ?_
        refine lv_ior hx hb dX0_witnesses_29 ?_
        refine lv_istore_n (lv' := [(3, .int (((1 <<< (mk &&& 31)) ||| 64))), (0, .int k), (1, .int mk), (2, .int a)]) hx hb dX0_witnesses_30 rfl hl (by decide) rfl (fun ls hl => ?_)
        refine lv_iload_n hx hb dX0_witnesses_31 rfl (lv_at hl 0 rfl) ?_
        exact RET _ _ _ (by first | (simp [witF, c_1, c_2, c_3]; done) | exact absurd (c_1.symm.trans c_3) (by decide)) dX0_witnesses_32
  · skip
    refine lv_iload_n hx hb dX0_witnesses_10 rfl (lv_at hl 0 rfl) ?_
    refine lv_iconst (v := 1) hx hb dX0_witnesses_11 (by decide) ?_
    refine lv_iload_n hx hb dX0_witnesses_12 rfl (lv_at hl 3 rfl) ?_
    refine lv_ishl hx hb dX0_witnesses_13 ?_
    refine lv_ior hx hb dX0_witnesses_14 ?_
    refine lv_istore_n (lv' := [(3, .int (((1 <<< (mk &&& 31)) ||| (1 <<< (a &&& 31))))), (0, .int k), (1, .int mk), (2, .int a)]) hx hb dX0_witnesses_15 rfl hl (by decide) rfl (fun ls hl => ?_)
    refine lv_iload_n hx hb dX0_witnesses_16 rfl (lv_at hl 1 rfl) ?_
    refine lv_iconst (v := 5) hx hb dX0_witnesses_17 (by decide) ?_
    refine lv_icmp_eq (tgt := 26) hx hb dX0_witnesses_18 (by decide) (fun c_4 => ?_) (fun c_4 => ?_)
    · skip
      refine lv_iload_n hx hb dX0_witnesses_26 rfl (lv_at hl 0 rfl) ?_
      refine lv_bipush (v := 64) hx hb dX0_witnesses_27 (by decide) ?_
      refine lv_ior hx hb dX0_witnesses_29 ?_
      refine lv_istore_n (lv' := [(3, .int ((((1 <<< (mk &&& 31)) ||| (1 <<< (a &&& 31))) ||| 64))), (0, .int k), (1, .int mk), (2, .int a)]) hx hb dX0_witnesses_30 rfl hl (by decide) rfl (fun ls hl => ?_)
      refine lv_iload_n hx hb dX0_witnesses_31 rfl (lv_at hl 0 rfl) ?_
      exact RET _ _ _ (by first | (simp [witF, c_1, c_4]; done) | exact absurd (c_1.symm.trans c_4) (by decide)) dX0_witnesses_32
    · skip
      refine lv_iload_n hx hb dX0_witnesses_21 rfl (lv_at hl 1 rfl) ?_
      refine lv_iconst (v := 3) hx hb dX0_witnesses_22 (by decide) ?_
      refine lv_icmp_ne (tgt := 31) hx hb dX0_witnesses_23 (by decide) (fun c_5 => ?_) (fun c_5 => ?_)
      · skip
        refine lv_iload_n hx hb dX0_witnesses_31 rfl (lv_at hl 0 rfl) ?_
        exact RET _ _ _ (by first | (simp [witF, c_1, c_4, c_5]; done) | exact absurd (c_1.symm.trans c_5) (by decide)) dX0_witnesses_32
      · skip
        refine lv_iload_n hx hb dX0_witnesses_26 rfl (lv_at hl 0 rfl) ?_
        refine lv_bipush (v := 64) hx hb dX0_witnesses_27 (by decide) ?_
        refine lv_ior hx hb dX0_witnesses_29 ?_
        refine lv_istore_n (lv' := [(3, .int ((((1 <<< (mk &&& 31)) ||| (1 <<< (a &&& 31))) ||| 64))), (0, .int k), (1, .int mk), (2, .int a)]) hx hb dX0_witnesses_30 rfl hl (by decide) rfl (fun ls hl => ?_)
        refine lv_iload_n hx hb dX0_witnesses_31 rfl (lv_at hl 0 rfl) ?_
        exact RET _ _ _ (by first | (simp [witF, c_1, c_4, c_5]; done) | exact absurd (c_1.symm.trans c_5) (by decide)) dX0_witnesses_32
theorem kn_X0_sign : yX0_sign.cls ≠ "java/lang/invoke/MethodHandle" ∧ yX0_sign.cls ≠ "java/lang/invoke/VarHandle" ∧ (parseMethodDescriptor yX0_sign.desc).map (fun d => d.parameters.length) = some 1 := by decide +kernel
theorem kd_X0_sign : yX0_sign.cls = RX0 ∧ yX0_sign.cls ≠ "java/lang/invoke/MethodHandle" ∧ yX0_sign.cls ≠ "java/lang/invoke/VarHandle" ∧ (parseMethodDescriptor yX0_sign.desc).map (fun d => d.parameters.length) = some 1 := by decide +kernel
set_option maxHeartbeats 4000000 in
set_option maxRecDepth 100000 in
theorem c_X0_sign (l : Launch)  (k : Int32) : Met l yX0_sign wsX0_sign ({ frames := 0, cells := 0, slots := 0, locals := 0 }) (va_Pc [.int k] (PT)) (rQ (fun r => r = sgnF k)) 0 0 noF := by
  refine openR (cc := cX0_sign) (maxL := 1) (by decide) rfl (Nat.le_of_ble_eq_true rfl) ?_
  intro p e s m args below meth c hx hb hml hts hown hpre Q RET ls hl
  have hown : s.vm.findClass RX0 = some m.cls := hown
  have hl : lv_has ls 1 [(0, .int k)] := hl
  refine lv_iload_n hx hb dX0_sign_0 rfl (lv_at hl 0 rfl) ?_
  by_cases h1 : k = 1
  · subst h1
    refine lv_tableIn (tgt := 32) hx hb dX0_sign_1 (by decide) (by decide) rfl (by decide) ?_
    refine lv_iconst (v := 1) hx hb dX0_sign_32 (by decide) ?_
    exact RET _ _ _ (by decide) dX0_sign_33
  by_cases h2 : k = 2
  · subst h2
    refine lv_tableIn (tgt := 34) hx hb dX0_sign_1 (by decide) (by decide) rfl (by decide) ?_
    refine lv_iconst (v := (-1)) hx hb dX0_sign_34 (by decide) ?_
    exact RET _ _ _ (by decide) dX0_sign_35
  by_cases h3 : k = 3
  · subst h3
    refine lv_tableIn (tgt := 34) hx hb dX0_sign_1 (by decide) (by decide) rfl (by decide) ?_
    refine lv_iconst (v := (-1)) hx hb dX0_sign_34 (by decide) ?_
    exact RET _ _ _ (by decide) dX0_sign_35
  by_cases h4 : k = 4
  · subst h4
    refine lv_tableIn (tgt := 32) hx hb dX0_sign_1 (by decide) (by decide) rfl (by decide) ?_
    refine lv_iconst (v := 1) hx hb dX0_sign_32 (by decide) ?_
    exact RET _ _ _ (by decide) dX0_sign_33
  refine lv_tableOut (tgt := 36) hx hb dX0_sign_1 ?_ (by decide) ?_
  · have e1 : ¬ k.toInt = 1 := fun z => h1 (Int32.toInt_inj.mp (z.trans (by decide)))
    have e2 : ¬ k.toInt = 2 := fun z => h2 (Int32.toInt_inj.mp (z.trans (by decide)))
    have e3 : ¬ k.toInt = 3 := fun z => h3 (Int32.toInt_inj.mp (z.trans (by decide)))
    have e4 : ¬ k.toInt = 4 := fun z => h4 (Int32.toInt_inj.mp (z.trans (by decide)))
    omega
  refine lv_iconst (v := 0) hx hb dX0_sign_36 (by decide) ?_
  exact RET _ _ _ (by simp [sgnF, h1, h2, h3, h4]) dX0_sign_37
theorem kn_X0_length : yX0_length.cls ≠ "java/lang/invoke/MethodHandle" ∧ yX0_length.cls ≠ "java/lang/invoke/VarHandle" ∧ (parseMethodDescriptor yX0_length.desc).map (fun d => d.parameters.length) = some 1 := by decide +kernel
theorem kd_X0_length : yX0_length.cls = RX0 ∧ yX0_length.cls ≠ "java/lang/invoke/MethodHandle" ∧ yX0_length.cls ≠ "java/lang/invoke/VarHandle" ∧ (parseMethodDescriptor yX0_length.desc).map (fun d => d.parameters.length) = some 1 := by decide +kernel
set_option maxHeartbeats 4000000 in
set_option maxRecDepth 100000 in
theorem c_X0_length (l : Launch) (D : va_G) (cI : ClassId) (q : Nat → Nat) (σ : SG) (P : Nat) (hP14 : P < 14) : Met l yX0_length wsX0_length ({ frames := 0, cells := 0, slots := 0, locals := 0 }) (va_Pc [.ref (q 1), .int (nI (P))] (PG D cI q σ)) (rQ (fun r => r = nI (gLen σ P))) 0 0 noF := by
  refine openR (cc := cX0_length) (maxL := 2) (by decide) rfl (Nat.le_of_ble_eq_true rfl) ?_
  intro p e s m args below meth c hx hb hml hts hown hpre Q RET ls hl
  have hown : s.vm.findClass RX0 = some m.cls := hown
  have hl : lv_has ls 2 [(0, .ref (q 1)), (1, .int (nI (P)))] := hl
  obtain ⟨hP, hK, hE⟩ := hpre
  have hiX0 : ∀ w ∈ wsX00, w ∈ wsX0_length := by decide +kernel
  have hf9 := hts (.fieldLink RX0 9 "PalletGram$Chains" "lengths" "[I") (by decide +kernel)
  obtain ⟨hol, goo, dec, fee, deb, len, num, prf, cop, mad, n⟩ := σ
  refine lv_aload_n hx hb dX0_length_0 rfl (lv_at hl 0 rfl) ?_
  refine gf_0_0 hx hb hts hiX0 hown hK hP hf9 dX0_length_1 ?_
  refine lv_iload_n hx hb dX0_length_4 rfl (lv_at hl 1 rfl) ?_
  refine gld_7 (k := P) (v := len P) hx hb hK hP rfl (by omega) rfl dX0_length_5 ?_
  exact RET _ _ _ (rfl) dX0_length_6
theorem kn_X0_has : yX0_has.cls ≠ "java/lang/invoke/MethodHandle" ∧ yX0_has.cls ≠ "java/lang/invoke/VarHandle" ∧ (parseMethodDescriptor yX0_has.desc).map (fun d => d.parameters.length) = some 2 := by decide +kernel
theorem kd_X0_has : yX0_has.cls = RX0 ∧ yX0_has.cls ≠ "java/lang/invoke/MethodHandle" ∧ yX0_has.cls ≠ "java/lang/invoke/VarHandle" ∧ (parseMethodDescriptor yX0_has.desc).map (fun d => d.parameters.length) = some 2 := by decide +kernel
set_option maxHeartbeats 4000000 in
set_option maxRecDepth 100000 in
theorem c_X0_has (l : Launch) (D : va_G) (cI : ClassId) (q : Nat → Nat) (σ : SG) (P : Nat) (en : Int32) (hP14 : P < 14) : Met l yX0_has wsX0_has ({ frames := 0, cells := 0, slots := 0, locals := 0 }) (va_Pc [.ref (q 1), .int (nI (P)), .int en] (PG D cI q σ)) (rQ (fun r => r = bI (rngB 0 (nI (gLen σ P)) en))) 0 0 noF := by
  refine openZ (cc := cX0_has) (maxL := 3) (by decide) rfl (Nat.le_of_ble_eq_true rfl) ?_
  intro p e s m args below meth c hx hb hml hts hown hpre Q RET ls hl
  have hown : s.vm.findClass RX0 = some m.cls := hown
  have hl : lv_has ls 3 [(0, .ref (q 1)), (1, .int (nI (P))), (2, .int en)] := hl
  obtain ⟨hP, hK, hE⟩ := hpre
  have hiX0 : ∀ w ∈ wsX00, w ∈ wsX0_has := by decide +kernel
  have hf9 := hts (.fieldLink RX0 9 "PalletGram$Chains" "lengths" "[I") (by decide +kernel)
  obtain ⟨hol, goo, dec, fee, deb, len, num, prf, cop, mad, n⟩ := σ
  refine lv_iload_n hx hb dX0_has_0 rfl (lv_at hl 2 rfl) ?_
  refine lv_if_lt (tgt := 18) hx hb dX0_has_1 (by decide) (fun c_1 => ?_) (fun c_1 => ?_)
  · skip
    refine lv_iconst (v := 0) hx hb dX0_has_18 (by decide) ?_
    exact RET (false) _ _ (congrArg bI (by simp [rngB, c_1, gHol, gGoo, gDec, gFee, gDeb, gLen, gNum, gPrf, gCop, gMad, gN])) dX0_has_19
  · skip
    refine lv_iload_n hx hb dX0_has_4 rfl (lv_at hl 2 rfl) ?_
    refine lv_aload_n hx hb dX0_has_5 rfl (lv_at hl 0 rfl) ?_
    refine gf_0_0 hx hb hts hiX0 hown hK hP hf9 dX0_has_6 ?_
    refine lv_iload_n hx hb dX0_has_9 rfl (lv_at hl 1 rfl) ?_
    refine gld_7 (k := P) (v := len P) hx hb hK hP rfl (by omega) rfl dX0_has_10 ?_
    refine lv_icmp_ge (tgt := 18) hx hb dX0_has_11 (by decide) (fun c_2 => ?_) (fun c_2 => ?_)
    · skip
      refine lv_iconst (v := 0) hx hb dX0_has_18 (by decide) ?_
      exact RET (false) _ _ (congrArg bI (by simp [rngB, c_1, c_2, gHol, gGoo, gDec, gFee, gDeb, gLen, gNum, gPrf, gCop, gMad, gN])) dX0_has_19
    · skip
      refine lv_iconst (v := 1) hx hb dX0_has_14 (by decide) ?_
      refine lv_goto (tgt := 19) hx hb dX0_has_15 (by decide) ?_
      exact RET (true) _ _ (congrArg bI (by simp [rngB, c_1, c_2, gHol, gGoo, gDec, gFee, gDeb, gLen, gNum, gPrf, gCop, gMad, gN])) dX0_has_19
theorem kn_X0_hasRoom : yX0_hasRoom.cls ≠ "java/lang/invoke/MethodHandle" ∧ yX0_hasRoom.cls ≠ "java/lang/invoke/VarHandle" ∧ (parseMethodDescriptor yX0_hasRoom.desc).map (fun d => d.parameters.length) = some 1 := by decide +kernel
theorem kd_X0_hasRoom : yX0_hasRoom.cls = RX0 ∧ yX0_hasRoom.cls ≠ "java/lang/invoke/MethodHandle" ∧ yX0_hasRoom.cls ≠ "java/lang/invoke/VarHandle" ∧ (parseMethodDescriptor yX0_hasRoom.desc).map (fun d => d.parameters.length) = some 1 := by decide +kernel
set_option maxHeartbeats 4000000 in
set_option maxRecDepth 100000 in
theorem c_X0_hasRoom (l : Launch) (D : va_G) (cI : ClassId) (q : Nat → Nat) (σ : SG) (P : Nat) (hP14 : P < 14) (hlen : ∀ P, gLen σ P ≤ 30) : Met l yX0_hasRoom wsX0_hasRoom ({ frames := 0, cells := 0, slots := 0, locals := 0 }) (va_Pc [.ref (q 1), .int (nI (P))] (PG D cI q σ)) (rQ (fun r => r = bI (decide (gLen σ P < 30)))) 0 0 noF := by
  refine openZ (cc := cX0_hasRoom) (maxL := 2) (by decide) rfl (Nat.le_of_ble_eq_true rfl) ?_
  intro p e s m args below meth c hx hb hml hts hown hpre Q RET ls hl
  have hown : s.vm.findClass RX0 = some m.cls := hown
  have hl : lv_has ls 2 [(0, .ref (q 1)), (1, .int (nI (P)))] := hl
  obtain ⟨hP, hK, hE⟩ := hpre
  have hiX0 : ∀ w ∈ wsX00, w ∈ wsX0_hasRoom := by decide +kernel
  have hf9 := hts (.fieldLink RX0 9 "PalletGram$Chains" "lengths" "[I") (by decide +kernel)
  obtain ⟨hol, goo, dec, fee, deb, len, num, prf, cop, mad, n⟩ := σ
  have hlen : ∀ P, len P ≤ 30 := hlen
  have h9 := hlen P
  refine lv_aload_n hx hb dX0_hasRoom_0 rfl (lv_at hl 0 rfl) ?_
  refine gf_0_0 hx hb hts hiX0 hown hK hP hf9 dX0_hasRoom_1 ?_
  refine lv_iload_n hx hb dX0_hasRoom_4 rfl (lv_at hl 1 rfl) ?_
  refine gld_7 (k := P) (v := len P) hx hb hK hP rfl (by omega) rfl dX0_hasRoom_5 ?_
  refine lv_bipush (v := 30) hx hb dX0_hasRoom_6 (by decide) ?_
  refine geN (len P) 30 (tgt := 15) hx hb rfl rfl (by omega) (by omega) dX0_hasRoom_8 (by decide) (fun c_1 => ?_) (fun c_1 => ?_)
  · skip
    refine lv_iconst (v := 0) hx hb dX0_hasRoom_15 (by decide) ?_
    exact RET (false) _ _ (congrArg bI (by simp; omega)) dX0_hasRoom_16
  · skip
    refine lv_iconst (v := 1) hx hb dX0_hasRoom_11 (by decide) ?_
    refine lv_goto (tgt := 16) hx hb dX0_hasRoom_12 (by decide) ?_
    exact RET (true) _ _ (congrArg bI (by simp; omega)) dX0_hasRoom_16
theorem kn_X0_number : yX0_number.cls ≠ "java/lang/invoke/MethodHandle" ∧ yX0_number.cls ≠ "java/lang/invoke/VarHandle" ∧ (parseMethodDescriptor yX0_number.desc).map (fun d => d.parameters.length) = some 3 := by decide +kernel
theorem kd_X0_number : yX0_number.cls = RX0 ∧ yX0_number.cls ≠ "java/lang/invoke/MethodHandle" ∧ yX0_number.cls ≠ "java/lang/invoke/VarHandle" ∧ (parseMethodDescriptor yX0_number.desc).map (fun d => d.parameters.length) = some 3 := by decide +kernel
set_option maxHeartbeats 4000000 in
set_option maxRecDepth 100000 in
theorem c_X0_number (l : Launch) (D : va_G) (cI : ClassId) (q : Nat → Nat) (σ : SG) (P E w : Nat) (hP14 : P < 14) (hE30 : E < 30) (hw6 : w < 6) : Met l yX0_number wsX0_number ({ frames := 1, cells := 0, slots := 0, locals := 21 }) (va_Pc [.ref (q 1), .int (nI (P)), .int (nI (E)), .int (nI (w))] (PG D cI q σ)) (rQ (fun r => r = gNum σ ((P * 30 + E) * 6 + w))) 0 0 noF := by
  refine openR (cc := cX0_number) (maxL := 4) (by decide) rfl (Nat.le_of_ble_eq_true rfl) ?_
  intro p e s m args below meth c hx hb hml hts hown hpre Q RET ls hl
  have hown : s.vm.findClass RX0 = some m.cls := hown
  have hl : lv_has ls 4 [(0, .ref (q 1)), (1, .int (nI (P))), (2, .int (nI (E))), (3, .int (nI (w)))] := hl
  obtain ⟨hP, hK, hE⟩ := hpre
  have hiX0 : ∀ w ∈ wsX00, w ∈ wsX0_number := by decide +kernel
  have hf15 := hts (.fieldLink RX0 15 "PalletGram$Chains" "numbers" "[I") (by decide +kernel)
  obtain ⟨hol, goo, dec, fee, deb, len, num, prf, cop, mad, n⟩ := σ
  refine lv_aload_n hx hb dX0_number_0 rfl (lv_at hl 0 rfl) ?_
  refine gf_0_1 hx hb hts hiX0 hown hK hP hf15 dX0_number_1 ?_
  refine lv_iload_n hx hb dX0_number_4 rfl (lv_at hl 1 rfl) ?_
  refine lv_iload_n hx hb dX0_number_5 rfl (lv_at hl 2 rfl) ?_
  refine r_callE (x := nI (P * 30 + E)) (va_runS (As := [.int (nI (P)), .int (nI (E))]) (rest := [.ref (q 8)]) ⟨hx, hb, hml, hown, hts⟩ (c_X0_row l P E) (va_cwS 2 hts gX0_number_X0_row rfl rfl rfl kn_X0_row ⟨Nat.le_of_ble_eq_true rfl, Nat.le_of_ble_eq_true rfl⟩) (pS_T) rfl rfl hl.1 rfl (lv_room (Nat.le_of_ble_eq_true rfl)) dX0_number_6 ⟨Nat.le_of_ble_eq_true rfl, Nat.le_of_ble_eq_true rfl⟩) ?_
  refine lv_bipush (v := 6) hx hb dX0_number_9 (by decide) ?_
  refine mulN (P * 30 + E) 6 hx hb rfl rfl dX0_number_11 ?_
  refine lv_iload_n hx hb dX0_number_12 rfl (lv_at hl 3 rfl) ?_
  refine addN ((P * 30 + E) * 6) w hx hb rfl rfl dX0_number_13 ?_
  refine gld_8 (k := (P * 30 + E) * 6 + w) (v := num ((P * 30 + E) * 6 + w)) hx hb hK hP rfl (by omega) rfl dX0_number_14 ?_
  exact RET _ _ _ (rfl) dX0_number_15
theorem kn_X0_lastKind : yX0_lastKind.cls ≠ "java/lang/invoke/MethodHandle" ∧ yX0_lastKind.cls ≠ "java/lang/invoke/VarHandle" ∧ (parseMethodDescriptor yX0_lastKind.desc).map (fun d => d.parameters.length) = some 1 := by decide +kernel
theorem kd_X0_lastKind : yX0_lastKind.cls = RX0 ∧ yX0_lastKind.cls ≠ "java/lang/invoke/MethodHandle" ∧ yX0_lastKind.cls ≠ "java/lang/invoke/VarHandle" ∧ (parseMethodDescriptor yX0_lastKind.desc).map (fun d => d.parameters.length) = some 1 := by decide +kernel
set_option maxHeartbeats 4000000 in
set_option maxRecDepth 100000 in
theorem c_X0_lastKind (l : Launch) (D : va_G) (cI : ClassId) (q : Nat → Nat) (σ : SG) (P : Nat) (hP14 : P < 14) (hlen : ∀ P, gLen σ P ≤ 30) : Met l yX0_lastKind wsX0_lastKind ({ frames := 2, cells := 0, slots := 0, locals := 44 }) (va_Pc [.ref (q 1), .int (nI (P))] (PG D cI q σ)) (rQ (fun r => r = lkF (gLen σ) (gNum σ) P)) 0 0 noF := by
  refine openR (cc := cX0_lastKind) (maxL := 3) (by decide) rfl (Nat.le_of_ble_eq_true rfl) ?_
  intro p e s m args below meth c hx hb hml hts hown hpre Q RET ls hl
  have hown : s.vm.findClass RX0 = some m.cls := hown
  have hl : lv_has ls 3 [(0, .ref (q 1)), (1, .int (nI (P)))] := hl
  obtain ⟨hP, hK, hE⟩ := hpre
  have hiX0 : ∀ w ∈ wsX00, w ∈ wsX0_lastKind := by decide +kernel
  have hf9 := hts (.fieldLink RX0 9 "PalletGram$Chains" "lengths" "[I") (by decide +kernel)
  obtain ⟨hol, goo, dec, fee, deb, len, num, prf, cop, mad, n⟩ := σ
  have hlen : ∀ P, len P ≤ 30 := hlen
  have h9 := hlen P
  refine lv_aload_n hx hb dX0_lastKind_0 rfl (lv_at hl 0 rfl) ?_
  refine gf_0_0 hx hb hts hiX0 hown hK hP hf9 dX0_lastKind_1 ?_
  refine lv_iload_n hx hb dX0_lastKind_4 rfl (lv_at hl 1 rfl) ?_
  refine gld_7 (k := P) (v := len P) hx hb hK hP rfl (by omega) rfl dX0_lastKind_5 ?_
  refine lv_istore_n (lv' := [(2, .int (nI (len P))), (0, .ref (q 1)), (1, .int (nI (P)))]) hx hb dX0_lastKind_6 rfl hl (by decide) rfl (fun ls hl => ?_)
  refine lv_iload_n hx hb dX0_lastKind_7 rfl (lv_at hl 0 rfl) ?_
  refine leZN (len P) (tgt := 23) hx hb rfl (by omega) dX0_lastKind_8 (by decide) (fun c_1 => ?_) (fun c_1 => ?_)
  · skip
    refine lv_iconst (v := (-1)) hx hb dX0_lastKind_23 (by decide) ?_
    exact RET _ _ _ (by simp [lkF, c_1, gHol, gGoo, gDec, gFee, gDeb, gLen, gNum, gPrf, gCop, gMad, gN]) dX0_lastKind_24
  · skip
    refine lv_aload_n hx hb dX0_lastKind_11 rfl (lv_at hl 1 rfl) ?_
    refine lv_iload_n hx hb dX0_lastKind_12 rfl (lv_at hl 2 rfl) ?_
    refine lv_iload_n hx hb dX0_lastKind_13 rfl (lv_at hl 0 rfl) ?_
    refine lv_iconst (v := 1) hx hb dX0_lastKind_14 (by decide) ?_
    refine subN (len P) 1 hx hb rfl rfl (by omega) dX0_lastKind_15 ?_
    refine lv_iconst (v := 0) hx hb dX0_lastKind_16 (by decide) ?_
    refine r_callE (x := (num ((P * 30 + ((len P) - 1)) * 6))) (va_runV (As := [.int (nI (P)), .int (nI ((len P) - 1)), .int 0]) (rest := []) ⟨hx, hb, hml, hown, hts⟩ (c_X0_number l D cI q (hol, goo, dec, fee, deb, len, num, prf, cop, mad, n) P ((len P) - 1) 0 (by omega) (by omega) (by omega)) (cwV 3 hts gX0_lastKind_X0_number rfl rfl rfl kd_X0_number ⟨Nat.le_of_ble_eq_true rfl, Nat.le_of_ble_eq_true rfl⟩) (pV_G1 hP hK hE) rfl rfl hl.1 rfl (lv_room (Nat.le_of_ble_eq_true rfl)) dX0_lastKind_17 ⟨Nat.le_of_ble_eq_true rfl, Nat.le_of_ble_eq_true rfl⟩) ?_
    refine lv_goto (tgt := 24) hx hb dX0_lastKind_20 (by decide) ?_
    exact RET _ _ _ (by simp [lkF, c_1, gHol, gGoo, gDec, gFee, gDeb, gLen, gNum, gPrf, gCop, gMad, gN]) dX0_lastKind_24
theorem kn_X0_proof : yX0_proof.cls ≠ "java/lang/invoke/MethodHandle" ∧ yX0_proof.cls ≠ "java/lang/invoke/VarHandle" ∧ (parseMethodDescriptor yX0_proof.desc).map (fun d => d.parameters.length) = some 2 := by decide +kernel
theorem kd_X0_proof : yX0_proof.cls = RX0 ∧ yX0_proof.cls ≠ "java/lang/invoke/MethodHandle" ∧ yX0_proof.cls ≠ "java/lang/invoke/VarHandle" ∧ (parseMethodDescriptor yX0_proof.desc).map (fun d => d.parameters.length) = some 2 := by decide +kernel
set_option maxHeartbeats 4000000 in
set_option maxRecDepth 100000 in
theorem c_X0_proof (l : Launch) (D : va_G) (cI : ClassId) (q : Nat → Nat) (σ : SG) (P E : Nat) (hP14 : P < 14) (hE30 : E < 30) : Met l yX0_proof wsX0_proof ({ frames := 1, cells := 0, slots := 0, locals := 21 }) (va_Pc [.ref (q 1), .int (nI (P)), .int (nI (E))] (PG D cI q σ)) (rQ (fun r => r = gPrf σ (P * 30 + E))) 0 0 noF := by
  refine openR (cc := cX0_proof) (maxL := 3) (by decide) rfl (Nat.le_of_ble_eq_true rfl) ?_
  intro p e s m args below meth c hx hb hml hts hown hpre Q RET ls hl
  have hown : s.vm.findClass RX0 = some m.cls := hown
  have hl : lv_has ls 3 [(0, .ref (q 1)), (1, .int (nI (P))), (2, .int (nI (E)))] := hl
  obtain ⟨hP, hK, hE⟩ := hpre
  have hiX0 : ∀ w ∈ wsX00, w ∈ wsX0_proof := by decide +kernel
  have hf18 := hts (.fieldLink RX0 18 "PalletGram$Chains" "proofs" "[I") (by decide +kernel)
  obtain ⟨hol, goo, dec, fee, deb, len, num, prf, cop, mad, n⟩ := σ
  refine lv_aload_n hx hb dX0_proof_0 rfl (lv_at hl 0 rfl) ?_
  refine gf_0_2 hx hb hts hiX0 hown hK hP hf18 dX0_proof_1 ?_
  refine lv_iload_n hx hb dX0_proof_4 rfl (lv_at hl 1 rfl) ?_
  refine lv_iload_n hx hb dX0_proof_5 rfl (lv_at hl 2 rfl) ?_
  refine r_callE (x := nI (P * 30 + E)) (va_runS (As := [.int (nI (P)), .int (nI (E))]) (rest := [.ref (q 9)]) ⟨hx, hb, hml, hown, hts⟩ (c_X0_row l P E) (va_cwS 2 hts gX0_proof_X0_row rfl rfl rfl kn_X0_row ⟨Nat.le_of_ble_eq_true rfl, Nat.le_of_ble_eq_true rfl⟩) (pS_T) rfl rfl hl.1 rfl (lv_room (Nat.le_of_ble_eq_true rfl)) dX0_proof_6 ⟨Nat.le_of_ble_eq_true rfl, Nat.le_of_ble_eq_true rfl⟩) ?_
  refine gld_9 (k := P * 30 + E) (v := prf (P * 30 + E)) hx hb hK hP rfl (by omega) rfl dX0_proof_9 ?_
  exact RET _ _ _ (rfl) dX0_proof_10
theorem kn_X0_copies : yX0_copies.cls ≠ "java/lang/invoke/MethodHandle" ∧ yX0_copies.cls ≠ "java/lang/invoke/VarHandle" ∧ (parseMethodDescriptor yX0_copies.desc).map (fun d => d.parameters.length) = some 2 := by decide +kernel
theorem kd_X0_copies : yX0_copies.cls = RX0 ∧ yX0_copies.cls ≠ "java/lang/invoke/MethodHandle" ∧ yX0_copies.cls ≠ "java/lang/invoke/VarHandle" ∧ (parseMethodDescriptor yX0_copies.desc).map (fun d => d.parameters.length) = some 2 := by decide +kernel
set_option maxHeartbeats 4000000 in
set_option maxRecDepth 100000 in
theorem c_X0_copies (l : Launch) (D : va_G) (cI : ClassId) (q : Nat → Nat) (σ : SG) (P E : Nat) (hP14 : P < 14) (hE30 : E < 30) : Met l yX0_copies wsX0_copies ({ frames := 1, cells := 0, slots := 0, locals := 21 }) (va_Pc [.ref (q 1), .int (nI (P)), .int (nI (E))] (PG D cI q σ)) (rQ (fun r => r = gCop σ (P * 30 + E))) 0 0 noF := by
  refine openR (cc := cX0_copies) (maxL := 3) (by decide) rfl (Nat.le_of_ble_eq_true rfl) ?_
  intro p e s m args below meth c hx hb hml hts hown hpre Q RET ls hl
  have hown : s.vm.findClass RX0 = some m.cls := hown
  have hl : lv_has ls 3 [(0, .ref (q 1)), (1, .int (nI (P))), (2, .int (nI (E)))] := hl
  obtain ⟨hP, hK, hE⟩ := hpre
  have hiX0 : ∀ w ∈ wsX00, w ∈ wsX0_copies := by decide +kernel
  have hf21 := hts (.fieldLink RX0 21 "PalletGram$Chains" "copies" "[I") (by decide +kernel)
  obtain ⟨hol, goo, dec, fee, deb, len, num, prf, cop, mad, n⟩ := σ
  refine lv_aload_n hx hb dX0_copies_0 rfl (lv_at hl 0 rfl) ?_
  refine gf_0_3 hx hb hts hiX0 hown hK hP hf21 dX0_copies_1 ?_
  refine lv_iload_n hx hb dX0_copies_4 rfl (lv_at hl 1 rfl) ?_
  refine lv_iload_n hx hb dX0_copies_5 rfl (lv_at hl 2 rfl) ?_
  refine r_callE (x := nI (P * 30 + E)) (va_runS (As := [.int (nI (P)), .int (nI (E))]) (rest := [.ref (q 10)]) ⟨hx, hb, hml, hown, hts⟩ (c_X0_row l P E) (va_cwS 2 hts gX0_copies_X0_row rfl rfl rfl kn_X0_row ⟨Nat.le_of_ble_eq_true rfl, Nat.le_of_ble_eq_true rfl⟩) (pS_T) rfl rfl hl.1 rfl (lv_room (Nat.le_of_ble_eq_true rfl)) dX0_copies_6 ⟨Nat.le_of_ble_eq_true rfl, Nat.le_of_ble_eq_true rfl⟩) ?_
  refine gld_10 (k := P * 30 + E) (v := cop (P * 30 + E)) hx hb hK hP rfl (by omega) rfl dX0_copies_9 ?_
  exact RET _ _ _ (rfl) dX0_copies_10
theorem kn_X0_proofMade : yX0_proofMade.cls ≠ "java/lang/invoke/MethodHandle" ∧ yX0_proofMade.cls ≠ "java/lang/invoke/VarHandle" ∧ (parseMethodDescriptor yX0_proofMade.desc).map (fun d => d.parameters.length) = some 2 := by decide +kernel
theorem kd_X0_proofMade : yX0_proofMade.cls = RX0 ∧ yX0_proofMade.cls ≠ "java/lang/invoke/MethodHandle" ∧ yX0_proofMade.cls ≠ "java/lang/invoke/VarHandle" ∧ (parseMethodDescriptor yX0_proofMade.desc).map (fun d => d.parameters.length) = some 2 := by decide +kernel
set_option maxHeartbeats 4000000 in
set_option maxRecDepth 100000 in
theorem c_X0_proofMade (l : Launch) (D : va_G) (cI : ClassId) (q : Nat → Nat) (σ : SG) (P E : Nat) (hP14 : P < 14) (hE30 : E < 30) : Met l yX0_proofMade wsX0_proofMade ({ frames := 1, cells := 0, slots := 0, locals := 21 }) (va_Pc [.ref (q 1), .int (nI (P)), .int (nI (E))] (PG D cI q σ)) (rQ (fun r => r = pmS (gPrf σ) (gNum σ) P E 6)) 0 0 noF := by
  refine openR (cc := cX0_proofMade) (maxL := 6) (by decide) rfl (Nat.le_of_ble_eq_true rfl) ?_
  intro p e s m args below meth c hx hb hml hts hown hpre Q RET ls hl
  have hown : s.vm.findClass RX0 = some m.cls := hown
  have hl : lv_has ls 6 [(0, .ref (q 1)), (1, .int (nI (P))), (2, .int (nI (E)))] := hl
  obtain ⟨hP, hK, hE⟩ := hpre
  have hiX0 : ∀ w ∈ wsX00, w ∈ wsX0_proofMade := by decide +kernel
  have hf18 := hts (.fieldLink RX0 18 "PalletGram$Chains" "proofs" "[I") (by decide +kernel)
  have hf15 := hts (.fieldLink RX0 15 "PalletGram$Chains" "numbers" "[I") (by decide +kernel)
  obtain ⟨hol, goo, dec, fee, deb, len, num, prf, cop, mad, n⟩ := σ
  refine lv_iload_n hx hb dX0_proofMade_0 rfl (lv_at hl 1 rfl) ?_
  refine lv_iload_n hx hb dX0_proofMade_1 rfl (lv_at hl 2 rfl) ?_
  refine r_callE (x := nI (P * 30 + E)) (va_runS (As := [.int (nI (P)), .int (nI (E))]) (rest := []) ⟨hx, hb, hml, hown, hts⟩ (c_X0_row l P E) (va_cwS 2 hts gX0_proofMade_X0_row rfl rfl rfl kn_X0_row ⟨Nat.le_of_ble_eq_true rfl, Nat.le_of_ble_eq_true rfl⟩) (pS_T) rfl rfl hl.1 rfl (lv_room (Nat.le_of_ble_eq_true rfl)) dX0_proofMade_2 ⟨Nat.le_of_ble_eq_true rfl, Nat.le_of_ble_eq_true rfl⟩) ?_
  refine lv_istore_n (lv' := [(3, .int (nI (P * 30 + E))), (0, .ref (q 1)), (1, .int (nI (P))), (2, .int (nI (E)))]) hx hb dX0_proofMade_5 rfl hl (by decide) rfl (fun ls hl => ?_)
  refine cutI (x := (pm0 prf P E)) (pcM := 23) (st := []) ?_ (fun J => ?_)
  rotate_left
  · skip
    refine lv_iload_n hx hb dX0_proofMade_6 rfl (lv_at hl 3 rfl) ?_
    refine neZN E (tgt := 15) hx hb rfl (by omega) dX0_proofMade_7 (by decide) (fun c_1 => ?_) (fun c_1 => ?_)
    · skip
      refine lv_aload_n hx hb dX0_proofMade_15 rfl (lv_at hl 1 rfl) ?_
      refine gf_0_2 hx hb hts hiX0 hown hK hP hf18 dX0_proofMade_16 ?_
      refine lv_iload_n hx hb dX0_proofMade_19 rfl (lv_at hl 0 rfl) ?_
      refine lv_iconst (v := 1) hx hb dX0_proofMade_20 (by decide) ?_
      refine subN (P * 30 + E) 1 hx hb rfl rfl (by omega) dX0_proofMade_21 ?_
      refine gld_9 (k := (P * 30 + E) - 1) (v := prf ((P * 30 + E) - 1)) hx hb hK hP rfl (by omega) rfl dX0_proofMade_22 ?_
      exact J _ (by simp [pm0, c_1, gHol, gGoo, gDec, gFee, gDeb, gLen, gNum, gPrf, gCop, gMad, gN])
    · skip
      refine lv_bipush (v := 17) hx hb dX0_proofMade_10 (by decide) ?_
      refine lv_goto (tgt := 23) hx hb dX0_proofMade_12 (by decide) ?_
      exact J _ (by simp [pm0, c_1, gHol, gGoo, gDec, gFee, gDeb, gLen, gNum, gPrf, gCop, gMad, gN])
  refine lv_istore (lv' := [(4, .int ((pm0 prf P E))), (3, .int (nI (P * 30 + E))), (0, .ref (q 1)), (1, .int (nI (P))), (2, .int (nI (E)))]) hx hb dX0_proofMade_23 hl (by decide) rfl (fun ls hl => ?_)
  refine lv_iconst (v := 0) hx hb dX0_proofMade_25 (by decide) ?_
  refine lv_istore (lv' := [(5, .int 0), (4, .int ((pm0 prf P E))), (3, .int (nI (P * 30 + E))), (0, .ref (q 1)), (1, .int (nI (P))), (2, .int (nI (E)))]) hx hb dX0_proofMade_26 hl (by decide) rfl (fun ls hl => ?_)
  refine loopW (N := 6) (k0 := 0) (fun k ls => lv_has ls 6 [(0, .ref (q 1)), (1, .int (nI (P))), (2, .int (nI (E))), (3, .int (nI (P * 30 + E))), (4, .int ((pmS prf num P E k))), (5, .int (nI (k)))]) (Nat.zero_le _) (lv_sub hl [3, 4, 5, 2, 1, 0] rfl) (fun k ls hk_k hI ih_k => ?_)
  have hl := hI
  refine lv_iload hx hb dX0_proofMade_28 (lv_at hl 5 rfl) ?_
  refine lv_bipush (v := 6) hx hb dX0_proofMade_30 (by decide) ?_
  refine geN k 6 (tgt := 61) hx hb rfl rfl (by omega) (by omega) dX0_proofMade_32 (by decide) (fun c_2 => ?_) (fun c_2 => ?_)
  · skip
    refine lv_iload hx hb dX0_proofMade_61 (lv_at hl 4 rfl) ?_
    exact RET _ _ _ (by rw [show k = 6 by omega]) dX0_proofMade_63
  · skip
    refine lv_bipush (v := 31) hx hb dX0_proofMade_35 (by decide) ?_
    refine lv_iload hx hb dX0_proofMade_37 (lv_at hl 4 rfl) ?_
    refine lv_imul hx hb dX0_proofMade_39 ?_
    refine lv_aload_n hx hb dX0_proofMade_40 rfl (lv_at hl 0 rfl) ?_
    refine gf_0_1 hx hb hts hiX0 hown hK hP hf15 dX0_proofMade_41 ?_
    refine lv_iload_n hx hb dX0_proofMade_44 rfl (lv_at hl 3 rfl) ?_
    refine lv_bipush (v := 6) hx hb dX0_proofMade_45 (by decide) ?_
    refine mulN (P * 30 + E) 6 hx hb rfl rfl dX0_proofMade_47 ?_
    refine lv_iload hx hb dX0_proofMade_48 (lv_at hl 5 rfl) ?_
    refine addN ((P * 30 + E) * 6) k hx hb rfl rfl dX0_proofMade_50 ?_
    refine gld_8 (k := (P * 30 + E) * 6 + k) (v := num ((P * 30 + E) * 6 + k)) hx hb hK hP rfl (by omega) rfl dX0_proofMade_51 ?_
    refine lv_iadd hx hb dX0_proofMade_52 ?_
    refine lv_istore (lv' := [(4, .int (((31 * (pmS prf num P E k)) + (num ((P * 30 + E) * 6 + k))))), (0, .ref (q 1)), (1, .int (nI (P))), (2, .int (nI (E))), (3, .int (nI (P * 30 + E))), (5, .int (nI (k)))]) hx hb dX0_proofMade_53 hl (by decide) rfl (fun ls hl => ?_)
    refine lv_iinc (v := nI (k + 1)) (lv' := [(5, .int (nI (k + 1))), (4, .int (((31 * (pmS prf num P E k)) + (num ((P * 30 + E) * 6 + k))))), (0, .ref (q 1)), (1, .int (nI (P))), (2, .int (nI (E))), (3, .int (nI (P * 30 + E)))]) hx hb dX0_proofMade_55 hl (k := 5) rfl (iincN (k)) (by decide) rfl (fun ls hl => ?_)
    refine lv_goto (tgt := 28) hx hb dX0_proofMade_58 (by decide) ?_
    exact ih_k (by omega) _ (lv_sub hl [2, 3, 4, 5, 1, 0] rfl)
theorem kn_X0_isBroken : yX0_isBroken.cls ≠ "java/lang/invoke/MethodHandle" ∧ yX0_isBroken.cls ≠ "java/lang/invoke/VarHandle" ∧ (parseMethodDescriptor yX0_isBroken.desc).map (fun d => d.parameters.length) = some 2 := by decide +kernel
theorem kd_X0_isBroken : yX0_isBroken.cls = RX0 ∧ yX0_isBroken.cls ≠ "java/lang/invoke/MethodHandle" ∧ yX0_isBroken.cls ≠ "java/lang/invoke/VarHandle" ∧ (parseMethodDescriptor yX0_isBroken.desc).map (fun d => d.parameters.length) = some 2 := by decide +kernel
set_option maxHeartbeats 4000000 in
set_option maxRecDepth 100000 in
theorem c_X0_isBroken (l : Launch) (D : va_G) (cI : ClassId) (q : Nat → Nat) (σ : SG) (P E : Nat) (hP14 : P < 14) (hE30 : E < 30) : Met l yX0_isBroken wsX0_isBroken ({ frames := 2, cells := 0, slots := 0, locals := 46 }) (va_Pc [.ref (q 1), .int (nI (P)), .int (nI (E))] (PG D cI q σ)) (rQ (fun r => r = bI (brkB (gPrf σ) (gNum σ) P E))) 0 0 noF := by
  refine openZ (cc := cX0_isBroken) (maxL := 3) (by decide) rfl (Nat.le_of_ble_eq_true rfl) ?_
  intro p e s m args below meth c hx hb hml hts hown hpre Q RET ls hl
  have hown : s.vm.findClass RX0 = some m.cls := hown
  have hl : lv_has ls 3 [(0, .ref (q 1)), (1, .int (nI (P))), (2, .int (nI (E)))] := hl
  obtain ⟨hP, hK, hE⟩ := hpre
  obtain ⟨hol, goo, dec, fee, deb, len, num, prf, cop, mad, n⟩ := σ
  refine lv_aload_n hx hb dX0_isBroken_0 rfl (lv_at hl 0 rfl) ?_
  refine lv_iload_n hx hb dX0_isBroken_1 rfl (lv_at hl 1 rfl) ?_
  refine lv_iload_n hx hb dX0_isBroken_2 rfl (lv_at hl 2 rfl) ?_
  refine r_callE (x := (prf (P * 30 + E))) (va_runV (As := [.int (nI (P)), .int (nI (E))]) (rest := []) ⟨hx, hb, hml, hown, hts⟩ (c_X0_proof l D cI q (hol, goo, dec, fee, deb, len, num, prf, cop, mad, n) P E (by omega) (by omega)) (cwV 2 hts gX0_isBroken_X0_proof rfl rfl rfl kd_X0_proof ⟨Nat.le_of_ble_eq_true rfl, Nat.le_of_ble_eq_true rfl⟩) (pV_G1 hP hK hE) rfl rfl hl.1 rfl (lv_room (Nat.le_of_ble_eq_true rfl)) dX0_isBroken_3 ⟨Nat.le_of_ble_eq_true rfl, Nat.le_of_ble_eq_true rfl⟩) ?_
  refine lv_aload_n hx hb dX0_isBroken_6 rfl (lv_at hl 0 rfl) ?_
  refine lv_iload_n hx hb dX0_isBroken_7 rfl (lv_at hl 1 rfl) ?_
  refine lv_iload_n hx hb dX0_isBroken_8 rfl (lv_at hl 2 rfl) ?_
  refine r_callE (x := (pmS prf num P E 6)) (va_runV (As := [.int (nI (P)), .int (nI (E))]) (rest := [.int ((prf (P * 30 + E)))]) ⟨hx, hb, hml, hown, hts⟩ (c_X0_proofMade l D cI q (hol, goo, dec, fee, deb, len, num, prf, cop, mad, n) P E (by omega) (by omega)) (cwV 2 hts gX0_isBroken_X0_proofMade rfl rfl rfl kd_X0_proofMade ⟨Nat.le_of_ble_eq_true rfl, Nat.le_of_ble_eq_true rfl⟩) (pV_G1 hP hK hE) rfl rfl hl.1 rfl (lv_room (Nat.le_of_ble_eq_true rfl)) dX0_isBroken_9 ⟨Nat.le_of_ble_eq_true rfl, Nat.le_of_ble_eq_true rfl⟩) ?_
  refine lv_icmp_eq (tgt := 19) hx hb dX0_isBroken_12 (by decide) (fun c_1 => ?_) (fun c_1 => ?_)
  · skip
    refine lv_iconst (v := 0) hx hb dX0_isBroken_19 (by decide) ?_
    exact RET (false) _ _ (congrArg bI (by simp [brkB, c_1, gHol, gGoo, gDec, gFee, gDeb, gLen, gNum, gPrf, gCop, gMad, gN])) dX0_isBroken_20
  · skip
    refine lv_iconst (v := 1) hx hb dX0_isBroken_15 (by decide) ?_
    refine lv_goto (tgt := 20) hx hb dX0_isBroken_16 (by decide) ?_
    exact RET (true) _ _ (congrArg bI (by simp [brkB, c_1, gHol, gGoo, gDec, gFee, gDeb, gLen, gNum, gPrf, gCop, gMad, gN])) dX0_isBroken_20
theorem kn_X0_firstBroken : yX0_firstBroken.cls ≠ "java/lang/invoke/MethodHandle" ∧ yX0_firstBroken.cls ≠ "java/lang/invoke/VarHandle" ∧ (parseMethodDescriptor yX0_firstBroken.desc).map (fun d => d.parameters.length) = some 1 := by decide +kernel
theorem kd_X0_firstBroken : yX0_firstBroken.cls = RX0 ∧ yX0_firstBroken.cls ≠ "java/lang/invoke/MethodHandle" ∧ yX0_firstBroken.cls ≠ "java/lang/invoke/VarHandle" ∧ (parseMethodDescriptor yX0_firstBroken.desc).map (fun d => d.parameters.length) = some 1 := by decide +kernel
set_option maxHeartbeats 4000000 in
set_option maxRecDepth 100000 in
theorem c_X0_firstBroken (l : Launch) (D : va_G) (cI : ClassId) (q : Nat → Nat) (σ : SG) (P : Nat) (hP14 : P < 14) (hlen : ∀ P, gLen σ P ≤ 30) : Met l yX0_firstBroken wsX0_firstBroken ({ frames := 3, cells := 0, slots := 0, locals := 68 }) (va_Pc [.ref (q 1), .int (nI (P))] (PG D cI q σ)) (rQ (fun r => r = fbF (gLen σ) (gPrf σ) (gNum σ) P)) 0 0 noF := by
  refine openR (cc := cX0_firstBroken) (maxL := 3) (by decide) rfl (Nat.le_of_ble_eq_true rfl) ?_
  intro p e s m args below meth c hx hb hml hts hown hpre Q RET ls hl
  have hown : s.vm.findClass RX0 = some m.cls := hown
  have hl : lv_has ls 3 [(0, .ref (q 1)), (1, .int (nI (P)))] := hl
  obtain ⟨hP, hK, hE⟩ := hpre
  have hiX0 : ∀ w ∈ wsX00, w ∈ wsX0_firstBroken := by decide +kernel
  have hf9 := hts (.fieldLink RX0 9 "PalletGram$Chains" "lengths" "[I") (by decide +kernel)
  obtain ⟨hol, goo, dec, fee, deb, len, num, prf, cop, mad, n⟩ := σ
  have hlen : ∀ P, len P ≤ 30 := hlen
  have h9 := hlen P
  refine lv_iconst (v := 0) hx hb dX0_firstBroken_0 (by decide) ?_
  refine lv_istore_n (lv' := [(2, .int 0), (0, .ref (q 1)), (1, .int (nI (P)))]) hx hb dX0_firstBroken_1 rfl hl (by decide) rfl (fun ls hl => ?_)
  refine loopW (N := len P) (k0 := 0) (fun k ls => lv_has ls 3 [(0, .ref (q 1)), (1, .int (nI (P))), (2, .int (nI (k)))] ∧ (fstF (brkB prf num P) (len P - k) k = fbF len prf num P)) (Nat.zero_le _) ⟨lv_sub hl [1, 2, 0] rfl, rfl⟩ (fun k ls hk_k hI ih_k => ?_)
  obtain ⟨hl, hi⟩ := hI
  refine lv_iload_n hx hb dX0_firstBroken_2 rfl (lv_at hl 2 rfl) ?_
  refine lv_aload_n hx hb dX0_firstBroken_3 rfl (lv_at hl 0 rfl) ?_
  refine gf_0_0 hx hb hts hiX0 hown hK hP hf9 dX0_firstBroken_4 ?_
  refine lv_iload_n hx hb dX0_firstBroken_7 rfl (lv_at hl 1 rfl) ?_
  refine gld_7 (k := P) (v := len P) hx hb hK hP rfl (by omega) rfl dX0_firstBroken_8 ?_
  refine geN k (len P) (tgt := 29) hx hb rfl rfl (by omega) (by omega) dX0_firstBroken_9 (by decide) (fun c_1 => ?_) (fun c_1 => ?_)
  · skip
    refine lv_iconst (v := (-1)) hx hb dX0_firstBroken_29 (by decide) ?_
    exact RET _ _ _ ((fstF_end (by omega)).symm.trans hi) dX0_firstBroken_30
  · skip
    refine lv_aload_n hx hb dX0_firstBroken_12 rfl (lv_at hl 0 rfl) ?_
    refine lv_iload_n hx hb dX0_firstBroken_13 rfl (lv_at hl 1 rfl) ?_
    refine lv_iload_n hx hb dX0_firstBroken_14 rfl (lv_at hl 2 rfl) ?_
    refine r_callE (x := bI (brkB prf num P k)) (va_runV (As := [.int (nI (P)), .int (nI (k))]) (rest := []) ⟨hx, hb, hml, hown, hts⟩ (c_X0_isBroken l D cI q (hol, goo, dec, fee, deb, len, num, prf, cop, mad, n) P k (by omega) (by omega)) (cwV 2 hts gX0_firstBroken_X0_isBroken rfl rfl rfl kd_X0_isBroken ⟨Nat.le_of_ble_eq_true rfl, Nat.le_of_ble_eq_true rfl⟩) (pV_G1 hP hK hE) rfl rfl hl.1 rfl (lv_room (Nat.le_of_ble_eq_true rfl)) dX0_firstBroken_15 ⟨Nat.le_of_ble_eq_true rfl, Nat.le_of_ble_eq_true rfl⟩) ?_
    refine eqB (brkB prf num P k) (tgt := 23) hx hb rfl dX0_firstBroken_18 (by decide) (fun c_2 => ?_) (fun c_2 => ?_)
    · skip
      refine lv_iinc (v := nI (k + 1)) (lv' := [(2, .int (nI (k + 1))), (0, .ref (q 1)), (1, .int (nI (P)))]) hx hb dX0_firstBroken_23 hl (k := 2) rfl (iincN (k)) (by decide) rfl (fun ls hl => ?_)
      refine lv_goto (tgt := 2) hx hb dX0_firstBroken_26 (by decide) ?_
      exact ih_k (by omega) _ ⟨lv_sub hl [1, 2, 0] rfl, (fstF_no (by omega) c_2).symm.trans hi⟩
    · skip
      refine lv_iload_n hx hb dX0_firstBroken_21 rfl (lv_at hl 2 rfl) ?_
      exact RET _ _ _ ((fstF_yes (by omega) c_2).symm.trans hi) dX0_firstBroken_22
theorem kn_X0_toldPallets : yX0_toldPallets.cls ≠ "java/lang/invoke/MethodHandle" ∧ yX0_toldPallets.cls ≠ "java/lang/invoke/VarHandle" ∧ (parseMethodDescriptor yX0_toldPallets.desc).map (fun d => d.parameters.length) = some 2 := by decide +kernel
theorem kd_X0_toldPallets : yX0_toldPallets.cls = RX0 ∧ yX0_toldPallets.cls ≠ "java/lang/invoke/MethodHandle" ∧ yX0_toldPallets.cls ≠ "java/lang/invoke/VarHandle" ∧ (parseMethodDescriptor yX0_toldPallets.desc).map (fun d => d.parameters.length) = some 2 := by decide +kernel
set_option maxHeartbeats 4000000 in
set_option maxRecDepth 100000 in
theorem c_X0_toldPallets (l : Launch) (D : va_G) (cI : ClassId) (q : Nat → Nat) (σ : SG) (P : Nat) (wc : Bool) (hP14 : P < 14) (hlen : ∀ P, gLen σ P ≤ 30) : Met l yX0_toldPallets wsX0_toldPallets ({ frames := 2, cells := 0, slots := 0, locals := 44 }) (va_Pc [.ref (q 1), .int (nI (P)), .int (bI (wc))] (PG D cI q σ)) (rQ (fun r => r = tpS (gNum σ) P wc (gLen σ P))) 0 0 noF := by
  refine openR (cc := cX0_toldPallets) (maxL := 6) (by decide) rfl (Nat.le_of_ble_eq_true rfl) ?_
  intro p e s m args below meth c hx hb hml hts hown hpre Q RET ls hl
  have hown : s.vm.findClass RX0 = some m.cls := hown
  have hl : lv_has ls 6 [(0, .ref (q 1)), (1, .int (nI (P))), (2, .int (bI (wc)))] := hl
  obtain ⟨hP, hK, hE⟩ := hpre
  have hiX0 : ∀ w ∈ wsX00, w ∈ wsX0_toldPallets := by decide +kernel
  have hf9 := hts (.fieldLink RX0 9 "PalletGram$Chains" "lengths" "[I") (by decide +kernel)
  obtain ⟨hol, goo, dec, fee, deb, len, num, prf, cop, mad, n⟩ := σ
  have hlen : ∀ P, len P ≤ 30 := hlen
  have h9 := hlen P
  refine lv_iconst (v := 0) hx hb dX0_toldPallets_0 (by decide) ?_
  refine lv_istore_n (lv' := [(3, .int 0), (0, .ref (q 1)), (1, .int (nI (P))), (2, .int (bI (wc)))]) hx hb dX0_toldPallets_1 rfl hl (by decide) rfl (fun ls hl => ?_)
  refine lv_iconst (v := 0) hx hb dX0_toldPallets_2 (by decide) ?_
  refine lv_istore (lv' := [(4, .int 0), (3, .int 0), (0, .ref (q 1)), (1, .int (nI (P))), (2, .int (bI (wc)))]) hx hb dX0_toldPallets_3 hl (by decide) rfl (fun ls hl => ?_)
  refine loopW (N := len P) (k0 := 0) (fun k ls => lv_has ls 6 [(0, .ref (q 1)), (1, .int (nI (P))), (2, .int (bI (wc))), (3, .int ((tpS num P wc k))), (4, .int (nI (k)))]) (Nat.zero_le _) (lv_sub hl [2, 3, 4, 1, 0] rfl) (fun k ls hk_k hI ih_k => ?_)
  have hl := hI
  refine lv_iload hx hb dX0_toldPallets_5 (lv_at hl 4 rfl) ?_
  refine lv_aload_n hx hb dX0_toldPallets_7 rfl (lv_at hl 0 rfl) ?_
  refine gf_0_0 hx hb hts hiX0 hown hK hP hf9 dX0_toldPallets_8 ?_
  refine lv_iload_n hx hb dX0_toldPallets_11 rfl (lv_at hl 1 rfl) ?_
  refine gld_7 (k := P) (v := len P) hx hb hK hP rfl (by omega) rfl dX0_toldPallets_12 ?_
  refine geN k (len P) (tgt := 61) hx hb rfl rfl (by omega) (by omega) dX0_toldPallets_13 (by decide) (fun c_1 => ?_) (fun c_1 => ?_)
  · skip
    refine lv_iload_n hx hb dX0_toldPallets_61 rfl (lv_at hl 3 rfl) ?_
    exact RET _ _ _ (by rw [show k = len P by omega]) dX0_toldPallets_62
  · skip
    refine lv_aload_n hx hb dX0_toldPallets_16 rfl (lv_at hl 0 rfl) ?_
    refine lv_iload_n hx hb dX0_toldPallets_17 rfl (lv_at hl 1 rfl) ?_
    refine lv_iload hx hb dX0_toldPallets_18 (lv_at hl 4 rfl) ?_
    refine lv_iconst (v := 0) hx hb dX0_toldPallets_20 (by decide) ?_
    refine r_callE (x := (num ((P * 30 + k) * 6))) (va_runV (As := [.int (nI (P)), .int (nI (k)), .int 0]) (rest := []) ⟨hx, hb, hml, hown, hts⟩ (c_X0_number l D cI q (hol, goo, dec, fee, deb, len, num, prf, cop, mad, n) P k 0 (by omega) (by omega) (by omega)) (cwV 3 hts gX0_toldPallets_X0_number rfl rfl rfl kd_X0_number ⟨Nat.le_of_ble_eq_true rfl, Nat.le_of_ble_eq_true rfl⟩) (pV_G1 hP hK hE) rfl rfl hl.1 rfl (lv_room (Nat.le_of_ble_eq_true rfl)) dX0_toldPallets_21 ⟨Nat.le_of_ble_eq_true rfl, Nat.le_of_ble_eq_true rfl⟩) ?_
    refine lv_istore (lv' := [(5, .int ((num ((P * 30 + k) * 6)))), (0, .ref (q 1)), (1, .int (nI (P))), (2, .int (bI (wc))), (3, .int ((tpS num P wc k))), (4, .int (nI (k)))]) hx hb dX0_toldPallets_24 hl (by decide) rfl (fun ls hl => ?_)
    refine lv_iload hx hb dX0_toldPallets_26 (lv_at hl 0 rfl) ?_
    refine lv_iconst (v := 5) hx hb dX0_toldPallets_28 (by decide) ?_
    refine lv_icmp_eq (tgt := 42) hx hb dX0_toldPallets_29 (by decide) (fun c_2 => ?_) (fun c_2 => ?_)
    · skip
      refine lv_iload_n hx hb dX0_toldPallets_42 rfl (lv_at hl 4 rfl) ?_
      refine lv_iconst (v := 1) hx hb dX0_toldPallets_43 (by decide) ?_
      refine lv_aload_n hx hb dX0_toldPallets_44 rfl (lv_at hl 1 rfl) ?_
      refine lv_iload_n hx hb dX0_toldPallets_45 rfl (lv_at hl 2 rfl) ?_
      refine lv_iload hx hb dX0_toldPallets_46 (lv_at hl 5 rfl) ?_
      refine lv_iconst (v := 4) hx hb dX0_toldPallets_48 (by decide) ?_
      refine r_callE (x := (num ((P * 30 + k) * 6 + 4))) (va_runV (As := [.int (nI (P)), .int (nI (k)), .int 4]) (rest := [.int 1, .int ((tpS num P wc k))]) ⟨hx, hb, hml, hown, hts⟩ (c_X0_number l D cI q (hol, goo, dec, fee, deb, len, num, prf, cop, mad, n) P k 4 (by omega) (by omega) (by omega)) (cwV 3 hts gX0_toldPallets_X0_number rfl rfl rfl kd_X0_number ⟨Nat.le_of_ble_eq_true rfl, Nat.le_of_ble_eq_true rfl⟩) (pV_G1 hP hK hE) rfl rfl hl.1 rfl (lv_room (Nat.le_of_ble_eq_true rfl)) dX0_toldPallets_49 ⟨Nat.le_of_ble_eq_true rfl, Nat.le_of_ble_eq_true rfl⟩) ?_
      refine lv_ishl hx hb dX0_toldPallets_52 ?_
      refine lv_ior hx hb dX0_toldPallets_53 ?_
      refine lv_istore_n (lv' := [(3, .int (((tpS num P wc k) ||| (1 <<< ((num ((P * 30 + k) * 6 + 4)) &&& 31))))), (5, .int ((num ((P * 30 + k) * 6)))), (0, .ref (q 1)), (1, .int (nI (P))), (2, .int (bI (wc))), (4, .int (nI (k)))]) hx hb dX0_toldPallets_54 rfl hl (by decide) rfl (fun ls hl => ?_)
      refine lv_iinc (v := nI (k + 1)) (lv' := [(4, .int (nI (k + 1))), (3, .int (((tpS num P wc k) ||| (1 <<< ((num ((P * 30 + k) * 6 + 4)) &&& 31))))), (5, .int ((num ((P * 30 + k) * 6)))), (0, .ref (q 1)), (1, .int (nI (P))), (2, .int (bI (wc)))]) hx hb dX0_toldPallets_55 hl (k := 5) rfl (iincN (k)) (by decide) rfl (fun ls hl => ?_)
      refine lv_goto (tgt := 5) hx hb dX0_toldPallets_58 (by decide) ?_
      have hl : lv_has ls 6 [(4, .int (nI (k + 1))), (3, .int ((tpS num P wc (k + 1)))), (5, .int ((num ((P * 30 + k) * 6)))), (0, .ref (q 1)), (1, .int (nI (P))), (2, .int (bI (wc)))] := by rw [← (show (((tpS num P wc k) ||| (1 <<< ((num ((P * 30 + k) * 6 + 4)) &&& 31))) : Int32) = (tpS num P wc (k + 1)) from by simp [tpS, c_1, c_2, gHol, gGoo, gDec, gFee, gDeb, gLen, gNum, gPrf, gCop, gMad, gN])]; exact hl
      exact ih_k (by omega) _ (lv_sub hl [3, 4, 5, 1, 0] rfl)
    · skip
      refine lv_iload hx hb dX0_toldPallets_32 (lv_at hl 0 rfl) ?_
      refine lv_iconst (v := 4) hx hb dX0_toldPallets_34 (by decide) ?_
      refine lv_icmp_ne (tgt := 55) hx hb dX0_toldPallets_35 (by decide) (fun c_3 => ?_) (fun c_3 => ?_)
      · skip
        refine lv_iinc (v := nI (k + 1)) (lv' := [(4, .int (nI (k + 1))), (5, .int ((num ((P * 30 + k) * 6)))), (0, .ref (q 1)), (1, .int (nI (P))), (2, .int (bI (wc))), (3, .int ((tpS num P wc k)))]) hx hb dX0_toldPallets_55 hl (k := 5) rfl (iincN (k)) (by decide) rfl (fun ls hl => ?_)
        refine lv_goto (tgt := 5) hx hb dX0_toldPallets_58 (by decide) ?_
        have hl : lv_has ls 6 [(4, .int (nI (k + 1))), (5, .int ((num ((P * 30 + k) * 6)))), (0, .ref (q 1)), (1, .int (nI (P))), (2, .int (bI (wc))), (3, .int ((tpS num P wc (k + 1))))] := by rw [← (show ((tpS num P wc k) : Int32) = (tpS num P wc (k + 1)) from by simp [tpS, c_1, c_2, c_3, gHol, gGoo, gDec, gFee, gDeb, gLen, gNum, gPrf, gCop, gMad, gN])]; exact hl
        exact ih_k (by omega) _ (lv_sub hl [2, 3, 4, 5, 0] rfl)
      · skip
        refine lv_iload_n hx hb dX0_toldPallets_38 rfl (lv_at hl 3 rfl) ?_
        refine eqB (wc) (tgt := 55) hx hb rfl dX0_toldPallets_39 (by decide) (fun c_4 => ?_) (fun c_4 => ?_)
        · skip
          refine lv_iinc (v := nI (k + 1)) (lv' := [(4, .int (nI (k + 1))), (5, .int ((num ((P * 30 + k) * 6)))), (0, .ref (q 1)), (1, .int (nI (P))), (2, .int (bI (wc))), (3, .int ((tpS num P wc k)))]) hx hb dX0_toldPallets_55 hl (k := 5) rfl (iincN (k)) (by decide) rfl (fun ls hl => ?_)
          refine lv_goto (tgt := 5) hx hb dX0_toldPallets_58 (by decide) ?_
          have hl : lv_has ls 6 [(4, .int (nI (k + 1))), (5, .int ((num ((P * 30 + k) * 6)))), (0, .ref (q 1)), (1, .int (nI (P))), (2, .int (bI (wc))), (3, .int ((tpS num P wc (k + 1))))] := by rw [← (show ((tpS num P wc k) : Int32) = (tpS num P wc (k + 1)) from by simp [tpS, c_1, c_2, c_3, c_4, gHol, gGoo, gDec, gFee, gDeb, gLen, gNum, gPrf, gCop, gMad, gN])]; exact hl
          exact ih_k (by omega) _ (lv_sub hl [2, 3, 4, 5, 0] rfl)
        · skip
          refine lv_iload_n hx hb dX0_toldPallets_42 rfl (lv_at hl 4 rfl) ?_
          refine lv_iconst (v := 1) hx hb dX0_toldPallets_43 (by decide) ?_
          refine lv_aload_n hx hb dX0_toldPallets_44 rfl (lv_at hl 1 rfl) ?_
          refine lv_iload_n hx hb dX0_toldPallets_45 rfl (lv_at hl 2 rfl) ?_
          refine lv_iload hx hb dX0_toldPallets_46 (lv_at hl 5 rfl) ?_
          refine lv_iconst (v := 4) hx hb dX0_toldPallets_48 (by decide) ?_
          refine r_callE (x := (num ((P * 30 + k) * 6 + 4))) (va_runV (As := [.int (nI (P)), .int (nI (k)), .int 4]) (rest := [.int 1, .int ((tpS num P wc k))]) ⟨hx, hb, hml, hown, hts⟩ (c_X0_number l D cI q (hol, goo, dec, fee, deb, len, num, prf, cop, mad, n) P k 4 (by omega) (by omega) (by omega)) (cwV 3 hts gX0_toldPallets_X0_number rfl rfl rfl kd_X0_number ⟨Nat.le_of_ble_eq_true rfl, Nat.le_of_ble_eq_true rfl⟩) (pV_G1 hP hK hE) rfl rfl hl.1 rfl (lv_room (Nat.le_of_ble_eq_true rfl)) dX0_toldPallets_49 ⟨Nat.le_of_ble_eq_true rfl, Nat.le_of_ble_eq_true rfl⟩) ?_
          refine lv_ishl hx hb dX0_toldPallets_52 ?_
          refine lv_ior hx hb dX0_toldPallets_53 ?_
          refine lv_istore_n (lv' := [(3, .int (((tpS num P wc k) ||| (1 <<< ((num ((P * 30 + k) * 6 + 4)) &&& 31))))), (5, .int ((num ((P * 30 + k) * 6)))), (0, .ref (q 1)), (1, .int (nI (P))), (2, .int (bI (wc))), (4, .int (nI (k)))]) hx hb dX0_toldPallets_54 rfl hl (by decide) rfl (fun ls hl => ?_)
          refine lv_iinc (v := nI (k + 1)) (lv' := [(4, .int (nI (k + 1))), (3, .int (((tpS num P wc k) ||| (1 <<< ((num ((P * 30 + k) * 6 + 4)) &&& 31))))), (5, .int ((num ((P * 30 + k) * 6)))), (0, .ref (q 1)), (1, .int (nI (P))), (2, .int (bI (wc)))]) hx hb dX0_toldPallets_55 hl (k := 5) rfl (iincN (k)) (by decide) rfl (fun ls hl => ?_)
          refine lv_goto (tgt := 5) hx hb dX0_toldPallets_58 (by decide) ?_
          have hl : lv_has ls 6 [(4, .int (nI (k + 1))), (3, .int ((tpS num P wc (k + 1)))), (5, .int ((num ((P * 30 + k) * 6)))), (0, .ref (q 1)), (1, .int (nI (P))), (2, .int (bI (wc)))] := by rw [← (show (((tpS num P wc k) ||| (1 <<< ((num ((P * 30 + k) * 6 + 4)) &&& 31))) : Int32) = (tpS num P wc (k + 1)) from by simp [tpS, c_1, c_2, c_3, c_4, gHol, gGoo, gDec, gFee, gDeb, gLen, gNum, gPrf, gCop, gMad, gN])]; exact hl
          exact ih_k (by omega) _ (lv_sub hl [3, 4, 5, 1, 0] rfl)
theorem kn_X0_toldByOwnEntries : yX0_toldByOwnEntries.cls ≠ "java/lang/invoke/MethodHandle" ∧ yX0_toldByOwnEntries.cls ≠ "java/lang/invoke/VarHandle" ∧ (parseMethodDescriptor yX0_toldByOwnEntries.desc).map (fun d => d.parameters.length) = some 2 := by decide +kernel
theorem kd_X0_toldByOwnEntries : yX0_toldByOwnEntries.cls = RX0 ∧ yX0_toldByOwnEntries.cls ≠ "java/lang/invoke/MethodHandle" ∧ yX0_toldByOwnEntries.cls ≠ "java/lang/invoke/VarHandle" ∧ (parseMethodDescriptor yX0_toldByOwnEntries.desc).map (fun d => d.parameters.length) = some 2 := by decide +kernel
set_option maxHeartbeats 4000000 in
set_option maxRecDepth 100000 in
theorem c_X0_toldByOwnEntries (l : Launch) (D : va_G) (cI : ClassId) (q : Nat → Nat) (σ : SG) (P : Nat) (g : Int32) (hP14 : P < 14) (hlen : ∀ P, gLen σ P ≤ 30) : Met l yX0_toldByOwnEntries wsX0_toldByOwnEntries ({ frames := 2, cells := 0, slots := 0, locals := 44 }) (va_Pc [.ref (q 1), .int (nI (P)), .int g] (PG D cI q σ)) (rQ (fun r => r = owS (gNum σ) P g (gLen σ P))) 0 0 noF := by
  refine openR (cc := cX0_toldByOwnEntries) (maxL := 5) (by decide) rfl (Nat.le_of_ble_eq_true rfl) ?_
  intro p e s m args below meth c hx hb hml hts hown hpre Q RET ls hl
  have hown : s.vm.findClass RX0 = some m.cls := hown
  have hl : lv_has ls 5 [(0, .ref (q 1)), (1, .int (nI (P))), (2, .int g)] := hl
  obtain ⟨hP, hK, hE⟩ := hpre
  have hiX0 : ∀ w ∈ wsX00, w ∈ wsX0_toldByOwnEntries := by decide +kernel
  have hf9 := hts (.fieldLink RX0 9 "PalletGram$Chains" "lengths" "[I") (by decide +kernel)
  obtain ⟨hol, goo, dec, fee, deb, len, num, prf, cop, mad, n⟩ := σ
  have hlen : ∀ P, len P ≤ 30 := hlen
  have h9 := hlen P
  refine lv_iconst (v := 0) hx hb dX0_toldByOwnEntries_0 (by decide) ?_
  refine lv_istore_n (lv' := [(3, .int 0), (0, .ref (q 1)), (1, .int (nI (P))), (2, .int g)]) hx hb dX0_toldByOwnEntries_1 rfl hl (by decide) rfl (fun ls hl => ?_)
  refine lv_iconst (v := 0) hx hb dX0_toldByOwnEntries_2 (by decide) ?_
  refine lv_istore (lv' := [(4, .int 0), (3, .int 0), (0, .ref (q 1)), (1, .int (nI (P))), (2, .int g)]) hx hb dX0_toldByOwnEntries_3 hl (by decide) rfl (fun ls hl => ?_)
  refine loopW (N := len P) (k0 := 0) (fun k ls => lv_has ls 5 [(0, .ref (q 1)), (1, .int (nI (P))), (2, .int g), (3, .int ((owS num P g k))), (4, .int (nI (k)))]) (Nat.zero_le _) (lv_sub hl [2, 3, 4, 1, 0] rfl) (fun k ls hk_k hI ih_k => ?_)
  have hl := hI
  refine lv_iload hx hb dX0_toldByOwnEntries_5 (lv_at hl 4 rfl) ?_
  refine lv_aload_n hx hb dX0_toldByOwnEntries_7 rfl (lv_at hl 0 rfl) ?_
  refine gf_0_0 hx hb hts hiX0 hown hK hP hf9 dX0_toldByOwnEntries_8 ?_
  refine lv_iload_n hx hb dX0_toldByOwnEntries_11 rfl (lv_at hl 1 rfl) ?_
  refine gld_7 (k := P) (v := len P) hx hb hK hP rfl (by omega) rfl dX0_toldByOwnEntries_12 ?_
  refine geN k (len P) (tgt := 57) hx hb rfl rfl (by omega) (by omega) dX0_toldByOwnEntries_13 (by decide) (fun c_1 => ?_) (fun c_1 => ?_)
  · skip
    refine lv_iload_n hx hb dX0_toldByOwnEntries_57 rfl (lv_at hl 3 rfl) ?_
    exact RET _ _ _ (by rw [show k = len P by omega]) dX0_toldByOwnEntries_58
  · skip
    refine lv_aload_n hx hb dX0_toldByOwnEntries_16 rfl (lv_at hl 0 rfl) ?_
    refine lv_iload_n hx hb dX0_toldByOwnEntries_17 rfl (lv_at hl 1 rfl) ?_
    refine lv_iload hx hb dX0_toldByOwnEntries_18 (lv_at hl 4 rfl) ?_
    refine lv_iconst (v := 2) hx hb dX0_toldByOwnEntries_20 (by decide) ?_
    refine r_callE (x := (num ((P * 30 + k) * 6 + 2))) (va_runV (As := [.int (nI (P)), .int (nI (k)), .int 2]) (rest := []) ⟨hx, hb, hml, hown, hts⟩ (c_X0_number l D cI q (hol, goo, dec, fee, deb, len, num, prf, cop, mad, n) P k 2 (by omega) (by omega) (by omega)) (cwV 3 hts gX0_toldByOwnEntries_X0_number rfl rfl rfl kd_X0_number ⟨Nat.le_of_ble_eq_true rfl, Nat.le_of_ble_eq_true rfl⟩) (pV_G1 hP hK hE) rfl rfl hl.1 rfl (lv_room (Nat.le_of_ble_eq_true rfl)) dX0_toldByOwnEntries_21 ⟨Nat.le_of_ble_eq_true rfl, Nat.le_of_ble_eq_true rfl⟩) ?_
    refine lv_iload_n hx hb dX0_toldByOwnEntries_24 rfl (lv_at hl 2 rfl) ?_
    refine lv_icmp_ne (tgt := 51) hx hb dX0_toldByOwnEntries_25 (by decide) (fun c_2 => ?_) (fun c_2 => ?_)
    · skip
      refine lv_iinc (v := nI (k + 1)) (lv' := [(4, .int (nI (k + 1))), (0, .ref (q 1)), (1, .int (nI (P))), (2, .int g), (3, .int ((owS num P g k)))]) hx hb dX0_toldByOwnEntries_51 hl (k := 4) rfl (iincN (k)) (by decide) rfl (fun ls hl => ?_)
      refine lv_goto (tgt := 5) hx hb dX0_toldByOwnEntries_54 (by decide) ?_
      have hl : lv_has ls 5 [(4, .int (nI (k + 1))), (0, .ref (q 1)), (1, .int (nI (P))), (2, .int g), (3, .int ((owS num P g (k + 1))))] := by rw [← (show ((owS num P g k) : Int32) = (owS num P g (k + 1)) from by simp [owS, c_1, c_2, gHol, gGoo, gDec, gFee, gDeb, gLen, gNum, gPrf, gCop, gMad, gN])]; exact hl
      exact ih_k (by omega) _ (lv_sub hl [1, 2, 3, 4, 0] rfl)
    · skip
      refine lv_iload_n hx hb dX0_toldByOwnEntries_28 rfl (lv_at hl 3 rfl) ?_
      refine lv_aload_n hx hb dX0_toldByOwnEntries_29 rfl (lv_at hl 0 rfl) ?_
      refine lv_iload_n hx hb dX0_toldByOwnEntries_30 rfl (lv_at hl 1 rfl) ?_
      refine lv_iload hx hb dX0_toldByOwnEntries_31 (lv_at hl 4 rfl) ?_
      refine lv_iconst (v := 0) hx hb dX0_toldByOwnEntries_33 (by decide) ?_
      refine r_callE (x := (num ((P * 30 + k) * 6))) (va_runV (As := [.int (nI (P)), .int (nI (k)), .int 0]) (rest := [.int ((owS num P g k))]) ⟨hx, hb, hml, hown, hts⟩ (c_X0_number l D cI q (hol, goo, dec, fee, deb, len, num, prf, cop, mad, n) P k 0 (by omega) (by omega) (by omega)) (cwV 3 hts gX0_toldByOwnEntries_X0_number rfl rfl rfl kd_X0_number ⟨Nat.le_of_ble_eq_true rfl, Nat.le_of_ble_eq_true rfl⟩) (pV_G1 hP hK hE) rfl rfl hl.1 rfl (lv_room (Nat.le_of_ble_eq_true rfl)) dX0_toldByOwnEntries_34 ⟨Nat.le_of_ble_eq_true rfl, Nat.le_of_ble_eq_true rfl⟩) ?_
      refine r_callE (x := (sgnF ((num ((P * 30 + k) * 6))))) (va_runS (As := [.int ((num ((P * 30 + k) * 6)))]) (rest := [.int ((owS num P g k))]) ⟨hx, hb, hml, hown, hts⟩ (c_X0_sign l ((num ((P * 30 + k) * 6)))) (va_cwS 1 hts gX0_toldByOwnEntries_X0_sign rfl rfl rfl kn_X0_sign ⟨Nat.le_of_ble_eq_true rfl, Nat.le_of_ble_eq_true rfl⟩) (pS_T) rfl rfl hl.1 rfl (lv_room (Nat.le_of_ble_eq_true rfl)) dX0_toldByOwnEntries_37 ⟨Nat.le_of_ble_eq_true rfl, Nat.le_of_ble_eq_true rfl⟩) ?_
      refine lv_aload_n hx hb dX0_toldByOwnEntries_40 rfl (lv_at hl 0 rfl) ?_
      refine lv_iload_n hx hb dX0_toldByOwnEntries_41 rfl (lv_at hl 1 rfl) ?_
      refine lv_iload hx hb dX0_toldByOwnEntries_42 (lv_at hl 4 rfl) ?_
      refine lv_iconst (v := 3) hx hb dX0_toldByOwnEntries_44 (by decide) ?_
      refine r_callE (x := (num ((P * 30 + k) * 6 + 3))) (va_runV (As := [.int (nI (P)), .int (nI (k)), .int 3]) (rest := [.int ((sgnF ((num ((P * 30 + k) * 6))))), .int ((owS num P g k))]) ⟨hx, hb, hml, hown, hts⟩ (c_X0_number l D cI q (hol, goo, dec, fee, deb, len, num, prf, cop, mad, n) P k 3 (by omega) (by omega) (by omega)) (cwV 3 hts gX0_toldByOwnEntries_X0_number rfl rfl rfl kd_X0_number ⟨Nat.le_of_ble_eq_true rfl, Nat.le_of_ble_eq_true rfl⟩) (pV_G1 hP hK hE) rfl rfl hl.1 rfl (lv_room (Nat.le_of_ble_eq_true rfl)) dX0_toldByOwnEntries_45 ⟨Nat.le_of_ble_eq_true rfl, Nat.le_of_ble_eq_true rfl⟩) ?_
      refine lv_imul hx hb dX0_toldByOwnEntries_48 ?_
      refine lv_iadd hx hb dX0_toldByOwnEntries_49 ?_
      refine lv_istore_n (lv' := [(3, .int (((owS num P g k) + ((sgnF ((num ((P * 30 + k) * 6)))) * (num ((P * 30 + k) * 6 + 3)))))), (0, .ref (q 1)), (1, .int (nI (P))), (2, .int g), (4, .int (nI (k)))]) hx hb dX0_toldByOwnEntries_50 rfl hl (by decide) rfl (fun ls hl => ?_)
      refine lv_iinc (v := nI (k + 1)) (lv' := [(4, .int (nI (k + 1))), (3, .int (((owS num P g k) + ((sgnF ((num ((P * 30 + k) * 6)))) * (num ((P * 30 + k) * 6 + 3)))))), (0, .ref (q 1)), (1, .int (nI (P))), (2, .int g)]) hx hb dX0_toldByOwnEntries_51 hl (k := 4) rfl (iincN (k)) (by decide) rfl (fun ls hl => ?_)
      refine lv_goto (tgt := 5) hx hb dX0_toldByOwnEntries_54 (by decide) ?_
      have hl : lv_has ls 5 [(4, .int (nI (k + 1))), (3, .int ((owS num P g (k + 1)))), (0, .ref (q 1)), (1, .int (nI (P))), (2, .int g)] := by rw [← (show (((owS num P g k) + ((sgnF ((num ((P * 30 + k) * 6)))) * (num ((P * 30 + k) * 6 + 3)))) : Int32) = (owS num P g (k + 1)) from by simp [owS, c_1, c_2, gHol, gGoo, gDec, gFee, gDeb, gLen, gNum, gPrf, gCop, gMad, gN])]; exact hl
      exact ih_k (by omega) _ (lv_sub hl [2, 3, 4, 1, 0] rfl)
