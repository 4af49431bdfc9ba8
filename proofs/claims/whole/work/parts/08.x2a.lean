theorem kn_X2_isIn : yX2_isIn.cls ≠ "java/lang/invoke/MethodHandle" ∧ yX2_isIn.cls ≠ "java/lang/invoke/VarHandle" ∧ (parseMethodDescriptor yX2_isIn.desc).map (fun d => d.parameters.length) = some 3 := by decide +kernel
theorem kd_X2_isIn : yX2_isIn.cls = RX2 ∧ yX2_isIn.cls ≠ "java/lang/invoke/MethodHandle" ∧ yX2_isIn.cls ≠ "java/lang/invoke/VarHandle" ∧ (parseMethodDescriptor yX2_isIn.desc).map (fun d => d.parameters.length) = some 3 := by decide +kernel
set_option maxHeartbeats 4000000 in
set_option maxRecDepth 100000 in
theorem c_X2_isIn (l : Launch)  (x lo hi : Int32) : Met l yX2_isIn wsX2_isIn ({ frames := 0, cells := 0, slots := 0, locals := 0 }) (va_Pc [.int x, .int lo, .int hi] (PT)) (rQ (fun r => r = bI (inB x lo hi))) 0 0 noF := by
  refine openZ (cc := cX2_isIn) (maxL := 3) (by decide) rfl (Nat.le_of_ble_eq_true rfl) ?_
  intro p e s m args below meth c hx hb hml hts hown hpre Q RET ls hl
  have hown : s.vm.findClass RX2 = some m.cls := hown
  have hl : lv_has ls 3 [(0, .int x), (1, .int lo), (2, .int hi)] := hl
  refine lv_iload_n hx hb dX2_isIn_0 rfl (lv_at hl 0 rfl) ?_
  refine lv_iload_n hx hb dX2_isIn_1 rfl (lv_at hl 1 rfl) ?_
  refine lv_icmp_lt (tgt := 14) hx hb dX2_isIn_2 (by decide) (fun c_1 => ?_) (fun c_1 => ?_)
  · skip
    refine lv_iconst (v := 0) hx hb dX2_isIn_14 (by decide) ?_
    exact RET (false) _ _ (congrArg bI (by simp [inB, c_1])) dX2_isIn_15
  · skip
    refine lv_iload_n hx hb dX2_isIn_5 rfl (lv_at hl 0 rfl) ?_
    refine lv_iload_n hx hb dX2_isIn_6 rfl (lv_at hl 2 rfl) ?_
    refine lv_icmp_gt (tgt := 14) hx hb dX2_isIn_7 (by decide) (fun c_2 => ?_) (fun c_2 => ?_)
    · skip
      refine lv_iconst (v := 0) hx hb dX2_isIn_14 (by decide) ?_
      exact RET (false) _ _ (congrArg bI (by simp [inB, c_1, c_2])) dX2_isIn_15
    · skip
      refine lv_iconst (v := 1) hx hb dX2_isIn_10 (by decide) ?_
      refine lv_goto (tgt := 15) hx hb dX2_isIn_11 (by decide) ?_
      exact RET (true) _ _ (congrArg bI (by simp [inB, c_1, c_2])) dX2_isIn_15
theorem kn_X2_isGood : yX2_isGood.cls ≠ "java/lang/invoke/MethodHandle" ∧ yX2_isGood.cls ≠ "java/lang/invoke/VarHandle" ∧ (parseMethodDescriptor yX2_isGood.desc).map (fun d => d.parameters.length) = some 1 := by decide +kernel
theorem kd_X2_isGood : yX2_isGood.cls = RX2 ∧ yX2_isGood.cls ≠ "java/lang/invoke/MethodHandle" ∧ yX2_isGood.cls ≠ "java/lang/invoke/VarHandle" ∧ (parseMethodDescriptor yX2_isGood.desc).map (fun d => d.parameters.length) = some 1 := by decide +kernel
set_option maxHeartbeats 4000000 in
set_option maxRecDepth 100000 in
theorem c_X2_isGood (l : Launch)  (x : Int32) : Met l yX2_isGood wsX2_isGood ({ frames := 1, cells := 0, slots := 0, locals := 22 }) (va_Pc [.int x] (PT)) (rQ (fun r => r = bI (inB x 0 5))) 0 0 noF := by
  refine openZ (cc := cX2_isGood) (maxL := 1) (by decide) rfl (Nat.le_of_ble_eq_true rfl) ?_
  intro p e s m args below meth c hx hb hml hts hown hpre Q RET ls hl
  have hown : s.vm.findClass RX2 = some m.cls := hown
  have hl : lv_has ls 1 [(0, .int x)] := hl
  refine lv_iload_n hx hb dX2_isGood_0 rfl (lv_at hl 0 rfl) ?_
  refine lv_iconst (v := 0) hx hb dX2_isGood_1 (by decide) ?_
  refine lv_iconst (v := 5) hx hb dX2_isGood_2 (by decide) ?_
  refine r_callE (x := bI (inB x 0 5)) (va_runS (As := [.int x, .int 0, .int 5]) (rest := []) ⟨hx, hb, hml, hown, hts⟩ (c_X2_isIn l x 0 5) (va_cwS 3 hts gX2_isGood_X2_isIn rfl rfl rfl kn_X2_isIn ⟨Nat.le_of_ble_eq_true rfl, Nat.le_of_ble_eq_true rfl⟩) (pS_T) rfl rfl hl.1 rfl (lv_room (Nat.le_of_ble_eq_true rfl)) dX2_isGood_3 ⟨Nat.le_of_ble_eq_true rfl, Nat.le_of_ble_eq_true rfl⟩) ?_
  exact RET (inB x 0 5) _ _ (rfl) dX2_isGood_6
theorem kn_X2_isTruck : yX2_isTruck.cls ≠ "java/lang/invoke/MethodHandle" ∧ yX2_isTruck.cls ≠ "java/lang/invoke/VarHandle" ∧ (parseMethodDescriptor yX2_isTruck.desc).map (fun d => d.parameters.length) = some 1 := by decide +kernel
theorem kd_X2_isTruck : yX2_isTruck.cls = RX2 ∧ yX2_isTruck.cls ≠ "java/lang/invoke/MethodHandle" ∧ yX2_isTruck.cls ≠ "java/lang/invoke/VarHandle" ∧ (parseMethodDescriptor yX2_isTruck.desc).map (fun d => d.parameters.length) = some 1 := by decide +kernel
set_option maxHeartbeats 4000000 in
set_option maxRecDepth 100000 in
theorem c_X2_isTruck (l : Launch)  (x : Int32) : Met l yX2_isTruck wsX2_isTruck ({ frames := 1, cells := 0, slots := 0, locals := 22 }) (va_Pc [.int x] (PT)) (rQ (fun r => r = bI (inB x 4 5))) 0 0 noF := by
  refine openZ (cc := cX2_isTruck) (maxL := 1) (by decide) rfl (Nat.le_of_ble_eq_true rfl) ?_
  intro p e s m args below meth c hx hb hml hts hown hpre Q RET ls hl
  have hown : s.vm.findClass RX2 = some m.cls := hown
  have hl : lv_has ls 1 [(0, .int x)] := hl
  refine lv_iload_n hx hb dX2_isTruck_0 rfl (lv_at hl 0 rfl) ?_
  refine lv_iconst (v := 4) hx hb dX2_isTruck_1 (by decide) ?_
  refine lv_iconst (v := 5) hx hb dX2_isTruck_2 (by decide) ?_
  refine r_callE (x := bI (inB x 4 5)) (va_runS (As := [.int x, .int 4, .int 5]) (rest := []) ⟨hx, hb, hml, hown, hts⟩ (c_X2_isIn l x 4 5) (va_cwS 3 hts gX2_isTruck_X2_isIn rfl rfl rfl kn_X2_isIn ⟨Nat.le_of_ble_eq_true rfl, Nat.le_of_ble_eq_true rfl⟩) (pS_T) rfl rfl hl.1 rfl (lv_room (Nat.le_of_ble_eq_true rfl)) dX2_isTruck_3 ⟨Nat.le_of_ble_eq_true rfl, Nat.le_of_ble_eq_true rfl⟩) ?_
  exact RET (inB x 4 5) _ _ (rfl) dX2_isTruck_6
theorem kn_X2_thrown : yX2_thrown.cls ≠ "java/lang/invoke/MethodHandle" ∧ yX2_thrown.cls ≠ "java/lang/invoke/VarHandle" ∧ (parseMethodDescriptor yX2_thrown.desc).map (fun d => d.parameters.length) = some 0 := by decide +kernel
theorem kd_X2_thrown : yX2_thrown.cls = RX2 ∧ yX2_thrown.cls ≠ "java/lang/invoke/MethodHandle" ∧ yX2_thrown.cls ≠ "java/lang/invoke/VarHandle" ∧ (parseMethodDescriptor yX2_thrown.desc).map (fun d => d.parameters.length) = some 0 := by decide +kernel
set_option maxHeartbeats 4000000 in
set_option maxRecDepth 100000 in
theorem c_X2_thrown (l : Launch) (D : va_G) (cI cZ : ClassId) (q : Nat → Nat) (σ : SM)  : Met l yX2_thrown wsX2_thrown ({ frames := 0, cells := 0, slots := 0, locals := 0 }) (va_Pc [.ref (q 0)] (PM D cI cZ q σ)) (rQ (fun r => r = mThr σ)) 0 0 noF := by
  refine openR (cc := cX2_thrown) (maxL := 1) (by decide) rfl (Nat.le_of_ble_eq_true rfl) ?_
  intro p e s m args below meth c hx hb hml hts hown hpre Q RET ls hl
  have hown : s.vm.findClass RX2 = some m.cls := hown
  have hl : lv_has ls 1 [(0, .ref (q 0))] := hl
  obtain ⟨hP, hK⟩ := hpre
  have hiX2 : ∀ w ∈ wsX20, w ∈ wsX2_thrown := by decide +kernel
  have hf68 := hts (.fieldLink RX2 68 "PalletGramModel" "thrown" "I") (by decide +kernel)
  obtain ⟨thr, hol, goo, man, hel, gon, n, wen, gor, kin, mak, god, amo, oth, its, was, prf, cop, dec, fee, owe, tol⟩ := σ
  refine lv_aload_n hx hb dX2_thrown_0 rfl (lv_at hl 0 rfl) ?_
  refine gf_2_0 hx hb hts hiX2 hown hK hP hf68 dX2_thrown_1 ?_
  refine lv_topE (y := thr) rfl ?_
  exact RET _ _ _ (rfl) dX2_thrown_4
theorem kn_X2_isPallet : yX2_isPallet.cls ≠ "java/lang/invoke/MethodHandle" ∧ yX2_isPallet.cls ≠ "java/lang/invoke/VarHandle" ∧ (parseMethodDescriptor yX2_isPallet.desc).map (fun d => d.parameters.length) = some 1 := by decide +kernel
theorem kd_X2_isPallet : yX2_isPallet.cls = RX2 ∧ yX2_isPallet.cls ≠ "java/lang/invoke/MethodHandle" ∧ yX2_isPallet.cls ≠ "java/lang/invoke/VarHandle" ∧ (parseMethodDescriptor yX2_isPallet.desc).map (fun d => d.parameters.length) = some 1 := by decide +kernel
set_option maxHeartbeats 4000000 in
set_option maxRecDepth 100000 in
theorem c_X2_isPallet (l : Launch) (D : va_G) (cI cZ : ClassId) (q : Nat → Nat) (σ : SM) (x : Int32) : Met l yX2_isPallet wsX2_isPallet ({ frames := 1, cells := 0, slots := 0, locals := 22 }) (va_Pc [.ref (q 0), .int x] (PM D cI cZ q σ)) (rQ (fun r => r = bI (inB x 0 (nI (mN σ) - 1)))) 0 0 noF := by
  refine openZ (cc := cX2_isPallet) (maxL := 2) (by decide) rfl (Nat.le_of_ble_eq_true rfl) ?_
  intro p e s m args below meth c hx hb hml hts hown hpre Q RET ls hl
  have hown : s.vm.findClass RX2 = some m.cls := hown
  have hl : lv_has ls 2 [(0, .ref (q 0)), (1, .int x)] := hl
  obtain ⟨hP, hK⟩ := hpre
  have hiX2 : ∀ w ∈ wsX20, w ∈ wsX2_isPallet := by decide +kernel
  have hf72 := hts (.fieldLink RX2 72 "PalletGramModel" "pallets" "I") (by decide +kernel)
  obtain ⟨thr, hol, goo, man, hel, gon, n, wen, gor, kin, mak, god, amo, oth, its, was, prf, cop, dec, fee, owe, tol⟩ := σ
  refine lv_iload_n hx hb dX2_isPallet_0 rfl (lv_at hl 1 rfl) ?_
  refine lv_iconst (v := 0) hx hb dX2_isPallet_1 (by decide) ?_
  refine lv_aload_n hx hb dX2_isPallet_2 rfl (lv_at hl 0 rfl) ?_
  refine gf_2_6 hx hb hts hiX2 hown hK hP hf72 dX2_isPallet_3 ?_
  refine lv_topE (y := nI (n)) rfl ?_
  refine lv_iconst (v := 1) hx hb dX2_isPallet_6 (by decide) ?_
  refine lv_isub hx hb dX2_isPallet_7 ?_
  refine r_callE (x := bI (inB x 0 ((nI (n) - 1)))) (va_runS (As := [.int x, .int 0, .int ((nI (n) - 1))]) (rest := []) ⟨hx, hb, hml, hown, hts⟩ (c_X2_isIn l x 0 ((nI (n) - 1))) (va_cwS 3 hts gX2_isPallet_X2_isIn rfl rfl rfl kn_X2_isIn ⟨Nat.le_of_ble_eq_true rfl, Nat.le_of_ble_eq_true rfl⟩) (pS_T) rfl rfl hl.1 rfl (lv_room (Nat.le_of_ble_eq_true rfl)) dX2_isPallet_8 ⟨Nat.le_of_ble_eq_true rfl, Nat.le_of_ble_eq_true rfl⟩) ?_
  exact RET (inB x 0 ((nI (n) - 1))) _ _ (rfl) dX2_isPallet_11
theorem kn_X2_isEntry : yX2_isEntry.cls ≠ "java/lang/invoke/MethodHandle" ∧ yX2_isEntry.cls ≠ "java/lang/invoke/VarHandle" ∧ (parseMethodDescriptor yX2_isEntry.desc).map (fun d => d.parameters.length) = some 2 := by decide +kernel
theorem kd_X2_isEntry : yX2_isEntry.cls = RX2 ∧ yX2_isEntry.cls ≠ "java/lang/invoke/MethodHandle" ∧ yX2_isEntry.cls ≠ "java/lang/invoke/VarHandle" ∧ (parseMethodDescriptor yX2_isEntry.desc).map (fun d => d.parameters.length) = some 2 := by decide +kernel
set_option maxHeartbeats 4000000 in
set_option maxRecDepth 100000 in
theorem c_X2_isEntry (l : Launch) (D : va_G) (cI cZ : ClassId) (q : Nat → Nat) (σ : SM) (x en : Int32) (ok : okM σ) : Met l yX2_isEntry wsX2_isEntry ({ frames := 2, cells := 0, slots := 0, locals := 43 }) (va_Pc [.ref (q 0), .int x, .int en] (PM D cI cZ q σ)) (rQ (fun r => r = bI (entB σ x en))) 0 0 noF := by
  refine openZ (cc := cX2_isEntry) (maxL := 3) (by decide) rfl (Nat.le_of_ble_eq_true rfl) ?_
  intro p e s m args below meth c hx hb hml hts hown hpre Q RET ls hl
  have hown : s.vm.findClass RX2 = some m.cls := hown
  have hl : lv_has ls 3 [(0, .ref (q 0)), (1, .int x), (2, .int en)] := hl
  obtain ⟨hP, hK⟩ := hpre
  have hiX2 : ∀ w ∈ wsX20, w ∈ wsX2_isEntry := by decide +kernel
  have hf16 := hts (.fieldLink RX2 16 "PalletGramModel" "many" "[I") (by decide +kernel)
  obtain ⟨thr, hol, goo, man, hel, gon, n, wen, gor, kin, mak, god, amo, oth, its, was, prf, cop, dec, fee, owe, tol⟩ := σ
  obtain ⟨hn, hhol, hman, hgor, hwen⟩ := ok
  have hn : n ≤ 14 := hn
  have hhol : ∀ P, hol P < 6 := hhol
  have hman : ∀ P, man P ≤ 30 := hman
  have hgor : gor ≤ 14 := hgor
  have hwen : ∀ k, wen k < 14 := hwen
  refine lv_aload_n hx hb dX2_isEntry_0 rfl (lv_at hl 0 rfl) ?_
  refine lv_iload_n hx hb dX2_isEntry_1 rfl (lv_at hl 1 rfl) ?_
  refine r_callE (x := bI (inB x 0 (nI n - 1))) (va_runV (As := [.int x]) (rest := []) ⟨hx, hb, hml, hown, hts⟩ (c_X2_isPallet l D cI cZ q (thr, hol, goo, man, hel, gon, n, wen, gor, kin, mak, god, amo, oth, its, was, prf, cop, dec, fee, owe, tol) x) (cwV 1 hts gX2_isEntry_X2_isPallet rfl rfl rfl kd_X2_isPallet ⟨Nat.le_of_ble_eq_true rfl, Nat.le_of_ble_eq_true rfl⟩) (pV_M hP hK) rfl rfl hl.1 rfl (lv_room (Nat.le_of_ble_eq_true rfl)) dX2_isEntry_2 ⟨Nat.le_of_ble_eq_true rfl, Nat.le_of_ble_eq_true rfl⟩) ?_
  refine eqB (inB x 0 (nI n - 1)) (tgt := 28) hx hb rfl dX2_isEntry_5 (by decide) (fun c_1 => ?_) (fun c_1 => ?_)
  · skip
    refine lv_iconst (v := 0) hx hb dX2_isEntry_28 (by decide) ?_
    exact RET (false) _ _ (congrArg bI (by show _ = (inB x 0 (nI n - 1) && _); simp [c_1])) dX2_isEntry_29
  · skip
    obtain ⟨P, hP9, rfl⟩ := inB_pal (by omega) c_1
    refine lv_iload_n hx hb dX2_isEntry_8 rfl (lv_at hl 2 rfl) ?_
    refine lv_iconst (v := 0) hx hb dX2_isEntry_9 (by decide) ?_
    refine lv_aload_n hx hb dX2_isEntry_10 rfl (lv_at hl 0 rfl) ?_
    refine gf_2_3 hx hb hts hiX2 hown hK hP hf16 dX2_isEntry_11 ?_
    refine lv_iload_n hx hb dX2_isEntry_14 rfl (lv_at hl 1 rfl) ?_
    refine mld_3 (k := P) (v := man P) hx hb hK hP rfl (by omega) rfl dX2_isEntry_15 ?_
    refine lv_iconst (v := 1) hx hb dX2_isEntry_16 (by decide) ?_
    refine lv_isub hx hb dX2_isEntry_17 ?_
    refine r_callE (x := bI (inB en 0 ((nI (man P) - 1)))) (va_runS (As := [.int en, .int 0, .int ((nI (man P) - 1))]) (rest := []) ⟨hx, hb, hml, hown, hts⟩ (c_X2_isIn l en 0 ((nI (man P) - 1))) (va_cwS 3 hts gX2_isEntry_X2_isIn rfl rfl rfl kn_X2_isIn ⟨Nat.le_of_ble_eq_true rfl, Nat.le_of_ble_eq_true rfl⟩) (pS_T) rfl rfl hl.1 rfl (lv_room (Nat.le_of_ble_eq_true rfl)) dX2_isEntry_18 ⟨Nat.le_of_ble_eq_true rfl, Nat.le_of_ble_eq_true rfl⟩) ?_
    refine eqB (inB en 0 ((nI (man P) - 1))) (tgt := 28) hx hb rfl dX2_isEntry_21 (by decide) (fun c_2 => ?_) (fun c_2 => ?_)
    · skip
      refine lv_iconst (v := 0) hx hb dX2_isEntry_28 (by decide) ?_
      exact RET (false) _ _ (congrArg bI (by show _ = (inB (nI P) 0 (nI n - 1) && inB en 0 (nI (man (nI P).toNatClampNeg) - 1)); rw [nI_clamp (by omega)]; simp [c_1, c_2])) dX2_isEntry_29
    · skip
      refine lv_iconst (v := 1) hx hb dX2_isEntry_24 (by decide) ?_
      refine lv_goto (tgt := 29) hx hb dX2_isEntry_25 (by decide) ?_
      exact RET (true) _ _ (congrArg bI (by show _ = (inB (nI P) 0 (nI n - 1) && inB en 0 (nI (man (nI P).toNatClampNeg) - 1)); rw [nI_clamp (by omega)]; simp [c_1, c_2])) dX2_isEntry_29
theorem kn_X2_proofOf : yX2_proofOf.cls ≠ "java/lang/invoke/MethodHandle" ∧ yX2_proofOf.cls ≠ "java/lang/invoke/VarHandle" ∧ (parseMethodDescriptor yX2_proofOf.desc).map (fun d => d.parameters.length) = some 2 := by decide +kernel
theorem kd_X2_proofOf : yX2_proofOf.cls = RX2 ∧ yX2_proofOf.cls ≠ "java/lang/invoke/MethodHandle" ∧ yX2_proofOf.cls ≠ "java/lang/invoke/VarHandle" ∧ (parseMethodDescriptor yX2_proofOf.desc).map (fun d => d.parameters.length) = some 2 := by decide +kernel
set_option maxHeartbeats 4000000 in
set_option maxRecDepth 100000 in
theorem c_X2_proofOf (l : Launch) (D : va_G) (cI cZ : ClassId) (q : Nat → Nat) (σ : SM) (P E : Nat) (hP14 : P < 14) (hE30 : E < 30) : Met l yX2_proofOf wsX2_proofOf ({ frames := 0, cells := 0, slots := 0, locals := 0 }) (va_Pc [.ref (q 0), .int (nI (P)), .int (nI (E))] (PM D cI cZ q σ)) (rQ (fun r => r = mpF σ P E)) 0 0 noF := by
  refine openR (cc := cX2_proofOf) (maxL := 5) (by decide) rfl (Nat.le_of_ble_eq_true rfl) ?_
  intro p e s m args below meth c hx hb hml hts hown hpre Q RET ls hl
  have hown : s.vm.findClass RX2 = some m.cls := hown
  have hl : lv_has ls 5 [(0, .ref (q 0)), (1, .int (nI (P))), (2, .int (nI (E)))] := hl
  obtain ⟨hP, hK⟩ := hpre
  have hiX2 : ∀ w ∈ wsX20, w ∈ wsX2_proofOf := by decide +kernel
  have hf50 := hts (.fieldLink RX2 50 "PalletGramModel" "proof" "[I") (by decide +kernel)
  have hf29 := hts (.fieldLink RX2 29 "PalletGramModel" "kind" "[I") (by decide +kernel)
  have hf32 := hts (.fieldLink RX2 32 "PalletGramModel" "maker" "[I") (by decide +kernel)
  have hf35 := hts (.fieldLink RX2 35 "PalletGramModel" "good" "[I") (by decide +kernel)
  have hf38 := hts (.fieldLink RX2 38 "PalletGramModel" "amount" "[I") (by decide +kernel)
  have hf41 := hts (.fieldLink RX2 41 "PalletGramModel" "other" "[I") (by decide +kernel)
  have hf44 := hts (.fieldLink RX2 44 "PalletGramModel" "its" "[I") (by decide +kernel)
  obtain ⟨thr, hol, goo, man, hel, gon, n, wen, gor, kin, mak, god, amo, oth, its, was, prf, cop, dec, fee, owe, tol⟩ := σ
  refine lv_bipush (v := 30) hx hb dX2_proofOf_0 (by decide) ?_
  refine lv_iload_n hx hb dX2_proofOf_2 rfl (lv_at hl 1 rfl) ?_
  refine mulNc 30 P hx hb rfl rfl dX2_proofOf_3 ?_
  refine lv_iload_n hx hb dX2_proofOf_4 rfl (lv_at hl 2 rfl) ?_
  refine addN (P * 30) E hx hb rfl rfl dX2_proofOf_5 ?_
  refine lv_istore_n (lv' := [(3, .int (nI ((P * 30) + E))), (0, .ref (q 0)), (1, .int (nI (P))), (2, .int (nI (E)))]) hx hb dX2_proofOf_6 rfl hl (by decide) rfl (fun ls hl => ?_)
  refine cutI (x := (pm0 prf P E)) (pcM := 24) (st := []) ?_ (fun J => ?_)
  rotate_left
  · skip
    refine lv_iload_n hx hb dX2_proofOf_7 rfl (lv_at hl 3 rfl) ?_
    refine neZN E (tgt := 16) hx hb rfl (by omega) dX2_proofOf_8 (by decide) (fun c_1 => ?_) (fun c_1 => ?_)
    · skip
      refine lv_aload_n hx hb dX2_proofOf_16 rfl (lv_at hl 1 rfl) ?_
      refine gf_2_16 hx hb hts hiX2 hown hK hP hf50 dX2_proofOf_17 ?_
      refine lv_iload_n hx hb dX2_proofOf_20 rfl (lv_at hl 0 rfl) ?_
      refine lv_iconst (v := 1) hx hb dX2_proofOf_21 (by decide) ?_
      refine subN (P * 30 + E) 1 hx hb rfl rfl (by omega) dX2_proofOf_22 ?_
      refine mld_14 (k := (P * 30 + E) - 1) (v := prf ((P * 30 + E) - 1)) hx hb hK hP rfl (by omega) rfl dX2_proofOf_23 ?_
      exact J _ (by simp [pm0, c_1, mThr, mHol, mGoo, mMan, mHel, mGon, mN, mWen, mGor, mKin, mMak, mGod, mAmo, mOth, mIts, mWas, mPrf, mCop, mDec, mFee, mOwe, mTol])
    · skip
      refine lv_bipush (v := 17) hx hb dX2_proofOf_11 (by decide) ?_
      refine lv_goto (tgt := 24) hx hb dX2_proofOf_13 (by decide) ?_
      exact J _ (by simp [pm0, c_1, mThr, mHol, mGoo, mMan, mHel, mGon, mN, mWen, mGor, mKin, mMak, mGod, mAmo, mOth, mIts, mWas, mPrf, mCop, mDec, mFee, mOwe, mTol])
  refine lv_istore (lv' := [(4, .int ((pm0 prf P E))), (3, .int (nI ((P * 30) + E))), (0, .ref (q 0)), (1, .int (nI (P))), (2, .int (nI (E)))]) hx hb dX2_proofOf_24 hl (by decide) rfl (fun ls hl => ?_)
  refine lv_bipush (v := 31) hx hb dX2_proofOf_26 (by decide) ?_
  refine lv_iload hx hb dX2_proofOf_28 (lv_at hl 0 rfl) ?_
  refine lv_imul hx hb dX2_proofOf_30 ?_
  refine lv_aload_n hx hb dX2_proofOf_31 rfl (lv_at hl 2 rfl) ?_
  refine gf_2_9 hx hb hts hiX2 hown hK hP hf29 dX2_proofOf_32 ?_
  refine lv_iload_n hx hb dX2_proofOf_35 rfl (lv_at hl 1 rfl) ?_
  refine mld_7 (k := P * 30 + E) (v := kin (P * 30 + E)) hx hb hK hP rfl (by omega) rfl dX2_proofOf_36 ?_
  refine lv_iadd hx hb dX2_proofOf_37 ?_
  refine lv_istore (lv' := [(4, .int (((31 * (pm0 prf P E)) + (kin (P * 30 + E))))), (3, .int (nI ((P * 30) + E))), (0, .ref (q 0)), (1, .int (nI (P))), (2, .int (nI (E)))]) hx hb dX2_proofOf_38 hl (by decide) rfl (fun ls hl => ?_)
  refine lv_bipush (v := 31) hx hb dX2_proofOf_40 (by decide) ?_
  refine lv_iload hx hb dX2_proofOf_42 (lv_at hl 0 rfl) ?_
  refine lv_imul hx hb dX2_proofOf_44 ?_
  refine lv_aload_n hx hb dX2_proofOf_45 rfl (lv_at hl 2 rfl) ?_
  refine gf_2_10 hx hb hts hiX2 hown hK hP hf32 dX2_proofOf_46 ?_
  refine lv_iload_n hx hb dX2_proofOf_49 rfl (lv_at hl 1 rfl) ?_
  refine mld_8 (k := P * 30 + E) (v := mak (P * 30 + E)) hx hb hK hP rfl (by omega) rfl dX2_proofOf_50 ?_
  refine lv_iadd hx hb dX2_proofOf_51 ?_
  refine lv_istore (lv' := [(4, .int (((31 * ((31 * (pm0 prf P E)) + (kin (P * 30 + E)))) + (mak (P * 30 + E))))), (3, .int (nI ((P * 30) + E))), (0, .ref (q 0)), (1, .int (nI (P))), (2, .int (nI (E)))]) hx hb dX2_proofOf_52 hl (by decide) rfl (fun ls hl => ?_)
  refine lv_bipush (v := 31) hx hb dX2_proofOf_54 (by decide) ?_
  refine lv_iload hx hb dX2_proofOf_56 (lv_at hl 0 rfl) ?_
  refine lv_imul hx hb dX2_proofOf_58 ?_
  refine lv_aload_n hx hb dX2_proofOf_59 rfl (lv_at hl 2 rfl) ?_
  refine gf_2_11 hx hb hts hiX2 hown hK hP hf35 dX2_proofOf_60 ?_
  refine lv_iload_n hx hb dX2_proofOf_63 rfl (lv_at hl 1 rfl) ?_
  refine mld_9 (k := P * 30 + E) (v := god (P * 30 + E)) hx hb hK hP rfl (by omega) rfl dX2_proofOf_64 ?_
  refine lv_iadd hx hb dX2_proofOf_65 ?_
  refine lv_istore (lv' := [(4, .int (((31 * ((31 * ((31 * (pm0 prf P E)) + (kin (P * 30 + E)))) + (mak (P * 30 + E)))) + (god (P * 30 + E))))), (3, .int (nI ((P * 30) + E))), (0, .ref (q 0)), (1, .int (nI (P))), (2, .int (nI (E)))]) hx hb dX2_proofOf_66 hl (by decide) rfl (fun ls hl => ?_)
  refine lv_bipush (v := 31) hx hb dX2_proofOf_68 (by decide) ?_
  refine lv_iload hx hb dX2_proofOf_70 (lv_at hl 0 rfl) ?_
  refine lv_imul hx hb dX2_proofOf_72 ?_
  refine lv_aload_n hx hb dX2_proofOf_73 rfl (lv_at hl 2 rfl) ?_
  refine gf_2_12 hx hb hts hiX2 hown hK hP hf38 dX2_proofOf_74 ?_
  refine lv_iload_n hx hb dX2_proofOf_77 rfl (lv_at hl 1 rfl) ?_
  refine mld_10 (k := P * 30 + E) (v := amo (P * 30 + E)) hx hb hK hP rfl (by omega) rfl dX2_proofOf_78 ?_
  refine lv_iadd hx hb dX2_proofOf_79 ?_
  refine lv_istore (lv' := [(4, .int (((31 * ((31 * ((31 * ((31 * (pm0 prf P E)) + (kin (P * 30 + E)))) + (mak (P * 30 + E)))) + (god (P * 30 + E)))) + (amo (P * 30 + E))))), (3, .int (nI ((P * 30) + E))), (0, .ref (q 0)), (1, .int (nI (P))), (2, .int (nI (E)))]) hx hb dX2_proofOf_80 hl (by decide) rfl (fun ls hl => ?_)
  refine lv_bipush (v := 31) hx hb dX2_proofOf_82 (by decide) ?_
  refine lv_iload hx hb dX2_proofOf_84 (lv_at hl 0 rfl) ?_
  refine lv_imul hx hb dX2_proofOf_86 ?_
  refine lv_aload_n hx hb dX2_proofOf_87 rfl (lv_at hl 2 rfl) ?_
  refine gf_2_13 hx hb hts hiX2 hown hK hP hf41 dX2_proofOf_88 ?_
  refine lv_iload_n hx hb dX2_proofOf_91 rfl (lv_at hl 1 rfl) ?_
  refine mld_11 (k := P * 30 + E) (v := oth (P * 30 + E)) hx hb hK hP rfl (by omega) rfl dX2_proofOf_92 ?_
  refine lv_iadd hx hb dX2_proofOf_93 ?_
  refine lv_istore (lv' := [(4, .int (((31 * ((31 * ((31 * ((31 * ((31 * (pm0 prf P E)) + (kin (P * 30 + E)))) + (mak (P * 30 + E)))) + (god (P * 30 + E)))) + (amo (P * 30 + E)))) + (oth (P * 30 + E))))), (3, .int (nI ((P * 30) + E))), (0, .ref (q 0)), (1, .int (nI (P))), (2, .int (nI (E)))]) hx hb dX2_proofOf_94 hl (by decide) rfl (fun ls hl => ?_)
  refine lv_bipush (v := 31) hx hb dX2_proofOf_96 (by decide) ?_
  refine lv_iload hx hb dX2_proofOf_98 (lv_at hl 0 rfl) ?_
  refine lv_imul hx hb dX2_proofOf_100 ?_
  refine lv_aload_n hx hb dX2_proofOf_101 rfl (lv_at hl 2 rfl) ?_
  refine gf_2_14 hx hb hts hiX2 hown hK hP hf44 dX2_proofOf_102 ?_
  refine lv_iload_n hx hb dX2_proofOf_105 rfl (lv_at hl 1 rfl) ?_
  refine mld_12 (k := P * 30 + E) (v := its (P * 30 + E)) hx hb hK hP rfl (by omega) rfl dX2_proofOf_106 ?_
  refine lv_iadd hx hb dX2_proofOf_107 ?_
  exact RET _ _ _ (rfl) dX2_proofOf_108
theorem kn_X2_isBroken : yX2_isBroken.cls ≠ "java/lang/invoke/MethodHandle" ∧ yX2_isBroken.cls ≠ "java/lang/invoke/VarHandle" ∧ (parseMethodDescriptor yX2_isBroken.desc).map (fun d => d.parameters.length) = some 2 := by decide +kernel
theorem kd_X2_isBroken : yX2_isBroken.cls = RX2 ∧ yX2_isBroken.cls ≠ "java/lang/invoke/MethodHandle" ∧ yX2_isBroken.cls ≠ "java/lang/invoke/VarHandle" ∧ (parseMethodDescriptor yX2_isBroken.desc).map (fun d => d.parameters.length) = some 2 := by decide +kernel
set_option maxHeartbeats 4000000 in
set_option maxRecDepth 100000 in
theorem c_X2_isBroken (l : Launch) (D : va_G) (cI cZ : ClassId) (q : Nat → Nat) (σ : SM) (P E : Nat) (hP14 : P < 14) (hE30 : E < 30) : Met l yX2_isBroken wsX2_isBroken ({ frames := 1, cells := 0, slots := 0, locals := 24 }) (va_Pc [.ref (q 0), .int (nI (P)), .int (nI (E))] (PM D cI cZ q σ)) (rQ (fun r => r = bI (mbB σ P E))) 0 0 noF := by
  refine openZ (cc := cX2_isBroken) (maxL := 3) (by decide) rfl (Nat.le_of_ble_eq_true rfl) ?_
  intro p e s m args below meth c hx hb hml hts hown hpre Q RET ls hl
  have hown : s.vm.findClass RX2 = some m.cls := hown
  have hl : lv_has ls 3 [(0, .ref (q 0)), (1, .int (nI (P))), (2, .int (nI (E)))] := hl
  obtain ⟨hP, hK⟩ := hpre
  have hiX2 : ∀ w ∈ wsX20, w ∈ wsX2_isBroken := by decide +kernel
  have hf50 := hts (.fieldLink RX2 50 "PalletGramModel" "proof" "[I") (by decide +kernel)
  obtain ⟨thr, hol, goo, man, hel, gon, n, wen, gor, kin, mak, god, amo, oth, its, was, prf, cop, dec, fee, owe, tol⟩ := σ
  refine lv_aload_n hx hb dX2_isBroken_0 rfl (lv_at hl 0 rfl) ?_
  refine gf_2_16 hx hb hts hiX2 hown hK hP hf50 dX2_isBroken_1 ?_
  refine lv_bipush (v := 30) hx hb dX2_isBroken_4 (by decide) ?_
  refine lv_iload_n hx hb dX2_isBroken_6 rfl (lv_at hl 1 rfl) ?_
  refine mulNc 30 P hx hb rfl rfl dX2_isBroken_7 ?_
  refine lv_iload_n hx hb dX2_isBroken_8 rfl (lv_at hl 2 rfl) ?_
  refine addN (P * 30) E hx hb rfl rfl dX2_isBroken_9 ?_
  refine mld_14 (k := P * 30 + E) (v := prf (P * 30 + E)) hx hb hK hP rfl (by omega) rfl dX2_isBroken_10 ?_
  refine lv_aload_n hx hb dX2_isBroken_11 rfl (lv_at hl 0 rfl) ?_
  refine lv_iload_n hx hb dX2_isBroken_12 rfl (lv_at hl 1 rfl) ?_
  refine lv_iload_n hx hb dX2_isBroken_13 rfl (lv_at hl 2 rfl) ?_
  refine r_callE (x := (mpF (thr, hol, goo, man, hel, gon, n, wen, gor, kin, mak, god, amo, oth, its, was, prf, cop, dec, fee, owe, tol) P E)) (va_runV (As := [.int (nI (P)), .int (nI (E))]) (rest := [.int ((prf (P * 30 + E)))]) ⟨hx, hb, hml, hown, hts⟩ (c_X2_proofOf l D cI cZ q (thr, hol, goo, man, hel, gon, n, wen, gor, kin, mak, god, amo, oth, its, was, prf, cop, dec, fee, owe, tol) P E (by omega) (by omega)) (cwV 2 hts gX2_isBroken_X2_proofOf rfl rfl rfl kd_X2_proofOf ⟨Nat.le_of_ble_eq_true rfl, Nat.le_of_ble_eq_true rfl⟩) (pV_M hP hK) rfl rfl hl.1 rfl (lv_room (Nat.le_of_ble_eq_true rfl)) dX2_isBroken_14 ⟨Nat.le_of_ble_eq_true rfl, Nat.le_of_ble_eq_true rfl⟩) ?_
  refine lv_icmp_eq (tgt := 24) hx hb dX2_isBroken_17 (by decide) (fun c_1 => ?_) (fun c_1 => ?_)
  · skip
    refine lv_iconst (v := 0) hx hb dX2_isBroken_24 (by decide) ?_
    exact RET (false) _ _ (congrArg bI (by simp [mbB, c_1, mThr, mHol, mGoo, mMan, mHel, mGon, mN, mWen, mGor, mKin, mMak, mGod, mAmo, mOth, mIts, mWas, mPrf, mCop, mDec, mFee, mOwe, mTol])) dX2_isBroken_25
  · skip
    refine lv_iconst (v := 1) hx hb dX2_isBroken_20 (by decide) ?_
    refine lv_goto (tgt := 25) hx hb dX2_isBroken_21 (by decide) ?_
    exact RET (true) _ _ (congrArg bI (by simp [mbB, c_1, mThr, mHol, mGoo, mMan, mHel, mGon, mN, mWen, mGor, mKin, mMak, mGod, mAmo, mOth, mIts, mWas, mPrf, mCop, mDec, mFee, mOwe, mTol])) dX2_isBroken_25
theorem kn_X2_firstBroken : yX2_firstBroken.cls ≠ "java/lang/invoke/MethodHandle" ∧ yX2_firstBroken.cls ≠ "java/lang/invoke/VarHandle" ∧ (parseMethodDescriptor yX2_firstBroken.desc).map (fun d => d.parameters.length) = some 1 := by decide +kernel
theorem kd_X2_firstBroken : yX2_firstBroken.cls = RX2 ∧ yX2_firstBroken.cls ≠ "java/lang/invoke/MethodHandle" ∧ yX2_firstBroken.cls ≠ "java/lang/invoke/VarHandle" ∧ (parseMethodDescriptor yX2_firstBroken.desc).map (fun d => d.parameters.length) = some 1 := by decide +kernel
set_option maxHeartbeats 4000000 in
set_option maxRecDepth 100000 in
theorem c_X2_firstBroken (l : Launch) (D : va_G) (cI cZ : ClassId) (q : Nat → Nat) (σ : SM) (P : Nat) (hP14 : P < 14) (hman : ∀ P, mMan σ P ≤ 30) : Met l yX2_firstBroken wsX2_firstBroken ({ frames := 2, cells := 0, slots := 0, locals := 46 }) (va_Pc [.ref (q 0), .int (nI (P))] (PM D cI cZ q σ)) (rQ (fun r => r = mfF σ P)) 0 0 noF := by
  refine openR (cc := cX2_firstBroken) (maxL := 3) (by decide) rfl (Nat.le_of_ble_eq_true rfl) ?_
  intro p e s m args below meth c hx hb hml hts hown hpre Q RET ls hl
  have hown : s.vm.findClass RX2 = some m.cls := hown
  have hl : lv_has ls 3 [(0, .ref (q 0)), (1, .int (nI (P)))] := hl
  obtain ⟨hP, hK⟩ := hpre
  have hiX2 : ∀ w ∈ wsX20, w ∈ wsX2_firstBroken := by decide +kernel
  have hf16 := hts (.fieldLink RX2 16 "PalletGramModel" "many" "[I") (by decide +kernel)
  obtain ⟨thr, hol, goo, man, hel, gon, n, wen, gor, kin, mak, god, amo, oth, its, was, prf, cop, dec, fee, owe, tol⟩ := σ
  have hman : ∀ P, man P ≤ 30 := hman
  have h9 := hman P
  refine lv_iconst (v := 0) hx hb dX2_firstBroken_0 (by decide) ?_
  refine lv_istore_n (lv' := [(2, .int 0), (0, .ref (q 0)), (1, .int (nI (P)))]) hx hb dX2_firstBroken_1 rfl hl (by decide) rfl (fun ls hl => ?_)
  refine loopW (N := man P) (k0 := 0) (fun k ls => lv_has ls 3 [(0, .ref (q 0)), (1, .int (nI (P))), (2, .int (nI (k)))] ∧ (fstF (mbB (thr, hol, goo, man, hel, gon, n, wen, gor, kin, mak, god, amo, oth, its, was, prf, cop, dec, fee, owe, tol) P) (man P - k) k = mfF (thr, hol, goo, man, hel, gon, n, wen, gor, kin, mak, god, amo, oth, its, was, prf, cop, dec, fee, owe, tol) P)) (Nat.zero_le _) ⟨lv_sub hl [1, 2, 0] rfl, rfl⟩ (fun k ls hk_k hI ih_k => ?_)
  obtain ⟨hl, hi⟩ := hI
  refine lv_iload_n hx hb dX2_firstBroken_2 rfl (lv_at hl 2 rfl) ?_
  refine lv_aload_n hx hb dX2_firstBroken_3 rfl (lv_at hl 0 rfl) ?_
  refine gf_2_3 hx hb hts hiX2 hown hK hP hf16 dX2_firstBroken_4 ?_
  refine lv_iload_n hx hb dX2_firstBroken_7 rfl (lv_at hl 1 rfl) ?_
  refine mld_3 (k := P) (v := man P) hx hb hK hP rfl (by omega) rfl dX2_firstBroken_8 ?_
  refine geN k (man P) (tgt := 29) hx hb rfl rfl (by omega) (by omega) dX2_firstBroken_9 (by decide) (fun c_1 => ?_) (fun c_1 => ?_)
  · skip
    refine lv_iconst (v := (-1)) hx hb dX2_firstBroken_29 (by decide) ?_
    exact RET _ _ _ ((fstF_end (by omega)).symm.trans hi) dX2_firstBroken_30
  · skip
    refine lv_aload_n hx hb dX2_firstBroken_12 rfl (lv_at hl 0 rfl) ?_
    refine lv_iload_n hx hb dX2_firstBroken_13 rfl (lv_at hl 1 rfl) ?_
    refine lv_iload_n hx hb dX2_firstBroken_14 rfl (lv_at hl 2 rfl) ?_
    refine r_callE (x := bI (mbB (thr, hol, goo, man, hel, gon, n, wen, gor, kin, mak, god, amo, oth, its, was, prf, cop, dec, fee, owe, tol) P k)) (va_runV (As := [.int (nI (P)), .int (nI (k))]) (rest := []) ⟨hx, hb, hml, hown, hts⟩ (c_X2_isBroken l D cI cZ q (thr, hol, goo, man, hel, gon, n, wen, gor, kin, mak, god, amo, oth, its, was, prf, cop, dec, fee, owe, tol) P k (by omega) (by omega)) (cwV 2 hts gX2_firstBroken_X2_isBroken rfl rfl rfl kd_X2_isBroken ⟨Nat.le_of_ble_eq_true rfl, Nat.le_of_ble_eq_true rfl⟩) (pV_M hP hK) rfl rfl hl.1 rfl (lv_room (Nat.le_of_ble_eq_true rfl)) dX2_firstBroken_15 ⟨Nat.le_of_ble_eq_true rfl, Nat.le_of_ble_eq_true rfl⟩) ?_
    refine eqB (mbB (thr, hol, goo, man, hel, gon, n, wen, gor, kin, mak, god, amo, oth, its, was, prf, cop, dec, fee, owe, tol) P k) (tgt := 23) hx hb rfl dX2_firstBroken_18 (by decide) (fun c_2 => ?_) (fun c_2 => ?_)
    · skip
      refine lv_iinc (v := nI (k + 1)) (lv' := [(2, .int (nI (k + 1))), (0, .ref (q 0)), (1, .int (nI (P)))]) hx hb dX2_firstBroken_23 hl (k := 2) rfl (iincN (k)) (by decide) rfl (fun ls hl => ?_)
      refine lv_goto (tgt := 2) hx hb dX2_firstBroken_26 (by decide) ?_
      exact ih_k (by omega) _ ⟨lv_sub hl [1, 2, 0] rfl, (fstF_no (by omega) c_2).symm.trans hi⟩
    · skip
      refine lv_iload_n hx hb dX2_firstBroken_21 rfl (lv_at hl 2 rfl) ?_
      exact RET _ _ _ ((fstF_yes (by omega) c_2).symm.trans hi) dX2_firstBroken_22
theorem kn_X2_weight : yX2_weight.cls ≠ "java/lang/invoke/MethodHandle" ∧ yX2_weight.cls ≠ "java/lang/invoke/VarHandle" ∧ (parseMethodDescriptor yX2_weight.desc).map (fun d => d.parameters.length) = some 1 := by decide +kernel
theorem kd_X2_weight : yX2_weight.cls = RX2 ∧ yX2_weight.cls ≠ "java/lang/invoke/MethodHandle" ∧ yX2_weight.cls ≠ "java/lang/invoke/VarHandle" ∧ (parseMethodDescriptor yX2_weight.desc).map (fun d => d.parameters.length) = some 1 := by decide +kernel
set_option maxHeartbeats 4000000 in
set_option maxRecDepth 100000 in
theorem c_X2_weight (l : Launch) (D : va_G) (cI cZ : ClassId) (q : Nat → Nat) (σ : SM) (P : Nat) (hP14 : P < 14) : Met l yX2_weight wsX2_weight ({ frames := 0, cells := 0, slots := 0, locals := 0 }) (va_Pc [.ref (q 0), .int (nI (P))] (PM D cI cZ q σ)) (rQ (fun r => r = wS (mGoo σ) P 6)) 0 0 noF := by
  refine openR (cc := cX2_weight) (maxL := 4) (by decide) rfl (Nat.le_of_ble_eq_true rfl) ?_
  intro p e s m args below meth c hx hb hml hts hown hpre Q RET ls hl
  have hown : s.vm.findClass RX2 = some m.cls := hown
  have hl : lv_has ls 4 [(0, .ref (q 0)), (1, .int (nI (P)))] := hl
  obtain ⟨hP, hK⟩ := hpre
  have hiX2 : ∀ w ∈ wsX20, w ∈ wsX2_weight := by decide +kernel
  have hf13 := hts (.fieldLink RX2 13 "PalletGramModel" "goods" "[I") (by decide +kernel)
  obtain ⟨thr, hol, goo, man, hel, gon, n, wen, gor, kin, mak, god, amo, oth, its, was, prf, cop, dec, fee, owe, tol⟩ := σ
  refine lv_iconst (v := 0) hx hb dX2_weight_0 (by decide) ?_
  refine lv_istore_n (lv' := [(2, .int 0), (0, .ref (q 0)), (1, .int (nI (P)))]) hx hb dX2_weight_1 rfl hl (by decide) rfl (fun ls hl => ?_)
  refine lv_iconst (v := 0) hx hb dX2_weight_2 (by decide) ?_
  refine lv_istore_n (lv' := [(3, .int 0), (2, .int 0), (0, .ref (q 0)), (1, .int (nI (P)))]) hx hb dX2_weight_3 rfl hl (by decide) rfl (fun ls hl => ?_)
  refine loopW (N := 6) (k0 := 0) (fun k ls => lv_has ls 4 [(0, .ref (q 0)), (1, .int (nI (P))), (2, .int ((wS goo P k))), (3, .int (nI (k)))]) (Nat.zero_le _) (lv_sub hl [2, 3, 1, 0] rfl) (fun k ls hk_k hI ih_k => ?_)
  have hl := hI
  refine lv_iload_n hx hb dX2_weight_4 rfl (lv_at hl 3 rfl) ?_
  refine lv_bipush (v := 6) hx hb dX2_weight_5 (by decide) ?_
  refine geN k 6 (tgt := 34) hx hb rfl rfl (by omega) (by omega) dX2_weight_7 (by decide) (fun c_1 => ?_) (fun c_1 => ?_)
  · skip
    refine lv_iload_n hx hb dX2_weight_34 rfl (lv_at hl 2 rfl) ?_
    exact RET _ _ _ (by rw [show k = 6 by omega]) dX2_weight_35
  · skip
    refine lv_iload_n hx hb dX2_weight_10 rfl (lv_at hl 2 rfl) ?_
    refine lv_aload_n hx hb dX2_weight_11 rfl (lv_at hl 0 rfl) ?_
    refine gf_2_2 hx hb hts hiX2 hown hK hP hf13 dX2_weight_12 ?_
    refine lv_bipush (v := 6) hx hb dX2_weight_15 (by decide) ?_
    refine lv_iload_n hx hb dX2_weight_17 rfl (lv_at hl 1 rfl) ?_
    refine mulNc 6 P hx hb rfl rfl dX2_weight_18 ?_
    refine lv_iload_n hx hb dX2_weight_19 rfl (lv_at hl 3 rfl) ?_
    refine addN (P * 6) k hx hb rfl rfl dX2_weight_20 ?_
    refine mld_2 (k := P * 6 + k) (v := goo (P * 6 + k)) hx hb hK hP rfl (by omega) rfl dX2_weight_21 ?_
    refine lv_iload_n hx hb dX2_weight_22 rfl (lv_at hl 3 rfl) ?_
    refine lv_iconst (v := 1) hx hb dX2_weight_23 (by decide) ?_
    refine lv_iadd hx hb dX2_weight_24 ?_
    refine lv_imul hx hb dX2_weight_25 ?_
    refine lv_iadd hx hb dX2_weight_26 ?_
    refine lv_istore_n (lv' := [(2, .int (((wS goo P k) + ((goo (P * 6 + k)) * (nI (k) + 1))))), (0, .ref (q 0)), (1, .int (nI (P))), (3, .int (nI (k)))]) hx hb dX2_weight_27 rfl hl (by decide) rfl (fun ls hl => ?_)
    refine lv_iinc (v := nI (k + 1)) (lv' := [(3, .int (nI (k + 1))), (2, .int (((wS goo P k) + ((goo (P * 6 + k)) * (nI (k) + 1))))), (0, .ref (q 0)), (1, .int (nI (P)))]) hx hb dX2_weight_28 hl (k := 3) rfl (iincN (k)) (by decide) rfl (fun ls hl => ?_)
    refine lv_goto (tgt := 4) hx hb dX2_weight_31 (by decide) ?_
    exact ih_k (by omega) _ (lv_sub hl [2, 3, 1, 0] rfl)
theorem kn_X2_hasRoom : yX2_hasRoom.cls ≠ "java/lang/invoke/MethodHandle" ∧ yX2_hasRoom.cls ≠ "java/lang/invoke/VarHandle" ∧ (parseMethodDescriptor yX2_hasRoom.desc).map (fun d => d.parameters.length) = some 2 := by decide +kernel
theorem kd_X2_hasRoom : yX2_hasRoom.cls = RX2 ∧ yX2_hasRoom.cls ≠ "java/lang/invoke/MethodHandle" ∧ yX2_hasRoom.cls ≠ "java/lang/invoke/VarHandle" ∧ (parseMethodDescriptor yX2_hasRoom.desc).map (fun d => d.parameters.length) = some 2 := by decide +kernel
set_option maxHeartbeats 4000000 in
set_option maxRecDepth 100000 in
theorem c_X2_hasRoom (l : Launch) (D : va_G) (cI cZ : ClassId) (q : Nat → Nat) (σ : SM) (hd : Nat) (more : Int32) (ok : okM σ) (hhd : hd < 6) : Met l yX2_hasRoom wsX2_hasRoom ({ frames := 1, cells := 0, slots := 0, locals := 23 }) (va_Pc [.ref (q 0), .int (nI (hd)), .int more] (PM D cI cZ q σ)) (rQ (fun r => r = bI (mrS (mHol σ) (mGoo σ) hd more (mN σ)))) 0 0 noF := by
  refine openZ (cc := cX2_hasRoom) (maxL := 5) (by decide) rfl (Nat.le_of_ble_eq_true rfl) ?_
  intro p e s m args below meth c hx hb hml hts hown hpre Q RET ls hl
  have hown : s.vm.findClass RX2 = some m.cls := hown
  have hl : lv_has ls 5 [(0, .ref (q 0)), (1, .int (nI (hd))), (2, .int more)] := hl
  obtain ⟨hP, hK⟩ := hpre
  have hiX2 : ∀ w ∈ wsX20, w ∈ wsX2_hasRoom := by decide +kernel
  have hf72 := hts (.fieldLink RX2 72 "PalletGramModel" "pallets" "I") (by decide +kernel)
  have hf7 := hts (.fieldLink RX2 7 "PalletGramModel" "holder" "[I") (by decide +kernel)
  obtain ⟨thr, hol, goo, man, hel, gon, n, wen, gor, kin, mak, god, amo, oth, its, was, prf, cop, dec, fee, owe, tol⟩ := σ
  obtain ⟨hn, hhol, hman, hgor, hwen⟩ := ok
  have hn : n ≤ 14 := hn
  have hhol : ∀ P, hol P < 6 := hhol
  have hman : ∀ P, man P ≤ 30 := hman
  have hgor : gor ≤ 14 := hgor
  have hwen : ∀ k, wen k < 14 := hwen
  refine lv_iload_n hx hb dX2_hasRoom_0 rfl (lv_at hl 2 rfl) ?_
  refine lv_istore_n (lv' := [(3, .int more), (0, .ref (q 0)), (1, .int (nI (hd))), (2, .int more)]) hx hb dX2_hasRoom_1 rfl hl (by decide) rfl (fun ls hl => ?_)
  refine lv_iconst (v := 0) hx hb dX2_hasRoom_2 (by decide) ?_
  refine lv_istore (lv' := [(4, .int 0), (3, .int more), (0, .ref (q 0)), (1, .int (nI (hd))), (2, .int more)]) hx hb dX2_hasRoom_3 hl (by decide) rfl (fun ls hl => ?_)
  refine loopW (N := n) (k0 := 0) (fun k ls => lv_has ls 5 [(0, .ref (q 0)), (1, .int (nI (hd))), (2, .int more), (3, .int ((rS hol goo hd more k))), (4, .int (nI (k)))]) (Nat.zero_le _) (lv_sub hl [2, 3, 4, 1, 0] rfl) (fun k ls hk_k hI ih_k => ?_)
  have hl := hI
  refine lv_iload hx hb dX2_hasRoom_5 (lv_at hl 4 rfl) ?_
  refine lv_aload_n hx hb dX2_hasRoom_7 rfl (lv_at hl 0 rfl) ?_
  refine gf_2_6 hx hb hts hiX2 hown hK hP hf72 dX2_hasRoom_8 ?_
  refine lv_topE (y := nI (n)) rfl ?_
  refine geN k n (tgt := 44) hx hb rfl rfl (by omega) (by omega) dX2_hasRoom_11 (by decide) (fun c_1 => ?_) (fun c_1 => ?_)
  · skip
    refine lv_iload_n hx hb dX2_hasRoom_44 rfl (lv_at hl 1 rfl) ?_
    refine lv_iconst (v := 4) hx hb dX2_hasRoom_45 (by decide) ?_
    refine ltN hd 4 (tgt := 56) hx hb rfl rfl (by omega) (by omega) dX2_hasRoom_46 (by decide) (fun c_2 => ?_) (fun c_2 => ?_)
    · skip
      refine lv_iconst (v := 1) hx hb dX2_hasRoom_56 (by decide) ?_
      refine lv_goto (tgt := 61) hx hb dX2_hasRoom_57 (by decide) ?_
      exact RET (true) _ _ (congrArg bI ((fun (h9 : k = n) => by subst h9; simp [mrS, c_1, c_2, mThr, mHol, mGoo, mMan, mHel, mGon, mN, mWen, mGor, mKin, mMak, mGod, mAmo, mOth, mIts, mWas, mPrf, mCop, mDec, mFee, mOwe, mTol]) (by omega))) dX2_hasRoom_61
    · skip
      refine lv_iload_n hx hb dX2_hasRoom_49 rfl (lv_at hl 3 rfl) ?_
      refine lv_sipush (v := 200) hx hb dX2_hasRoom_50 (by decide) ?_
      refine lv_icmp_gt (tgt := 60) hx hb dX2_hasRoom_53 (by decide) (fun c_3 => ?_) (fun c_3 => ?_)
      · skip
        refine lv_iconst (v := 0) hx hb dX2_hasRoom_60 (by decide) ?_
        exact RET (false) _ _ (congrArg bI ((fun (h9 : k = n) => by subst h9; simp [mrS, c_1, c_2, c_3, mThr, mHol, mGoo, mMan, mHel, mGon, mN, mWen, mGor, mKin, mMak, mGod, mAmo, mOth, mIts, mWas, mPrf, mCop, mDec, mFee, mOwe, mTol]) (by omega))) dX2_hasRoom_61
      · skip
        refine lv_iconst (v := 1) hx hb dX2_hasRoom_56 (by decide) ?_
        refine lv_goto (tgt := 61) hx hb dX2_hasRoom_57 (by decide) ?_
        exact RET (true) _ _ (congrArg bI ((fun (h9 : k = n) => by subst h9; simp [mrS, c_1, c_2, c_3, mThr, mHol, mGoo, mMan, mHel, mGon, mN, mWen, mGor, mKin, mMak, mGod, mAmo, mOth, mIts, mWas, mPrf, mCop, mDec, mFee, mOwe, mTol]) (by omega))) dX2_hasRoom_61
  · skip
    have h8 := hhol k
    refine lv_iload_n hx hb dX2_hasRoom_14 rfl (lv_at hl 3 rfl) ?_
    refine cutI (x := (if hol k = hd then wS goo k 6 else 0)) (pcM := 36) (st := [.int ((rS hol goo hd more k))]) ?_ (fun J => ?_)
    rotate_left
    · skip
      refine lv_aload_n hx hb dX2_hasRoom_15 rfl (lv_at hl 0 rfl) ?_
      refine gf_2_1 hx hb hts hiX2 hown hK hP hf7 dX2_hasRoom_16 ?_
      refine lv_iload hx hb dX2_hasRoom_19 (lv_at hl 4 rfl) ?_
      refine mld_1 (k := k) (v := hol k) hx hb hK hP rfl (by omega) rfl dX2_hasRoom_21 ?_
      refine lv_iload_n hx hb dX2_hasRoom_22 rfl (lv_at hl 1 rfl) ?_
      refine neN (hol k) hd (tgt := 35) hx hb rfl rfl (by omega) (by omega) dX2_hasRoom_23 (by decide) (fun c_4 => ?_) (fun c_4 => ?_)
      · skip
        refine lv_iconst (v := 0) hx hb dX2_hasRoom_35 (by decide) ?_
        exact J _ (by simp [c_1, c_4, mThr, mHol, mGoo, mMan, mHel, mGon, mN, mWen, mGor, mKin, mMak, mGod, mAmo, mOth, mIts, mWas, mPrf, mCop, mDec, mFee, mOwe, mTol])
      · skip
        refine lv_aload_n hx hb dX2_hasRoom_26 rfl (lv_at hl 0 rfl) ?_
        refine lv_iload hx hb dX2_hasRoom_27 (lv_at hl 4 rfl) ?_
        refine r_callE (x := (wS goo k 6)) (va_runV (As := [.int (nI (k))]) (rest := [.int ((rS hol goo hd more k))]) ⟨hx, hb, hml, hown, hts⟩ (c_X2_weight l D cI cZ q (thr, hol, goo, man, hel, gon, n, wen, gor, kin, mak, god, amo, oth, its, was, prf, cop, dec, fee, owe, tol) k (by omega)) (cwV 1 hts gX2_hasRoom_X2_weight rfl rfl rfl kd_X2_weight ⟨Nat.le_of_ble_eq_true rfl, Nat.le_of_ble_eq_true rfl⟩) (pV_M hP hK) rfl rfl hl.1 rfl (lv_room (Nat.le_of_ble_eq_true rfl)) dX2_hasRoom_29 ⟨Nat.le_of_ble_eq_true rfl, Nat.le_of_ble_eq_true rfl⟩) ?_
        refine lv_goto (tgt := 36) hx hb dX2_hasRoom_32 (by decide) ?_
        exact J _ (by simp [c_1, c_4, mThr, mHol, mGoo, mMan, mHel, mGon, mN, mWen, mGor, mKin, mMak, mGod, mAmo, mOth, mIts, mWas, mPrf, mCop, mDec, mFee, mOwe, mTol])
    refine lv_iadd hx hb dX2_hasRoom_36 ?_
    refine lv_istore_n (lv' := [(3, .int (((rS hol goo hd more k) + (if hol k = hd then wS goo k 6 else 0)))), (0, .ref (q 0)), (1, .int (nI (hd))), (2, .int more), (4, .int (nI (k)))]) hx hb dX2_hasRoom_37 rfl hl (by decide) rfl (fun ls hl => ?_)
    refine lv_iinc (v := nI (k + 1)) (lv' := [(4, .int (nI (k + 1))), (3, .int (((rS hol goo hd more k) + (if hol k = hd then wS goo k 6 else 0)))), (0, .ref (q 0)), (1, .int (nI (hd))), (2, .int more)]) hx hb dX2_hasRoom_38 hl (k := 4) rfl (iincN (k)) (by decide) rfl (fun ls hl => ?_)
    refine lv_goto (tgt := 5) hx hb dX2_hasRoom_41 (by decide) ?_
    exact ih_k (by omega) _ (lv_sub hl [2, 3, 4, 1, 0] rfl)
theorem kn_X2_holds : yX2_holds.cls ≠ "java/lang/invoke/MethodHandle" ∧ yX2_holds.cls ≠ "java/lang/invoke/VarHandle" ∧ (parseMethodDescriptor yX2_holds.desc).map (fun d => d.parameters.length) = some 1 := by decide +kernel
theorem kd_X2_holds : yX2_holds.cls = RX2 ∧ yX2_holds.cls ≠ "java/lang/invoke/MethodHandle" ∧ yX2_holds.cls ≠ "java/lang/invoke/VarHandle" ∧ (parseMethodDescriptor yX2_holds.desc).map (fun d => d.parameters.length) = some 1 := by decide +kernel
set_option maxHeartbeats 4000000 in
set_option maxRecDepth 100000 in
theorem c_X2_holds (l : Launch) (D : va_G) (cI cZ : ClassId) (q : Nat → Nat) (σ : SM) (hq : ijQ 20 q) (x : Int32) : Met l yX2_holds wsX2_holds ({ frames := 0, cells := 0, slots := 0, locals := 0 }) (va_Pc [.ref (q 0), .int x] (PM D cI cZ q σ)) (wQ (adQ 20 q) (fun v H1 => v = some (.int (bI (decide (x = 0)))) ∧ va_P D vwCl (wM cI cZ q (msThr σ x)) H1)) 0 0 (adQ 20 q) := by
  refine openY (cc := cX2_holds) (maxL := 2) (by decide) rfl (Nat.le_of_ble_eq_true rfl) ?_
  intro p e s m args below meth c hx hb hml hts hown hpre Q RET ls hl
  have hown : s.vm.findClass RX2 = some m.cls := hown
  have hl : lv_has ls 2 [(0, .ref (q 0)), (1, .int x)] := hl
  obtain ⟨hP, hK⟩ := hpre
  have hS : va_S (adQ 20 q) s.heap s.heap [] := va_S.rf
  have hiX2 : ∀ w ∈ wsX20, w ∈ wsX2_holds := by decide +kernel
  have hf68 := hts (.fieldLink RX2 68 "PalletGramModel" "thrown" "I") (by decide +kernel)
  obtain ⟨thr, hol, goo, man, hel, gon, n, wen, gor, kin, mak, god, amo, oth, its, was, prf, cop, dec, fee, owe, tol⟩ := σ
  refine lv_aload_n hx hb dX2_holds_0 rfl (lv_at hl 0 rfl) ?_
  refine lv_iload_n hx hb dX2_holds_1 rfl (lv_at hl 1 rfl) ?_
  refine gp_2_0 (v := x) hx hb hts hiX2 hown hK hP hq hS hf68 dX2_holds_2 (fun H locs hP hS => ?_)
  have hP : va_P D vwCl (wM cI cZ q (x, hol, goo, man, hel, gon, n, wen, gor, kin, mak, god, amo, oth, its, was, prf, cop, dec, fee, owe, tol)) H := hP
  refine lv_iload_n hx hb dX2_holds_5 rfl (lv_at hl 1 rfl) ?_
  refine lv_if_ne (tgt := 13) hx hb dX2_holds_6 (by decide) (fun c_1 => ?_) (fun c_1 => ?_)
  · skip
    refine lv_iconst (v := 0) hx hb dX2_holds_13 (by decide) ?_
    exact RET (false) _ _ _ _ (⟨congrArg (fun b => some (Value.int (bI b))) (by simp [c_1]), hP⟩) hS dX2_holds_14
  · skip
    refine lv_iconst (v := 1) hx hb dX2_holds_9 (by decide) ?_
    refine lv_goto (tgt := 14) hx hb dX2_holds_10 (by decide) ?_
    exact RET (true) _ _ _ _ (⟨congrArg (fun b => some (Value.int (bI b))) (by simp [c_1]), hP⟩) hS dX2_holds_14
theorem kn_X2_makes : yX2_makes.cls ≠ "java/lang/invoke/MethodHandle" ∧ yX2_makes.cls ≠ "java/lang/invoke/VarHandle" ∧ (parseMethodDescriptor yX2_makes.desc).map (fun d => d.parameters.length) = some 1 := by decide +kernel
theorem kd_X2_makes : yX2_makes.cls = RX2 ∧ yX2_makes.cls ≠ "java/lang/invoke/MethodHandle" ∧ yX2_makes.cls ≠ "java/lang/invoke/VarHandle" ∧ (parseMethodDescriptor yX2_makes.desc).map (fun d => d.parameters.length) = some 1 := by decide +kernel
set_option maxHeartbeats 4000000 in
set_option maxRecDepth 100000 in
theorem c_X2_makes (l : Launch) (D : va_G) (cI cZ : ClassId) (q : Nat → Nat) (σ : SM) (hq : ijQ 20 q) (hd : Nat) (hn14 : mN σ < 14) : Met l yX2_makes wsX2_makes ({ frames := 0, cells := 0, slots := 0, locals := 0 }) (va_Pc [.ref (q 0), .int (nI (hd))] (PM D cI cZ q σ)) (wQ (adQ 20 q) (fun v H1 => v = some (.int (nI (mN σ))) ∧ va_P D vwCl (wM cI cZ q (mtF σ hd)) H1)) 0 0 (adQ 20 q) := by
  refine openW (cc := cX2_makes) (maxL := 3) (by decide) rfl (Nat.le_of_ble_eq_true rfl) ?_
  intro p e s m args below meth c hx hb hml hts hown hpre Q RET ls hl
  have hown : s.vm.findClass RX2 = some m.cls := hown
  have hl : lv_has ls 3 [(0, .ref (q 0)), (1, .int (nI (hd)))] := hl
  obtain ⟨hP, hK⟩ := hpre
  have hS : va_S (adQ 20 q) s.heap s.heap [] := va_S.rf
  have hiX2 : ∀ w ∈ wsX20, w ∈ wsX2_makes := by decide +kernel
  have hf72 := hts (.fieldLink RX2 72 "PalletGramModel" "pallets" "I") (by decide +kernel)
  have hf7 := hts (.fieldLink RX2 7 "PalletGramModel" "holder" "[I") (by decide +kernel)
  obtain ⟨thr, hol, goo, man, hel, gon, n, wen, gor, kin, mak, god, amo, oth, its, was, prf, cop, dec, fee, owe, tol⟩ := σ
  have hn14 : n < 14 := hn14
  refine lv_aload_n hx hb dX2_makes_0 rfl (lv_at hl 0 rfl) ?_
  refine gf_2_6 hx hb hts hiX2 hown hK hP hf72 dX2_makes_1 ?_
  refine lv_topE (y := nI (n)) rfl ?_
  refine lv_istore_n (lv' := [(2, .int (nI (n))), (0, .ref (q 0)), (1, .int (nI (hd)))]) hx hb dX2_makes_4 rfl hl (by decide) rfl (fun ls hl => ?_)
  refine lv_aload_n hx hb dX2_makes_5 rfl (lv_at hl 1 rfl) ?_
  refine gf_2_1 hx hb hts hiX2 hown hK hP hf7 dX2_makes_6 ?_
  refine lv_iload_n hx hb dX2_makes_9 rfl (lv_at hl 0 rfl) ?_
  refine lv_iload_n hx hb dX2_makes_10 rfl (lv_at hl 2 rfl) ?_
  refine mst_1 (k := n) (x := hd) hx hb hK hP hq hS rfl (by omega) dX2_makes_11 (fun hol_1 e_hol_1 H locs hP hS => ?_)
  have hP : va_P D vwCl (wM cI cZ q (thr, hol_1, goo, man, hel, gon, n, wen, gor, kin, mak, god, amo, oth, its, was, prf, cop, dec, fee, owe, tol)) H := hP
  refine lv_aload_n hx hb dX2_makes_12 rfl (lv_at hl 1 rfl) ?_
  refine lv_dup hx hb dX2_makes_13 rfl ?_
  refine gf_2_6 hx hb hts hiX2 hown hK hP hf72 dX2_makes_14 ?_
  refine lv_topE (y := nI (n)) rfl ?_
  refine lv_iconst (v := 1) hx hb dX2_makes_17 (by decide) ?_
  refine addN n 1 hx hb rfl rfl dX2_makes_18 ?_
  refine gp_2_6 (v := n + 1) hx hb hts hiX2 hown hK hP hq hS hf72 dX2_makes_19 (fun H locs hP hS => ?_)
  have hP : va_P D vwCl (wM cI cZ q (thr, hol_1, goo, man, hel, gon, (n + 1), wen, gor, kin, mak, god, amo, oth, its, was, prf, cop, dec, fee, owe, tol)) H := hP
  refine lv_iload_n hx hb dX2_makes_22 rfl (lv_at hl 0 rfl) ?_
  exact RET _ _ _ _ _ (⟨rfl, by subst e_hol_1; exact hP⟩) hS dX2_makes_23
theorem kn_X2_writes : yX2_writes.cls ≠ "java/lang/invoke/MethodHandle" ∧ yX2_writes.cls ≠ "java/lang/invoke/VarHandle" ∧ (parseMethodDescriptor yX2_writes.desc).map (fun d => d.parameters.length) = some 6 := by decide +kernel
theorem kd_X2_writes : yX2_writes.cls = RX2 ∧ yX2_writes.cls ≠ "java/lang/invoke/MethodHandle" ∧ yX2_writes.cls ≠ "java/lang/invoke/VarHandle" ∧ (parseMethodDescriptor yX2_writes.desc).map (fun d => d.parameters.length) = some 6 := by decide +kernel
set_option maxHeartbeats 4000000 in
set_option maxRecDepth 100000 in
theorem c_X2_writes (l : Launch) (D : va_G) (cI cZ : ClassId) (q : Nat → Nat) (σ : SM) (hq : ijQ 20 q) (P kd : Nat) (g a o i : Int32) (hP14 : P < 14) (hkd : kd < 10) (hhol : ∀ P, mHol σ P < 6) (hE9 : mMan σ P < 30) : Met l yX2_writes wsX2_writes ({ frames := 1, cells := 0, slots := 0, locals := 24 }) (va_Pc [.ref (q 0), .int (nI (P)), .int (nI (kd)), .int g, .int a, .int o, .int i] (PM D cI cZ q σ)) (wQ (adQ 20 q) (fun v H1 => v = none ∧ va_P D vwCl (wM cI cZ q (mwF σ P kd g a o i)) H1)) 0 0 (adQ 20 q) := by
  refine openV (cc := cX2_writes) (maxL := 9) (by decide) rfl (Nat.le_of_ble_eq_true rfl) ?_
  intro p e s m args below meth c hx hb hml hts hown hpre Q RET ls hl
  have hown : s.vm.findClass RX2 = some m.cls := hown
  have hl : lv_has ls 9 [(0, .ref (q 0)), (1, .int (nI (P))), (2, .int (nI (kd))), (3, .int g), (4, .int a), (5, .int o), (6, .int i)] := hl
  obtain ⟨hP, hK⟩ := hpre
  have hS : va_S (adQ 20 q) s.heap s.heap [] := va_S.rf
  have hiX2 : ∀ w ∈ wsX20, w ∈ wsX2_writes := by decide +kernel
  have hf16 := hts (.fieldLink RX2 16 "PalletGramModel" "many" "[I") (by decide +kernel)
  have hf7 := hts (.fieldLink RX2 7 "PalletGramModel" "holder" "[I") (by decide +kernel)
  have hf29 := hts (.fieldLink RX2 29 "PalletGramModel" "kind" "[I") (by decide +kernel)
  have hf32 := hts (.fieldLink RX2 32 "PalletGramModel" "maker" "[I") (by decide +kernel)
  have hf35 := hts (.fieldLink RX2 35 "PalletGramModel" "good" "[I") (by decide +kernel)
  have hf38 := hts (.fieldLink RX2 38 "PalletGramModel" "amount" "[I") (by decide +kernel)
  have hf41 := hts (.fieldLink RX2 41 "PalletGramModel" "other" "[I") (by decide +kernel)
  have hf44 := hts (.fieldLink RX2 44 "PalletGramModel" "its" "[I") (by decide +kernel)
  have hf47 := hts (.fieldLink RX2 47 "PalletGramModel" "was" "[I") (by decide +kernel)
  have hf50 := hts (.fieldLink RX2 50 "PalletGramModel" "proof" "[I") (by decide +kernel)
  have hf53 := hts (.fieldLink RX2 53 "PalletGramModel" "copies" "[I") (by decide +kernel)
  have hf62 := hts (.fieldLink RX2 62 "PalletGramModel" "owed" "[I") (by decide +kernel)
  have hf59 := hts (.fieldLink RX2 59 "PalletGramModel" "fee" "[I") (by decide +kernel)
  obtain ⟨thr, hol, goo, man, hel, gon, n, wen, gor, kin, mak, god, amo, oth, its, was, prf, cop, dec, fee, owe, tol⟩ := σ
  have hhol : ∀ P, hol P < 6 := hhol
  have hE9 : man P < 30 := hE9
  have hm7 : mkF kd (hol P) < 7 := mkF_lt (hhol P)
  refine lv_bipush (v := 30) hx hb dX2_writes_0 (by decide) ?_
  refine lv_iload_n hx hb dX2_writes_2 rfl (lv_at hl 1 rfl) ?_
  refine mulNc 30 P hx hb rfl rfl dX2_writes_3 ?_
  refine lv_aload_n hx hb dX2_writes_4 rfl (lv_at hl 0 rfl) ?_
  refine gf_2_3 hx hb hts hiX2 hown hK hP hf16 dX2_writes_5 ?_
  refine lv_iload_n hx hb dX2_writes_8 rfl (lv_at hl 1 rfl) ?_
  refine mld_3 (k := P) (v := man P) hx hb hK hP rfl (by omega) rfl dX2_writes_9 ?_
  refine addN (P * 30) (man P) hx hb rfl rfl dX2_writes_10 ?_
  refine lv_istore (lv' := [(7, .int (nI ((P * 30) + (man P)))), (0, .ref (q 0)), (1, .int (nI (P))), (2, .int (nI (kd))), (3, .int g), (4, .int a), (5, .int o), (6, .int i)]) hx hb dX2_writes_11 hl (by decide) rfl (fun ls hl => ?_)
  refine cutI (x := nI (mkF kd (hol P))) (pcM := 36) (st := []) ?_ (fun J => ?_)
  rotate_left
  · skip
    refine lv_iload_n hx hb dX2_writes_13 rfl (lv_at hl 3 rfl) ?_
    refine lv_bipush (v := 8) hx hb dX2_writes_14 (by decide) ?_
    refine eqN kd 8 (tgt := 25) hx hb rfl rfl (by omega) (by omega) dX2_writes_16 (by decide) (fun c_1 => ?_) (fun c_1 => ?_)
    · skip
      refine lv_bipush (v := 6) hx hb dX2_writes_25 (by decide) ?_
      refine lv_goto (tgt := 36) hx hb dX2_writes_27 (by decide) ?_
      exact J _ (congrArg nI (by simp [mkF, c_1]))
    · skip
      refine lv_iload_n hx hb dX2_writes_19 rfl (lv_at hl 3 rfl) ?_
      refine lv_bipush (v := 9) hx hb dX2_writes_20 (by decide) ?_
      refine neN kd 9 (tgt := 30) hx hb rfl rfl (by omega) (by omega) dX2_writes_22 (by decide) (fun c_2 => ?_) (fun c_2 => ?_)
      · skip
        refine lv_aload_n hx hb dX2_writes_30 rfl (lv_at hl 1 rfl) ?_
        refine gf_2_1 hx hb hts hiX2 hown hK hP hf7 dX2_writes_31 ?_
        refine lv_iload_n hx hb dX2_writes_34 rfl (lv_at hl 2 rfl) ?_
        refine mld_1 (k := P) (v := hol P) hx hb hK hP rfl (by omega) rfl dX2_writes_35 ?_
        exact J _ (congrArg nI (by simp [mkF, c_1, c_2]))
      · skip
        refine lv_bipush (v := 6) hx hb dX2_writes_25 (by decide) ?_
        refine lv_goto (tgt := 36) hx hb dX2_writes_27 (by decide) ?_
        exact J _ (congrArg nI (by simp [mkF, c_1, c_2]))
  refine lv_istore (lv' := [(8, .int (nI (mkF kd (hol P)))), (7, .int (nI ((P * 30) + (man P)))), (0, .ref (q 0)), (1, .int (nI (P))), (2, .int (nI (kd))), (3, .int g), (4, .int a), (5, .int o), (6, .int i)]) hx hb dX2_writes_36 hl (by decide) rfl (fun ls hl => ?_)
  refine lv_aload_n hx hb dX2_writes_38 rfl (lv_at hl 2 rfl) ?_
  refine gf_2_9 hx hb hts hiX2 hown hK hP hf29 dX2_writes_39 ?_
  refine lv_iload hx hb dX2_writes_42 (lv_at hl 1 rfl) ?_
  refine lv_iload_n hx hb dX2_writes_44 rfl (lv_at hl 4 rfl) ?_
  refine mst_7 (k := P * 30 + (man P)) (x := nI (kd)) hx hb hK hP hq hS rfl (by omega) dX2_writes_45 (fun kin_3 e_kin_3 H locs hP hS => ?_)
  have hP : va_P D vwCl (wM cI cZ q (thr, hol, goo, man, hel, gon, n, wen, gor, kin_3, mak, god, amo, oth, its, was, prf, cop, dec, fee, owe, tol)) H := hP
  refine lv_aload_n hx hb dX2_writes_46 rfl (lv_at hl 2 rfl) ?_
  refine gf_2_10 hx hb hts hiX2 hown hK hP hf32 dX2_writes_47 ?_
  refine lv_iload hx hb dX2_writes_50 (lv_at hl 1 rfl) ?_
  refine lv_iload hx hb dX2_writes_52 (lv_at hl 0 rfl) ?_
  refine mst_8 (k := P * 30 + (man P)) (x := nI (mkF kd (hol P))) hx hb hK hP hq hS rfl (by omega) dX2_writes_54 (fun mak_4 e_mak_4 H locs hP hS => ?_)
  have hP : va_P D vwCl (wM cI cZ q (thr, hol, goo, man, hel, gon, n, wen, gor, kin_3, mak_4, god, amo, oth, its, was, prf, cop, dec, fee, owe, tol)) H := hP
  refine lv_aload_n hx hb dX2_writes_55 rfl (lv_at hl 2 rfl) ?_
  refine gf_2_11 hx hb hts hiX2 hown hK hP hf35 dX2_writes_56 ?_
  refine lv_iload hx hb dX2_writes_59 (lv_at hl 1 rfl) ?_
  refine lv_iload_n hx hb dX2_writes_61 rfl (lv_at hl 5 rfl) ?_
  refine mst_9 (k := P * 30 + (man P)) (x := g) hx hb hK hP hq hS rfl (by omega) dX2_writes_62 (fun god_5 e_god_5 H locs hP hS => ?_)
  have hP : va_P D vwCl (wM cI cZ q (thr, hol, goo, man, hel, gon, n, wen, gor, kin_3, mak_4, god_5, amo, oth, its, was, prf, cop, dec, fee, owe, tol)) H := hP
  refine lv_aload_n hx hb dX2_writes_63 rfl (lv_at hl 2 rfl) ?_
  refine gf_2_12 hx hb hts hiX2 hown hK hP hf38 dX2_writes_64 ?_
  refine lv_iload hx hb dX2_writes_67 (lv_at hl 1 rfl) ?_
  refine lv_iload hx hb dX2_writes_69 (lv_at hl 6 rfl) ?_
  refine mst_10 (k := P * 30 + (man P)) (x := a) hx hb hK hP hq hS rfl (by omega) dX2_writes_71 (fun amo_6 e_amo_6 H locs hP hS => ?_)
  have hP : va_P D vwCl (wM cI cZ q (thr, hol, goo, man, hel, gon, n, wen, gor, kin_3, mak_4, god_5, amo_6, oth, its, was, prf, cop, dec, fee, owe, tol)) H := hP
  refine lv_aload_n hx hb dX2_writes_72 rfl (lv_at hl 2 rfl) ?_
  refine gf_2_13 hx hb hts hiX2 hown hK hP hf41 dX2_writes_73 ?_
  refine lv_iload hx hb dX2_writes_76 (lv_at hl 1 rfl) ?_
  refine lv_iload hx hb dX2_writes_78 (lv_at hl 7 rfl) ?_
  refine mst_11 (k := P * 30 + (man P)) (x := o) hx hb hK hP hq hS rfl (by omega) dX2_writes_80 (fun oth_7 e_oth_7 H locs hP hS => ?_)
  have hP : va_P D vwCl (wM cI cZ q (thr, hol, goo, man, hel, gon, n, wen, gor, kin_3, mak_4, god_5, amo_6, oth_7, its, was, prf, cop, dec, fee, owe, tol)) H := hP
  refine lv_aload_n hx hb dX2_writes_81 rfl (lv_at hl 2 rfl) ?_
  refine gf_2_14 hx hb hts hiX2 hown hK hP hf44 dX2_writes_82 ?_
  refine lv_iload hx hb dX2_writes_85 (lv_at hl 1 rfl) ?_
  refine lv_iload hx hb dX2_writes_87 (lv_at hl 8 rfl) ?_
  refine mst_12 (k := P * 30 + (man P)) (x := i) hx hb hK hP hq hS rfl (by omega) dX2_writes_89 (fun its_8 e_its_8 H locs hP hS => ?_)
  have hP : va_P D vwCl (wM cI cZ q (thr, hol, goo, man, hel, gon, n, wen, gor, kin_3, mak_4, god_5, amo_6, oth_7, its_8, was, prf, cop, dec, fee, owe, tol)) H := hP
  refine lv_aload_n hx hb dX2_writes_90 rfl (lv_at hl 2 rfl) ?_
  refine gf_2_15 hx hb hts hiX2 hown hK hP hf47 dX2_writes_91 ?_
  refine lv_iload hx hb dX2_writes_94 (lv_at hl 1 rfl) ?_
  refine lv_iload hx hb dX2_writes_96 (lv_at hl 6 rfl) ?_
  refine mst_13 (k := P * 30 + (man P)) (x := a) hx hb hK hP hq hS rfl (by omega) dX2_writes_98 (fun was_9 e_was_9 H locs hP hS => ?_)
  have hP : va_P D vwCl (wM cI cZ q (thr, hol, goo, man, hel, gon, n, wen, gor, kin_3, mak_4, god_5, amo_6, oth_7, its_8, was_9, prf, cop, dec, fee, owe, tol)) H := hP
  refine lv_aload_n hx hb dX2_writes_99 rfl (lv_at hl 2 rfl) ?_
  refine gf_2_16 hx hb hts hiX2 hown hK hP hf50 dX2_writes_100 ?_
  refine lv_iload hx hb dX2_writes_103 (lv_at hl 1 rfl) ?_
  refine lv_aload_n hx hb dX2_writes_105 rfl (lv_at hl 2 rfl) ?_
  refine lv_iload_n hx hb dX2_writes_106 rfl (lv_at hl 3 rfl) ?_
  refine lv_aload_n hx hb dX2_writes_107 rfl (lv_at hl 2 rfl) ?_
  refine gf_2_3 hx hb hts hiX2 hown hK hP hf16 dX2_writes_108 ?_
  refine lv_iload_n hx hb dX2_writes_111 rfl (lv_at hl 3 rfl) ?_
  refine mld_3 (k := P) (v := man P) hx hb hK hP rfl (by omega) rfl dX2_writes_112 ?_
  refine r_callE (x := (mpF (thr, hol, goo, man, hel, gon, n, wen, gor, kin_3, mak_4, god_5, amo_6, oth_7, its_8, was_9, prf, cop, dec, fee, owe, tol) P (man P))) (va_runV (As := [.int (nI (P)), .int (nI (man P))]) (rest := [.int (nI ((P * 30) + (man P))), .ref (q 14)]) ⟨hx, hb, hml, hown, hts⟩ (c_X2_proofOf l D cI cZ q (thr, hol, goo, man, hel, gon, n, wen, gor, kin_3, mak_4, god_5, amo_6, oth_7, its_8, was_9, prf, cop, dec, fee, owe, tol) P (man P) (by omega) (by omega)) (cwV 2 hts gX2_writes_X2_proofOf rfl rfl rfl kd_X2_proofOf ⟨Nat.le_of_ble_eq_true rfl, Nat.le_of_ble_eq_true rfl⟩) (pV_M hP hK) rfl rfl hl.1 rfl (lv_room (Nat.le_of_ble_eq_true rfl)) dX2_writes_113 ⟨Nat.le_of_ble_eq_true rfl, Nat.le_of_ble_eq_true rfl⟩) ?_
  refine mst_14 (k := P * 30 + (man P)) (x := (mpF (thr, hol, goo, man, hel, gon, n, wen, gor, kin_3, mak_4, god_5, amo_6, oth_7, its_8, was_9, prf, cop, dec, fee, owe, tol) P (man P))) hx hb hK hP hq hS rfl (by omega) dX2_writes_116 (fun prf_10 e_prf_10 H locs hP hS => ?_)
  have hP : va_P D vwCl (wM cI cZ q (thr, hol, goo, man, hel, gon, n, wen, gor, kin_3, mak_4, god_5, amo_6, oth_7, its_8, was_9, prf_10, cop, dec, fee, owe, tol)) H := hP
  refine lv_aload_n hx hb dX2_writes_117 rfl (lv_at hl 2 rfl) ?_
  refine gf_2_17 hx hb hts hiX2 hown hK hP hf53 dX2_writes_118 ?_
  refine lv_iload hx hb dX2_writes_121 (lv_at hl 1 rfl) ?_
  refine lv_iconst (v := 1) hx hb dX2_writes_123 (by decide) ?_
  refine lv_iload hx hb dX2_writes_124 (lv_at hl 0 rfl) ?_
  refine lv_ishl hx hb dX2_writes_126 ?_
  refine cutI (x := (cwF kd a)) (pcM := 156) (st := [.int ((1 <<< (nI (mkF kd (hol P)) &&& 31))), .int (nI ((P * 30) + (man P))), .ref (q 15)]) ?_ (fun J => ?_)
  rotate_left
  · skip
    refine lv_iload_n hx hb dX2_writes_127 rfl (lv_at hl 4 rfl) ?_
    refine lv_bipush (v := 7) hx hb dX2_writes_128 (by decide) ?_
    refine neN kd 7 (tgt := 140) hx hb rfl rfl (by omega) (by omega) dX2_writes_130 (by decide) (fun c_11 => ?_) (fun c_11 => ?_)
    · skip
      refine lv_iload_n hx hb dX2_writes_140 rfl (lv_at hl 4 rfl) ?_
      refine lv_iconst (v := 3) hx hb dX2_writes_141 (by decide) ?_
      refine eqN kd 3 (tgt := 150) hx hb rfl rfl (by omega) (by omega) dX2_writes_142 (by decide) (fun c_12 => ?_) (fun c_12 => ?_)
      · skip
        refine lv_bipush (v := 64) hx hb dX2_writes_150 (by decide) ?_
        refine lv_goto (tgt := 156) hx hb dX2_writes_152 (by decide) ?_
        exact J _ (by simp [cwF, c_11, c_12])
      · skip
        refine lv_iload_n hx hb dX2_writes_145 rfl (lv_at hl 4 rfl) ?_
        refine lv_iconst (v := 5) hx hb dX2_writes_146 (by decide) ?_
        refine neN kd 5 (tgt := 155) hx hb rfl rfl (by omega) (by omega) dX2_writes_147 (by decide) (fun c_13 => ?_) (fun c_13 => ?_)
        · skip
          refine lv_iconst (v := 0) hx hb dX2_writes_155 (by decide) ?_
          exact J _ (by simp [cwF, c_11, c_12, c_13])
        · skip
          refine lv_bipush (v := 64) hx hb dX2_writes_150 (by decide) ?_
          refine lv_goto (tgt := 156) hx hb dX2_writes_152 (by decide) ?_
          exact J _ (by simp [cwF, c_11, c_12, c_13])
    · skip
      refine lv_iconst (v := 1) hx hb dX2_writes_133 (by decide) ?_
      refine lv_iload hx hb dX2_writes_134 (lv_at hl 6 rfl) ?_
      refine lv_ishl hx hb dX2_writes_136 ?_
      refine lv_goto (tgt := 156) hx hb dX2_writes_137 (by decide) ?_
      exact J _ (by simp [cwF, c_11])
  refine lv_ior hx hb dX2_writes_156 ?_
  refine mst_15 (k := P * 30 + (man P)) (x := ((1 <<< (nI (mkF kd (hol P)) &&& 31)) ||| (cwF kd a))) hx hb hK hP hq hS rfl (by omega) dX2_writes_157 (fun cop_14 e_cop_14 H locs hP hS => ?_)
  have hP : va_P D vwCl (wM cI cZ q (thr, hol, goo, man, hel, gon, n, wen, gor, kin_3, mak_4, god_5, amo_6, oth_7, its_8, was_9, prf_10, cop_14, dec, fee, owe, tol)) H := hP
  refine lv_aload_n hx hb dX2_writes_158 rfl (lv_at hl 2 rfl) ?_
  refine gf_2_3 hx hb hts hiX2 hown hK hP hf16 dX2_writes_159 ?_
  refine lv_iload_n hx hb dX2_writes_162 rfl (lv_at hl 3 rfl) ?_
  refine lv_dup2_11 hx hb dX2_writes_163 rfl rfl ?_
  refine mld_3 (k := P) (v := man P) hx hb hK hP rfl (by omega) rfl dX2_writes_164 ?_
  refine lv_iconst (v := 1) hx hb dX2_writes_165 (by decide) ?_
  refine addN (man P) 1 hx hb rfl rfl dX2_writes_166 ?_
  refine mst_3 (k := P) (x := (man P) + 1) hx hb hK hP hq hS rfl (by omega) dX2_writes_167 (fun man_15 e_man_15 H locs hP hS => ?_)
  have hP : va_P D vwCl (wM cI cZ q (thr, hol, goo, man_15, hel, gon, n, wen, gor, kin_3, mak_4, god_5, amo_6, oth_7, its_8, was_9, prf_10, cop_14, dec, fee, owe, tol)) H := hP
  refine lv_aload_n hx hb dX2_writes_168 rfl (lv_at hl 2 rfl) ?_
  refine gf_2_20 hx hb hts hiX2 hown hK hP hf62 dX2_writes_169 ?_
  refine lv_iload hx hb dX2_writes_172 (lv_at hl 0 rfl) ?_
  refine lv_dup2_11 hx hb dX2_writes_174 rfl rfl ?_
  refine mld_18 (k := mkF kd (hol P)) (v := owe (mkF kd (hol P))) hx hb hK hP rfl (by omega) rfl dX2_writes_175 ?_
  refine lv_aload_n hx hb dX2_writes_176 rfl (lv_at hl 2 rfl) ?_
  refine gf_2_19 hx hb hts hiX2 hown hK hP hf59 dX2_writes_177 ?_
  refine lv_iload_n hx hb dX2_writes_180 rfl (lv_at hl 4 rfl) ?_
  refine mld_17 (k := kd) (v := fee kd) hx hb hK hP rfl (by omega) rfl dX2_writes_181 ?_
  refine lv_iadd hx hb dX2_writes_182 ?_
  refine mst_18 (k := mkF kd (hol P)) (x := ((owe (mkF kd (hol P))) + (fee kd))) hx hb hK hP hq hS rfl (by omega) dX2_writes_183 (fun owe_16 e_owe_16 H locs hP hS => ?_)
  have hP : va_P D vwCl (wM cI cZ q (thr, hol, goo, man_15, hel, gon, n, wen, gor, kin_3, mak_4, god_5, amo_6, oth_7, its_8, was_9, prf_10, cop_14, dec, fee, owe_16, tol)) H := hP
  exact RET _ _ _ _ (⟨rfl, by subst e_kin_3 e_mak_4 e_god_5 e_amo_6 e_oth_7 e_its_8 e_was_9 e_prf_10 e_cop_14 e_man_15 e_owe_16; exact hP⟩) hS dX2_writes_184
theorem kn_X2_papers : yX2_papers.cls ≠ "java/lang/invoke/MethodHandle" ∧ yX2_papers.cls ≠ "java/lang/invoke/VarHandle" ∧ (parseMethodDescriptor yX2_papers.desc).map (fun d => d.parameters.length) = some 2 := by decide +kernel
theorem kd_X2_papers : yX2_papers.cls = RX2 ∧ yX2_papers.cls ≠ "java/lang/invoke/MethodHandle" ∧ yX2_papers.cls ≠ "java/lang/invoke/VarHandle" ∧ (parseMethodDescriptor yX2_papers.desc).map (fun d => d.parameters.length) = some 2 := by decide +kernel
set_option maxHeartbeats 4000000 in
set_option maxRecDepth 100000 in
theorem c_X2_papers (l : Launch) (D : va_G) (cI cZ : ClassId) (q : Nat → Nat) (σ : SM) (P : Nat) (g : Int32) (hP14 : P < 14) (hman : ∀ P, mMan σ P ≤ 30) (hoth : othM σ) : Met l yX2_papers wsX2_papers ({ frames := 0, cells := 0, slots := 0, locals := 0 }) (va_Pc [.ref (q 0), .int (nI (P)), .int g] (PM D cI cZ q σ)) (rQ (fun r => r = ppC (mKin σ) (mGod σ) (mAmo σ) (mOth σ) (mMan σ) (mTol σ) P g)) 0 0 noF := by
  refine openR (cc := cX2_papers) (maxL := 6) (by decide) rfl (Nat.le_of_ble_eq_true rfl) ?_
  intro p e s m args below meth c hx hb hml hts hown hpre Q RET ls hl
  have hown : s.vm.findClass RX2 = some m.cls := hown
  have hl : lv_has ls 6 [(0, .ref (q 0)), (1, .int (nI (P))), (2, .int g)] := hl
  obtain ⟨hP, hK⟩ := hpre
  have hiX2 : ∀ w ∈ wsX20, w ∈ wsX2_papers := by decide +kernel
  have hf16 := hts (.fieldLink RX2 16 "PalletGramModel" "many" "[I") (by decide +kernel)
  have hf29 := hts (.fieldLink RX2 29 "PalletGramModel" "kind" "[I") (by decide +kernel)
  have hf35 := hts (.fieldLink RX2 35 "PalletGramModel" "good" "[I") (by decide +kernel)
  have hf38 := hts (.fieldLink RX2 38 "PalletGramModel" "amount" "[I") (by decide +kernel)
  have hf65 := hts (.fieldLink RX2 65 "PalletGramModel" "told" "[I") (by decide +kernel)
  have hf41 := hts (.fieldLink RX2 41 "PalletGramModel" "other" "[I") (by decide +kernel)
  obtain ⟨thr, hol, goo, man, hel, gon, n, wen, gor, kin, mak, god, amo, oth, its, was, prf, cop, dec, fee, owe, tol⟩ := σ
  have hman : ∀ P, man P ≤ 30 := hman
  have hoth : ∀ r, (kin r = 5 ∨ kin r = 4) → ∃ o : Nat, o < 14 ∧ oth r = nI o := hoth
  have h9 := hman P
  refine lv_iconst (v := 0) hx hb dX2_papers_0 (by decide) ?_
  refine lv_istore_n (lv' := [(3, .int 0), (0, .ref (q 0)), (1, .int (nI (P))), (2, .int g)]) hx hb dX2_papers_1 rfl hl (by decide) rfl (fun ls hl => ?_)
  refine lv_bipush (v := 30) hx hb dX2_papers_2 (by decide) ?_
  refine lv_iload_n hx hb dX2_papers_4 rfl (lv_at hl 2 rfl) ?_
  refine mulNc 30 P hx hb rfl rfl dX2_papers_5 ?_
  refine lv_istore (lv' := [(4, .int (nI (P * 30))), (3, .int 0), (0, .ref (q 0)), (1, .int (nI (P))), (2, .int g)]) hx hb dX2_papers_6 hl (by decide) rfl (fun ls hl => ?_)
  refine loopW (N := man P) (k0 := 0) (fun k ls => lv_has ls 6 [(0, .ref (q 0)), (1, .int (nI (P))), (2, .int g), (3, .int ((ppS kin god amo oth tol P g k))), (4, .int (nI (P * 30 + k)))]) (Nat.zero_le _) (lv_sub hl [2, 3, 4, 1, 0] rfl) (fun k ls hk_k hI ih_k => ?_)
  have hl := hI
  refine lv_iload hx hb dX2_papers_8 (lv_at hl 4 rfl) ?_
  refine lv_bipush (v := 30) hx hb dX2_papers_10 (by decide) ?_
  refine lv_iload_n hx hb dX2_papers_12 rfl (lv_at hl 1 rfl) ?_
  refine mulNc 30 P hx hb rfl rfl dX2_papers_13 ?_
  refine lv_aload_n hx hb dX2_papers_14 rfl (lv_at hl 0 rfl) ?_
  refine gf_2_3 hx hb hts hiX2 hown hK hP hf16 dX2_papers_15 ?_
  refine lv_iload_n hx hb dX2_papers_18 rfl (lv_at hl 1 rfl) ?_
  refine mld_3 (k := P) (v := man P) hx hb hK hP rfl (by omega) rfl dX2_papers_19 ?_
  refine addN (P * 30) (man P) hx hb rfl rfl dX2_papers_20 ?_
  refine geN (P * 30 + k) (P * 30 + (man P)) (tgt := 143) hx hb rfl rfl (by omega) (by omega) dX2_papers_21 (by decide) (fun c_1 => ?_) (fun c_1 => ?_)
  · skip
    refine lv_iload_n hx hb dX2_papers_143 rfl (lv_at hl 3 rfl) ?_
    exact RET _ _ _ (by rw [show k = man P by omega]; rfl) dX2_papers_144
  · skip
    refine cutI (x := (sgnF (kin (P * 30 + k)))) (pcM := 77) (st := []) ?_ (fun J => ?_)
    rotate_left
    · skip
      refine lv_aload_n hx hb dX2_papers_24 rfl (lv_at hl 0 rfl) ?_
      refine gf_2_9 hx hb hts hiX2 hown hK hP hf29 dX2_papers_25 ?_
      refine lv_iload hx hb dX2_papers_28 (lv_at hl 4 rfl) ?_
      refine mld_7 (k := P * 30 + k) (v := kin (P * 30 + k)) hx hb hK hP rfl (by omega) rfl dX2_papers_30 ?_
      refine lv_iconst (v := 1) hx hb dX2_papers_31 (by decide) ?_
      refine lv_icmp_eq (tgt := 46) hx hb dX2_papers_32 (by decide) (fun c_2 => ?_) (fun c_2 => ?_)
      · skip
        refine lv_iconst (v := 1) hx hb dX2_papers_46 (by decide) ?_
        refine lv_goto (tgt := 77) hx hb dX2_papers_47 (by decide) ?_
        exact J _ (by simp [sgnF, c_1, c_2, mThr, mHol, mGoo, mMan, mHel, mGon, mN, mWen, mGor, mKin, mMak, mGod, mAmo, mOth, mIts, mWas, mPrf, mCop, mDec, mFee, mOwe, mTol])
      · skip
        refine lv_aload_n hx hb dX2_papers_35 rfl (lv_at hl 0 rfl) ?_
        refine gf_2_9 hx hb hts hiX2 hown hK hP hf29 dX2_papers_36 ?_
        refine lv_iload hx hb dX2_papers_39 (lv_at hl 4 rfl) ?_
        refine mld_7 (k := P * 30 + k) (v := kin (P * 30 + k)) hx hb hK hP rfl (by omega) rfl dX2_papers_41 ?_
        refine lv_iconst (v := 4) hx hb dX2_papers_42 (by decide) ?_
        refine lv_icmp_ne (tgt := 50) hx hb dX2_papers_43 (by decide) (fun c_3 => ?_) (fun c_3 => ?_)
        · skip
          refine lv_aload_n hx hb dX2_papers_50 rfl (lv_at hl 0 rfl) ?_
          refine gf_2_9 hx hb hts hiX2 hown hK hP hf29 dX2_papers_51 ?_
          refine lv_iload hx hb dX2_papers_54 (lv_at hl 4 rfl) ?_
          refine mld_7 (k := P * 30 + k) (v := kin (P * 30 + k)) hx hb hK hP rfl (by omega) rfl dX2_papers_56 ?_
          refine lv_iconst (v := 2) hx hb dX2_papers_57 (by decide) ?_
          refine lv_icmp_eq (tgt := 72) hx hb dX2_papers_58 (by decide) (fun c_4 => ?_) (fun c_4 => ?_)
          · skip
            refine lv_iconst (v := (-1)) hx hb dX2_papers_72 (by decide) ?_
            refine lv_goto (tgt := 77) hx hb dX2_papers_73 (by decide) ?_
            exact J _ (by simp [sgnF, c_1, c_2, c_3, c_4, mThr, mHol, mGoo, mMan, mHel, mGon, mN, mWen, mGor, mKin, mMak, mGod, mAmo, mOth, mIts, mWas, mPrf, mCop, mDec, mFee, mOwe, mTol])
          · skip
            refine lv_aload_n hx hb dX2_papers_61 rfl (lv_at hl 0 rfl) ?_
            refine gf_2_9 hx hb hts hiX2 hown hK hP hf29 dX2_papers_62 ?_
            refine lv_iload hx hb dX2_papers_65 (lv_at hl 4 rfl) ?_
            refine mld_7 (k := P * 30 + k) (v := kin (P * 30 + k)) hx hb hK hP rfl (by omega) rfl dX2_papers_67 ?_
            refine lv_iconst (v := 3) hx hb dX2_papers_68 (by decide) ?_
            refine lv_icmp_ne (tgt := 76) hx hb dX2_papers_69 (by decide) (fun c_5 => ?_) (fun c_5 => ?_)
            · skip
              refine lv_iconst (v := 0) hx hb dX2_papers_76 (by decide) ?_
              exact J _ (by simp [sgnF, c_1, c_2, c_3, c_4, c_5, mThr, mHol, mGoo, mMan, mHel, mGon, mN, mWen, mGor, mKin, mMak, mGod, mAmo, mOth, mIts, mWas, mPrf, mCop, mDec, mFee, mOwe, mTol])
            · skip
              refine lv_iconst (v := (-1)) hx hb dX2_papers_72 (by decide) ?_
              refine lv_goto (tgt := 77) hx hb dX2_papers_73 (by decide) ?_
              exact J _ (by simp [sgnF, c_1, c_2, c_3, c_4, c_5, mThr, mHol, mGoo, mMan, mHel, mGon, mN, mWen, mGor, mKin, mMak, mGod, mAmo, mOth, mIts, mWas, mPrf, mCop, mDec, mFee, mOwe, mTol])
        · skip
          refine lv_iconst (v := 1) hx hb dX2_papers_46 (by decide) ?_
          refine lv_goto (tgt := 77) hx hb dX2_papers_47 (by decide) ?_
          exact J _ (by simp [sgnF, c_1, c_2, c_3, mThr, mHol, mGoo, mMan, mHel, mGon, mN, mWen, mGor, mKin, mMak, mGod, mAmo, mOth, mIts, mWas, mPrf, mCop, mDec, mFee, mOwe, mTol])
    refine lv_istore (lv' := [(5, .int ((sgnF (kin (P * 30 + k))))), (0, .ref (q 0)), (1, .int (nI (P))), (2, .int g), (3, .int ((ppS kin god amo oth tol P g k))), (4, .int (nI (P * 30 + k)))]) hx hb dX2_papers_77 hl (by decide) rfl (fun ls hl => ?_)
    refine lv_iload_n hx hb dX2_papers_79 rfl (lv_at hl 4 rfl) ?_
    refine cutI (x := (if god (P * 30 + k) = g then sgnF (kin (P * 30 + k)) * amo (P * 30 + k) else 0)) (pcM := 105) (st := [.int ((ppS kin god amo oth tol P g k))]) ?_ (fun J => ?_)
    rotate_left
    · skip
      refine lv_aload_n hx hb dX2_papers_80 rfl (lv_at hl 1 rfl) ?_
      refine gf_2_11 hx hb hts hiX2 hown hK hP hf35 dX2_papers_81 ?_
      refine lv_iload hx hb dX2_papers_84 (lv_at hl 5 rfl) ?_
      refine mld_9 (k := P * 30 + k) (v := god (P * 30 + k)) hx hb hK hP rfl (by omega) rfl dX2_papers_86 ?_
      refine lv_iload_n hx hb dX2_papers_87 rfl (lv_at hl 3 rfl) ?_
      refine lv_icmp_ne (tgt := 104) hx hb dX2_papers_88 (by decide) (fun c_6 => ?_) (fun c_6 => ?_)
      · skip
        refine lv_iconst (v := 0) hx hb dX2_papers_104 (by decide) ?_
        exact J _ (by simp [c_1, c_6, mThr, mHol, mGoo, mMan, mHel, mGon, mN, mWen, mGor, mKin, mMak, mGod, mAmo, mOth, mIts, mWas, mPrf, mCop, mDec, mFee, mOwe, mTol])
      · skip
        refine lv_iload hx hb dX2_papers_91 (lv_at hl 0 rfl) ?_
        refine lv_aload_n hx hb dX2_papers_93 rfl (lv_at hl 1 rfl) ?_
        refine gf_2_12 hx hb hts hiX2 hown hK hP hf38 dX2_papers_94 ?_
        refine lv_iload hx hb dX2_papers_97 (lv_at hl 5 rfl) ?_
        refine mld_10 (k := P * 30 + k) (v := amo (P * 30 + k)) hx hb hK hP rfl (by omega) rfl dX2_papers_99 ?_
        refine lv_imul hx hb dX2_papers_100 ?_
        refine lv_goto (tgt := 105) hx hb dX2_papers_101 (by decide) ?_
        exact J _ (by simp [c_1, c_6, mThr, mHol, mGoo, mMan, mHel, mGon, mN, mWen, mGor, mKin, mMak, mGod, mAmo, mOth, mIts, mWas, mPrf, mCop, mDec, mFee, mOwe, mTol])
    refine lv_iadd hx hb dX2_papers_105 ?_
    refine lv_istore_n (lv' := [(3, .int (((ppS kin god amo oth tol P g k) + (if god (P * 30 + k) = g then sgnF (kin (P * 30 + k)) * amo (P * 30 + k) else 0)))), (5, .int ((sgnF (kin (P * 30 + k))))), (0, .ref (q 0)), (1, .int (nI (P))), (2, .int g), (4, .int (nI (P * 30 + k)))]) hx hb dX2_papers_106 rfl hl (by decide) rfl (fun ls hl => ?_)
    refine lv_iload_n hx hb dX2_papers_107 rfl (lv_at hl 0 rfl) ?_
    refine cutI (x := (if kin (P * 30 + k) = 5 then tol (oth (P * 30 + k)).toNatClampNeg else 0)) (pcM := 135) (st := [.int (((ppS kin god amo oth tol P g k) + (if god (P * 30 + k) = g then sgnF (kin (P * 30 + k)) * amo (P * 30 + k) else 0)))]) ?_ (fun J => ?_)
    rotate_left
    · skip
      refine lv_aload_n hx hb dX2_papers_108 rfl (lv_at hl 2 rfl) ?_
      refine gf_2_9 hx hb hts hiX2 hown hK hP hf29 dX2_papers_109 ?_
      refine lv_iload hx hb dX2_papers_112 (lv_at hl 5 rfl) ?_
      refine mld_7 (k := P * 30 + k) (v := kin (P * 30 + k)) hx hb hK hP rfl (by omega) rfl dX2_papers_114 ?_
      refine lv_iconst (v := 5) hx hb dX2_papers_115 (by decide) ?_
      refine lv_icmp_ne (tgt := 134) hx hb dX2_papers_116 (by decide) (fun c_7 => ?_) (fun c_7 => ?_)
      · skip
        refine lv_iconst (v := 0) hx hb dX2_papers_134 (by decide) ?_
        exact J _ (by rw [if_neg c_7])
      · skip
        obtain ⟨o9, ho9, eo9⟩ := hoth _ (Or.inl c_7)
        refine lv_aload_n hx hb dX2_papers_119 rfl (lv_at hl 2 rfl) ?_
        refine gf_2_21 hx hb hts hiX2 hown hK hP hf65 dX2_papers_120 ?_
        refine lv_aload_n hx hb dX2_papers_123 rfl (lv_at hl 2 rfl) ?_
        refine gf_2_13 hx hb hts hiX2 hown hK hP hf41 dX2_papers_124 ?_
        refine lv_iload hx hb dX2_papers_127 (lv_at hl 5 rfl) ?_
        refine mld_11 (k := P * 30 + k) (v := oth (P * 30 + k)) hx hb hK hP rfl (by omega) rfl dX2_papers_129 ?_
        refine mld_19 (k := o9) (v := tol o9) hx hb hK hP (eo9) (by omega) rfl dX2_papers_130 ?_
        refine lv_goto (tgt := 135) hx hb dX2_papers_131 (by decide) ?_
        exact J _ (by rw [if_pos c_7, eo9, nI_clamp (by omega)])
    refine lv_iadd hx hb dX2_papers_135 ?_
    refine lv_istore_n (lv' := [(3, .int ((((ppS kin god amo oth tol P g k) + (if god (P * 30 + k) = g then sgnF (kin (P * 30 + k)) * amo (P * 30 + k) else 0)) + (if kin (P * 30 + k) = 5 then tol (oth (P * 30 + k)).toNatClampNeg else 0)))), (5, .int ((sgnF (kin (P * 30 + k))))), (0, .ref (q 0)), (1, .int (nI (P))), (2, .int g), (4, .int (nI (P * 30 + k)))]) hx hb dX2_papers_136 rfl hl (by decide) rfl (fun ls hl => ?_)
    refine lv_iinc (v := nI ((P * 30 + k) + 1)) (lv' := [(4, .int (nI ((P * 30 + k) + 1))), (3, .int ((((ppS kin god amo oth tol P g k) + (if god (P * 30 + k) = g then sgnF (kin (P * 30 + k)) * amo (P * 30 + k) else 0)) + (if kin (P * 30 + k) = 5 then tol (oth (P * 30 + k)).toNatClampNeg else 0)))), (5, .int ((sgnF (kin (P * 30 + k))))), (0, .ref (q 0)), (1, .int (nI (P))), (2, .int g)]) hx hb dX2_papers_137 hl (k := 5) rfl (iincN (P * 30 + k)) (by decide) rfl (fun ls hl => ?_)
    refine lv_goto (tgt := 8) hx hb dX2_papers_140 (by decide) ?_
    exact ih_k (by omega) _ (lv_sub hl [3, 4, 5, 1, 0] rfl)
theorem kn_X2_tells : yX2_tells.cls ≠ "java/lang/invoke/MethodHandle" ∧ yX2_tells.cls ≠ "java/lang/invoke/VarHandle" ∧ (parseMethodDescriptor yX2_tells.desc).map (fun d => d.parameters.length) = some 1 := by decide +kernel
theorem kd_X2_tells : yX2_tells.cls = RX2 ∧ yX2_tells.cls ≠ "java/lang/invoke/MethodHandle" ∧ yX2_tells.cls ≠ "java/lang/invoke/VarHandle" ∧ (parseMethodDescriptor yX2_tells.desc).map (fun d => d.parameters.length) = some 1 := by decide +kernel
set_option maxHeartbeats 4000000 in
set_option maxRecDepth 100000 in
theorem c_X2_tells (l : Launch) (D : va_G) (cI cZ : ClassId) (q : Nat → Nat) (σ : SM) (hq : ijQ 20 q) (g : Int32) (ok : okM σ) (hoth : othM σ) : Met l yX2_tells wsX2_tells ({ frames := 1, cells := 0, slots := 0, locals := 25 }) (va_Pc [.ref (q 0), .int g] (PM D cI cZ q σ)) (wQ (adQ 20 q) (fun v H1 => v = none ∧ va_P D vwCl (wM cI cZ q (msTol σ (tlF σ (mTol σ) g))) H1)) 0 0 (adQ 20 q) := by
  refine openV (cc := cX2_tells) (maxL := 3) (by decide) rfl (Nat.le_of_ble_eq_true rfl) ?_
  intro p e s m args below meth c hx hb hml hts hown hpre Q RET ls hl
  have hown : s.vm.findClass RX2 = some m.cls := hown
  have hl : lv_has ls 3 [(0, .ref (q 0)), (1, .int g)] := hl
  obtain ⟨hP, hK⟩ := hpre
  have hS : va_S (adQ 20 q) s.heap s.heap [] := va_S.rf
  have hiX2 : ∀ w ∈ wsX20, w ∈ wsX2_tells := by decide +kernel
  have hf126 := hts (.fieldLink RX2 126 "PalletGramModel" "goers" "I") (by decide +kernel)
  have hf65 := hts (.fieldLink RX2 65 "PalletGramModel" "told" "[I") (by decide +kernel)
  have hf26 := hts (.fieldLink RX2 26 "PalletGramModel" "went" "[I") (by decide +kernel)
  obtain ⟨thr, hol, goo, man, hel, gon, n, wen, gor, kin, mak, god, amo, oth, its, was, prf, cop, dec, fee, owe, tol⟩ := σ
  obtain ⟨hn, hhol, hman, hgor, hwen⟩ := ok
  have hn : n ≤ 14 := hn
  have hhol : ∀ P, hol P < 6 := hhol
  have hman : ∀ P, man P ≤ 30 := hman
  have hgor : gor ≤ 14 := hgor
  have hwen : ∀ k, wen k < 14 := hwen
  have hoth : ∀ r, (kin r = 5 ∨ kin r = 4) → ∃ o : Nat, o < 14 ∧ oth r = nI o := hoth
  refine lv_iconst (v := 0) hx hb dX2_tells_0 (by decide) ?_
  refine lv_istore_n (lv' := [(2, .int 0), (0, .ref (q 0)), (1, .int g)]) hx hb dX2_tells_1 rfl hl (by decide) rfl (fun ls hl => ?_)
  refine loopH (N := gor) (k0 := 0) (fun k ls H locs => lv_has ls 3 [(0, .ref (q 0)), (1, .int g), (2, .int (nI (k)))] ∧ va_P D vwCl (wM cI cZ q (thr, hol, goo, man, hel, gon, n, wen, gor, kin, mak, god, amo, oth, its, was, prf, cop, dec, fee, owe, (tlS kin god amo oth man wen tol g k))) H ∧ va_S (adQ 20 q) s.heap H locs) (Nat.zero_le _) ⟨lv_sub hl [1, 2, 0] rfl, hP, hS⟩ (fun k ls H locs hk_k hI ih_k => ?_)
  obtain ⟨hl, hP, hS⟩ := hI
  refine lv_iload_n hx hb dX2_tells_2 rfl (lv_at hl 2 rfl) ?_
  refine lv_aload_n hx hb dX2_tells_3 rfl (lv_at hl 0 rfl) ?_
  refine gf_2_8 hx hb hts hiX2 hown hK hP hf126 dX2_tells_4 ?_
  refine lv_topE (y := nI (gor)) rfl ?_
  refine geN k gor (tgt := 38) hx hb rfl rfl (by omega) (by omega) dX2_tells_7 (by decide) (fun c_1 => ?_) (fun c_1 => ?_)
  · skip
    exact RET _ _ _ _ (⟨rfl, (fun (h9 : k = gor) => by subst h9; exact hP) (by omega)⟩) hS dX2_tells_38
  · skip
    have h8 := hwen k
    refine lv_aload_n hx hb dX2_tells_10 rfl (lv_at hl 0 rfl) ?_
    refine gf_2_21 hx hb hts hiX2 hown hK hP hf65 dX2_tells_11 ?_
    refine lv_aload_n hx hb dX2_tells_14 rfl (lv_at hl 0 rfl) ?_
    refine gf_2_7 hx hb hts hiX2 hown hK hP hf26 dX2_tells_15 ?_
    refine lv_iload_n hx hb dX2_tells_18 rfl (lv_at hl 2 rfl) ?_
    refine mld_6 (k := k) (v := wen k) hx hb hK hP rfl (by omega) rfl dX2_tells_19 ?_
    refine lv_aload_n hx hb dX2_tells_20 rfl (lv_at hl 0 rfl) ?_
    refine lv_aload_n hx hb dX2_tells_21 rfl (lv_at hl 0 rfl) ?_
    refine gf_2_7 hx hb hts hiX2 hown hK hP hf26 dX2_tells_22 ?_
    refine lv_iload_n hx hb dX2_tells_25 rfl (lv_at hl 2 rfl) ?_
    refine mld_6 (k := k) (v := wen k) hx hb hK hP rfl (by omega) rfl dX2_tells_26 ?_
    refine lv_iload_n hx hb dX2_tells_27 rfl (lv_at hl 1 rfl) ?_
    refine r_callE (x := (ppC kin god amo oth man (tlS kin god amo oth man wen tol g k) (wen k) g)) (va_runV (As := [.int (nI (wen k)), .int g]) (rest := [.int (nI (wen k)), .ref (q 19)]) ⟨hx, hb, hml, hown, hts⟩ (c_X2_papers l D cI cZ q (thr, hol, goo, man, hel, gon, n, wen, gor, kin, mak, god, amo, oth, its, was, prf, cop, dec, fee, owe, (tlS kin god amo oth man wen tol g k)) (wen k) g (by omega) hman hoth) (cwV 2 hts gX2_tells_X2_papers rfl rfl rfl kd_X2_papers ⟨Nat.le_of_ble_eq_true rfl, Nat.le_of_ble_eq_true rfl⟩) (pV_M hP hK) rfl rfl hl.1 rfl (lv_room (Nat.le_of_ble_eq_true rfl)) dX2_tells_28 ⟨Nat.le_of_ble_eq_true rfl, Nat.le_of_ble_eq_true rfl⟩) ?_
    refine mst_19 (k := wen k) (x := (ppC kin god amo oth man (tlS kin god amo oth man wen tol g k) (wen k) g)) hx hb hK hP hq hS rfl (by omega) dX2_tells_31 (fun tol_2 e_tol_2 H locs hP hS => ?_)
    have hP : va_P D vwCl (wM cI cZ q (thr, hol, goo, man, hel, gon, n, wen, gor, kin, mak, god, amo, oth, its, was, prf, cop, dec, fee, owe, tol_2)) H := hP
    refine lv_iinc (v := nI (k + 1)) (lv' := [(2, .int (nI (k + 1))), (0, .ref (q 0)), (1, .int g)]) hx hb dX2_tells_32 hl (k := 2) rfl (iincN (k)) (by decide) rfl (fun ls hl => ?_)
    refine lv_goto (tgt := 2) hx hb dX2_tells_35 (by decide) ?_
    rw [show tol_2 = (tlS kin god amo oth man wen tol g (k + 1)) from by rw [e_tol_2]; rfl] at hP
    exact ih_k (by omega) _ _ _ ⟨lv_sub hl [1, 2, 0] rfl, hP, hS⟩
theorem kn_X2_anew : yX2_anew.cls ≠ "java/lang/invoke/MethodHandle" ∧ yX2_anew.cls ≠ "java/lang/invoke/VarHandle" ∧ (parseMethodDescriptor yX2_anew.desc).map (fun d => d.parameters.length) = some 2 := by decide +kernel
theorem kd_X2_anew : yX2_anew.cls = RX2 ∧ yX2_anew.cls ≠ "java/lang/invoke/MethodHandle" ∧ yX2_anew.cls ≠ "java/lang/invoke/VarHandle" ∧ (parseMethodDescriptor yX2_anew.desc).map (fun d => d.parameters.length) = some 2 := by decide +kernel
set_option maxHeartbeats 4000000 in
set_option maxRecDepth 100000 in
theorem c_X2_anew (l : Launch) (D : va_G) (cI cZ : ClassId) (q : Nat → Nat) (σ : SM) (hq : ijQ 20 q) (P : Nat) (g : Int32) (hP14 : P < 14) (ok : okM σ) (hoth : othM σ) : Met l yX2_anew wsX2_anew ({ frames := 2, cells := 0, slots := 0, locals := 47 }) (va_Pc [.ref (q 0), .int (nI (P)), .int g] (PM D cI cZ q σ)) (wQ (adQ 20 q) (fun v H1 => v = some (.int (anF σ (mTol σ) P g)) ∧ va_P D vwCl (wM cI cZ q (msTol σ (tlF σ (mTol σ) g))) H1)) 0 0 (adQ 20 q) := by
  refine openW (cc := cX2_anew) (maxL := 3) (by decide) rfl (Nat.le_of_ble_eq_true rfl) ?_
  intro p e s m args below meth c hx hb hml hts hown hpre Q RET ls hl
  have hown : s.vm.findClass RX2 = some m.cls := hown
  have hl : lv_has ls 3 [(0, .ref (q 0)), (1, .int (nI (P))), (2, .int g)] := hl
  obtain ⟨hP, hK⟩ := hpre
  have hS : va_S (adQ 20 q) s.heap s.heap [] := va_S.rf
  have hiX2 : ∀ w ∈ wsX20, w ∈ wsX2_anew := by decide +kernel
  have hf23 := hts (.fieldLink RX2 23 "PalletGramModel" "isGone" "[Z") (by decide +kernel)
  obtain ⟨thr, hol, goo, man, hel, gon, n, wen, gor, kin, mak, god, amo, oth, its, was, prf, cop, dec, fee, owe, tol⟩ := σ
  obtain ⟨hn, hhol, hman, hgor, hwen⟩ := ok
  have hn : n ≤ 14 := hn
  have hhol : ∀ P, hol P < 6 := hhol
  have hman : ∀ P, man P ≤ 30 := hman
  have hgor : gor ≤ 14 := hgor
  have hwen : ∀ k, wen k < 14 := hwen
  have hoth : ∀ r, (kin r = 5 ∨ kin r = 4) → ∃ o : Nat, o < 14 ∧ oth r = nI o := hoth
  refine lv_aload_n hx hb dX2_anew_0 rfl (lv_at hl 0 rfl) ?_
  refine lv_iload_n hx hb dX2_anew_1 rfl (lv_at hl 2 rfl) ?_
  refine w_call (va_runV (As := [.int g]) (rest := []) ⟨hx, hb, hml, hown, hts⟩ (c_X2_tells l D cI cZ q (thr, hol, goo, man, hel, gon, n, wen, gor, kin, mak, god, amo, oth, its, was, prf, cop, dec, fee, owe, tol) hq g ⟨hn, hhol, hman, hgor, hwen⟩ hoth) (cwV 1 hts gX2_anew_X2_tells rfl rfl rfl kd_X2_tells ⟨Nat.le_of_ble_eq_true rfl, Nat.le_of_ble_eq_true rfl⟩) (pV_M hP hK) rfl rfl hl.1 rfl (lv_room (Nat.le_of_ble_eq_true rfl)) dX2_anew_2 ⟨Nat.le_of_ble_eq_true rfl, Nat.le_of_ble_eq_true rfl⟩) hS (fun _ h => h) (fun v_1 H locs hv_1 _ _ hS => ?_)
  obtain ⟨rfl, hP⟩ := hv_1
  have hP : va_P D vwCl (wM cI cZ q (thr, hol, goo, man, hel, gon, n, wen, gor, kin, mak, god, amo, oth, its, was, prf, cop, dec, fee, owe, (tlS kin god amo oth man wen tol g gor))) H := hP
  refine lv_aload_n hx hb dX2_anew_5 rfl (lv_at hl 0 rfl) ?_
  refine gf_2_5 hx hb hts hiX2 hown hK hP hf23 dX2_anew_6 ?_
  refine lv_iload_n hx hb dX2_anew_9 rfl (lv_at hl 1 rfl) ?_
  refine mld_5 (k := P) (v := gon P) hx hb hK hP rfl (by omega) rfl dX2_anew_10 ?_
  refine eqB (gon P) (tgt := 18) hx hb rfl dX2_anew_11 (by decide) (fun c_2 => ?_) (fun c_2 => ?_)
  · skip
    refine lv_aload_n hx hb dX2_anew_18 rfl (lv_at hl 0 rfl) ?_
    refine lv_iload_n hx hb dX2_anew_19 rfl (lv_at hl 1 rfl) ?_
    refine lv_iload_n hx hb dX2_anew_20 rfl (lv_at hl 2 rfl) ?_
    refine r_callE (x := (ppC kin god amo oth man (tlS kin god amo oth man wen tol g gor) P g)) (va_runV (As := [.int (nI (P)), .int g]) (rest := []) ⟨hx, hb, hml, hown, hts⟩ (c_X2_papers l D cI cZ q (thr, hol, goo, man, hel, gon, n, wen, gor, kin, mak, god, amo, oth, its, was, prf, cop, dec, fee, owe, (tlS kin god amo oth man wen tol g gor)) P g (by omega) hman hoth) (cwV 2 hts gX2_anew_X2_papers rfl rfl rfl kd_X2_papers ⟨Nat.le_of_ble_eq_true rfl, Nat.le_of_ble_eq_true rfl⟩) (pV_M hP hK) rfl rfl hl.1 rfl (lv_room (Nat.le_of_ble_eq_true rfl)) dX2_anew_21 ⟨Nat.le_of_ble_eq_true rfl, Nat.le_of_ble_eq_true rfl⟩) ?_
    exact RET _ _ _ _ _ (⟨congrArg (fun b => some (Value.int b)) (by show _ = anC kin god amo oth man wen gor gon tol P g; rw [anC]; exact (if_neg (show ¬ gon P = true by simp [c_2])).symm), hP⟩) hS dX2_anew_24
  · skip
    refine lv_iconst (v := 0) hx hb dX2_anew_14 (by decide) ?_
    refine lv_goto (tgt := 24) hx hb dX2_anew_15 (by decide) ?_
    exact RET _ _ _ _ _ (⟨congrArg (fun b => some (Value.int b)) (by show _ = anC kin god amo oth man wen gor gon tol P g; rw [anC]; exact (if_pos (show gon P = true from c_2)).symm), hP⟩) hS dX2_anew_24
theorem kn_X2_sound : yX2_sound.cls ≠ "java/lang/invoke/MethodHandle" ∧ yX2_sound.cls ≠ "java/lang/invoke/VarHandle" ∧ (parseMethodDescriptor yX2_sound.desc).map (fun d => d.parameters.length) = some 1 := by decide +kernel
theorem kd_X2_sound : yX2_sound.cls = RX2 ∧ yX2_sound.cls ≠ "java/lang/invoke/MethodHandle" ∧ yX2_sound.cls ≠ "java/lang/invoke/VarHandle" ∧ (parseMethodDescriptor yX2_sound.desc).map (fun d => d.parameters.length) = some 1 := by decide +kernel
set_option maxHeartbeats 4000000 in
set_option maxRecDepth 100000 in
theorem c_X2_sound (l : Launch) (D : va_G) (cI cZ : ClassId) (q : Nat → Nat) (σ : SM) (P : Nat) (hP14 : P < 14) (hman : ∀ P, mMan σ P ≤ 30) (hoth : othM σ) : Met l yX2_sound wsX2_sound ({ frames := 3, cells := 0, slots := 0, locals := 68 }) (va_Pc [.ref (q 0), .int (nI (P))] (PM D cI cZ q σ)) (rQ (fun r => r = bI (msF σ P))) 0 0 noF := by
  refine openZ (cc := cX2_sound) (maxL := 6) (by decide) rfl (Nat.le_of_ble_eq_true rfl) ?_
  intro p e s m args below meth c hx hb hml hts hown hpre Q RET ls hl
  have hown : s.vm.findClass RX2 = some m.cls := hown
  have hl : lv_has ls 6 [(0, .ref (q 0)), (1, .int (nI (P)))] := hl
  obtain ⟨hP, hK⟩ := hpre
  have hiX2 : ∀ w ∈ wsX20, w ∈ wsX2_sound := by decide +kernel
  have hf16 := hts (.fieldLink RX2 16 "PalletGramModel" "many" "[I") (by decide +kernel)
  have hf29 := hts (.fieldLink RX2 29 "PalletGramModel" "kind" "[I") (by decide +kernel)
  have hf41 := hts (.fieldLink RX2 41 "PalletGramModel" "other" "[I") (by decide +kernel)
  obtain ⟨thr, hol, goo, man, hel, gon, n, wen, gor, kin, mak, god, amo, oth, its, was, prf, cop, dec, fee, owe, tol⟩ := σ
  have hman : ∀ P, man P ≤ 30 := hman
  have hoth : ∀ r, (kin r = 5 ∨ kin r = 4) → ∃ o : Nat, o < 14 ∧ oth r = nI o := hoth
  have hadj : ∀ a b, adjM (thr, hol, goo, man, hel, gon, n, wen, gor, kin, mak, god, amo, oth, its, was, prf, cop, dec, fee, owe, tol) a b ↔ ∃ e, e < man a ∧ (kin (a * 30 + e) = 4 ∨ kin (a * 30 + e) = 5) ∧ oth (a * 30 + e) = nI b ∧ b < 14 := fun _ _ => Iff.rfl
  refine lv_iconst (v := 1) hx hb dX2_sound_0 (by decide) ?_
  refine lv_iload_n hx hb dX2_sound_1 rfl (lv_at hl 1 rfl) ?_
  refine lv_ishl hx hb dX2_sound_2 ?_
  refine lv_istore_n (lv' := [(2, .int ((1 <<< (nI (P) &&& 31)))), (0, .ref (q 0)), (1, .int (nI (P)))]) hx hb dX2_sound_3 rfl hl (by decide) rfl (fun ls hl => ?_)
  refine lv_iconst (v := 0) hx hb dX2_sound_4 (by decide) ?_
  refine lv_istore_n (lv' := [(3, .int 0), (2, .int ((1 <<< (nI (P) &&& 31)))), (0, .ref (q 0)), (1, .int (nI (P)))]) hx hb dX2_sound_5 rfl hl (by decide) rfl (fun ls hl => ?_)
  refine loopM (S := Int32 × Int32) (fun x ls => lv_has ls 6 [(0, .ref (q 0)), (1, .int (nI (P))), (2, .int (x.1)), (3, .int (x.2))] ∧ sndI (adjM (thr, hol, goo, man, hel, gon, n, wen, gor, kin, mak, god, amo, oth, its, was, prf, cop, dec, fee, owe, tol)) (mfF (thr, hol, goo, man, hel, gon, n, wen, gor, kin, mak, god, amo, oth, its, was, prf, cop, dec, fee, owe, tol)) P x.1 x.2) (fun x => ctz x.2 14) ((1 : Int32) <<< (nI P &&& 31), 0) ⟨lv_sub hl [2, 3, 1, 0] rfl, snd_init hP14⟩ (fun x ls hI ihM => ?_)
  obtain ⟨hl, hiM⟩ := hI
  refine lv_iload_n hx hb dX2_sound_6 rfl (lv_at hl 3 rfl) ?_
  refine lv_iload_n hx hb dX2_sound_7 rfl (lv_at hl 2 rfl) ?_
  refine lv_icmp_eq (tgt := 124) hx hb dX2_sound_8 (by decide) (fun c_1 => ?_) (fun c_1 => ?_)
  · skip
    refine lv_iconst (v := 1) hx hb dX2_sound_124 (by decide) ?_
    exact RET (true) _ _ (congrArg bI (snd_done hP14 (fun a b h => by obtain ⟨_, _, _, _, h4⟩ := (hadj a b).mp h; exact h4) hiM c_1).symm) dX2_sound_125
  · skip
    refine lv_iconst (v := 0) hx hb dX2_sound_11 (by decide) ?_
    refine lv_istore (lv' := [(4, .int 0), (0, .ref (q 0)), (1, .int (nI (P))), (2, .int (x.1)), (3, .int (x.2))]) hx hb dX2_sound_12 hl (by decide) rfl (fun ls hl => ?_)
    refine loopW (N := 14) (k0 := 0) (fun k ls => lv_has ls 6 [(0, .ref (q 0)), (1, .int (nI (P))), (2, .int (x.1)), (3, .int (x.2)), (4, .int (nI (k)))] ∧ (∀ j, j < k → (bt x.1 j && !bt x.2 j) = false)) (Nat.zero_le _) ⟨lv_sub hl [1, 2, 3, 4, 0] rfl, fun j hj => absurd hj (Nat.not_lt_zero j)⟩ (fun k ls hk_k hI ih_k => ?_)
    obtain ⟨hl, hj⟩ := hI
    refine lv_iload_n hx hb dX2_sound_14 rfl (lv_at hl 2 rfl) ?_
    have hk14 : k < 14 := snd_lt hiM c_1 hk_k hj
    refine lv_iload_n hx hb dX2_sound_15 rfl (lv_at hl 3 rfl) ?_
    refine lv_iconst (v := (-1)) hx hb dX2_sound_16 (by decide) ?_
    refine lv_ixor hx hb dX2_sound_17 ?_
    refine lv_iand hx hb dX2_sound_18 ?_
    refine lv_iconst (v := 1) hx hb dX2_sound_19 (by decide) ?_
    refine lv_iload hx hb dX2_sound_20 (lv_at hl 4 rfl) ?_
    refine lv_ishl hx hb dX2_sound_22 ?_
    refine lv_iand hx hb dX2_sound_23 ?_
    refine lv_if_ne (tgt := 33) hx hb dX2_sound_24 (by decide) (fun c_2 => ?_) (fun c_2 => ?_)
    · skip
      have hb9 : (bt x.1 k && !bt x.2 k) = true := by
        cases hz : (bt x.1 k && !bt x.2 k)
        · exact absurd ((mskZ (by omega)).mpr hz) c_2
        · rfl
      refine lv_iload_n hx hb dX2_sound_33 rfl (lv_at hl 3 rfl) ?_
      refine lv_iconst (v := 1) hx hb dX2_sound_34 (by decide) ?_
      refine lv_iload hx hb dX2_sound_35 (lv_at hl 4 rfl) ?_
      refine lv_ishl hx hb dX2_sound_37 ?_
      refine lv_ior hx hb dX2_sound_38 ?_
      refine lv_istore_n (lv' := [(3, .int ((x.2 ||| (1 <<< (nI (k) &&& 31))))), (0, .ref (q 0)), (1, .int (nI (P))), (2, .int (x.1)), (4, .int (nI (k)))]) hx hb dX2_sound_39 rfl hl (by decide) rfl (fun ls hl => ?_)
      refine lv_aload_n hx hb dX2_sound_40 rfl (lv_at hl 1 rfl) ?_
      refine lv_iload hx hb dX2_sound_41 (lv_at hl 4 rfl) ?_
      refine r_callE (x := (mfF (thr, hol, goo, man, hel, gon, n, wen, gor, kin, mak, god, amo, oth, its, was, prf, cop, dec, fee, owe, tol) k)) (va_runV (As := [.int (nI (k))]) (rest := []) ⟨hx, hb, hml, hown, hts⟩ (c_X2_firstBroken l D cI cZ q (thr, hol, goo, man, hel, gon, n, wen, gor, kin, mak, god, amo, oth, its, was, prf, cop, dec, fee, owe, tol) k (by omega) hman) (cwV 1 hts gX2_sound_X2_firstBroken rfl rfl rfl kd_X2_firstBroken ⟨Nat.le_of_ble_eq_true rfl, Nat.le_of_ble_eq_true rfl⟩) (pV_M hP hK) rfl rfl hl.1 rfl (lv_room (Nat.le_of_ble_eq_true rfl)) dX2_sound_43 ⟨Nat.le_of_ble_eq_true rfl, Nat.le_of_ble_eq_true rfl⟩) ?_
      refine lv_iconst (v := (-1)) hx hb dX2_sound_46 (by decide) ?_
      refine lv_icmp_eq (tgt := 52) hx hb dX2_sound_47 (by decide) (fun c_3 => ?_) (fun c_3 => ?_)
      · skip
        have hf9 : mfF (thr, hol, goo, man, hel, gon, n, wen, gor, kin, mak, god, amo, oth, its, was, prf, cop, dec, fee, owe, tol) k = -1 := c_3
        have h9 := hman k
        refine lv_bipush (v := 30) hx hb dX2_sound_52 (by decide) ?_
        refine lv_iload hx hb dX2_sound_54 (lv_at hl 4 rfl) ?_
        refine mulNc 30 k hx hb rfl rfl dX2_sound_56 ?_
        refine lv_istore (lv' := [(5, .int (nI (k * 30))), (3, .int ((x.2 ||| (1 <<< (nI (k) &&& 31))))), (0, .ref (q 0)), (1, .int (nI (P))), (2, .int (x.1)), (4, .int (nI (k)))]) hx hb dX2_sound_57 hl (by decide) rfl (fun ls hl => ?_)
        refine loopW (N := man k) (k0 := 0) (fun e9 ls => lv_has ls 6 [(0, .ref (q 0)), (1, .int (nI (P))), (2, .int ((sdS kin oth k x.1 e9))), (3, .int ((x.2 ||| (1 <<< (nI (k) &&& 31))))), (4, .int (nI (k))), (5, .int (nI (k * 30 + e9)))]) (Nat.zero_le _) (lv_sub hl [2, 3, 4, 1, 5, 0] rfl) (fun e9 ls hk_e9 hI ih_e9 => ?_)
        have hl := hI
        refine lv_iload hx hb dX2_sound_59 (lv_at hl 5 rfl) ?_
        refine lv_bipush (v := 30) hx hb dX2_sound_61 (by decide) ?_
        refine lv_iload hx hb dX2_sound_63 (lv_at hl 4 rfl) ?_
        refine mulNc 30 k hx hb rfl rfl dX2_sound_65 ?_
        refine lv_aload_n hx hb dX2_sound_66 rfl (lv_at hl 0 rfl) ?_
        refine gf_2_3 hx hb hts hiX2 hown hK hP hf16 dX2_sound_67 ?_
        refine lv_iload hx hb dX2_sound_70 (lv_at hl 4 rfl) ?_
        refine mld_3 (k := k) (v := man k) hx hb hK hP rfl (by omega) rfl dX2_sound_72 ?_
        refine addN (k * 30) (man k) hx hb rfl rfl dX2_sound_73 ?_
        refine geN (k * 30 + e9) (k * 30 + (man k)) (tgt := 121) hx hb rfl rfl (by omega) (by omega) dX2_sound_74 (by decide) (fun c_4 => ?_) (fun c_4 => ?_)
        · skip
          obtain rfl : e9 = man k := by omega
          refine lv_goto (tgt := 6) hx hb dX2_sound_121 (by decide) ?_
          exact ihM ((sdS kin oth k x.1 (man k)), (x.2 ||| (1 <<< (nI (k) &&& 31)))) _ (ctz_or hk14 hb9) ⟨lv_sub hl [0, 1, 2, 3] rfl, snd_step hoth hadj hiM hk14 hb9 hf9⟩
        · skip
          refine lv_iload_n hx hb dX2_sound_77 rfl (lv_at hl 2 rfl) ?_
          refine cutI (x := (if kin (k * 30 + e9) = 4 ∨ kin (k * 30 + e9) = 5 then ((1 : Int32) <<< (oth (k * 30 + e9) &&& 31)) else 0)) (pcM := 113) (st := [.int ((sdS kin oth k x.1 e9))]) ?_ (fun J => ?_)
          rotate_left
          · skip
            refine lv_aload_n hx hb dX2_sound_78 rfl (lv_at hl 0 rfl) ?_
            refine gf_2_9 hx hb hts hiX2 hown hK hP hf29 dX2_sound_79 ?_
            refine lv_iload hx hb dX2_sound_82 (lv_at hl 5 rfl) ?_
            refine mld_7 (k := k * 30 + e9) (v := kin (k * 30 + e9)) hx hb hK hP rfl (by omega) rfl dX2_sound_84 ?_
            refine lv_iconst (v := 4) hx hb dX2_sound_85 (by decide) ?_
            refine lv_icmp_eq (tgt := 100) hx hb dX2_sound_86 (by decide) (fun c_5 => ?_) (fun c_5 => ?_)
            · skip
              refine lv_iconst (v := 1) hx hb dX2_sound_100 (by decide) ?_
              refine lv_aload_n hx hb dX2_sound_101 rfl (lv_at hl 0 rfl) ?_
              refine gf_2_13 hx hb hts hiX2 hown hK hP hf41 dX2_sound_102 ?_
              refine lv_iload hx hb dX2_sound_105 (lv_at hl 5 rfl) ?_
              refine mld_11 (k := k * 30 + e9) (v := oth (k * 30 + e9)) hx hb hK hP rfl (by omega) rfl dX2_sound_107 ?_
              refine lv_ishl hx hb dX2_sound_108 ?_
              refine lv_goto (tgt := 113) hx hb dX2_sound_109 (by decide) ?_
              exact J _ (by simp [c_1, c_2, c_3, c_4, c_5, mThr, mHol, mGoo, mMan, mHel, mGon, mN, mWen, mGor, mKin, mMak, mGod, mAmo, mOth, mIts, mWas, mPrf, mCop, mDec, mFee, mOwe, mTol])
            · skip
              refine lv_aload_n hx hb dX2_sound_89 rfl (lv_at hl 0 rfl) ?_
              refine gf_2_9 hx hb hts hiX2 hown hK hP hf29 dX2_sound_90 ?_
              refine lv_iload hx hb dX2_sound_93 (lv_at hl 5 rfl) ?_
              refine mld_7 (k := k * 30 + e9) (v := kin (k * 30 + e9)) hx hb hK hP rfl (by omega) rfl dX2_sound_95 ?_
              refine lv_iconst (v := 5) hx hb dX2_sound_96 (by decide) ?_
              refine lv_icmp_ne (tgt := 112) hx hb dX2_sound_97 (by decide) (fun c_6 => ?_) (fun c_6 => ?_)
              · skip
                refine lv_iconst (v := 0) hx hb dX2_sound_112 (by decide) ?_
                exact J _ (by simp [c_1, c_2, c_3, c_4, c_5, c_6, mThr, mHol, mGoo, mMan, mHel, mGon, mN, mWen, mGor, mKin, mMak, mGod, mAmo, mOth, mIts, mWas, mPrf, mCop, mDec, mFee, mOwe, mTol])
              · skip
                refine lv_iconst (v := 1) hx hb dX2_sound_100 (by decide) ?_
                refine lv_aload_n hx hb dX2_sound_101 rfl (lv_at hl 0 rfl) ?_
                refine gf_2_13 hx hb hts hiX2 hown hK hP hf41 dX2_sound_102 ?_
                refine lv_iload hx hb dX2_sound_105 (lv_at hl 5 rfl) ?_
                refine mld_11 (k := k * 30 + e9) (v := oth (k * 30 + e9)) hx hb hK hP rfl (by omega) rfl dX2_sound_107 ?_
                refine lv_ishl hx hb dX2_sound_108 ?_
                refine lv_goto (tgt := 113) hx hb dX2_sound_109 (by decide) ?_
                exact J _ (by simp [c_1, c_2, c_3, c_4, c_5, c_6, mThr, mHol, mGoo, mMan, mHel, mGon, mN, mWen, mGor, mKin, mMak, mGod, mAmo, mOth, mIts, mWas, mPrf, mCop, mDec, mFee, mOwe, mTol])
          refine lv_ior hx hb dX2_sound_113 ?_
          refine lv_istore_n (lv' := [(2, .int (((sdS kin oth k x.1 e9) ||| (if kin (k * 30 + e9) = 4 ∨ kin (k * 30 + e9) = 5 then ((1 : Int32) <<< (oth (k * 30 + e9) &&& 31)) else 0)))), (0, .ref (q 0)), (1, .int (nI (P))), (3, .int ((x.2 ||| (1 <<< (nI (k) &&& 31))))), (4, .int (nI (k))), (5, .int (nI (k * 30 + e9)))]) hx hb dX2_sound_114 rfl hl (by decide) rfl (fun ls hl => ?_)
          refine lv_iinc (v := nI ((k * 30 + e9) + 1)) (lv' := [(5, .int (nI ((k * 30 + e9) + 1))), (2, .int (((sdS kin oth k x.1 e9) ||| (if kin (k * 30 + e9) = 4 ∨ kin (k * 30 + e9) = 5 then ((1 : Int32) <<< (oth (k * 30 + e9) &&& 31)) else 0)))), (0, .ref (q 0)), (1, .int (nI (P))), (3, .int ((x.2 ||| (1 <<< (nI (k) &&& 31))))), (4, .int (nI (k)))]) hx hb dX2_sound_115 hl (k := 5) rfl (iincN (k * 30 + e9)) (by decide) rfl (fun ls hl => ?_)
          refine lv_goto (tgt := 59) hx hb dX2_sound_118 (by decide) ?_
          exact ih_e9 (by omega) _ (lv_sub hl [2, 3, 1, 4, 5, 0] rfl)
      · skip
        refine lv_iconst (v := 0) hx hb dX2_sound_50 (by decide) ?_
        exact RET (false) _ _ (congrArg bI (snd_fail hiM hk14 hb9 c_3).symm) dX2_sound_51
    · skip
      refine lv_iinc (v := nI (k + 1)) (lv' := [(4, .int (nI (k + 1))), (0, .ref (q 0)), (1, .int (nI (P))), (2, .int (x.1)), (3, .int (x.2))]) hx hb dX2_sound_27 hl (k := 4) rfl (iincN (k)) (by decide) rfl (fun ls hl => ?_)
      refine lv_goto (tgt := 14) hx hb dX2_sound_30 (by decide) ?_
      exact ih_k (by omega) _ ⟨lv_sub hl [1, 2, 3, 4, 0] rfl, fun j hj2 => (Nat.lt_or_ge j k).elim (hj j) (fun q => by rw [show j = k by omega]; exact (mskZ (by omega)).mp c_2)⟩
theorem kn_X2_canWork : yX2_canWork.cls ≠ "java/lang/invoke/MethodHandle" ∧ yX2_canWork.cls ≠ "java/lang/invoke/VarHandle" ∧ (parseMethodDescriptor yX2_canWork.desc).map (fun d => d.parameters.length) = some 1 := by decide +kernel
theorem kd_X2_canWork : yX2_canWork.cls = RX2 ∧ yX2_canWork.cls ≠ "java/lang/invoke/MethodHandle" ∧ yX2_canWork.cls ≠ "java/lang/invoke/VarHandle" ∧ (parseMethodDescriptor yX2_canWork.desc).map (fun d => d.parameters.length) = some 1 := by decide +kernel
set_option maxHeartbeats 4000000 in
set_option maxRecDepth 100000 in
theorem c_X2_canWork (l : Launch) (D : va_G) (cI cZ : ClassId) (q : Nat → Nat) (σ : SM) (P : Nat) (hP14 : P < 14) (hman : ∀ P, mMan σ P ≤ 30) (hoth : othM σ) : Met l yX2_canWork wsX2_canWork ({ frames := 4, cells := 0, slots := 0, locals := 93 }) (va_Pc [.ref (q 0), .int (nI (P))] (PM D cI cZ q σ)) (rQ (fun r => r = bI (mcF σ P))) 0 0 noF := by
  refine openZ (cc := cX2_canWork) (maxL := 2) (by decide) rfl (Nat.le_of_ble_eq_true rfl) ?_
  intro p e s m args below meth c hx hb hml hts hown hpre Q RET ls hl
  have hown : s.vm.findClass RX2 = some m.cls := hown
  have hl : lv_has ls 2 [(0, .ref (q 0)), (1, .int (nI (P)))] := hl
  obtain ⟨hP, hK⟩ := hpre
  have hiX2 : ∀ w ∈ wsX20, w ∈ wsX2_canWork := by decide +kernel
  have hf19 := hts (.fieldLink RX2 19 "PalletGramModel" "isHeld" "[Z") (by decide +kernel)
  have hf23 := hts (.fieldLink RX2 23 "PalletGramModel" "isGone" "[Z") (by decide +kernel)
  have hf16 := hts (.fieldLink RX2 16 "PalletGramModel" "many" "[I") (by decide +kernel)
  obtain ⟨thr, hol, goo, man, hel, gon, n, wen, gor, kin, mak, god, amo, oth, its, was, prf, cop, dec, fee, owe, tol⟩ := σ
  have hman : ∀ P, man P ≤ 30 := hman
  have hoth : ∀ r, (kin r = 5 ∨ kin r = 4) → ∃ o : Nat, o < 14 ∧ oth r = nI o := hoth
  have h9 := hman P
  refine lv_aload_n hx hb dX2_canWork_0 rfl (lv_at hl 0 rfl) ?_
  refine gf_2_4 hx hb hts hiX2 hown hK hP hf19 dX2_canWork_1 ?_
  refine lv_iload_n hx hb dX2_canWork_4 rfl (lv_at hl 1 rfl) ?_
  refine mld_4 (k := P) (v := hel P) hx hb hK hP rfl (by omega) rfl dX2_canWork_5 ?_
  refine neB (hel P) (tgt := 41) hx hb rfl dX2_canWork_6 (by decide) (fun c_1 => ?_) (fun c_1 => ?_)
  · skip
    refine lv_iconst (v := 0) hx hb dX2_canWork_41 (by decide) ?_
    exact RET (false) _ _ (congrArg bI (by simp [mcF, c_1, mThr, mHol, mGoo, mMan, mHel, mGon, mN, mWen, mGor, mKin, mMak, mGod, mAmo, mOth, mIts, mWas, mPrf, mCop, mDec, mFee, mOwe, mTol] <;> (intros; omega))) dX2_canWork_42
  · skip
    refine lv_aload_n hx hb dX2_canWork_9 rfl (lv_at hl 0 rfl) ?_
    refine gf_2_5 hx hb hts hiX2 hown hK hP hf23 dX2_canWork_10 ?_
    refine lv_iload_n hx hb dX2_canWork_13 rfl (lv_at hl 1 rfl) ?_
    refine mld_5 (k := P) (v := gon P) hx hb hK hP rfl (by omega) rfl dX2_canWork_14 ?_
    refine neB (gon P) (tgt := 41) hx hb rfl dX2_canWork_15 (by decide) (fun c_2 => ?_) (fun c_2 => ?_)
    · skip
      refine lv_iconst (v := 0) hx hb dX2_canWork_41 (by decide) ?_
      exact RET (false) _ _ (congrArg bI (by simp [mcF, c_1, c_2, mThr, mHol, mGoo, mMan, mHel, mGon, mN, mWen, mGor, mKin, mMak, mGod, mAmo, mOth, mIts, mWas, mPrf, mCop, mDec, mFee, mOwe, mTol] <;> (intros; omega))) dX2_canWork_42
    · skip
      refine lv_aload_n hx hb dX2_canWork_18 rfl (lv_at hl 0 rfl) ?_
      refine gf_2_3 hx hb hts hiX2 hown hK hP hf16 dX2_canWork_19 ?_
      refine lv_iload_n hx hb dX2_canWork_22 rfl (lv_at hl 1 rfl) ?_
      refine mld_3 (k := P) (v := man P) hx hb hK hP rfl (by omega) rfl dX2_canWork_23 ?_
      refine lv_bipush (v := 30) hx hb dX2_canWork_24 (by decide) ?_
      refine geN (man P) 30 (tgt := 41) hx hb rfl rfl (by omega) (by omega) dX2_canWork_26 (by decide) (fun c_3 => ?_) (fun c_3 => ?_)
      · skip
        refine lv_iconst (v := 0) hx hb dX2_canWork_41 (by decide) ?_
        exact RET (false) _ _ (congrArg bI (by simp [mcF, c_1, c_2, c_3, mThr, mHol, mGoo, mMan, mHel, mGon, mN, mWen, mGor, mKin, mMak, mGod, mAmo, mOth, mIts, mWas, mPrf, mCop, mDec, mFee, mOwe, mTol] <;> (intros; omega))) dX2_canWork_42
      · skip
        refine lv_aload_n hx hb dX2_canWork_29 rfl (lv_at hl 0 rfl) ?_
        refine lv_iload_n hx hb dX2_canWork_30 rfl (lv_at hl 1 rfl) ?_
        refine r_callE (x := bI (msF (thr, hol, goo, man, hel, gon, n, wen, gor, kin, mak, god, amo, oth, its, was, prf, cop, dec, fee, owe, tol) P)) (va_runV (As := [.int (nI (P))]) (rest := []) ⟨hx, hb, hml, hown, hts⟩ (c_X2_sound l D cI cZ q (thr, hol, goo, man, hel, gon, n, wen, gor, kin, mak, god, amo, oth, its, was, prf, cop, dec, fee, owe, tol) P (by omega) hman hoth) (cwV 1 hts gX2_canWork_X2_sound rfl rfl rfl kd_X2_sound ⟨Nat.le_of_ble_eq_true rfl, Nat.le_of_ble_eq_true rfl⟩) (pV_M hP hK) rfl rfl hl.1 rfl (lv_room (Nat.le_of_ble_eq_true rfl)) dX2_canWork_31 ⟨Nat.le_of_ble_eq_true rfl, Nat.le_of_ble_eq_true rfl⟩) ?_
        refine eqB (msF (thr, hol, goo, man, hel, gon, n, wen, gor, kin, mak, god, amo, oth, its, was, prf, cop, dec, fee, owe, tol) P) (tgt := 41) hx hb rfl dX2_canWork_34 (by decide) (fun c_4 => ?_) (fun c_4 => ?_)
        · skip
          refine lv_iconst (v := 0) hx hb dX2_canWork_41 (by decide) ?_
          exact RET (false) _ _ (congrArg bI (by simp [mcF, c_1, c_2, c_3, c_4, mThr, mHol, mGoo, mMan, mHel, mGon, mN, mWen, mGor, mKin, mMak, mGod, mAmo, mOth, mIts, mWas, mPrf, mCop, mDec, mFee, mOwe, mTol] <;> (intros; omega))) dX2_canWork_42
        · skip
          refine lv_iconst (v := 1) hx hb dX2_canWork_37 (by decide) ?_
          refine lv_goto (tgt := 42) hx hb dX2_canWork_38 (by decide) ?_
          exact RET (true) _ _ (congrArg bI (by simp [mcF, c_1, c_2, c_3, c_4, mThr, mHol, mGoo, mMan, mHel, mGon, mN, mWen, mGor, mKin, mMak, mGod, mAmo, mOth, mIts, mWas, mPrf, mCop, mDec, mFee, mOwe, mTol] <;> (intros; omega))) dX2_canWork_42
theorem kn_X2_canLoad : yX2_canLoad.cls ≠ "java/lang/invoke/MethodHandle" ∧ yX2_canLoad.cls ≠ "java/lang/invoke/VarHandle" ∧ (parseMethodDescriptor yX2_canLoad.desc).map (fun d => d.parameters.length) = some 3 := by decide +kernel
theorem kd_X2_canLoad : yX2_canLoad.cls = RX2 ∧ yX2_canLoad.cls ≠ "java/lang/invoke/MethodHandle" ∧ yX2_canLoad.cls ≠ "java/lang/invoke/VarHandle" ∧ (parseMethodDescriptor yX2_canLoad.desc).map (fun d => d.parameters.length) = some 3 := by decide +kernel
set_option maxHeartbeats 4000000 in
set_option maxRecDepth 100000 in
theorem c_X2_canLoad (l : Launch) (D : va_G) (cI cZ : ClassId) (q : Nat → Nat) (σ : SM) (P G : Nat) (a : Int32) (hP14 : P < 14) (hG6 : G < 6) (ok : okM σ) (hoth : othM σ) : Met l yX2_canLoad wsX2_canLoad ({ frames := 5, cells := 0, slots := 0, locals := 114 }) (va_Pc [.ref (q 0), .int (nI (P)), .int (nI (G)), .int a] (PM D cI cZ q σ)) (rQ (fun r => r = bI (clF σ P G a))) 0 0 noF := by
  refine openZ (cc := cX2_canLoad) (maxL := 5) (by decide) rfl (Nat.le_of_ble_eq_true rfl) ?_
  intro p e s m args below meth c hx hb hml hts hown hpre Q RET ls hl
  have hown : s.vm.findClass RX2 = some m.cls := hown
  have hl : lv_has ls 5 [(0, .ref (q 0)), (1, .int (nI (P))), (2, .int (nI (G))), (3, .int a)] := hl
  obtain ⟨hP, hK⟩ := hpre
  have hiX2 : ∀ w ∈ wsX20, w ∈ wsX2_canLoad := by decide +kernel
  have hf13 := hts (.fieldLink RX2 13 "PalletGramModel" "goods" "[I") (by decide +kernel)
  have hf7 := hts (.fieldLink RX2 7 "PalletGramModel" "holder" "[I") (by decide +kernel)
  obtain ⟨thr, hol, goo, man, hel, gon, n, wen, gor, kin, mak, god, amo, oth, its, was, prf, cop, dec, fee, owe, tol⟩ := σ
  obtain ⟨hn, hhol, hman, hgor, hwen⟩ := ok
  have hn : n ≤ 14 := hn
  have hhol : ∀ P, hol P < 6 := hhol
  have hman : ∀ P, man P ≤ 30 := hman
  have hgor : gor ≤ 14 := hgor
  have hwen : ∀ k, wen k < 14 := hwen
  have hoth : ∀ r, (kin r = 5 ∨ kin r = 4) → ∃ o : Nat, o < 14 ∧ oth r = nI o := hoth
  refine lv_aload_n hx hb dX2_canLoad_0 rfl (lv_at hl 0 rfl) ?_
  refine gf_2_2 hx hb hts hiX2 hown hK hP hf13 dX2_canLoad_1 ?_
  refine lv_bipush (v := 6) hx hb dX2_canLoad_4 (by decide) ?_
  refine lv_iload_n hx hb dX2_canLoad_6 rfl (lv_at hl 1 rfl) ?_
  refine mulNc 6 P hx hb rfl rfl dX2_canLoad_7 ?_
  refine lv_iload_n hx hb dX2_canLoad_8 rfl (lv_at hl 2 rfl) ?_
  refine addN (P * 6) G hx hb rfl rfl dX2_canLoad_9 ?_
  refine mld_2 (k := P * 6 + G) (v := goo (P * 6 + G)) hx hb hK hP rfl (by omega) rfl dX2_canLoad_10 ?_
  refine lv_iload_n hx hb dX2_canLoad_11 rfl (lv_at hl 3 rfl) ?_
  refine lv_iadd hx hb dX2_canLoad_12 ?_
  refine lv_istore (lv' := [(4, .int (((goo (P * 6 + G)) + a))), (0, .ref (q 0)), (1, .int (nI (P))), (2, .int (nI (G))), (3, .int a)]) hx hb dX2_canLoad_13 hl (by decide) rfl (fun ls hl => ?_)
  refine lv_aload_n hx hb dX2_canLoad_15 rfl (lv_at hl 1 rfl) ?_
  refine lv_iload_n hx hb dX2_canLoad_16 rfl (lv_at hl 2 rfl) ?_
  refine r_callE (x := bI (mcF (thr, hol, goo, man, hel, gon, n, wen, gor, kin, mak, god, amo, oth, its, was, prf, cop, dec, fee, owe, tol) P)) (va_runV (As := [.int (nI (P))]) (rest := []) ⟨hx, hb, hml, hown, hts⟩ (c_X2_canWork l D cI cZ q (thr, hol, goo, man, hel, gon, n, wen, gor, kin, mak, god, amo, oth, its, was, prf, cop, dec, fee, owe, tol) P (by omega) hman hoth) (cwV 1 hts gX2_canLoad_X2_canWork rfl rfl rfl kd_X2_canWork ⟨Nat.le_of_ble_eq_true rfl, Nat.le_of_ble_eq_true rfl⟩) (pV_M hP hK) rfl rfl hl.1 rfl (lv_room (Nat.le_of_ble_eq_true rfl)) dX2_canLoad_17 ⟨Nat.le_of_ble_eq_true rfl, Nat.le_of_ble_eq_true rfl⟩) ?_
  refine eqB (mcF (thr, hol, goo, man, hel, gon, n, wen, gor, kin, mak, god, amo, oth, its, was, prf, cop, dec, fee, owe, tol) P) (tgt := 61) hx hb rfl dX2_canLoad_20 (by decide) (fun c_1 => ?_) (fun c_1 => ?_)
  · skip
    refine lv_iconst (v := 0) hx hb dX2_canLoad_61 (by decide) ?_
    exact RET (false) _ _ (congrArg bI (by simp [clF, c_1, mThr, mHol, mGoo, mMan, mHel, mGon, mN, mWen, mGor, mKin, mMak, mGod, mAmo, mOth, mIts, mWas, mPrf, mCop, mDec, mFee, mOwe, mTol])) dX2_canLoad_62
  · skip
    refine lv_iload hx hb dX2_canLoad_23 (lv_at hl 0 rfl) ?_
    refine lv_iconst (v := 0) hx hb dX2_canLoad_25 (by decide) ?_
    refine lv_sipush (v := 999) hx hb dX2_canLoad_26 (by decide) ?_
    refine r_callE (x := bI (inB (((goo (P * 6 + G)) + a)) 0 999)) (va_runS (As := [.int (((goo (P * 6 + G)) + a)), .int 0, .int 999]) (rest := []) ⟨hx, hb, hml, hown, hts⟩ (c_X2_isIn l (((goo (P * 6 + G)) + a)) 0 999) (va_cwS 3 hts gX2_canLoad_X2_isIn rfl rfl rfl kn_X2_isIn ⟨Nat.le_of_ble_eq_true rfl, Nat.le_of_ble_eq_true rfl⟩) (pS_T) rfl rfl hl.1 rfl (lv_room (Nat.le_of_ble_eq_true rfl)) dX2_canLoad_29 ⟨Nat.le_of_ble_eq_true rfl, Nat.le_of_ble_eq_true rfl⟩) ?_
    refine eqB (inB (((goo (P * 6 + G)) + a)) 0 999) (tgt := 61) hx hb rfl dX2_canLoad_32 (by decide) (fun c_2 => ?_) (fun c_2 => ?_)
    · skip
      refine lv_iconst (v := 0) hx hb dX2_canLoad_61 (by decide) ?_
      exact RET (false) _ _ (congrArg bI (by simp [clF, c_1, c_2, mThr, mHol, mGoo, mMan, mHel, mGon, mN, mWen, mGor, mKin, mMak, mGod, mAmo, mOth, mIts, mWas, mPrf, mCop, mDec, mFee, mOwe, mTol])) dX2_canLoad_62
    · skip
      have h8 := hhol P
      refine lv_iload_n hx hb dX2_canLoad_35 rfl (lv_at hl 4 rfl) ?_
      refine lv_if_lt (tgt := 57) hx hb dX2_canLoad_36 (by decide) (fun c_3 => ?_) (fun c_3 => ?_)
      · skip
        refine lv_iconst (v := 1) hx hb dX2_canLoad_57 (by decide) ?_
        refine lv_goto (tgt := 62) hx hb dX2_canLoad_58 (by decide) ?_
        exact RET (true) _ _ (congrArg bI (by simp [clF, c_1, c_2, c_3, mThr, mHol, mGoo, mMan, mHel, mGon, mN, mWen, mGor, mKin, mMak, mGod, mAmo, mOth, mIts, mWas, mPrf, mCop, mDec, mFee, mOwe, mTol])) dX2_canLoad_62
      · skip
        refine lv_aload_n hx hb dX2_canLoad_39 rfl (lv_at hl 1 rfl) ?_
        refine lv_aload_n hx hb dX2_canLoad_40 rfl (lv_at hl 1 rfl) ?_
        refine gf_2_1 hx hb hts hiX2 hown hK hP hf7 dX2_canLoad_41 ?_
        refine lv_iload_n hx hb dX2_canLoad_44 rfl (lv_at hl 2 rfl) ?_
        refine mld_1 (k := P) (v := hol P) hx hb hK hP rfl (by omega) rfl dX2_canLoad_45 ?_
        refine lv_iload_n hx hb dX2_canLoad_46 rfl (lv_at hl 4 rfl) ?_
        refine lv_iload_n hx hb dX2_canLoad_47 rfl (lv_at hl 3 rfl) ?_
        refine lv_iconst (v := 1) hx hb dX2_canLoad_48 (by decide) ?_
        refine addN G 1 hx hb rfl rfl dX2_canLoad_49 ?_
        refine lv_imul hx hb dX2_canLoad_50 ?_
        refine r_callE (x := bI (mrS hol goo (hol P) ((a * nI (G + 1))) n)) (va_runV (As := [.int (nI (hol P)), .int ((a * nI (G + 1)))]) (rest := []) ⟨hx, hb, hml, hown, hts⟩ (c_X2_hasRoom l D cI cZ q (thr, hol, goo, man, hel, gon, n, wen, gor, kin, mak, god, amo, oth, its, was, prf, cop, dec, fee, owe, tol) (hol P) ((a * nI (G + 1))) ⟨hn, hhol, hman, hgor, hwen⟩ (by omega)) (cwV 2 hts gX2_canLoad_X2_hasRoom rfl rfl rfl kd_X2_hasRoom ⟨Nat.le_of_ble_eq_true rfl, Nat.le_of_ble_eq_true rfl⟩) (pV_M hP hK) rfl rfl hl.1 rfl (lv_room (Nat.le_of_ble_eq_true rfl)) dX2_canLoad_51 ⟨Nat.le_of_ble_eq_true rfl, Nat.le_of_ble_eq_true rfl⟩) ?_
        refine eqB (mrS hol goo (hol P) ((a * nI (G + 1))) n) (tgt := 61) hx hb rfl dX2_canLoad_54 (by decide) (fun c_4 => ?_) (fun c_4 => ?_)
        · skip
          refine lv_iconst (v := 0) hx hb dX2_canLoad_61 (by decide) ?_
          exact RET (false) _ _ (congrArg bI (by simp [clF, c_1, c_2, c_3, c_4, mThr, mHol, mGoo, mMan, mHel, mGon, mN, mWen, mGor, mKin, mMak, mGod, mAmo, mOth, mIts, mWas, mPrf, mCop, mDec, mFee, mOwe, mTol])) dX2_canLoad_62
        · skip
          refine lv_iconst (v := 1) hx hb dX2_canLoad_57 (by decide) ?_
          refine lv_goto (tgt := 62) hx hb dX2_canLoad_58 (by decide) ?_
          exact RET (true) _ _ (congrArg bI (by simp [clF, c_1, c_2, c_3, c_4, mThr, mHol, mGoo, mMan, mHel, mGon, mN, mWen, mGor, mKin, mMak, mGod, mAmo, mOth, mIts, mWas, mPrf, mCop, mDec, mFee, mOwe, mTol])) dX2_canLoad_62
theorem kn_X2_canJoin : yX2_canJoin.cls ≠ "java/lang/invoke/MethodHandle" ∧ yX2_canJoin.cls ≠ "java/lang/invoke/VarHandle" ∧ (parseMethodDescriptor yX2_canJoin.desc).map (fun d => d.parameters.length) = some 2 := by decide +kernel
theorem kd_X2_canJoin : yX2_canJoin.cls = RX2 ∧ yX2_canJoin.cls ≠ "java/lang/invoke/MethodHandle" ∧ yX2_canJoin.cls ≠ "java/lang/invoke/VarHandle" ∧ (parseMethodDescriptor yX2_canJoin.desc).map (fun d => d.parameters.length) = some 2 := by decide +kernel
set_option maxHeartbeats 4000000 in
set_option maxRecDepth 100000 in
theorem c_X2_canJoin (l : Launch) (D : va_G) (cI cZ : ClassId) (q : Nat → Nat) (σ : SM) (P O : Nat) (hP14 : P < 14) (hO14 : O < 14) (ok : okM σ) (hoth : othM σ) : Met l yX2_canJoin wsX2_canJoin ({ frames := 5, cells := 0, slots := 0, locals := 114 }) (va_Pc [.ref (q 0), .int (nI (P)), .int (nI (O))] (PM D cI cZ q σ)) (rQ (fun r => r = bI (cjF σ P O))) 0 0 noF := by
  refine openZ (cc := cX2_canJoin) (maxL := 5) (by decide) rfl (Nat.le_of_ble_eq_true rfl) ?_
  intro p e s m args below meth c hx hb hml hts hown hpre Q RET ls hl
  have hown : s.vm.findClass RX2 = some m.cls := hown
  have hl : lv_has ls 5 [(0, .ref (q 0)), (1, .int (nI (P))), (2, .int (nI (O)))] := hl
  obtain ⟨hP, hK⟩ := hpre
  have hiX2 : ∀ w ∈ wsX20, w ∈ wsX2_canJoin := by decide +kernel
  have hf7 := hts (.fieldLink RX2 7 "PalletGramModel" "holder" "[I") (by decide +kernel)
  have hf13 := hts (.fieldLink RX2 13 "PalletGramModel" "goods" "[I") (by decide +kernel)
  obtain ⟨thr, hol, goo, man, hel, gon, n, wen, gor, kin, mak, god, amo, oth, its, was, prf, cop, dec, fee, owe, tol⟩ := σ
  obtain ⟨hn, hhol, hman, hgor, hwen⟩ := ok
  have hn : n ≤ 14 := hn
  have hhol : ∀ P, hol P < 6 := hhol
  have hman : ∀ P, man P ≤ 30 := hman
  have hgor : gor ≤ 14 := hgor
  have hwen : ∀ k, wen k < 14 := hwen
  have hoth : ∀ r, (kin r = 5 ∨ kin r = 4) → ∃ o : Nat, o < 14 ∧ oth r = nI o := hoth
  have h8 := hhol P
  have h7 := hhol O
  refine cutI (x := bI ((decide (hol P = hol O) && (mcF (thr, hol, goo, man, hel, gon, n, wen, gor, kin, mak, god, amo, oth, its, was, prf, cop, dec, fee, owe, tol) P && mcF (thr, hol, goo, man, hel, gon, n, wen, gor, kin, mak, god, amo, oth, its, was, prf, cop, dec, fee, owe, tol) O)))) (pcM := 36) (st := []) ?_ (fun J => ?_)
  rotate_left
  · skip
    have h8 := hhol P
    have h7 := hhol O
    refine lv_aload_n hx hb dX2_canJoin_0 rfl (lv_at hl 0 rfl) ?_
    refine gf_2_1 hx hb hts hiX2 hown hK hP hf7 dX2_canJoin_1 ?_
    refine lv_iload_n hx hb dX2_canJoin_4 rfl (lv_at hl 1 rfl) ?_
    refine mld_1 (k := P) (v := hol P) hx hb hK hP rfl (by omega) rfl dX2_canJoin_5 ?_
    refine lv_aload_n hx hb dX2_canJoin_6 rfl (lv_at hl 0 rfl) ?_
    refine gf_2_1 hx hb hts hiX2 hown hK hP hf7 dX2_canJoin_7 ?_
    refine lv_iload_n hx hb dX2_canJoin_10 rfl (lv_at hl 2 rfl) ?_
    refine mld_1 (k := O) (v := hol O) hx hb hK hP rfl (by omega) rfl dX2_canJoin_11 ?_
    refine neN (hol P) (hol O) (tgt := 35) hx hb rfl rfl (by omega) (by omega) dX2_canJoin_12 (by decide) (fun c_1 => ?_) (fun c_1 => ?_)
    · skip
      refine lv_iconst (v := 0) hx hb dX2_canJoin_35 (by decide) ?_
      exact J _ (congrArg bI (show (false : Bool) = (decide (hol P = hol O) && (mcF (thr, hol, goo, man, hel, gon, n, wen, gor, kin, mak, god, amo, oth, its, was, prf, cop, dec, fee, owe, tol) P && mcF (thr, hol, goo, man, hel, gon, n, wen, gor, kin, mak, god, amo, oth, its, was, prf, cop, dec, fee, owe, tol) O)) from by simp [c_1]))
    · skip
      refine lv_aload_n hx hb dX2_canJoin_15 rfl (lv_at hl 0 rfl) ?_
      refine lv_iload_n hx hb dX2_canJoin_16 rfl (lv_at hl 1 rfl) ?_
      refine r_callE (x := bI (mcF (thr, hol, goo, man, hel, gon, n, wen, gor, kin, mak, god, amo, oth, its, was, prf, cop, dec, fee, owe, tol) P)) (va_runV (As := [.int (nI (P))]) (rest := []) ⟨hx, hb, hml, hown, hts⟩ (c_X2_canWork l D cI cZ q (thr, hol, goo, man, hel, gon, n, wen, gor, kin, mak, god, amo, oth, its, was, prf, cop, dec, fee, owe, tol) P (by omega) hman hoth) (cwV 1 hts gX2_canJoin_X2_canWork rfl rfl rfl kd_X2_canWork ⟨Nat.le_of_ble_eq_true rfl, Nat.le_of_ble_eq_true rfl⟩) (pV_M hP hK) rfl rfl hl.1 rfl (lv_room (Nat.le_of_ble_eq_true rfl)) dX2_canJoin_17 ⟨Nat.le_of_ble_eq_true rfl, Nat.le_of_ble_eq_true rfl⟩) ?_
      refine eqB (mcF (thr, hol, goo, man, hel, gon, n, wen, gor, kin, mak, god, amo, oth, its, was, prf, cop, dec, fee, owe, tol) P) (tgt := 35) hx hb rfl dX2_canJoin_20 (by decide) (fun c_2 => ?_) (fun c_2 => ?_)
      · skip
        refine lv_iconst (v := 0) hx hb dX2_canJoin_35 (by decide) ?_
        exact J _ (congrArg bI (show (false : Bool) = (decide (hol P = hol O) && (mcF (thr, hol, goo, man, hel, gon, n, wen, gor, kin, mak, god, amo, oth, its, was, prf, cop, dec, fee, owe, tol) P && mcF (thr, hol, goo, man, hel, gon, n, wen, gor, kin, mak, god, amo, oth, its, was, prf, cop, dec, fee, owe, tol) O)) from by simp [c_1, c_2]))
      · skip
        refine lv_aload_n hx hb dX2_canJoin_23 rfl (lv_at hl 0 rfl) ?_
        refine lv_iload_n hx hb dX2_canJoin_24 rfl (lv_at hl 2 rfl) ?_
        refine r_callE (x := bI (mcF (thr, hol, goo, man, hel, gon, n, wen, gor, kin, mak, god, amo, oth, its, was, prf, cop, dec, fee, owe, tol) O)) (va_runV (As := [.int (nI (O))]) (rest := []) ⟨hx, hb, hml, hown, hts⟩ (c_X2_canWork l D cI cZ q (thr, hol, goo, man, hel, gon, n, wen, gor, kin, mak, god, amo, oth, its, was, prf, cop, dec, fee, owe, tol) O (by omega) hman hoth) (cwV 1 hts gX2_canJoin_X2_canWork rfl rfl rfl kd_X2_canWork ⟨Nat.le_of_ble_eq_true rfl, Nat.le_of_ble_eq_true rfl⟩) (pV_M hP hK) rfl rfl hl.1 rfl (lv_room (Nat.le_of_ble_eq_true rfl)) dX2_canJoin_25 ⟨Nat.le_of_ble_eq_true rfl, Nat.le_of_ble_eq_true rfl⟩) ?_
        refine eqB (mcF (thr, hol, goo, man, hel, gon, n, wen, gor, kin, mak, god, amo, oth, its, was, prf, cop, dec, fee, owe, tol) O) (tgt := 35) hx hb rfl dX2_canJoin_28 (by decide) (fun c_3 => ?_) (fun c_3 => ?_)
        · skip
          refine lv_iconst (v := 0) hx hb dX2_canJoin_35 (by decide) ?_
          exact J _ (congrArg bI (show (false : Bool) = (decide (hol P = hol O) && (mcF (thr, hol, goo, man, hel, gon, n, wen, gor, kin, mak, god, amo, oth, its, was, prf, cop, dec, fee, owe, tol) P && mcF (thr, hol, goo, man, hel, gon, n, wen, gor, kin, mak, god, amo, oth, its, was, prf, cop, dec, fee, owe, tol) O)) from by simp [c_1, c_2, c_3]))
        · skip
          refine lv_iconst (v := 1) hx hb dX2_canJoin_31 (by decide) ?_
          refine lv_goto (tgt := 36) hx hb dX2_canJoin_32 (by decide) ?_
          exact J _ (congrArg bI (show (true : Bool) = (decide (hol P = hol O) && (mcF (thr, hol, goo, man, hel, gon, n, wen, gor, kin, mak, god, amo, oth, its, was, prf, cop, dec, fee, owe, tol) P && mcF (thr, hol, goo, man, hel, gon, n, wen, gor, kin, mak, god, amo, oth, its, was, prf, cop, dec, fee, owe, tol) O)) from by simp [c_1, c_2, c_3]))
  refine lv_istore_n (lv' := [(3, .int (bI ((decide (hol P = hol O) && (mcF (thr, hol, goo, man, hel, gon, n, wen, gor, kin, mak, god, amo, oth, its, was, prf, cop, dec, fee, owe, tol) P && mcF (thr, hol, goo, man, hel, gon, n, wen, gor, kin, mak, god, amo, oth, its, was, prf, cop, dec, fee, owe, tol) O))))), (0, .ref (q 0)), (1, .int (nI (P))), (2, .int (nI (O)))]) hx hb dX2_canJoin_36 rfl hl (by decide) rfl (fun ls hl => ?_)
  refine lv_iconst (v := 0) hx hb dX2_canJoin_37 (by decide) ?_
  refine lv_istore (lv' := [(4, .int 0), (3, .int (bI ((decide (hol P = hol O) && (mcF (thr, hol, goo, man, hel, gon, n, wen, gor, kin, mak, god, amo, oth, its, was, prf, cop, dec, fee, owe, tol) P && mcF (thr, hol, goo, man, hel, gon, n, wen, gor, kin, mak, god, amo, oth, its, was, prf, cop, dec, fee, owe, tol) O))))), (0, .ref (q 0)), (1, .int (nI (P))), (2, .int (nI (O)))]) hx hb dX2_canJoin_38 hl (by decide) rfl (fun ls hl => ?_)
  refine loopW (N := 6) (k0 := 0) (fun k ls => lv_has ls 5 [(0, .ref (q 0)), (1, .int (nI (P))), (2, .int (nI (O))), (3, .int (bI ((cjS goo P O (decide (hol P = hol O) && (mcF (thr, hol, goo, man, hel, gon, n, wen, gor, kin, mak, god, amo, oth, its, was, prf, cop, dec, fee, owe, tol) P && mcF (thr, hol, goo, man, hel, gon, n, wen, gor, kin, mak, god, amo, oth, its, was, prf, cop, dec, fee, owe, tol) O)) k)))), (4, .int (nI (k)))]) (Nat.zero_le _) (lv_sub hl [2, 3, 4, 1, 0] rfl) (fun k ls hk_k hI ih_k => ?_)
  have hl := hI
  refine lv_iload hx hb dX2_canJoin_40 (lv_at hl 4 rfl) ?_
  refine lv_bipush (v := 6) hx hb dX2_canJoin_42 (by decide) ?_
  refine geN k 6 (tgt := 94) hx hb rfl rfl (by omega) (by omega) dX2_canJoin_44 (by decide) (fun c_4 => ?_) (fun c_4 => ?_)
  · skip
    refine lv_iload_n hx hb dX2_canJoin_94 rfl (lv_at hl 3 rfl) ?_
    exact RET ((cjS goo P O (decide (hol P = hol O) && (mcF (thr, hol, goo, man, hel, gon, n, wen, gor, kin, mak, god, amo, oth, its, was, prf, cop, dec, fee, owe, tol) P && mcF (thr, hol, goo, man, hel, gon, n, wen, gor, kin, mak, god, amo, oth, its, was, prf, cop, dec, fee, owe, tol) O)) k)) _ _ (congrArg bI (by rw [show k = 6 by omega]; rfl)) dX2_canJoin_95
  · skip
    refine cutI (x := bI ((cjS goo P O (decide (hol P = hol O) && (mcF (thr, hol, goo, man, hel, gon, n, wen, gor, kin, mak, god, amo, oth, its, was, prf, cop, dec, fee, owe, tol) P && mcF (thr, hol, goo, man, hel, gon, n, wen, gor, kin, mak, god, amo, oth, its, was, prf, cop, dec, fee, owe, tol) O)) k && decide (¬ 999 < goo (P * 6 + k) + goo (O * 6 + k))))) (pcM := 87) (st := []) ?_ (fun J => ?_)
    rotate_left
    · skip
      refine lv_iload_n hx hb dX2_canJoin_47 rfl (lv_at hl 3 rfl) ?_
      refine eqB ((cjS goo P O (decide (hol P = hol O) && (mcF (thr, hol, goo, man, hel, gon, n, wen, gor, kin, mak, god, amo, oth, its, was, prf, cop, dec, fee, owe, tol) P && mcF (thr, hol, goo, man, hel, gon, n, wen, gor, kin, mak, god, amo, oth, its, was, prf, cop, dec, fee, owe, tol) O)) k)) (tgt := 86) hx hb rfl dX2_canJoin_48 (by decide) (fun c_5 => ?_) (fun c_5 => ?_)
      · skip
        refine lv_iconst (v := 0) hx hb dX2_canJoin_86 (by decide) ?_
        exact J _ (congrArg bI (show (false : Bool) = (cjS goo P O (decide (hol P = hol O) && (mcF (thr, hol, goo, man, hel, gon, n, wen, gor, kin, mak, god, amo, oth, its, was, prf, cop, dec, fee, owe, tol) P && mcF (thr, hol, goo, man, hel, gon, n, wen, gor, kin, mak, god, amo, oth, its, was, prf, cop, dec, fee, owe, tol) O)) k && decide (¬ 999 < goo (P * 6 + k) + goo (O * 6 + k))) from by simp [c_4, c_5]))
      · skip
        refine lv_aload_n hx hb dX2_canJoin_51 rfl (lv_at hl 0 rfl) ?_
        refine gf_2_2 hx hb hts hiX2 hown hK hP hf13 dX2_canJoin_52 ?_
        refine lv_bipush (v := 6) hx hb dX2_canJoin_55 (by decide) ?_
        refine lv_iload_n hx hb dX2_canJoin_57 rfl (lv_at hl 1 rfl) ?_
        refine mulNc 6 P hx hb rfl rfl dX2_canJoin_58 ?_
        refine lv_iload hx hb dX2_canJoin_59 (lv_at hl 4 rfl) ?_
        refine addN (P * 6) k hx hb rfl rfl dX2_canJoin_61 ?_
        refine mld_2 (k := P * 6 + k) (v := goo (P * 6 + k)) hx hb hK hP rfl (by omega) rfl dX2_canJoin_62 ?_
        refine lv_aload_n hx hb dX2_canJoin_63 rfl (lv_at hl 0 rfl) ?_
        refine gf_2_2 hx hb hts hiX2 hown hK hP hf13 dX2_canJoin_64 ?_
        refine lv_bipush (v := 6) hx hb dX2_canJoin_67 (by decide) ?_
        refine lv_iload_n hx hb dX2_canJoin_69 rfl (lv_at hl 2 rfl) ?_
        refine mulNc 6 O hx hb rfl rfl dX2_canJoin_70 ?_
        refine lv_iload hx hb dX2_canJoin_71 (lv_at hl 4 rfl) ?_
        refine addN (O * 6) k hx hb rfl rfl dX2_canJoin_73 ?_
        refine mld_2 (k := O * 6 + k) (v := goo (O * 6 + k)) hx hb hK hP rfl (by omega) rfl dX2_canJoin_74 ?_
        refine lv_iadd hx hb dX2_canJoin_75 ?_
        refine lv_sipush (v := 999) hx hb dX2_canJoin_76 (by decide) ?_
        refine lv_icmp_gt (tgt := 86) hx hb dX2_canJoin_79 (by decide) (fun c_6 => ?_) (fun c_6 => ?_)
        · skip
          refine lv_iconst (v := 0) hx hb dX2_canJoin_86 (by decide) ?_
          exact J _ (congrArg bI (show (false : Bool) = (cjS goo P O (decide (hol P = hol O) && (mcF (thr, hol, goo, man, hel, gon, n, wen, gor, kin, mak, god, amo, oth, its, was, prf, cop, dec, fee, owe, tol) P && mcF (thr, hol, goo, man, hel, gon, n, wen, gor, kin, mak, god, amo, oth, its, was, prf, cop, dec, fee, owe, tol) O)) k && decide (¬ 999 < goo (P * 6 + k) + goo (O * 6 + k))) from by simp [c_4, c_5, c_6]))
        · skip
          refine lv_iconst (v := 1) hx hb dX2_canJoin_82 (by decide) ?_
          refine lv_goto (tgt := 87) hx hb dX2_canJoin_83 (by decide) ?_
          exact J _ (congrArg bI (show (true : Bool) = (cjS goo P O (decide (hol P = hol O) && (mcF (thr, hol, goo, man, hel, gon, n, wen, gor, kin, mak, god, amo, oth, its, was, prf, cop, dec, fee, owe, tol) P && mcF (thr, hol, goo, man, hel, gon, n, wen, gor, kin, mak, god, amo, oth, its, was, prf, cop, dec, fee, owe, tol) O)) k && decide (¬ 999 < goo (P * 6 + k) + goo (O * 6 + k))) from by simp [c_4, c_5, c_6]))
    refine lv_istore_n (lv' := [(3, .int (bI ((cjS goo P O (decide (hol P = hol O) && (mcF (thr, hol, goo, man, hel, gon, n, wen, gor, kin, mak, god, amo, oth, its, was, prf, cop, dec, fee, owe, tol) P && mcF (thr, hol, goo, man, hel, gon, n, wen, gor, kin, mak, god, amo, oth, its, was, prf, cop, dec, fee, owe, tol) O)) k && decide (¬ 999 < goo (P * 6 + k) + goo (O * 6 + k)))))), (0, .ref (q 0)), (1, .int (nI (P))), (2, .int (nI (O))), (4, .int (nI (k)))]) hx hb dX2_canJoin_87 rfl hl (by decide) rfl (fun ls hl => ?_)
    refine lv_iinc (v := nI (k + 1)) (lv' := [(4, .int (nI (k + 1))), (3, .int (bI ((cjS goo P O (decide (hol P = hol O) && (mcF (thr, hol, goo, man, hel, gon, n, wen, gor, kin, mak, god, amo, oth, its, was, prf, cop, dec, fee, owe, tol) P && mcF (thr, hol, goo, man, hel, gon, n, wen, gor, kin, mak, god, amo, oth, its, was, prf, cop, dec, fee, owe, tol) O)) k && decide (¬ 999 < goo (P * 6 + k) + goo (O * 6 + k)))))), (0, .ref (q 0)), (1, .int (nI (P))), (2, .int (nI (O)))]) hx hb dX2_canJoin_88 hl (k := 4) rfl (iincN (k)) (by decide) rfl (fun ls hl => ?_)
    refine lv_goto (tgt := 40) hx hb dX2_canJoin_91 (by decide) ?_
    exact ih_k (by omega) _ (lv_sub hl [2, 3, 4, 1, 0] rfl)
