theorem kn_X1_broken : yX1_broken.cls ≠ "java/lang/invoke/MethodHandle" ∧ yX1_broken.cls ≠ "java/lang/invoke/VarHandle" ∧ (parseMethodDescriptor yX1_broken.desc).map (fun d => d.parameters.length) = some 1 := by decide +kernel
theorem kd_X1_broken : yX1_broken.cls = RX1 ∧ yX1_broken.cls ≠ "java/lang/invoke/MethodHandle" ∧ yX1_broken.cls ≠ "java/lang/invoke/VarHandle" ∧ (parseMethodDescriptor yX1_broken.desc).map (fun d => d.parameters.length) = some 1 := by decide +kernel
set_option maxHeartbeats 4000000 in
set_option maxRecDepth 100000 in
theorem c_X1_broken (l : Launch) (hf : l.stackTraces = false) (D : va_G) (cI : ClassId) (q : Nat → Nat) (σ : SG) (hq : ijQ 12 q) (x1 : Int32) (ok : okG σ) (hz : ∀ P, gN σ ≤ P → gLen σ P = 0) : vx_Met l yX1_broken wsX1_broken ({ frames := 7, cells := 1, slots := 6, locals := 102 }) (va_Pc [.ref (q 0), .int x1] (PX D cI q σ)) (rX (fun r => (cBroken σ x1).1 = 0 ∧ r = (cBroken σ x1).2.1)) (xQ (fun E => (cBroken σ x1).1 ≠ 0 ∧ E = exN (cBroken σ x1).1)) 1 6 noF := by
  refine openXR (cc := cX1_broken) (maxL := 2) (by decide) rfl (Nat.le_of_ble_eq_true rfl) ?_
  intro p e s m args below meth c hx hb hml hts hown hpre Q RET OUT ls hl
  have hown : s.vm.findClass RX1 = some m.cls := hown
  have hl : lv_has ls 2 [(0, .ref (q 0)), (1, .int x1)] := hl
  obtain ⟨⟨hP, hK, hE⟩, hX⟩ := hpre
  have hS : va_S (adQ 12 q) s.heap s.heap [] := va_S.rf
  have hiX1 : ∀ w ∈ wsX10, w ∈ wsX1_broken := by decide +kernel
  have hf10 := hts (.fieldLink RX1 10 "PalletGram" "chains" "LPalletGram$Chains;") (by decide +kernel)
  have hn : gN σ ≤ 14 := ok.1
  have hhol : ∀ P, gHol σ P < 6 := ok.2.1
  have hlen : ∀ P, gLen σ P ≤ 30 := ok.2.2
  refine lv_aload_n hx hb dX1_broken_0 rfl (lv_at hl 0 rfl) ?_
  refine lv_iload_n hx hb dX1_broken_1 rfl (lv_at hl 1 rfl) ?_
  refine r_callE (x := bI (rngB 0 (nI (gN σ)) x1)) (va_runV (As := [.int x1]) (rest := []) ⟨hx, hb, hml, hown, hts⟩ (c_X1_isPallet l D cI q σ x1) (cwV 1 hts gX1_broken_X1_isPallet rfl rfl rfl kd_X1_isPallet ⟨Nat.le_of_ble_eq_true rfl, Nat.le_of_ble_eq_true rfl⟩) (pV_G0 hP hK hE) rfl rfl hl.1 rfl (lv_room (Nat.le_of_ble_eq_true rfl)) dX1_broken_2 ⟨Nat.le_of_ble_eq_true rfl, Nat.le_of_ble_eq_true rfl⟩) ?_
  refine x_call (vx_runS (As := [.int (bI (rngB 0 (nI (gN σ)) x1))]) (rest := []) ⟨hx, hb, hml, hown, hts⟩ (c_X1_needThere l hf (rngB 0 (nI (gN σ)) x1)) (va_cwS 1 hts gX1_broken_X1_needThere rfl rfl rfl kn_X1_needThere ⟨Nat.le_of_ble_eq_true rfl, Nat.le_of_ble_eq_true rfl⟩) (pS_E hX) rfl rfl hl.1 rfl (lv_room (Nat.le_of_ble_eq_true rfl)) dX1_broken_5 ⟨Nat.le_of_ble_eq_true rfl, Nat.le_of_ble_eq_true rfl⟩) (fun E9 ce q9 H1 hψ hz9 hk9 hce hcv hcl => ?_) (fun c_1 => ?_)
  · obtain ⟨c_1, rfl⟩ := hψ
    exact OUT _ _ _ _ _ _ _ (by have hs : cBroken σ x1 = (1, 0, σ) := (by simp [cBroken, palC, wkC, hrC, lkC, entC, pN, bI_t, bI_f, bI_inj, va_up_self, gHol, gGoo, gDec, gFee, gDeb, gLen, gNum, gPrf, gCop, gMad, gN, gsHol, gsGoo, gsDec, gsFee, gsDeb, gsLen, gsNum, gsPrf, gsCop, gsMad, gsN, c_1] <;> decide); rw [hs]; exact ⟨(show (1 : Nat) ≠ 0 by decide), rfl⟩) hz9 hk9 hce hcv hcl
  obtain ⟨P, hP9, rfl⟩ := rngB_pal (by omega) c_1
  have hcP : (nI P).toNatClampNeg = P := nI_clamp (by omega)
  refine lv_aload_n hx hb dX1_broken_8 rfl (lv_at hl 0 rfl) ?_
  refine gf_1_0 hx hb hts hiX1 hown hK hP hf10 dX1_broken_9 ?_
  refine lv_iload_n hx hb dX1_broken_12 rfl (lv_at hl 1 rfl) ?_
  refine r_callE (x := (fbF (gLen σ) (gPrf σ) (gNum σ) P)) (va_runV (As := [.int (nI (P))]) (rest := []) ⟨hx, hb, hml, hown, hts⟩ (c_X0_firstBroken l D cI q σ P (by omega) hlen) (cwV 1 hts gX1_broken_X0_firstBroken rfl rfl rfl kd_X0_firstBroken ⟨Nat.le_of_ble_eq_true rfl, Nat.le_of_ble_eq_true rfl⟩) (pV_G1 hP hK hE) rfl rfl hl.1 rfl (lv_room (Nat.le_of_ble_eq_true rfl)) dX1_broken_13 ⟨Nat.le_of_ble_eq_true rfl, Nat.le_of_ble_eq_true rfl⟩) ?_
  exact RET _ _ _ (by have hs : cBroken σ (nI P) = (0, (fbF (gLen σ) (gPrf σ) (gNum σ) P), σ) := (by simp [cBroken, palC, wkC, hrC, lkC, entC, pN, bI_t, bI_f, bI_inj, va_up_self, gHol, gGoo, gDec, gFee, gDeb, gLen, gNum, gPrf, gCop, gMad, gN, gsHol, gsGoo, gsDec, gsFee, gsDeb, gsLen, gsNum, gsPrf, gsCop, gsMad, gsN, c_1, hcP] <;> decide); rw [hs]; exact ⟨rfl, rfl⟩) dX1_broken_16
theorem kn_X1_isSound : yX1_isSound.cls ≠ "java/lang/invoke/MethodHandle" ∧ yX1_isSound.cls ≠ "java/lang/invoke/VarHandle" ∧ (parseMethodDescriptor yX1_isSound.desc).map (fun d => d.parameters.length) = some 1 := by decide +kernel
theorem kd_X1_isSound : yX1_isSound.cls = RX1 ∧ yX1_isSound.cls ≠ "java/lang/invoke/MethodHandle" ∧ yX1_isSound.cls ≠ "java/lang/invoke/VarHandle" ∧ (parseMethodDescriptor yX1_isSound.desc).map (fun d => d.parameters.length) = some 1 := by decide +kernel
set_option maxHeartbeats 4000000 in
set_option maxRecDepth 100000 in
theorem c_X1_isSound (l : Launch) (hf : l.stackTraces = false) (D : va_G) (cI : ClassId) (q : Nat → Nat) (σ : SG) (hq : ijQ 12 q) (x1 : Int32) (ok : okG σ) (hz : ∀ P, gN σ ≤ P → gLen σ P = 0) : vx_Met l yX1_isSound wsX1_isSound ({ frames := 7, cells := 1, slots := 6, locals := 118 }) (va_Pc [.ref (q 0), .int x1] (PX D cI q σ)) (rX (fun r => (cSound σ x1).1 = 0 ∧ r = (bI (cSound σ x1).2.1))) (xQ (fun E => (cSound σ x1).1 ≠ 0 ∧ E = exN (cSound σ x1).1)) 1 6 noF := by
  refine openXRZ (cc := cX1_isSound) (maxL := 2) (by decide) rfl (Nat.le_of_ble_eq_true rfl) ?_
  intro p e s m args below meth c hx hb hml hts hown hpre Q RET OUT ls hl
  have hown : s.vm.findClass RX1 = some m.cls := hown
  have hl : lv_has ls 2 [(0, .ref (q 0)), (1, .int x1)] := hl
  obtain ⟨⟨hP, hK, hE⟩, hX⟩ := hpre
  have hS : va_S (adQ 12 q) s.heap s.heap [] := va_S.rf
  have hn : gN σ ≤ 14 := ok.1
  have hhol : ∀ P, gHol σ P < 6 := ok.2.1
  have hlen : ∀ P, gLen σ P ≤ 30 := ok.2.2
  refine lv_aload_n hx hb dX1_isSound_0 rfl (lv_at hl 0 rfl) ?_
  refine lv_iload_n hx hb dX1_isSound_1 rfl (lv_at hl 1 rfl) ?_
  refine r_callE (x := bI (rngB 0 (nI (gN σ)) x1)) (va_runV (As := [.int x1]) (rest := []) ⟨hx, hb, hml, hown, hts⟩ (c_X1_isPallet l D cI q σ x1) (cwV 1 hts gX1_isSound_X1_isPallet rfl rfl rfl kd_X1_isPallet ⟨Nat.le_of_ble_eq_true rfl, Nat.le_of_ble_eq_true rfl⟩) (pV_G0 hP hK hE) rfl rfl hl.1 rfl (lv_room (Nat.le_of_ble_eq_true rfl)) dX1_isSound_2 ⟨Nat.le_of_ble_eq_true rfl, Nat.le_of_ble_eq_true rfl⟩) ?_
  refine x_call (vx_runS (As := [.int (bI (rngB 0 (nI (gN σ)) x1))]) (rest := []) ⟨hx, hb, hml, hown, hts⟩ (c_X1_needThere l hf (rngB 0 (nI (gN σ)) x1)) (va_cwS 1 hts gX1_isSound_X1_needThere rfl rfl rfl kn_X1_needThere ⟨Nat.le_of_ble_eq_true rfl, Nat.le_of_ble_eq_true rfl⟩) (pS_E hX) rfl rfl hl.1 rfl (lv_room (Nat.le_of_ble_eq_true rfl)) dX1_isSound_5 ⟨Nat.le_of_ble_eq_true rfl, Nat.le_of_ble_eq_true rfl⟩) (fun E9 ce q9 H1 hψ hz9 hk9 hce hcv hcl => ?_) (fun c_1 => ?_)
  · obtain ⟨c_1, rfl⟩ := hψ
    exact OUT _ _ _ _ _ _ _ (by have hs : cSound σ x1 = (1, false, σ) := (by simp [cSound, palC, wkC, hrC, lkC, entC, pN, bI_t, bI_f, bI_inj, va_up_self, gHol, gGoo, gDec, gFee, gDeb, gLen, gNum, gPrf, gCop, gMad, gN, gsHol, gsGoo, gsDec, gsFee, gsDeb, gsLen, gsNum, gsPrf, gsCop, gsMad, gsN, c_1] <;> decide); rw [hs]; exact ⟨(show (1 : Nat) ≠ 0 by decide), rfl⟩) hz9 hk9 hce hcv hcl
  obtain ⟨P, hP9, rfl⟩ := rngB_pal (by omega) c_1
  have hcP : (nI P).toNatClampNeg = P := nI_clamp (by omega)
  refine lv_aload_n hx hb dX1_isSound_8 rfl (lv_at hl 0 rfl) ?_
  refine lv_iload_n hx hb dX1_isSound_9 rfl (lv_at hl 1 rfl) ?_
  refine r_callE (x := bI (auF (gN σ) (gLen σ) (gPrf σ) (gNum σ) P)) (va_runV (As := [.int (nI (P))]) (rest := []) ⟨hx, hb, hml, hown, hts⟩ (c_X1_allAreUnbroken l D cI q σ P (by omega) ⟨hn, hhol, hlen⟩) (cwV 1 hts gX1_isSound_X1_allAreUnbroken rfl rfl rfl kd_X1_allAreUnbroken ⟨Nat.le_of_ble_eq_true rfl, Nat.le_of_ble_eq_true rfl⟩) (pV_G0 hP hK hE) rfl rfl hl.1 rfl (lv_room (Nat.le_of_ble_eq_true rfl)) dX1_isSound_10 ⟨Nat.le_of_ble_eq_true rfl, Nat.le_of_ble_eq_true rfl⟩) ?_
  exact RET (auF (gN σ) (gLen σ) (gPrf σ) (gNum σ) P) _ _ (by have hs : cSound σ (nI P) = (0, auF (gN σ) (gLen σ) (gPrf σ) (gNum σ) P, σ) := (by simp [cSound, palC, wkC, hrC, lkC, entC, pN, bI_t, bI_f, bI_inj, va_up_self, gHol, gGoo, gDec, gFee, gDeb, gLen, gNum, gPrf, gCop, gMad, gN, gsHol, gsGoo, gsDec, gsFee, gsDeb, gsLen, gsNum, gsPrf, gsCop, gsMad, gsN, c_1, hcP] <;> decide); rw [hs]; exact ⟨rfl, rfl⟩) dX1_isSound_13
theorem kn_X1_contents : yX1_contents.cls ≠ "java/lang/invoke/MethodHandle" ∧ yX1_contents.cls ≠ "java/lang/invoke/VarHandle" ∧ (parseMethodDescriptor yX1_contents.desc).map (fun d => d.parameters.length) = some 2 := by decide +kernel
theorem kd_X1_contents : yX1_contents.cls = RX1 ∧ yX1_contents.cls ≠ "java/lang/invoke/MethodHandle" ∧ yX1_contents.cls ≠ "java/lang/invoke/VarHandle" ∧ (parseMethodDescriptor yX1_contents.desc).map (fun d => d.parameters.length) = some 2 := by decide +kernel
set_option maxHeartbeats 4000000 in
set_option maxRecDepth 100000 in
theorem c_X1_contents (l : Launch) (hf : l.stackTraces = false) (D : va_G) (cI : ClassId) (q : Nat → Nat) (σ : SG) (hq : ijQ 12 q) (x1 x2 : Int32) (ok : okG σ) (hz : ∀ P, gN σ ≤ P → gLen σ P = 0) : vx_Met l yX1_contents wsX1_contents ({ frames := 7, cells := 1, slots := 6, locals := 102 }) (va_Pc [.ref (q 0), .int x1, .int x2] (PX D cI q σ)) (rX (fun r => (cContents σ x1 x2).1 = 0 ∧ r = (cContents σ x1 x2).2.1)) (xQ (fun E => (cContents σ x1 x2).1 ≠ 0 ∧ E = exN (cContents σ x1 x2).1)) 1 6 noF := by
  refine openXR (cc := cX1_contents) (maxL := 3) (by decide) rfl (Nat.le_of_ble_eq_true rfl) ?_
  intro p e s m args below meth c hx hb hml hts hown hpre Q RET OUT ls hl
  have hown : s.vm.findClass RX1 = some m.cls := hown
  have hl : lv_has ls 3 [(0, .ref (q 0)), (1, .int x1), (2, .int x2)] := hl
  obtain ⟨⟨hP, hK, hE⟩, hX⟩ := hpre
  have hS : va_S (adQ 12 q) s.heap s.heap [] := va_S.rf
  have hiX1 : ∀ w ∈ wsX10, w ∈ wsX1_contents := by decide +kernel
  have hf20 := hts (.fieldLink RX1 20 "PalletGram" "goods" "[I") (by decide +kernel)
  have hn : gN σ ≤ 14 := ok.1
  have hhol : ∀ P, gHol σ P < 6 := ok.2.1
  have hlen : ∀ P, gLen σ P ≤ 30 := ok.2.2
  refine lv_aload_n hx hb dX1_contents_0 rfl (lv_at hl 0 rfl) ?_
  refine lv_iload_n hx hb dX1_contents_1 rfl (lv_at hl 1 rfl) ?_
  refine r_callE (x := bI (rngB 0 (nI (gN σ)) x1)) (va_runV (As := [.int x1]) (rest := []) ⟨hx, hb, hml, hown, hts⟩ (c_X1_isPallet l D cI q σ x1) (cwV 1 hts gX1_contents_X1_isPallet rfl rfl rfl kd_X1_isPallet ⟨Nat.le_of_ble_eq_true rfl, Nat.le_of_ble_eq_true rfl⟩) (pV_G0 hP hK hE) rfl rfl hl.1 rfl (lv_room (Nat.le_of_ble_eq_true rfl)) dX1_contents_2 ⟨Nat.le_of_ble_eq_true rfl, Nat.le_of_ble_eq_true rfl⟩) ?_
  refine eqB (rngB 0 (nI (gN σ)) x1) (tgt := 19) hx hb rfl dX1_contents_5 (by decide) (fun c_1 => ?_) (fun c_1 => ?_)
  · skip
    refine lv_iconst (v := 0) hx hb dX1_contents_19 (by decide) ?_
    refine x_call (vx_runS (As := [.int 0]) (rest := []) ⟨hx, hb, hml, hown, hts⟩ (c_X1_needThere l hf (false)) (va_cwS 1 hts gX1_contents_X1_needThere rfl rfl rfl kn_X1_needThere ⟨Nat.le_of_ble_eq_true rfl, Nat.le_of_ble_eq_true rfl⟩) (pS_E hX) rfl rfl hl.1 rfl (lv_room (Nat.le_of_ble_eq_true rfl)) dX1_contents_20 ⟨Nat.le_of_ble_eq_true rfl, Nat.le_of_ble_eq_true rfl⟩) (fun E9 ce q9 H1 hψ hz9 hk9 hce hcv hcl => ?_) (fun c_2 => ?_)
    · obtain ⟨c_2, rfl⟩ := hψ
      exact OUT _ _ _ _ _ _ _ (by have hs : cContents σ x1 x2 = (1, 0, σ) := (by simp [cContents, palC, wkC, hrC, lkC, entC, pN, bI_t, bI_f, bI_inj, va_up_self, gHol, gGoo, gDec, gFee, gDeb, gLen, gNum, gPrf, gCop, gMad, gN, gsHol, gsGoo, gsDec, gsFee, gsDeb, gsLen, gsNum, gsPrf, gsCop, gsMad, gsN, c_1] <;> decide); rw [hs]; exact ⟨(show (1 : Nat) ≠ 0 by decide), rfl⟩) hz9 hk9 hce hcv hcl
    exact absurd c_2 (by decide)
  · skip
    refine lv_iload_n hx hb dX1_contents_8 rfl (lv_at hl 2 rfl) ?_
    refine r_callE (x := bI (rngB 0 6 x2)) (va_runS (As := [.int x2]) (rest := []) ⟨hx, hb, hml, hown, hts⟩ (c_X1_isGood l x2) (va_cwS 1 hts gX1_contents_X1_isGood rfl rfl rfl kn_X1_isGood ⟨Nat.le_of_ble_eq_true rfl, Nat.le_of_ble_eq_true rfl⟩) (pS_T) rfl rfl hl.1 rfl (lv_room (Nat.le_of_ble_eq_true rfl)) dX1_contents_9 ⟨Nat.le_of_ble_eq_true rfl, Nat.le_of_ble_eq_true rfl⟩) ?_
    refine eqB (rngB 0 6 x2) (tgt := 19) hx hb rfl dX1_contents_12 (by decide) (fun c_3 => ?_) (fun c_3 => ?_)
    · skip
      refine lv_iconst (v := 0) hx hb dX1_contents_19 (by decide) ?_
      refine x_call (vx_runS (As := [.int 0]) (rest := []) ⟨hx, hb, hml, hown, hts⟩ (c_X1_needThere l hf (false)) (va_cwS 1 hts gX1_contents_X1_needThere rfl rfl rfl kn_X1_needThere ⟨Nat.le_of_ble_eq_true rfl, Nat.le_of_ble_eq_true rfl⟩) (pS_E hX) rfl rfl hl.1 rfl (lv_room (Nat.le_of_ble_eq_true rfl)) dX1_contents_20 ⟨Nat.le_of_ble_eq_true rfl, Nat.le_of_ble_eq_true rfl⟩) (fun E9 ce q9 H1 hψ hz9 hk9 hce hcv hcl => ?_) (fun c_4 => ?_)
      · obtain ⟨c_4, rfl⟩ := hψ
        exact OUT _ _ _ _ _ _ _ (by have hs : cContents σ x1 x2 = (1, 0, σ) := (by simp [cContents, palC, wkC, hrC, lkC, entC, pN, bI_t, bI_f, bI_inj, va_up_self, gHol, gGoo, gDec, gFee, gDeb, gLen, gNum, gPrf, gCop, gMad, gN, gsHol, gsGoo, gsDec, gsFee, gsDeb, gsLen, gsNum, gsPrf, gsCop, gsMad, gsN, c_1, c_3] <;> decide); rw [hs]; exact ⟨(show (1 : Nat) ≠ 0 by decide), rfl⟩) hz9 hk9 hce hcv hcl
      exact absurd c_4 (by decide)
    · skip
      obtain ⟨P, hP9, rfl⟩ := rngB_pal (by omega) c_1
      have hcP : (nI P).toNatClampNeg = P := nI_clamp (by omega)
      obtain ⟨G, hG8, hG9, rfl⟩ := rngB_nat (lo := 0) (hi := 6) (by decide) (by decide) c_3
      have hcG : (nI G).toNatClampNeg = G := nI_clamp (by omega)
      refine lv_iconst (v := 1) hx hb dX1_contents_15 (by decide) ?_
      refine lv_goto (tgt := 20) hx hb dX1_contents_16 (by decide) ?_
      refine x_call (vx_runS (As := [.int 1]) (rest := []) ⟨hx, hb, hml, hown, hts⟩ (c_X1_needThere l hf (true)) (va_cwS 1 hts gX1_contents_X1_needThere rfl rfl rfl kn_X1_needThere ⟨Nat.le_of_ble_eq_true rfl, Nat.le_of_ble_eq_true rfl⟩) (pS_E hX) rfl rfl hl.1 rfl (lv_room (Nat.le_of_ble_eq_true rfl)) dX1_contents_20 ⟨Nat.le_of_ble_eq_true rfl, Nat.le_of_ble_eq_true rfl⟩) (fun E9 ce q9 H1 hψ hz9 hk9 hce hcv hcl => ?_) (fun c_5 => ?_)
      · exact absurd hψ.1 (by decide)
      refine lv_aload_n hx hb dX1_contents_23 rfl (lv_at hl 0 rfl) ?_
      refine gf_1_2 hx hb hts hiX1 hown hK hP hf20 dX1_contents_24 ?_
      refine lv_iload_n hx hb dX1_contents_27 rfl (lv_at hl 1 rfl) ?_
      refine lv_bipush (v := 6) hx hb dX1_contents_28 (by decide) ?_
      refine mulN P 6 hx hb rfl rfl dX1_contents_30 ?_
      refine lv_iload_n hx hb dX1_contents_31 rfl (lv_at hl 2 rfl) ?_
      refine addN (P * 6) G hx hb rfl rfl dX1_contents_32 ?_
      refine gld_3 (k := P * 6 + G) (v := ((gGoo σ)) (P * 6 + G)) hx hb hK hP rfl (by omega) rfl dX1_contents_33 ?_
      exact RET _ _ _ (by have hs : cContents σ (nI P) (nI G) = (0, (((gGoo σ)) (P * 6 + G)), σ) := (by simp [cContents, palC, wkC, hrC, lkC, entC, pN, bI_t, bI_f, bI_inj, va_up_self, gHol, gGoo, gDec, gFee, gDeb, gLen, gNum, gPrf, gCop, gMad, gN, gsHol, gsGoo, gsDec, gsFee, gsDeb, gsLen, gsNum, gsPrf, gsCop, gsMad, gsN, c_1, c_3, hcP, hcG] <;> decide); rw [hs]; exact ⟨rfl, rfl⟩) dX1_contents_34
theorem kn_X1_contentsAnew : yX1_contentsAnew.cls ≠ "java/lang/invoke/MethodHandle" ∧ yX1_contentsAnew.cls ≠ "java/lang/invoke/VarHandle" ∧ (parseMethodDescriptor yX1_contentsAnew.desc).map (fun d => d.parameters.length) = some 2 := by decide +kernel
theorem kd_X1_contentsAnew : yX1_contentsAnew.cls = RX1 ∧ yX1_contentsAnew.cls ≠ "java/lang/invoke/MethodHandle" ∧ yX1_contentsAnew.cls ≠ "java/lang/invoke/VarHandle" ∧ (parseMethodDescriptor yX1_contentsAnew.desc).map (fun d => d.parameters.length) = some 2 := by decide +kernel
set_option maxHeartbeats 4000000 in
set_option maxRecDepth 100000 in
theorem c_X1_contentsAnew (l : Launch) (hf : l.stackTraces = false) (D : va_G) (cI : ClassId) (q : Nat → Nat) (σ : SG) (hq : ijQ 12 q) (x1 x2 : Int32) (ok : okG σ) (hz : ∀ P, gN σ ≤ P → gLen σ P = 0) : vx_Met l yX1_contentsAnew wsX1_contentsAnew ({ frames := 7, cells := 1, slots := 6, locals := 120 }) (va_Pc [.ref (q 0), .int x1, .int x2] (PX D cI q σ)) (rX (fun r => (cAnew σ x1 x2).1 = 0 ∧ r = (cAnew σ x1 x2).2.1)) (xQ (fun E => (cAnew σ x1 x2).1 ≠ 0 ∧ E = exN (cAnew σ x1 x2).1)) 1 6 noF := by
  refine openXR (cc := cX1_contentsAnew) (maxL := 3) (by decide) rfl (Nat.le_of_ble_eq_true rfl) ?_
  intro p e s m args below meth c hx hb hml hts hown hpre Q RET OUT ls hl
  have hown : s.vm.findClass RX1 = some m.cls := hown
  have hl : lv_has ls 3 [(0, .ref (q 0)), (1, .int x1), (2, .int x2)] := hl
  obtain ⟨⟨hP, hK, hE⟩, hX⟩ := hpre
  have hS : va_S (adQ 12 q) s.heap s.heap [] := va_S.rf
  have hn : gN σ ≤ 14 := ok.1
  have hhol : ∀ P, gHol σ P < 6 := ok.2.1
  have hlen : ∀ P, gLen σ P ≤ 30 := ok.2.2
  refine lv_aload_n hx hb dX1_contentsAnew_0 rfl (lv_at hl 0 rfl) ?_
  refine lv_iload_n hx hb dX1_contentsAnew_1 rfl (lv_at hl 1 rfl) ?_
  refine r_callE (x := bI (rngB 0 (nI (gN σ)) x1)) (va_runV (As := [.int x1]) (rest := []) ⟨hx, hb, hml, hown, hts⟩ (c_X1_isPallet l D cI q σ x1) (cwV 1 hts gX1_contentsAnew_X1_isPallet rfl rfl rfl kd_X1_isPallet ⟨Nat.le_of_ble_eq_true rfl, Nat.le_of_ble_eq_true rfl⟩) (pV_G0 hP hK hE) rfl rfl hl.1 rfl (lv_room (Nat.le_of_ble_eq_true rfl)) dX1_contentsAnew_2 ⟨Nat.le_of_ble_eq_true rfl, Nat.le_of_ble_eq_true rfl⟩) ?_
  refine eqB (rngB 0 (nI (gN σ)) x1) (tgt := 19) hx hb rfl dX1_contentsAnew_5 (by decide) (fun c_1 => ?_) (fun c_1 => ?_)
  · skip
    refine lv_iconst (v := 0) hx hb dX1_contentsAnew_19 (by decide) ?_
    refine x_call (vx_runS (As := [.int 0]) (rest := []) ⟨hx, hb, hml, hown, hts⟩ (c_X1_needThere l hf (false)) (va_cwS 1 hts gX1_contentsAnew_X1_needThere rfl rfl rfl kn_X1_needThere ⟨Nat.le_of_ble_eq_true rfl, Nat.le_of_ble_eq_true rfl⟩) (pS_E hX) rfl rfl hl.1 rfl (lv_room (Nat.le_of_ble_eq_true rfl)) dX1_contentsAnew_20 ⟨Nat.le_of_ble_eq_true rfl, Nat.le_of_ble_eq_true rfl⟩) (fun E9 ce q9 H1 hψ hz9 hk9 hce hcv hcl => ?_) (fun c_2 => ?_)
    · obtain ⟨c_2, rfl⟩ := hψ
      exact OUT _ _ _ _ _ _ _ (by have hs : cAnew σ x1 x2 = (1, 0, σ) := (by simp [cAnew, palC, wkC, hrC, lkC, entC, pN, bI_t, bI_f, bI_inj, va_up_self, gHol, gGoo, gDec, gFee, gDeb, gLen, gNum, gPrf, gCop, gMad, gN, gsHol, gsGoo, gsDec, gsFee, gsDeb, gsLen, gsNum, gsPrf, gsCop, gsMad, gsN, c_1] <;> decide); rw [hs]; exact ⟨(show (1 : Nat) ≠ 0 by decide), rfl⟩) hz9 hk9 hce hcv hcl
    exact absurd c_2 (by decide)
  · skip
    refine lv_iload_n hx hb dX1_contentsAnew_8 rfl (lv_at hl 2 rfl) ?_
    refine r_callE (x := bI (rngB 0 6 x2)) (va_runS (As := [.int x2]) (rest := []) ⟨hx, hb, hml, hown, hts⟩ (c_X1_isGood l x2) (va_cwS 1 hts gX1_contentsAnew_X1_isGood rfl rfl rfl kn_X1_isGood ⟨Nat.le_of_ble_eq_true rfl, Nat.le_of_ble_eq_true rfl⟩) (pS_T) rfl rfl hl.1 rfl (lv_room (Nat.le_of_ble_eq_true rfl)) dX1_contentsAnew_9 ⟨Nat.le_of_ble_eq_true rfl, Nat.le_of_ble_eq_true rfl⟩) ?_
    refine eqB (rngB 0 6 x2) (tgt := 19) hx hb rfl dX1_contentsAnew_12 (by decide) (fun c_3 => ?_) (fun c_3 => ?_)
    · skip
      refine lv_iconst (v := 0) hx hb dX1_contentsAnew_19 (by decide) ?_
      refine x_call (vx_runS (As := [.int 0]) (rest := []) ⟨hx, hb, hml, hown, hts⟩ (c_X1_needThere l hf (false)) (va_cwS 1 hts gX1_contentsAnew_X1_needThere rfl rfl rfl kn_X1_needThere ⟨Nat.le_of_ble_eq_true rfl, Nat.le_of_ble_eq_true rfl⟩) (pS_E hX) rfl rfl hl.1 rfl (lv_room (Nat.le_of_ble_eq_true rfl)) dX1_contentsAnew_20 ⟨Nat.le_of_ble_eq_true rfl, Nat.le_of_ble_eq_true rfl⟩) (fun E9 ce q9 H1 hψ hz9 hk9 hce hcv hcl => ?_) (fun c_4 => ?_)
      · obtain ⟨c_4, rfl⟩ := hψ
        exact OUT _ _ _ _ _ _ _ (by have hs : cAnew σ x1 x2 = (1, 0, σ) := (by simp [cAnew, palC, wkC, hrC, lkC, entC, pN, bI_t, bI_f, bI_inj, va_up_self, gHol, gGoo, gDec, gFee, gDeb, gLen, gNum, gPrf, gCop, gMad, gN, gsHol, gsGoo, gsDec, gsFee, gsDeb, gsLen, gsNum, gsPrf, gsCop, gsMad, gsN, c_1, c_3] <;> decide); rw [hs]; exact ⟨(show (1 : Nat) ≠ 0 by decide), rfl⟩) hz9 hk9 hce hcv hcl
      exact absurd c_4 (by decide)
    · skip
      obtain ⟨P, hP9, rfl⟩ := rngB_pal (by omega) c_1
      have hcP : (nI P).toNatClampNeg = P := nI_clamp (by omega)
      obtain ⟨G, hG8, hG9, rfl⟩ := rngB_nat (lo := 0) (hi := 6) (by decide) (by decide) c_3
      have hcG : (nI G).toNatClampNeg = G := nI_clamp (by omega)
      refine lv_iconst (v := 1) hx hb dX1_contentsAnew_15 (by decide) ?_
      refine lv_goto (tgt := 20) hx hb dX1_contentsAnew_16 (by decide) ?_
      refine x_call (vx_runS (As := [.int 1]) (rest := []) ⟨hx, hb, hml, hown, hts⟩ (c_X1_needThere l hf (true)) (va_cwS 1 hts gX1_contentsAnew_X1_needThere rfl rfl rfl kn_X1_needThere ⟨Nat.le_of_ble_eq_true rfl, Nat.le_of_ble_eq_true rfl⟩) (pS_E hX) rfl rfl hl.1 rfl (lv_room (Nat.le_of_ble_eq_true rfl)) dX1_contentsAnew_20 ⟨Nat.le_of_ble_eq_true rfl, Nat.le_of_ble_eq_true rfl⟩) (fun E9 ce q9 H1 hψ hz9 hk9 hce hcv hcl => ?_) (fun c_5 => ?_)
      · exact absurd hψ.1 (by decide)
      refine lv_aload_n hx hb dX1_contentsAnew_23 rfl (lv_at hl 0 rfl) ?_
      refine lv_iload_n hx hb dX1_contentsAnew_24 rfl (lv_at hl 1 rfl) ?_
      refine lv_iload_n hx hb dX1_contentsAnew_25 rfl (lv_at hl 2 rfl) ?_
      refine r_callE (x := (tbF (gN σ) (gLen σ) (gNum σ) P (nI (G)))) (va_runV (As := [.int (nI (P)), .int (nI (G))]) (rest := []) ⟨hx, hb, hml, hown, hts⟩ (c_X1_toldByPapers l D cI q σ P (nI (G)) (by omega) ⟨hn, hhol, hlen⟩) (cwV 2 hts gX1_contentsAnew_X1_toldByPapers rfl rfl rfl kd_X1_toldByPapers ⟨Nat.le_of_ble_eq_true rfl, Nat.le_of_ble_eq_true rfl⟩) (pV_G0 hP hK hE) rfl rfl hl.1 rfl (lv_room (Nat.le_of_ble_eq_true rfl)) dX1_contentsAnew_26 ⟨Nat.le_of_ble_eq_true rfl, Nat.le_of_ble_eq_true rfl⟩) ?_
      exact RET _ _ _ (by have hs : cAnew σ (nI P) (nI G) = (0, (tbF (gN σ) (gLen σ) (gNum σ) P (nI (G))), σ) := (by simp [cAnew, palC, wkC, hrC, lkC, entC, pN, bI_t, bI_f, bI_inj, va_up_self, gHol, gGoo, gDec, gFee, gDeb, gLen, gNum, gPrf, gCop, gMad, gN, gsHol, gsGoo, gsDec, gsFee, gsDeb, gsLen, gsNum, gsPrf, gsCop, gsMad, gsN, c_1, c_3, hcP, hcG] <;> decide); rw [hs]; exact ⟨rfl, rfl⟩) dX1_contentsAnew_29
theorem kn_X1_owed : yX1_owed.cls ≠ "java/lang/invoke/MethodHandle" ∧ yX1_owed.cls ≠ "java/lang/invoke/VarHandle" ∧ (parseMethodDescriptor yX1_owed.desc).map (fun d => d.parameters.length) = some 1 := by decide +kernel
theorem kd_X1_owed : yX1_owed.cls = RX1 ∧ yX1_owed.cls ≠ "java/lang/invoke/MethodHandle" ∧ yX1_owed.cls ≠ "java/lang/invoke/VarHandle" ∧ (parseMethodDescriptor yX1_owed.desc).map (fun d => d.parameters.length) = some 1 := by decide +kernel
set_option maxHeartbeats 4000000 in
set_option maxRecDepth 100000 in
theorem c_X1_owed (l : Launch) (hf : l.stackTraces = false) (D : va_G) (cI : ClassId) (q : Nat → Nat) (σ : SG) (hq : ijQ 12 q) (x1 : Int32) (ok : okG σ) (hz : ∀ P, gN σ ≤ P → gLen σ P = 0) : vx_Met l yX1_owed wsX1_owed ({ frames := 7, cells := 1, slots := 6, locals := 102 }) (va_Pc [.ref (q 0), .int x1] (PX D cI q σ)) (rX (fun r => (cOwed σ x1).1 = 0 ∧ r = (cOwed σ x1).2.1)) (xQ (fun E => (cOwed σ x1).1 ≠ 0 ∧ E = exN (cOwed σ x1).1)) 1 6 noF := by
  refine openXR (cc := cX1_owed) (maxL := 2) (by decide) rfl (Nat.le_of_ble_eq_true rfl) ?_
  intro p e s m args below meth c hx hb hml hts hown hpre Q RET OUT ls hl
  have hown : s.vm.findClass RX1 = some m.cls := hown
  have hl : lv_has ls 2 [(0, .ref (q 0)), (1, .int x1)] := hl
  obtain ⟨⟨hP, hK, hE⟩, hX⟩ := hpre
  have hS : va_S (adQ 12 q) s.heap s.heap [] := va_S.rf
  have hiX1 : ∀ w ∈ wsX10, w ∈ wsX1_owed := by decide +kernel
  have hf29 := hts (.fieldLink RX1 29 "PalletGram" "debts" "[I") (by decide +kernel)
  have hn : gN σ ≤ 14 := ok.1
  have hhol : ∀ P, gHol σ P < 6 := ok.2.1
  have hlen : ∀ P, gLen σ P ≤ 30 := ok.2.2
  refine lv_iload_n hx hb dX1_owed_0 rfl (lv_at hl 1 rfl) ?_
  refine r_callE (x := bI (rngB 0 7 x1)) (va_runS (As := [.int x1]) (rest := []) ⟨hx, hb, hml, hown, hts⟩ (c_X1_isOwer l x1) (va_cwS 1 hts gX1_owed_X1_isOwer rfl rfl rfl kn_X1_isOwer ⟨Nat.le_of_ble_eq_true rfl, Nat.le_of_ble_eq_true rfl⟩) (pS_T) rfl rfl hl.1 rfl (lv_room (Nat.le_of_ble_eq_true rfl)) dX1_owed_1 ⟨Nat.le_of_ble_eq_true rfl, Nat.le_of_ble_eq_true rfl⟩) ?_
  refine x_call (vx_runS (As := [.int (bI (rngB 0 7 x1))]) (rest := []) ⟨hx, hb, hml, hown, hts⟩ (c_X1_needThere l hf (rngB 0 7 x1)) (va_cwS 1 hts gX1_owed_X1_needThere rfl rfl rfl kn_X1_needThere ⟨Nat.le_of_ble_eq_true rfl, Nat.le_of_ble_eq_true rfl⟩) (pS_E hX) rfl rfl hl.1 rfl (lv_room (Nat.le_of_ble_eq_true rfl)) dX1_owed_4 ⟨Nat.le_of_ble_eq_true rfl, Nat.le_of_ble_eq_true rfl⟩) (fun E9 ce q9 H1 hψ hz9 hk9 hce hcv hcl => ?_) (fun c_1 => ?_)
  · obtain ⟨c_1, rfl⟩ := hψ
    exact OUT _ _ _ _ _ _ _ (by have hs : cOwed σ x1 = (1, 0, σ) := (by simp [cOwed, palC, wkC, hrC, lkC, entC, pN, bI_t, bI_f, bI_inj, va_up_self, gHol, gGoo, gDec, gFee, gDeb, gLen, gNum, gPrf, gCop, gMad, gN, gsHol, gsGoo, gsDec, gsFee, gsDeb, gsLen, gsNum, gsPrf, gsCop, gsMad, gsN, c_1] <;> decide); rw [hs]; exact ⟨(show (1 : Nat) ≠ 0 by decide), rfl⟩) hz9 hk9 hce hcv hcl
  obtain ⟨P, hP8, hP9, rfl⟩ := rngB_nat (lo := 0) (hi := 7) (by decide) (by decide) c_1
  have hcP : (nI P).toNatClampNeg = P := nI_clamp (by omega)
  refine lv_aload_n hx hb dX1_owed_7 rfl (lv_at hl 0 rfl) ?_
  refine gf_1_5 hx hb hts hiX1 hown hK hP hf29 dX1_owed_8 ?_
  refine lv_iload_n hx hb dX1_owed_11 rfl (lv_at hl 1 rfl) ?_
  refine gld_6 (k := P) (v := ((gDeb σ)) P) hx hb hK hP rfl (by omega) rfl dX1_owed_12 ?_
  exact RET _ _ _ (by have hs : cOwed σ (nI P) = (0, (((gDeb σ)) P), σ) := (by simp [cOwed, palC, wkC, hrC, lkC, entC, pN, bI_t, bI_f, bI_inj, va_up_self, gHol, gGoo, gDec, gFee, gDeb, gLen, gNum, gPrf, gCop, gMad, gN, gsHol, gsGoo, gsDec, gsFee, gsDeb, gsLen, gsNum, gsPrf, gsCop, gsMad, gsN, c_1, hcP] <;> decide); rw [hs]; exact ⟨rfl, rfl⟩) dX1_owed_13
theorem kn_X1_spoil : yX1_spoil.cls ≠ "java/lang/invoke/MethodHandle" ∧ yX1_spoil.cls ≠ "java/lang/invoke/VarHandle" ∧ (parseMethodDescriptor yX1_spoil.desc).map (fun d => d.parameters.length) = some 3 := by decide +kernel
theorem kd_X1_spoil : yX1_spoil.cls = RX1 ∧ yX1_spoil.cls ≠ "java/lang/invoke/MethodHandle" ∧ yX1_spoil.cls ≠ "java/lang/invoke/VarHandle" ∧ (parseMethodDescriptor yX1_spoil.desc).map (fun d => d.parameters.length) = some 3 := by decide +kernel
set_option maxHeartbeats 4000000 in
set_option maxRecDepth 100000 in
theorem c_X1_spoil (l : Launch) (hf : l.stackTraces = false) (D : va_G) (cI : ClassId) (q : Nat → Nat) (σ : SG) (hq : ijQ 12 q) (x1 x2 x3 : Int32) (ok : okG σ) (hz : ∀ P, gN σ ≤ P → gLen σ P = 0) : vx_Met l yX1_spoil wsX1_spoil ({ frames := 7, cells := 1, slots := 6, locals := 102 }) (va_Pc [.ref (q 0), .int x1, .int x2, .int x3] (PX D cI q σ)) (wQ (adQ 12 q) (fun v H1 => (cSpoil σ x1 x2 x3).1 = 0 ∧ v = some (.int (cSpoil σ x1 x2 x3).2.1) ∧ va_P D vwCl (wG cI q (cSpoil σ x1 x2 x3).2.2) H1)) (xQ (fun E => (cSpoil σ x1 x2 x3).1 ≠ 0 ∧ E = exN (cSpoil σ x1 x2 x3).1)) 1 6 (adQ 12 q) := by
  refine openX (cc := cX1_spoil) (maxL := 5) (by decide) rfl (Nat.le_of_ble_eq_true rfl) ?_
  intro p e s m args below meth c hx hb hml hts hown hpre Q RET OUT ls hl
  have hown : s.vm.findClass RX1 = some m.cls := hown
  have hl : lv_has ls 5 [(0, .ref (q 0)), (1, .int x1), (2, .int x2), (3, .int x3)] := hl
  obtain ⟨⟨hP, hK, hE⟩, hX⟩ := hpre
  have hS : va_S (adQ 12 q) s.heap s.heap [] := va_S.rf
  have hiX1 : ∀ w ∈ wsX10, w ∈ wsX1_spoil := by decide +kernel
  have hf10 := hts (.fieldLink RX1 10 "PalletGram" "chains" "LPalletGram$Chains;") (by decide +kernel)
  have hn : gN σ ≤ 14 := ok.1
  have hhol : ∀ P, gHol σ P < 6 := ok.2.1
  have hlen : ∀ P, gLen σ P ≤ 30 := ok.2.2
  refine lv_aload_n hx hb dX1_spoil_0 rfl (lv_at hl 0 rfl) ?_
  refine lv_iload_n hx hb dX1_spoil_1 rfl (lv_at hl 1 rfl) ?_
  refine r_callE (x := bI (rngB 0 (nI (gN σ)) x1)) (va_runV (As := [.int x1]) (rest := []) ⟨hx, hb, hml, hown, hts⟩ (c_X1_isPallet l D cI q σ x1) (cwV 1 hts gX1_spoil_X1_isPallet rfl rfl rfl kd_X1_isPallet ⟨Nat.le_of_ble_eq_true rfl, Nat.le_of_ble_eq_true rfl⟩) (pV_G0 hP hK hE) rfl rfl hl.1 rfl (lv_room (Nat.le_of_ble_eq_true rfl)) dX1_spoil_2 ⟨Nat.le_of_ble_eq_true rfl, Nat.le_of_ble_eq_true rfl⟩) ?_
  refine eqB (rngB 0 (nI (gN σ)) x1) (tgt := 24) hx hb rfl dX1_spoil_5 (by decide) (fun c_1 => ?_) (fun c_1 => ?_)
  · skip
    refine lv_iconst (v := 0) hx hb dX1_spoil_24 (by decide) ?_
    refine x_call (vx_runS (As := [.int 0]) (rest := []) ⟨hx, hb, hml, hown, hts⟩ (c_X1_needThere l hf (false)) (va_cwS 1 hts gX1_spoil_X1_needThere rfl rfl rfl kn_X1_needThere ⟨Nat.le_of_ble_eq_true rfl, Nat.le_of_ble_eq_true rfl⟩) (pS_E hX) rfl rfl hl.1 rfl (lv_room (Nat.le_of_ble_eq_true rfl)) dX1_spoil_25 ⟨Nat.le_of_ble_eq_true rfl, Nat.le_of_ble_eq_true rfl⟩) (fun E9 ce q9 H1 hψ hz9 hk9 hce hcv hcl => ?_) (fun c_2 => ?_)
    · obtain ⟨c_2, rfl⟩ := hψ
      exact OUT _ _ _ _ _ _ _ (by have hs : cSpoil σ x1 x2 x3 = (1, 0, σ) := (by simp [cSpoil, palC, wkC, hrC, lkC, entC, pN, bI_t, bI_f, bI_inj, va_up_self, gHol, gGoo, gDec, gFee, gDeb, gLen, gNum, gPrf, gCop, gMad, gN, gsHol, gsGoo, gsDec, gsFee, gsDeb, gsLen, gsNum, gsPrf, gsCop, gsMad, gsN, c_1] <;> decide); rw [hs]; exact ⟨(show (1 : Nat) ≠ 0 by decide), rfl⟩) hz9 hk9 hce hcv hcl
    exact absurd c_2 (by decide)
  · skip
    obtain ⟨P, hP9, rfl⟩ := rngB_pal (by omega) c_1
    have hcP : (nI P).toNatClampNeg = P := nI_clamp (by omega)
    refine lv_aload_n hx hb dX1_spoil_8 rfl (lv_at hl 0 rfl) ?_
    refine gf_1_0 hx hb hts hiX1 hown hK hP hf10 dX1_spoil_9 ?_
    refine lv_iload_n hx hb dX1_spoil_12 rfl (lv_at hl 1 rfl) ?_
    refine lv_iload_n hx hb dX1_spoil_13 rfl (lv_at hl 2 rfl) ?_
    refine r_callE (x := bI (rngB 0 (nI ((gLen σ) P)) x2)) (va_runV (As := [.int (nI (P)), .int x2]) (rest := []) ⟨hx, hb, hml, hown, hts⟩ (c_X0_has l D cI q σ P x2 (by omega)) (cwV 2 hts gX1_spoil_X0_has rfl rfl rfl kd_X0_has ⟨Nat.le_of_ble_eq_true rfl, Nat.le_of_ble_eq_true rfl⟩) (pV_G1 hP hK hE) rfl rfl hl.1 rfl (lv_room (Nat.le_of_ble_eq_true rfl)) dX1_spoil_14 ⟨Nat.le_of_ble_eq_true rfl, Nat.le_of_ble_eq_true rfl⟩) ?_
    refine eqB (rngB 0 (nI ((gLen σ) P)) x2) (tgt := 24) hx hb rfl dX1_spoil_17 (by decide) (fun c_3 => ?_) (fun c_3 => ?_)
    · skip
      refine lv_iconst (v := 0) hx hb dX1_spoil_24 (by decide) ?_
      refine x_call (vx_runS (As := [.int 0]) (rest := []) ⟨hx, hb, hml, hown, hts⟩ (c_X1_needThere l hf (false)) (va_cwS 1 hts gX1_spoil_X1_needThere rfl rfl rfl kn_X1_needThere ⟨Nat.le_of_ble_eq_true rfl, Nat.le_of_ble_eq_true rfl⟩) (pS_E hX) rfl rfl hl.1 rfl (lv_room (Nat.le_of_ble_eq_true rfl)) dX1_spoil_25 ⟨Nat.le_of_ble_eq_true rfl, Nat.le_of_ble_eq_true rfl⟩) (fun E9 ce q9 H1 hψ hz9 hk9 hce hcv hcl => ?_) (fun c_4 => ?_)
      · obtain ⟨c_4, rfl⟩ := hψ
        exact OUT _ _ _ _ _ _ _ (by have hs : cSpoil σ (nI P) x2 x3 = (1, 0, σ) := (by simp [cSpoil, palC, wkC, hrC, lkC, entC, pN, bI_t, bI_f, bI_inj, va_up_self, gHol, gGoo, gDec, gFee, gDeb, gLen, gNum, gPrf, gCop, gMad, gN, gsHol, gsGoo, gsDec, gsFee, gsDeb, gsLen, gsNum, gsPrf, gsCop, gsMad, gsN, c_1, c_3, hcP] <;> decide); rw [hs]; exact ⟨(show (1 : Nat) ≠ 0 by decide), rfl⟩) hz9 hk9 hce hcv hcl
      exact absurd c_4 (by decide)
    · skip
      have hm9 := hlen P
      obtain ⟨E, hE9, rfl⟩ := rngB_pal (n := gLen σ P) (by omega) c_3
      have hcE : (nI E).toNatClampNeg = E := nI_clamp (by omega)
      refine lv_iconst (v := 1) hx hb dX1_spoil_20 (by decide) ?_
      refine lv_goto (tgt := 25) hx hb dX1_spoil_21 (by decide) ?_
      refine x_call (vx_runS (As := [.int 1]) (rest := []) ⟨hx, hb, hml, hown, hts⟩ (c_X1_needThere l hf (true)) (va_cwS 1 hts gX1_spoil_X1_needThere rfl rfl rfl kn_X1_needThere ⟨Nat.le_of_ble_eq_true rfl, Nat.le_of_ble_eq_true rfl⟩) (pS_E hX) rfl rfl hl.1 rfl (lv_room (Nat.le_of_ble_eq_true rfl)) dX1_spoil_25 ⟨Nat.le_of_ble_eq_true rfl, Nat.le_of_ble_eq_true rfl⟩) (fun E9 ce q9 H1 hψ hz9 hk9 hce hcv hcl => ?_) (fun c_5 => ?_)
      · exact absurd hψ.1 (by decide)
      refine lv_iload_n hx hb dX1_spoil_28 rfl (lv_at hl 3 rfl) ?_
      refine lv_sipush (v := (-999)) hx hb dX1_spoil_29 (by decide) ?_
      refine lv_sipush (v := 999) hx hb dX1_spoil_32 (by decide) ?_
      refine r_callE (x := bI (inB x3 ((-999)) 999)) (va_runS (As := [.int x3, .int ((-999)), .int 999]) (rest := []) ⟨hx, hb, hml, hown, hts⟩ (c_X1_isWithin l x3 ((-999)) 999) (va_cwS 3 hts gX1_spoil_X1_isWithin rfl rfl rfl kn_X1_isWithin ⟨Nat.le_of_ble_eq_true rfl, Nat.le_of_ble_eq_true rfl⟩) (pS_T) rfl rfl hl.1 rfl (lv_room (Nat.le_of_ble_eq_true rfl)) dX1_spoil_35 ⟨Nat.le_of_ble_eq_true rfl, Nat.le_of_ble_eq_true rfl⟩) ?_
      refine x_call (vx_runS (As := [.int (bI (inB x3 ((-999)) 999))]) (rest := []) ⟨hx, hb, hml, hown, hts⟩ (c_X1_needRange l hf (inB x3 ((-999)) 999)) (va_cwS 1 hts gX1_spoil_X1_needRange rfl rfl rfl kn_X1_needRange ⟨Nat.le_of_ble_eq_true rfl, Nat.le_of_ble_eq_true rfl⟩) (pS_E hX) rfl rfl hl.1 rfl (lv_room (Nat.le_of_ble_eq_true rfl)) dX1_spoil_38 ⟨Nat.le_of_ble_eq_true rfl, Nat.le_of_ble_eq_true rfl⟩) (fun E9 ce q9 H1 hψ hz9 hk9 hce hcv hcl => ?_) (fun c_6 => ?_)
      · obtain ⟨c_6, rfl⟩ := hψ
        exact OUT _ _ _ _ _ _ _ (by have hs : cSpoil σ (nI P) (nI E) x3 = (2, 0, σ) := (by simp [cSpoil, palC, wkC, hrC, lkC, entC, pN, bI_t, bI_f, bI_inj, va_up_self, gHol, gGoo, gDec, gFee, gDeb, gLen, gNum, gPrf, gCop, gMad, gN, gsHol, gsGoo, gsDec, gsFee, gsDeb, gsLen, gsNum, gsPrf, gsCop, gsMad, gsN, c_1, c_3, c_6, hcP, hcE] <;> decide); rw [hs]; exact ⟨(show (2 : Nat) ≠ 0 by decide), rfl⟩) hz9 hk9 hce hcv hcl
      refine lv_aload_n hx hb dX1_spoil_41 rfl (lv_at hl 0 rfl) ?_
      refine gf_1_0 hx hb hts hiX1 hown hK hP hf10 dX1_spoil_42 ?_
      refine lv_iload_n hx hb dX1_spoil_45 rfl (lv_at hl 1 rfl) ?_
      refine lv_iload_n hx hb dX1_spoil_46 rfl (lv_at hl 2 rfl) ?_
      refine lv_iconst (v := 3) hx hb dX1_spoil_47 (by decide) ?_
      refine r_callE (x := ((gNum σ) ((P * 30 + E) * 6 + 3))) (va_runV (As := [.int (nI (P)), .int (nI (E)), .int 3]) (rest := []) ⟨hx, hb, hml, hown, hts⟩ (c_X0_number l D cI q σ P E 3 (by omega) (by omega) (by omega)) (cwV 3 hts gX1_spoil_X0_number rfl rfl rfl kd_X0_number ⟨Nat.le_of_ble_eq_true rfl, Nat.le_of_ble_eq_true rfl⟩) (pV_G1 hP hK hE) rfl rfl hl.1 rfl (lv_room (Nat.le_of_ble_eq_true rfl)) dX1_spoil_48 ⟨Nat.le_of_ble_eq_true rfl, Nat.le_of_ble_eq_true rfl⟩) ?_
      refine lv_istore (lv' := [(4, .int (((gNum σ) ((P * 30 + E) * 6 + 3)))), (0, .ref (q 0)), (1, .int (nI (P))), (2, .int (nI (E))), (3, .int x3)]) hx hb dX1_spoil_51 hl (by decide) rfl (fun ls hl => ?_)
      refine lv_aload_n hx hb dX1_spoil_53 rfl (lv_at hl 1 rfl) ?_
      refine gf_1_0 hx hb hts hiX1 hown hK hP hf10 dX1_spoil_54 ?_
      refine lv_iload_n hx hb dX1_spoil_57 rfl (lv_at hl 2 rfl) ?_
      refine lv_iload_n hx hb dX1_spoil_58 rfl (lv_at hl 3 rfl) ?_
      refine lv_iload_n hx hb dX1_spoil_59 rfl (lv_at hl 4 rfl) ?_
      refine w_call (va_runV (As := [.int (nI (P)), .int (nI (E)), .int x3]) (rest := []) ⟨hx, hb, hml, hown, hts⟩ (c_X0_putAmount l D cI q σ hq P E x3 (by omega) (by omega)) (cwV 3 hts gX1_spoil_X0_putAmount rfl rfl rfl kd_X0_putAmount ⟨Nat.le_of_ble_eq_true rfl, Nat.le_of_ble_eq_true rfl⟩) (pV_G1 hP hK hE) rfl rfl hl.1 rfl (lv_room (Nat.le_of_ble_eq_true rfl)) dX1_spoil_60 ⟨Nat.le_of_ble_eq_true rfl, Nat.le_of_ble_eq_true rfl⟩) hS (fun _ h => h) (fun v_7 H locs hv_7 _ _ hS => ?_)
      obtain ⟨rfl, hP⟩ := hv_7
      have hP : va_P D vwCl (wG cI q (gsNum σ (va_up (gNum σ) ((P * 30 + E) * 6 + 3) x3))) H := hP
      refine lv_iload hx hb dX1_spoil_63 (lv_at hl 0 rfl) ?_
      exact RET _ _ _ _ _ (by have hs : cSpoil σ (nI P) (nI E) x3 = (0, ((gNum σ) ((P * 30 + E) * 6 + 3)), (gsNum σ (va_up (gNum σ) ((P * 30 + E) * 6 + 3) x3))) := (by simp [cSpoil, palC, wkC, hrC, lkC, entC, pN, bI_t, bI_f, bI_inj, va_up_self, gHol, gGoo, gDec, gFee, gDeb, gLen, gNum, gPrf, gCop, gMad, gN, gsHol, gsGoo, gsDec, gsFee, gsDeb, gsLen, gsNum, gsPrf, gsCop, gsMad, gsN, c_1, c_3, c_6, hcP, hcE] <;> decide); rw [hs]; exact ⟨rfl, rfl, hP⟩) hS dX1_spoil_65
theorem kn_X1_repair : yX1_repair.cls ≠ "java/lang/invoke/MethodHandle" ∧ yX1_repair.cls ≠ "java/lang/invoke/VarHandle" ∧ (parseMethodDescriptor yX1_repair.desc).map (fun d => d.parameters.length) = some 2 := by decide +kernel
theorem kd_X1_repair : yX1_repair.cls = RX1 ∧ yX1_repair.cls ≠ "java/lang/invoke/MethodHandle" ∧ yX1_repair.cls ≠ "java/lang/invoke/VarHandle" ∧ (parseMethodDescriptor yX1_repair.desc).map (fun d => d.parameters.length) = some 2 := by decide +kernel
set_option maxHeartbeats 4000000 in
set_option maxRecDepth 100000 in
theorem c_X1_repair (l : Launch) (hf : l.stackTraces = false) (D : va_G) (cI : ClassId) (q : Nat → Nat) (σ : SG) (hq : ijQ 12 q) (x1 x2 : Int32) (ok : okG σ) (hz : ∀ P, gN σ ≤ P → gLen σ P = 0) : vx_Met l yX1_repair wsX1_repair ({ frames := 7, cells := 1, slots := 6, locals := 102 }) (va_Pc [.ref (q 0), .int x1, .int x2] (PX D cI q σ)) (wQ (adQ 12 q) (fun v H1 => (cRepair σ x1 x2).1 = 0 ∧ v = some (.int (cRepair σ x1 x2).2.1) ∧ va_P D vwCl (wG cI q (cRepair σ x1 x2).2.2) H1)) (xQ (fun E => (cRepair σ x1 x2).1 ≠ 0 ∧ E = exN (cRepair σ x1 x2).1)) 1 6 (adQ 12 q) := by
  refine openX (cc := cX1_repair) (maxL := 4) (by decide) rfl (Nat.le_of_ble_eq_true rfl) ?_
  intro p e s m args below meth c hx hb hml hts hown hpre Q RET OUT ls hl
  have hown : s.vm.findClass RX1 = some m.cls := hown
  have hl : lv_has ls 4 [(0, .ref (q 0)), (1, .int x1), (2, .int x2)] := hl
  obtain ⟨⟨hP, hK, hE⟩, hX⟩ := hpre
  have hS : va_S (adQ 12 q) s.heap s.heap [] := va_S.rf
  have hiX1 : ∀ w ∈ wsX10, w ∈ wsX1_repair := by decide +kernel
  have hf10 := hts (.fieldLink RX1 10 "PalletGram" "chains" "LPalletGram$Chains;") (by decide +kernel)
  have hf29 := hts (.fieldLink RX1 29 "PalletGram" "debts" "[I") (by decide +kernel)
  have hf16 := hts (.fieldLink RX1 16 "PalletGram" "holders" "[I") (by decide +kernel)
  have hn : gN σ ≤ 14 := ok.1
  have hhol : ∀ P, gHol σ P < 6 := ok.2.1
  have hlen : ∀ P, gLen σ P ≤ 30 := ok.2.2
  refine lv_aload_n hx hb dX1_repair_0 rfl (lv_at hl 0 rfl) ?_
  refine lv_iload_n hx hb dX1_repair_1 rfl (lv_at hl 1 rfl) ?_
  refine r_callE (x := bI (rngB 0 (nI (gN σ)) x1)) (va_runV (As := [.int x1]) (rest := []) ⟨hx, hb, hml, hown, hts⟩ (c_X1_isPallet l D cI q σ x1) (cwV 1 hts gX1_repair_X1_isPallet rfl rfl rfl kd_X1_isPallet ⟨Nat.le_of_ble_eq_true rfl, Nat.le_of_ble_eq_true rfl⟩) (pV_G0 hP hK hE) rfl rfl hl.1 rfl (lv_room (Nat.le_of_ble_eq_true rfl)) dX1_repair_2 ⟨Nat.le_of_ble_eq_true rfl, Nat.le_of_ble_eq_true rfl⟩) ?_
  refine eqB (rngB 0 (nI (gN σ)) x1) (tgt := 24) hx hb rfl dX1_repair_5 (by decide) (fun c_1 => ?_) (fun c_1 => ?_)
  · skip
    refine lv_iconst (v := 0) hx hb dX1_repair_24 (by decide) ?_
    refine x_call (vx_runS (As := [.int 0]) (rest := []) ⟨hx, hb, hml, hown, hts⟩ (c_X1_needThere l hf (false)) (va_cwS 1 hts gX1_repair_X1_needThere rfl rfl rfl kn_X1_needThere ⟨Nat.le_of_ble_eq_true rfl, Nat.le_of_ble_eq_true rfl⟩) (pS_E hX) rfl rfl hl.1 rfl (lv_room (Nat.le_of_ble_eq_true rfl)) dX1_repair_25 ⟨Nat.le_of_ble_eq_true rfl, Nat.le_of_ble_eq_true rfl⟩) (fun E9 ce q9 H1 hψ hz9 hk9 hce hcv hcl => ?_) (fun c_2 => ?_)
    · obtain ⟨c_2, rfl⟩ := hψ
      exact OUT _ _ _ _ _ _ _ (by have hs : cRepair σ x1 x2 = (1, 0, σ) := (by simp [cRepair, palC, wkC, hrC, lkC, entC, pN, bI_t, bI_f, bI_inj, va_up_self, gHol, gGoo, gDec, gFee, gDeb, gLen, gNum, gPrf, gCop, gMad, gN, gsHol, gsGoo, gsDec, gsFee, gsDeb, gsLen, gsNum, gsPrf, gsCop, gsMad, gsN, cRep1, c_1] <;> decide); rw [hs]; exact ⟨(show (1 : Nat) ≠ 0 by decide), rfl⟩) hz9 hk9 hce hcv hcl
    exact absurd c_2 (by decide)
  · skip
    obtain ⟨P, hP9, rfl⟩ := rngB_pal (by omega) c_1
    have hcP : (nI P).toNatClampNeg = P := nI_clamp (by omega)
    refine lv_aload_n hx hb dX1_repair_8 rfl (lv_at hl 0 rfl) ?_
    refine gf_1_0 hx hb hts hiX1 hown hK hP hf10 dX1_repair_9 ?_
    refine lv_iload_n hx hb dX1_repair_12 rfl (lv_at hl 1 rfl) ?_
    refine lv_iload_n hx hb dX1_repair_13 rfl (lv_at hl 2 rfl) ?_
    refine r_callE (x := bI (rngB 0 (nI ((gLen σ) P)) x2)) (va_runV (As := [.int (nI (P)), .int x2]) (rest := []) ⟨hx, hb, hml, hown, hts⟩ (c_X0_has l D cI q σ P x2 (by omega)) (cwV 2 hts gX1_repair_X0_has rfl rfl rfl kd_X0_has ⟨Nat.le_of_ble_eq_true rfl, Nat.le_of_ble_eq_true rfl⟩) (pV_G1 hP hK hE) rfl rfl hl.1 rfl (lv_room (Nat.le_of_ble_eq_true rfl)) dX1_repair_14 ⟨Nat.le_of_ble_eq_true rfl, Nat.le_of_ble_eq_true rfl⟩) ?_
    refine eqB (rngB 0 (nI ((gLen σ) P)) x2) (tgt := 24) hx hb rfl dX1_repair_17 (by decide) (fun c_3 => ?_) (fun c_3 => ?_)
    · skip
      refine lv_iconst (v := 0) hx hb dX1_repair_24 (by decide) ?_
      refine x_call (vx_runS (As := [.int 0]) (rest := []) ⟨hx, hb, hml, hown, hts⟩ (c_X1_needThere l hf (false)) (va_cwS 1 hts gX1_repair_X1_needThere rfl rfl rfl kn_X1_needThere ⟨Nat.le_of_ble_eq_true rfl, Nat.le_of_ble_eq_true rfl⟩) (pS_E hX) rfl rfl hl.1 rfl (lv_room (Nat.le_of_ble_eq_true rfl)) dX1_repair_25 ⟨Nat.le_of_ble_eq_true rfl, Nat.le_of_ble_eq_true rfl⟩) (fun E9 ce q9 H1 hψ hz9 hk9 hce hcv hcl => ?_) (fun c_4 => ?_)
      · obtain ⟨c_4, rfl⟩ := hψ
        exact OUT _ _ _ _ _ _ _ (by have hs : cRepair σ (nI P) x2 = (1, 0, σ) := (by simp [cRepair, palC, wkC, hrC, lkC, entC, pN, bI_t, bI_f, bI_inj, va_up_self, gHol, gGoo, gDec, gFee, gDeb, gLen, gNum, gPrf, gCop, gMad, gN, gsHol, gsGoo, gsDec, gsFee, gsDeb, gsLen, gsNum, gsPrf, gsCop, gsMad, gsN, cRep1, c_1, c_3, hcP] <;> decide); rw [hs]; exact ⟨(show (1 : Nat) ≠ 0 by decide), rfl⟩) hz9 hk9 hce hcv hcl
      exact absurd c_4 (by decide)
    · skip
      have hm9 := hlen P
      obtain ⟨E, hE9, rfl⟩ := rngB_pal (n := gLen σ P) (by omega) c_3
      have hcE : (nI E).toNatClampNeg = E := nI_clamp (by omega)
      refine lv_iconst (v := 1) hx hb dX1_repair_20 (by decide) ?_
      refine lv_goto (tgt := 25) hx hb dX1_repair_21 (by decide) ?_
      refine x_call (vx_runS (As := [.int 1]) (rest := []) ⟨hx, hb, hml, hown, hts⟩ (c_X1_needThere l hf (true)) (va_cwS 1 hts gX1_repair_X1_needThere rfl rfl rfl kn_X1_needThere ⟨Nat.le_of_ble_eq_true rfl, Nat.le_of_ble_eq_true rfl⟩) (pS_E hX) rfl rfl hl.1 rfl (lv_room (Nat.le_of_ble_eq_true rfl)) dX1_repair_25 ⟨Nat.le_of_ble_eq_true rfl, Nat.le_of_ble_eq_true rfl⟩) (fun E9 ce q9 H1 hψ hz9 hk9 hce hcv hcl => ?_) (fun c_5 => ?_)
      · exact absurd hψ.1 (by decide)
      refine lv_aload_n hx hb dX1_repair_28 rfl (lv_at hl 0 rfl) ?_
      refine gf_1_0 hx hb hts hiX1 hown hK hP hf10 dX1_repair_29 ?_
      refine lv_iload_n hx hb dX1_repair_32 rfl (lv_at hl 1 rfl) ?_
      refine lv_iload_n hx hb dX1_repair_33 rfl (lv_at hl 2 rfl) ?_
      refine r_callE (x := ((gCop σ) (P * 30 + E))) (va_runV (As := [.int (nI (P)), .int (nI (E))]) (rest := []) ⟨hx, hb, hml, hown, hts⟩ (c_X0_copies l D cI q σ P E (by omega) (by omega)) (cwV 2 hts gX1_repair_X0_copies rfl rfl rfl kd_X0_copies ⟨Nat.le_of_ble_eq_true rfl, Nat.le_of_ble_eq_true rfl⟩) (pV_G1 hP hK hE) rfl rfl hl.1 rfl (lv_room (Nat.le_of_ble_eq_true rfl)) dX1_repair_34 ⟨Nat.le_of_ble_eq_true rfl, Nat.le_of_ble_eq_true rfl⟩) ?_
      refine r_callE (x := (loF (((gCop σ) (P * 30 + E))))) (va_runS (As := [.int (((gCop σ) (P * 30 + E)))]) (rest := []) ⟨hx, hb, hml, hown, hts⟩ (c_X1_lowestOf l (((gCop σ) (P * 30 + E)))) (va_cwS 1 hts gX1_repair_X1_lowestOf rfl rfl rfl kn_X1_lowestOf ⟨Nat.le_of_ble_eq_true rfl, Nat.le_of_ble_eq_true rfl⟩) (pS_T) rfl rfl hl.1 rfl (lv_room (Nat.le_of_ble_eq_true rfl)) dX1_repair_37 ⟨Nat.le_of_ble_eq_true rfl, Nat.le_of_ble_eq_true rfl⟩) ?_
      refine lv_istore_n (lv' := [(3, .int ((loF (((gCop σ) (P * 30 + E)))))), (0, .ref (q 0)), (1, .int (nI (P))), (2, .int (nI (E)))]) hx hb dX1_repair_40 rfl hl (by decide) rfl (fun ls hl => ?_)
      refine lv_aload_n hx hb dX1_repair_41 rfl (lv_at hl 1 rfl) ?_
      refine gf_1_0 hx hb hts hiX1 hown hK hP hf10 dX1_repair_42 ?_
      refine lv_iload_n hx hb dX1_repair_45 rfl (lv_at hl 2 rfl) ?_
      refine lv_iload_n hx hb dX1_repair_46 rfl (lv_at hl 3 rfl) ?_
      refine r_callE (x := bI (brkB (gPrf σ) (gNum σ) P E)) (va_runV (As := [.int (nI (P)), .int (nI (E))]) (rest := []) ⟨hx, hb, hml, hown, hts⟩ (c_X0_isBroken l D cI q σ P E (by omega) (by omega)) (cwV 2 hts gX1_repair_X0_isBroken rfl rfl rfl kd_X0_isBroken ⟨Nat.le_of_ble_eq_true rfl, Nat.le_of_ble_eq_true rfl⟩) (pV_G1 hP hK hE) rfl rfl hl.1 rfl (lv_room (Nat.le_of_ble_eq_true rfl)) dX1_repair_47 ⟨Nat.le_of_ble_eq_true rfl, Nat.le_of_ble_eq_true rfl⟩) ?_
      refine eqB (brkB (gPrf σ) (gNum σ) P E) (tgt := 62) hx hb rfl dX1_repair_50 (by decide) (fun c_6 => ?_) (fun c_6 => ?_)
      · skip
        refine lv_iconst (v := 0) hx hb dX1_repair_62 (by decide) ?_
        refine x_call (vx_runS (As := [.int 0]) (rest := []) ⟨hx, hb, hml, hown, hts⟩ (c_X1_needState l hf (false)) (va_cwS 1 hts gX1_repair_X1_needState rfl rfl rfl kn_X1_needState ⟨Nat.le_of_ble_eq_true rfl, Nat.le_of_ble_eq_true rfl⟩) (pS_E hX) rfl rfl hl.1 rfl (lv_room (Nat.le_of_ble_eq_true rfl)) dX1_repair_63 ⟨Nat.le_of_ble_eq_true rfl, Nat.le_of_ble_eq_true rfl⟩) (fun E9 ce q9 H1 hψ hz9 hk9 hce hcv hcl => ?_) (fun c_7 => ?_)
        · obtain ⟨c_7, rfl⟩ := hψ
          exact OUT _ _ _ _ _ _ _ (by have hs : cRepair σ (nI P) (nI E) = (3, 0, σ) := (by simp [cRepair, palC, wkC, hrC, lkC, entC, pN, bI_t, bI_f, bI_inj, va_up_self, gHol, gGoo, gDec, gFee, gDeb, gLen, gNum, gPrf, gCop, gMad, gN, gsHol, gsGoo, gsDec, gsFee, gsDeb, gsLen, gsNum, gsPrf, gsCop, gsMad, gsN, cRep1, c_1, c_3, c_6, hcP, hcE] <;> decide); rw [hs]; exact ⟨(show (3 : Nat) ≠ 0 by decide), rfl⟩) hz9 hk9 hce hcv hcl
        exact absurd c_7 (by decide)
      · skip
        refine lv_iload_n hx hb dX1_repair_53 rfl (lv_at hl 0 rfl) ?_
        refine lv_iconst (v := (-1)) hx hb dX1_repair_54 (by decide) ?_
        refine lv_icmp_eq (tgt := 62) hx hb dX1_repair_55 (by decide) (fun c_8 => ?_) (fun c_8 => ?_)
        · skip
          refine lv_iconst (v := 0) hx hb dX1_repair_62 (by decide) ?_
          refine x_call (vx_runS (As := [.int 0]) (rest := []) ⟨hx, hb, hml, hown, hts⟩ (c_X1_needState l hf (false)) (va_cwS 1 hts gX1_repair_X1_needState rfl rfl rfl kn_X1_needState ⟨Nat.le_of_ble_eq_true rfl, Nat.le_of_ble_eq_true rfl⟩) (pS_E hX) rfl rfl hl.1 rfl (lv_room (Nat.le_of_ble_eq_true rfl)) dX1_repair_63 ⟨Nat.le_of_ble_eq_true rfl, Nat.le_of_ble_eq_true rfl⟩) (fun E9 ce q9 H1 hψ hz9 hk9 hce hcv hcl => ?_) (fun c_9 => ?_)
          · obtain ⟨c_9, rfl⟩ := hψ
            exact OUT _ _ _ _ _ _ _ (by have hs : cRepair σ (nI P) (nI E) = (3, 0, σ) := (by simp [cRepair, palC, wkC, hrC, lkC, entC, pN, bI_t, bI_f, bI_inj, va_up_self, gHol, gGoo, gDec, gFee, gDeb, gLen, gNum, gPrf, gCop, gMad, gN, gsHol, gsGoo, gsDec, gsFee, gsDeb, gsLen, gsNum, gsPrf, gsCop, gsMad, gsN, cRep1, c_1, c_3, c_6, c_8, hcP, hcE] <;> decide); rw [hs]; exact ⟨(show (3 : Nat) ≠ 0 by decide), rfl⟩) hz9 hk9 hce hcv hcl
          exact absurd c_9 (by decide)
        · skip
          refine lv_iconst (v := 1) hx hb dX1_repair_58 (by decide) ?_
          refine lv_goto (tgt := 63) hx hb dX1_repair_59 (by decide) ?_
          refine x_call (vx_runS (As := [.int 1]) (rest := []) ⟨hx, hb, hml, hown, hts⟩ (c_X1_needState l hf (true)) (va_cwS 1 hts gX1_repair_X1_needState rfl rfl rfl kn_X1_needState ⟨Nat.le_of_ble_eq_true rfl, Nat.le_of_ble_eq_true rfl⟩) (pS_E hX) rfl rfl hl.1 rfl (lv_room (Nat.le_of_ble_eq_true rfl)) dX1_repair_63 ⟨Nat.le_of_ble_eq_true rfl, Nat.le_of_ble_eq_true rfl⟩) (fun E9 ce q9 H1 hψ hz9 hk9 hce hcv hcl => ?_) (fun c_10 => ?_)
          · exact absurd hψ.1 (by decide)
          have h8 := hhol P
          refine lv_aload_n hx hb dX1_repair_66 rfl (lv_at hl 1 rfl) ?_
          refine gf_1_0 hx hb hts hiX1 hown hK hP hf10 dX1_repair_67 ?_
          refine lv_iload_n hx hb dX1_repair_70 rfl (lv_at hl 2 rfl) ?_
          refine lv_iload_n hx hb dX1_repair_71 rfl (lv_at hl 3 rfl) ?_
          refine w_call (va_runV (As := [.int (nI (P)), .int (nI (E))]) (rest := []) ⟨hx, hb, hml, hown, hts⟩ (c_X0_putAmountBack l D cI q σ hq P E (by omega) (by omega)) (cwV 2 hts gX1_repair_X0_putAmountBack rfl rfl rfl kd_X0_putAmountBack ⟨Nat.le_of_ble_eq_true rfl, Nat.le_of_ble_eq_true rfl⟩) (pV_G1 hP hK hE) rfl rfl hl.1 rfl (lv_room (Nat.le_of_ble_eq_true rfl)) dX1_repair_72 ⟨Nat.le_of_ble_eq_true rfl, Nat.le_of_ble_eq_true rfl⟩) hS (fun _ h => h) (fun v_11 H locs hv_11 _ _ hS => ?_)
          obtain ⟨rfl, hP⟩ := hv_11
          have hP : va_P D vwCl (wG cI q (gsNum σ (va_up (gNum σ) ((P * 30 + E) * 6 + 3) ((gMad σ) (P * 30 + E))))) H := hP
          refine lv_aload_n hx hb dX1_repair_75 rfl (lv_at hl 1 rfl) ?_
          refine gf_1_5 hx hb hts hiX1 hown hK hP hf29 dX1_repair_76 ?_
          refine lv_aload_n hx hb dX1_repair_79 rfl (lv_at hl 1 rfl) ?_
          refine gf_1_1 hx hb hts hiX1 hown hK hP hf16 dX1_repair_80 ?_
          refine lv_iload_n hx hb dX1_repair_83 rfl (lv_at hl 2 rfl) ?_
          refine gld_2 (k := P) (v := ((gHol σ)) P) hx hb hK hP rfl (by omega) rfl dX1_repair_84 ?_
          refine lv_dup2_11 hx hb dX1_repair_85 rfl rfl ?_
          refine gld_6 (k := ((gHol σ)) P) (v := ((gDeb σ)) (((gHol σ)) P)) hx hb hK hP rfl (by omega) rfl dX1_repair_86 ?_
          refine lv_iconst (v := 5) hx hb dX1_repair_87 (by decide) ?_
          refine lv_iadd hx hb dX1_repair_88 ?_
          refine gst_6 (k := ((gHol σ)) P) (x := ((((gDeb σ)) (((gHol σ)) P)) + 5)) hx hb hK hP hq hS rfl (by omega) dX1_repair_89 (fun deb_12 e_deb_12 H locs hP hS => ?_)
          have hP : va_P D vwCl (wG cI q (gsNum (gsDeb σ deb_12) (va_up (gNum σ) ((P * 30 + E) * 6 + 3) ((gMad σ) (P * 30 + E))))) H := hP
          refine lv_iload_n hx hb dX1_repair_90 rfl (lv_at hl 0 rfl) ?_
          exact RET _ _ _ _ _ (by have hs : cRepair σ (nI P) (nI E) = (0, (loF (((gCop σ) (P * 30 + E)))), (gsNum (gsDeb σ deb_12) (va_up (gNum σ) ((P * 30 + E) * 6 + 3) ((gMad σ) (P * 30 + E))))) := (by simp [cRepair, palC, wkC, hrC, lkC, entC, pN, bI_t, bI_f, bI_inj, va_up_self, gHol, gGoo, gDec, gFee, gDeb, gLen, gNum, gPrf, gCop, gMad, gN, gsHol, gsGoo, gsDec, gsFee, gsDeb, gsLen, gsNum, gsPrf, gsCop, gsMad, gsN, cRep1, c_1, c_3, c_6, c_8, hcP, hcE, e_deb_12] <;> decide); rw [hs]; exact ⟨rfl, rfl, hP⟩) hS dX1_repair_91
theorem kn_X1_make : yX1_make.cls ≠ "java/lang/invoke/MethodHandle" ∧ yX1_make.cls ≠ "java/lang/invoke/VarHandle" ∧ (parseMethodDescriptor yX1_make.desc).map (fun d => d.parameters.length) = some 1 := by decide +kernel
theorem kd_X1_make : yX1_make.cls = RX1 ∧ yX1_make.cls ≠ "java/lang/invoke/MethodHandle" ∧ yX1_make.cls ≠ "java/lang/invoke/VarHandle" ∧ (parseMethodDescriptor yX1_make.desc).map (fun d => d.parameters.length) = some 1 := by decide +kernel
set_option maxHeartbeats 4000000 in
set_option maxRecDepth 100000 in
theorem c_X1_make (l : Launch) (hf : l.stackTraces = false) (D : va_G) (cI : ClassId) (q : Nat → Nat) (σ : SG) (hq : ijQ 12 q) (x1 : Int32) (ok : okG σ) (hz : ∀ P, gN σ ≤ P → gLen σ P = 0) : vx_Met l yX1_make wsX1_make ({ frames := 7, cells := 1, slots := 6, locals := 102 }) (va_Pc [.ref (q 0), .int x1] (PX D cI q σ)) (wQ (adQ 12 q) (fun v H1 => (cMake σ x1).1 = 0 ∧ v = some (.int (cMake σ x1).2.1) ∧ va_P D vwCl (wG cI q (cMake σ x1).2.2) H1)) (xQ (fun E => (cMake σ x1).1 ≠ 0 ∧ E = exN (cMake σ x1).1)) 1 6 (adQ 12 q) := by
  refine openX (cc := cX1_make) (maxL := 3) (by decide) rfl (Nat.le_of_ble_eq_true rfl) ?_
  intro p e s m args below meth c hx hb hml hts hown hpre Q RET OUT ls hl
  have hown : s.vm.findClass RX1 = some m.cls := hown
  have hl : lv_has ls 3 [(0, .ref (q 0)), (1, .int x1)] := hl
  obtain ⟨⟨hP, hK, hE⟩, hX⟩ := hpre
  have hS : va_S (adQ 12 q) s.heap s.heap [] := va_S.rf
  have hiX1 : ∀ w ∈ wsX10, w ∈ wsX1_make := by decide +kernel
  have hf40 := hts (.fieldLink RX1 40 "PalletGram" "pallets" "I") (by decide +kernel)
  have hn : gN σ ≤ 14 := ok.1
  have hhol : ∀ P, gHol σ P < 6 := ok.2.1
  have hlen : ∀ P, gLen σ P ≤ 30 := ok.2.2
  refine lv_iload_n hx hb dX1_make_0 rfl (lv_at hl 1 rfl) ?_
  refine r_callE (x := bI (rngB 0 4 x1)) (va_runS (As := [.int x1]) (rest := []) ⟨hx, hb, hml, hown, hts⟩ (c_X1_isDock l x1) (va_cwS 1 hts gX1_make_X1_isDock rfl rfl rfl kn_X1_isDock ⟨Nat.le_of_ble_eq_true rfl, Nat.le_of_ble_eq_true rfl⟩) (pS_T) rfl rfl hl.1 rfl (lv_room (Nat.le_of_ble_eq_true rfl)) dX1_make_1 ⟨Nat.le_of_ble_eq_true rfl, Nat.le_of_ble_eq_true rfl⟩) ?_
  refine x_call (vx_runS (As := [.int (bI (rngB 0 4 x1))]) (rest := []) ⟨hx, hb, hml, hown, hts⟩ (c_X1_needThere l hf (rngB 0 4 x1)) (va_cwS 1 hts gX1_make_X1_needThere rfl rfl rfl kn_X1_needThere ⟨Nat.le_of_ble_eq_true rfl, Nat.le_of_ble_eq_true rfl⟩) (pS_E hX) rfl rfl hl.1 rfl (lv_room (Nat.le_of_ble_eq_true rfl)) dX1_make_4 ⟨Nat.le_of_ble_eq_true rfl, Nat.le_of_ble_eq_true rfl⟩) (fun E9 ce q9 H1 hψ hz9 hk9 hce hcv hcl => ?_) (fun c_1 => ?_)
  · obtain ⟨c_1, rfl⟩ := hψ
    exact OUT _ _ _ _ _ _ _ (by have hs : cMake σ x1 = (1, 0, σ) := (by simp [cMake, palC, wkC, hrC, lkC, entC, pN, bI_t, bI_f, bI_inj, va_up_self, gHol, gGoo, gDec, gFee, gDeb, gLen, gNum, gPrf, gCop, gMad, gN, gsHol, gsGoo, gsDec, gsFee, gsDeb, gsLen, gsNum, gsPrf, gsCop, gsMad, gsN, c_1] <;> decide); rw [hs]; exact ⟨(show (1 : Nat) ≠ 0 by decide), rfl⟩) hz9 hk9 hce hcv hcl
  obtain ⟨P, hP8, hP9, rfl⟩ := rngB_nat (lo := 0) (hi := 4) (by decide) (by decide) c_1
  have hcP : (nI P).toNatClampNeg = P := nI_clamp (by omega)
  refine lv_aload_n hx hb dX1_make_7 rfl (lv_at hl 0 rfl) ?_
  refine gf_1_6 hx hb hts hiX1 hown hK hP hf40 dX1_make_8 ?_
  refine lv_topE (y := nI ((gN σ))) rfl ?_
  refine lv_bipush (v := 14) hx hb dX1_make_11 (by decide) ?_
  refine geN ((gN σ)) 14 (tgt := 20) hx hb rfl rfl (by omega) (by omega) dX1_make_13 (by decide) (fun c_2 => ?_) (fun c_2 => ?_)
  · skip
    refine lv_iconst (v := 0) hx hb dX1_make_20 (by decide) ?_
    refine x_call (vx_runS (As := [.int 0]) (rest := []) ⟨hx, hb, hml, hown, hts⟩ (c_X1_needState l hf (false)) (va_cwS 1 hts gX1_make_X1_needState rfl rfl rfl kn_X1_needState ⟨Nat.le_of_ble_eq_true rfl, Nat.le_of_ble_eq_true rfl⟩) (pS_E hX) rfl rfl hl.1 rfl (lv_room (Nat.le_of_ble_eq_true rfl)) dX1_make_21 ⟨Nat.le_of_ble_eq_true rfl, Nat.le_of_ble_eq_true rfl⟩) (fun E9 ce q9 H1 hψ hz9 hk9 hce hcv hcl => ?_) (fun c_3 => ?_)
    · obtain ⟨c_3, rfl⟩ := hψ
      exact OUT _ _ _ _ _ _ _ (by have hs : cMake σ (nI P) = (3, 0, σ) := (by simp [cMake, palC, wkC, hrC, lkC, entC, pN, bI_t, bI_f, bI_inj, va_up_self, gHol, gGoo, gDec, gFee, gDeb, gLen, gNum, gPrf, gCop, gMad, gN, gsHol, gsGoo, gsDec, gsFee, gsDeb, gsLen, gsNum, gsPrf, gsCop, gsMad, gsN, c_1, c_2, hcP, Nat.not_lt.mpr c_2] <;> decide); rw [hs]; exact ⟨(show (3 : Nat) ≠ 0 by decide), rfl⟩) hz9 hk9 hce hcv hcl
    exact absurd c_3 (by decide)
  · skip
    refine lv_iconst (v := 1) hx hb dX1_make_16 (by decide) ?_
    refine lv_goto (tgt := 21) hx hb dX1_make_17 (by decide) ?_
    refine x_call (vx_runS (As := [.int 1]) (rest := []) ⟨hx, hb, hml, hown, hts⟩ (c_X1_needState l hf (true)) (va_cwS 1 hts gX1_make_X1_needState rfl rfl rfl kn_X1_needState ⟨Nat.le_of_ble_eq_true rfl, Nat.le_of_ble_eq_true rfl⟩) (pS_E hX) rfl rfl hl.1 rfl (lv_room (Nat.le_of_ble_eq_true rfl)) dX1_make_21 ⟨Nat.le_of_ble_eq_true rfl, Nat.le_of_ble_eq_true rfl⟩) (fun E9 ce q9 H1 hψ hz9 hk9 hce hcv hcl => ?_) (fun c_4 => ?_)
    · exact absurd hψ.1 (by decide)
    refine lv_aload_n hx hb dX1_make_24 rfl (lv_at hl 0 rfl) ?_
    refine lv_iload_n hx hb dX1_make_25 rfl (lv_at hl 1 rfl) ?_
    refine w_call (va_runV (As := [.int (nI (P))]) (rest := []) ⟨hx, hb, hml, hown, hts⟩ (c_X1_stand l D cI q σ hq P (by omega)) (cwV 1 hts gX1_make_X1_stand rfl rfl rfl kd_X1_stand ⟨Nat.le_of_ble_eq_true rfl, Nat.le_of_ble_eq_true rfl⟩) (pV_G0 hP hK hE) rfl rfl hl.1 rfl (lv_room (Nat.le_of_ble_eq_true rfl)) dX1_make_26 ⟨Nat.le_of_ble_eq_true rfl, Nat.le_of_ble_eq_true rfl⟩) hS (fun _ h => h) (fun v_5 H locs hv_5 _ _ hS => ?_)
    obtain ⟨rfl, hP⟩ := hv_5
    obtain ⟨σ6, eσ6⟩ : ∃ z : SG, z = stF σ P := ⟨_, rfl⟩
    rw [← eσ6] at hP
    refine lv_istore_n (lv' := [(2, .int (nI ((gN σ)))), (0, .ref (q 0)), (1, .int (nI (P)))]) hx hb dX1_make_29 rfl hl (by decide) rfl (fun ls hl => ?_)
    refine lv_aload_n hx hb dX1_make_30 rfl (lv_at hl 1 rfl) ?_
    refine lv_iload_n hx hb dX1_make_31 rfl (lv_at hl 0 rfl) ?_
    refine lv_iconst (v := 0) hx hb dX1_make_32 (by decide) ?_
    refine lv_iconst (v := 0) hx hb dX1_make_33 (by decide) ?_
    refine lv_iconst (v := 0) hx hb dX1_make_34 (by decide) ?_
    refine lv_iconst (v := 0) hx hb dX1_make_35 (by decide) ?_
    refine lv_iconst (v := 0) hx hb dX1_make_36 (by decide) ?_
    refine w_call (va_runV (As := [.int (nI ((gN σ))), .int 0, .int 0, .int 0, .int 0, .int 0]) (rest := []) ⟨hx, hb, hml, hown, hts⟩ (c_X1_write l D cI q σ6 hq ((gN σ)) 0 0 0 0 0 (by omega) (by omega) (by rw [eσ6]; exact ok_st ok (by omega) (by omega)) (by rw [eσ6]; show gLen σ (gN σ) < 30; rw [hz _ (Nat.le_refl _)]; decide)) (cwV 6 hts gX1_make_X1_write rfl rfl rfl kd_X1_write ⟨Nat.le_of_ble_eq_true rfl, Nat.le_of_ble_eq_true rfl⟩) (pV_G0 hP hK hE) rfl rfl hl.1 rfl (lv_room (Nat.le_of_ble_eq_true rfl)) dX1_make_37 ⟨Nat.le_of_ble_eq_true rfl, Nat.le_of_ble_eq_true rfl⟩) hS (fun _ h => h) (fun v_7 H locs hv_7 _ _ hS => ?_)
    obtain ⟨rfl, hP⟩ := hv_7
    obtain ⟨σ8, eσ8⟩ : ∃ z : SG, z = wrF σ6 ((gN σ)) 0 0 0 0 0 := ⟨_, rfl⟩
    rw [← eσ8] at hP
    refine lv_iload_n hx hb dX1_make_40 rfl (lv_at hl 0 rfl) ?_
    exact RET _ _ _ _ _ (by have hs : cMake σ (nI P) = (0, nI (gN σ), wrF (stF σ P) (gN σ) 0 0 0 0 0) := (by simp [cMake, palC, wkC, hrC, lkC, entC, pN, c_1, c_2, hcP, Nat.not_le.mpr c_2]); rw [hs]; exact ⟨rfl, rfl, by subst eσ6 eσ8; exact hP⟩) hS dX1_make_41
theorem kn_X1_load : yX1_load.cls ≠ "java/lang/invoke/MethodHandle" ∧ yX1_load.cls ≠ "java/lang/invoke/VarHandle" ∧ (parseMethodDescriptor yX1_load.desc).map (fun d => d.parameters.length) = some 3 := by decide +kernel
theorem kd_X1_load : yX1_load.cls = RX1 ∧ yX1_load.cls ≠ "java/lang/invoke/MethodHandle" ∧ yX1_load.cls ≠ "java/lang/invoke/VarHandle" ∧ (parseMethodDescriptor yX1_load.desc).map (fun d => d.parameters.length) = some 3 := by decide +kernel
set_option maxHeartbeats 4000000 in
set_option maxRecDepth 100000 in
theorem c_X1_load (l : Launch) (hf : l.stackTraces = false) (D : va_G) (cI : ClassId) (q : Nat → Nat) (σ : SG) (hq : ijQ 12 q) (x1 x2 x3 : Int32) (ok : okG σ) (hz : ∀ P, gN σ ≤ P → gLen σ P = 0) : vx_Met l yX1_load wsX1_load ({ frames := 7, cells := 1, slots := 6, locals := 139 }) (va_Pc [.ref (q 0), .int x1, .int x2, .int x3] (PX D cI q σ)) (wQ (adQ 12 q) (fun v H1 => (cLoad σ x1 x2 x3).1 = 0 ∧ v = some (.int (cLoad σ x1 x2 x3).2.1) ∧ va_P D vwCl (wG cI q (cLoad σ x1 x2 x3).2.2) H1)) (xQ (fun E => (cLoad σ x1 x2 x3).1 ≠ 0 ∧ E = exN (cLoad σ x1 x2 x3).1)) 1 6 (adQ 12 q) := by
  refine openX (cc := cX1_load) (maxL := 5) (by decide) rfl (Nat.le_of_ble_eq_true rfl) ?_
  intro p e s m args below meth c hx hb hml hts hown hpre Q RET OUT ls hl
  have hown : s.vm.findClass RX1 = some m.cls := hown
  have hl : lv_has ls 5 [(0, .ref (q 0)), (1, .int x1), (2, .int x2), (3, .int x3)] := hl
  obtain ⟨⟨hP, hK, hE⟩, hX⟩ := hpre
  have hS : va_S (adQ 12 q) s.heap s.heap [] := va_S.rf
  have hiX1 : ∀ w ∈ wsX10, w ∈ wsX1_load := by decide +kernel
  have hf20 := hts (.fieldLink RX1 20 "PalletGram" "goods" "[I") (by decide +kernel)
  have hf16 := hts (.fieldLink RX1 16 "PalletGram" "holders" "[I") (by decide +kernel)
  have hn : gN σ ≤ 14 := ok.1
  have hhol : ∀ P, gHol σ P < 6 := ok.2.1
  have hlen : ∀ P, gLen σ P ≤ 30 := ok.2.2
  refine lv_aload_n hx hb dX1_load_0 rfl (lv_at hl 0 rfl) ?_
  refine lv_iload_n hx hb dX1_load_1 rfl (lv_at hl 1 rfl) ?_
  refine r_callE (x := bI (rngB 0 (nI (gN σ)) x1)) (va_runV (As := [.int x1]) (rest := []) ⟨hx, hb, hml, hown, hts⟩ (c_X1_isPallet l D cI q σ x1) (cwV 1 hts gX1_load_X1_isPallet rfl rfl rfl kd_X1_isPallet ⟨Nat.le_of_ble_eq_true rfl, Nat.le_of_ble_eq_true rfl⟩) (pV_G0 hP hK hE) rfl rfl hl.1 rfl (lv_room (Nat.le_of_ble_eq_true rfl)) dX1_load_2 ⟨Nat.le_of_ble_eq_true rfl, Nat.le_of_ble_eq_true rfl⟩) ?_
  refine eqB (rngB 0 (nI (gN σ)) x1) (tgt := 19) hx hb rfl dX1_load_5 (by decide) (fun c_1 => ?_) (fun c_1 => ?_)
  · skip
    refine lv_iconst (v := 0) hx hb dX1_load_19 (by decide) ?_
    refine x_call (vx_runS (As := [.int 0]) (rest := []) ⟨hx, hb, hml, hown, hts⟩ (c_X1_needThere l hf (false)) (va_cwS 1 hts gX1_load_X1_needThere rfl rfl rfl kn_X1_needThere ⟨Nat.le_of_ble_eq_true rfl, Nat.le_of_ble_eq_true rfl⟩) (pS_E hX) rfl rfl hl.1 rfl (lv_room (Nat.le_of_ble_eq_true rfl)) dX1_load_20 ⟨Nat.le_of_ble_eq_true rfl, Nat.le_of_ble_eq_true rfl⟩) (fun E9 ce q9 H1 hψ hz9 hk9 hce hcv hcl => ?_) (fun c_2 => ?_)
    · obtain ⟨c_2, rfl⟩ := hψ
      exact OUT _ _ _ _ _ _ _ (by have hs : cLoad σ x1 x2 x3 = (1, 0, σ) := (by simp [cLoad, palC, wkC, hrC, lkC, entC, pN, bI_t, bI_f, bI_inj, va_up_self, gHol, gGoo, gDec, gFee, gDeb, gLen, gNum, gPrf, gCop, gMad, gN, gsHol, gsGoo, gsDec, gsFee, gsDeb, gsLen, gsNum, gsPrf, gsCop, gsMad, gsN, cLoad1, c_1] <;> decide); rw [hs]; exact ⟨(show (1 : Nat) ≠ 0 by decide), rfl⟩) hz9 hk9 hce hcv hcl
    exact absurd c_2 (by decide)
  · skip
    refine lv_iload_n hx hb dX1_load_8 rfl (lv_at hl 2 rfl) ?_
    refine r_callE (x := bI (rngB 0 6 x2)) (va_runS (As := [.int x2]) (rest := []) ⟨hx, hb, hml, hown, hts⟩ (c_X1_isGood l x2) (va_cwS 1 hts gX1_load_X1_isGood rfl rfl rfl kn_X1_isGood ⟨Nat.le_of_ble_eq_true rfl, Nat.le_of_ble_eq_true rfl⟩) (pS_T) rfl rfl hl.1 rfl (lv_room (Nat.le_of_ble_eq_true rfl)) dX1_load_9 ⟨Nat.le_of_ble_eq_true rfl, Nat.le_of_ble_eq_true rfl⟩) ?_
    refine eqB (rngB 0 6 x2) (tgt := 19) hx hb rfl dX1_load_12 (by decide) (fun c_3 => ?_) (fun c_3 => ?_)
    · skip
      refine lv_iconst (v := 0) hx hb dX1_load_19 (by decide) ?_
      refine x_call (vx_runS (As := [.int 0]) (rest := []) ⟨hx, hb, hml, hown, hts⟩ (c_X1_needThere l hf (false)) (va_cwS 1 hts gX1_load_X1_needThere rfl rfl rfl kn_X1_needThere ⟨Nat.le_of_ble_eq_true rfl, Nat.le_of_ble_eq_true rfl⟩) (pS_E hX) rfl rfl hl.1 rfl (lv_room (Nat.le_of_ble_eq_true rfl)) dX1_load_20 ⟨Nat.le_of_ble_eq_true rfl, Nat.le_of_ble_eq_true rfl⟩) (fun E9 ce q9 H1 hψ hz9 hk9 hce hcv hcl => ?_) (fun c_4 => ?_)
      · obtain ⟨c_4, rfl⟩ := hψ
        exact OUT _ _ _ _ _ _ _ (by have hs : cLoad σ x1 x2 x3 = (1, 0, σ) := (by simp [cLoad, palC, wkC, hrC, lkC, entC, pN, bI_t, bI_f, bI_inj, va_up_self, gHol, gGoo, gDec, gFee, gDeb, gLen, gNum, gPrf, gCop, gMad, gN, gsHol, gsGoo, gsDec, gsFee, gsDeb, gsLen, gsNum, gsPrf, gsCop, gsMad, gsN, cLoad1, c_1, c_3] <;> decide); rw [hs]; exact ⟨(show (1 : Nat) ≠ 0 by decide), rfl⟩) hz9 hk9 hce hcv hcl
      exact absurd c_4 (by decide)
    · skip
      obtain ⟨P, hP9, rfl⟩ := rngB_pal (by omega) c_1
      have hcP : (nI P).toNatClampNeg = P := nI_clamp (by omega)
      obtain ⟨G, hG8, hG9, rfl⟩ := rngB_nat (lo := 0) (hi := 6) (by decide) (by decide) c_3
      have hcG : (nI G).toNatClampNeg = G := nI_clamp (by omega)
      refine lv_iconst (v := 1) hx hb dX1_load_15 (by decide) ?_
      refine lv_goto (tgt := 20) hx hb dX1_load_16 (by decide) ?_
      refine x_call (vx_runS (As := [.int 1]) (rest := []) ⟨hx, hb, hml, hown, hts⟩ (c_X1_needThere l hf (true)) (va_cwS 1 hts gX1_load_X1_needThere rfl rfl rfl kn_X1_needThere ⟨Nat.le_of_ble_eq_true rfl, Nat.le_of_ble_eq_true rfl⟩) (pS_E hX) rfl rfl hl.1 rfl (lv_room (Nat.le_of_ble_eq_true rfl)) dX1_load_20 ⟨Nat.le_of_ble_eq_true rfl, Nat.le_of_ble_eq_true rfl⟩) (fun E9 ce q9 H1 hψ hz9 hk9 hce hcv hcl => ?_) (fun c_5 => ?_)
      · exact absurd hψ.1 (by decide)
      refine lv_iload_n hx hb dX1_load_23 rfl (lv_at hl 3 rfl) ?_
      refine lv_if_eq (tgt := 42) hx hb dX1_load_24 (by decide) (fun c_6 => ?_) (fun c_6 => ?_)
      · skip
        refine lv_iconst (v := 0) hx hb dX1_load_42 (by decide) ?_
        refine x_call (vx_runS (As := [.int 0]) (rest := []) ⟨hx, hb, hml, hown, hts⟩ (c_X1_needRange l hf (false)) (va_cwS 1 hts gX1_load_X1_needRange rfl rfl rfl kn_X1_needRange ⟨Nat.le_of_ble_eq_true rfl, Nat.le_of_ble_eq_true rfl⟩) (pS_E hX) rfl rfl hl.1 rfl (lv_room (Nat.le_of_ble_eq_true rfl)) dX1_load_43 ⟨Nat.le_of_ble_eq_true rfl, Nat.le_of_ble_eq_true rfl⟩) (fun E9 ce q9 H1 hψ hz9 hk9 hce hcv hcl => ?_) (fun c_7 => ?_)
        · obtain ⟨c_7, rfl⟩ := hψ
          exact OUT _ _ _ _ _ _ _ (by have hs : cLoad σ (nI P) (nI G) x3 = (2, 0, σ) := (by simp [cLoad, palC, wkC, hrC, lkC, entC, pN, bI_t, bI_f, bI_inj, va_up_self, gHol, gGoo, gDec, gFee, gDeb, gLen, gNum, gPrf, gCop, gMad, gN, gsHol, gsGoo, gsDec, gsFee, gsDeb, gsLen, gsNum, gsPrf, gsCop, gsMad, gsN, cLoad1, c_1, c_3, c_6, hcP, hcG] <;> decide); rw [hs]; exact ⟨(show (2 : Nat) ≠ 0 by decide), rfl⟩) hz9 hk9 hce hcv hcl
        exact absurd c_7 (by decide)
      · skip
        refine lv_iload_n hx hb dX1_load_27 rfl (lv_at hl 3 rfl) ?_
        refine lv_bipush (v := (-99)) hx hb dX1_load_28 (by decide) ?_
        refine lv_bipush (v := 99) hx hb dX1_load_30 (by decide) ?_
        refine r_callE (x := bI (inB x3 ((-99)) 99)) (va_runS (As := [.int x3, .int ((-99)), .int 99]) (rest := []) ⟨hx, hb, hml, hown, hts⟩ (c_X1_isWithin l x3 ((-99)) 99) (va_cwS 3 hts gX1_load_X1_isWithin rfl rfl rfl kn_X1_isWithin ⟨Nat.le_of_ble_eq_true rfl, Nat.le_of_ble_eq_true rfl⟩) (pS_T) rfl rfl hl.1 rfl (lv_room (Nat.le_of_ble_eq_true rfl)) dX1_load_32 ⟨Nat.le_of_ble_eq_true rfl, Nat.le_of_ble_eq_true rfl⟩) ?_
        refine eqB (inB x3 ((-99)) 99) (tgt := 42) hx hb rfl dX1_load_35 (by decide) (fun c_8 => ?_) (fun c_8 => ?_)
        · skip
          refine lv_iconst (v := 0) hx hb dX1_load_42 (by decide) ?_
          refine x_call (vx_runS (As := [.int 0]) (rest := []) ⟨hx, hb, hml, hown, hts⟩ (c_X1_needRange l hf (false)) (va_cwS 1 hts gX1_load_X1_needRange rfl rfl rfl kn_X1_needRange ⟨Nat.le_of_ble_eq_true rfl, Nat.le_of_ble_eq_true rfl⟩) (pS_E hX) rfl rfl hl.1 rfl (lv_room (Nat.le_of_ble_eq_true rfl)) dX1_load_43 ⟨Nat.le_of_ble_eq_true rfl, Nat.le_of_ble_eq_true rfl⟩) (fun E9 ce q9 H1 hψ hz9 hk9 hce hcv hcl => ?_) (fun c_9 => ?_)
          · obtain ⟨c_9, rfl⟩ := hψ
            exact OUT _ _ _ _ _ _ _ (by have hs : cLoad σ (nI P) (nI G) x3 = (2, 0, σ) := (by simp [cLoad, palC, wkC, hrC, lkC, entC, pN, bI_t, bI_f, bI_inj, va_up_self, gHol, gGoo, gDec, gFee, gDeb, gLen, gNum, gPrf, gCop, gMad, gN, gsHol, gsGoo, gsDec, gsFee, gsDeb, gsLen, gsNum, gsPrf, gsCop, gsMad, gsN, cLoad1, c_1, c_3, c_6, c_8, hcP, hcG] <;> decide); rw [hs]; exact ⟨(show (2 : Nat) ≠ 0 by decide), rfl⟩) hz9 hk9 hce hcv hcl
          exact absurd c_9 (by decide)
        · skip
          refine lv_iconst (v := 1) hx hb dX1_load_38 (by decide) ?_
          refine lv_goto (tgt := 43) hx hb dX1_load_39 (by decide) ?_
          refine x_call (vx_runS (As := [.int 1]) (rest := []) ⟨hx, hb, hml, hown, hts⟩ (c_X1_needRange l hf (true)) (va_cwS 1 hts gX1_load_X1_needRange rfl rfl rfl kn_X1_needRange ⟨Nat.le_of_ble_eq_true rfl, Nat.le_of_ble_eq_true rfl⟩) (pS_E hX) rfl rfl hl.1 rfl (lv_room (Nat.le_of_ble_eq_true rfl)) dX1_load_43 ⟨Nat.le_of_ble_eq_true rfl, Nat.le_of_ble_eq_true rfl⟩) (fun E9 ce q9 H1 hψ hz9 hk9 hce hcv hcl => ?_) (fun c_10 => ?_)
          · exact absurd hψ.1 (by decide)
          refine lv_aload_n hx hb dX1_load_46 rfl (lv_at hl 0 rfl) ?_
          refine gf_1_2 hx hb hts hiX1 hown hK hP hf20 dX1_load_47 ?_
          refine lv_iload_n hx hb dX1_load_50 rfl (lv_at hl 1 rfl) ?_
          refine lv_bipush (v := 6) hx hb dX1_load_51 (by decide) ?_
          refine mulN P 6 hx hb rfl rfl dX1_load_53 ?_
          refine lv_iload_n hx hb dX1_load_54 rfl (lv_at hl 2 rfl) ?_
          refine addN (P * 6) G hx hb rfl rfl dX1_load_55 ?_
          refine gld_3 (k := P * 6 + G) (v := ((gGoo σ)) (P * 6 + G)) hx hb hK hP rfl (by omega) rfl dX1_load_56 ?_
          refine lv_iload_n hx hb dX1_load_57 rfl (lv_at hl 3 rfl) ?_
          refine lv_iadd hx hb dX1_load_58 ?_
          refine lv_istore (lv' := [(4, .int (((((gGoo σ)) (P * 6 + G)) + x3))), (0, .ref (q 0)), (1, .int (nI (P))), (2, .int (nI (G))), (3, .int x3)]) hx hb dX1_load_59 hl (by decide) rfl (fun ls hl => ?_)
          refine lv_aload_n hx hb dX1_load_61 rfl (lv_at hl 1 rfl) ?_
          refine lv_iload_n hx hb dX1_load_62 rfl (lv_at hl 2 rfl) ?_
          refine r_callE (x := bI (wkF (gN σ) (gLen σ) (gPrf σ) (gNum σ) P)) (va_runV (As := [.int (nI (P))]) (rest := []) ⟨hx, hb, hml, hown, hts⟩ (c_X1_isWorkable l D cI q σ P (by omega) ⟨hn, hhol, hlen⟩) (cwV 1 hts gX1_load_X1_isWorkable rfl rfl rfl kd_X1_isWorkable ⟨Nat.le_of_ble_eq_true rfl, Nat.le_of_ble_eq_true rfl⟩) (pV_G0 hP hK hE) rfl rfl hl.1 rfl (lv_room (Nat.le_of_ble_eq_true rfl)) dX1_load_63 ⟨Nat.le_of_ble_eq_true rfl, Nat.le_of_ble_eq_true rfl⟩) ?_
          refine eqB (wkF (gN σ) (gLen σ) (gPrf σ) (gNum σ) P) (tgt := 104) hx hb rfl dX1_load_66 (by decide) (fun c_11 => ?_) (fun c_11 => ?_)
          · skip
            refine lv_iconst (v := 0) hx hb dX1_load_104 (by decide) ?_
            refine x_call (vx_runS (As := [.int 0]) (rest := []) ⟨hx, hb, hml, hown, hts⟩ (c_X1_needState l hf (false)) (va_cwS 1 hts gX1_load_X1_needState rfl rfl rfl kn_X1_needState ⟨Nat.le_of_ble_eq_true rfl, Nat.le_of_ble_eq_true rfl⟩) (pS_E hX) rfl rfl hl.1 rfl (lv_room (Nat.le_of_ble_eq_true rfl)) dX1_load_105 ⟨Nat.le_of_ble_eq_true rfl, Nat.le_of_ble_eq_true rfl⟩) (fun E9 ce q9 H1 hψ hz9 hk9 hce hcv hcl => ?_) (fun c_12 => ?_)
            · obtain ⟨c_12, rfl⟩ := hψ
              exact OUT _ _ _ _ _ _ _ (by have hs : cLoad σ (nI P) (nI G) x3 = (3, 0, σ) := (by simp [cLoad, palC, wkC, hrC, lkC, entC, pN, bI_t, bI_f, bI_inj, va_up_self, gHol, gGoo, gDec, gFee, gDeb, gLen, gNum, gPrf, gCop, gMad, gN, gsHol, gsGoo, gsDec, gsFee, gsDeb, gsLen, gsNum, gsPrf, gsCop, gsMad, gsN, cLoad1, c_1, c_3, c_6, c_8, c_11, hcP, hcG] <;> decide); rw [hs]; exact ⟨(show (3 : Nat) ≠ 0 by decide), rfl⟩) hz9 hk9 hce hcv hcl
            exact absurd c_12 (by decide)
          · skip
            refine lv_iload hx hb dX1_load_69 (lv_at hl 0 rfl) ?_
            refine lv_iconst (v := 0) hx hb dX1_load_71 (by decide) ?_
            refine lv_sipush (v := 999) hx hb dX1_load_72 (by decide) ?_
            refine r_callE (x := bI (inB (((((gGoo σ)) (P * 6 + G)) + x3)) 0 999)) (va_runS (As := [.int (((((gGoo σ)) (P * 6 + G)) + x3)), .int 0, .int 999]) (rest := []) ⟨hx, hb, hml, hown, hts⟩ (c_X1_isWithin l (((((gGoo σ)) (P * 6 + G)) + x3)) 0 999) (va_cwS 3 hts gX1_load_X1_isWithin rfl rfl rfl kn_X1_isWithin ⟨Nat.le_of_ble_eq_true rfl, Nat.le_of_ble_eq_true rfl⟩) (pS_T) rfl rfl hl.1 rfl (lv_room (Nat.le_of_ble_eq_true rfl)) dX1_load_75 ⟨Nat.le_of_ble_eq_true rfl, Nat.le_of_ble_eq_true rfl⟩) ?_
            refine eqB (inB (((((gGoo σ)) (P * 6 + G)) + x3)) 0 999) (tgt := 104) hx hb rfl dX1_load_78 (by decide) (fun c_13 => ?_) (fun c_13 => ?_)
            · skip
              refine lv_iconst (v := 0) hx hb dX1_load_104 (by decide) ?_
              refine x_call (vx_runS (As := [.int 0]) (rest := []) ⟨hx, hb, hml, hown, hts⟩ (c_X1_needState l hf (false)) (va_cwS 1 hts gX1_load_X1_needState rfl rfl rfl kn_X1_needState ⟨Nat.le_of_ble_eq_true rfl, Nat.le_of_ble_eq_true rfl⟩) (pS_E hX) rfl rfl hl.1 rfl (lv_room (Nat.le_of_ble_eq_true rfl)) dX1_load_105 ⟨Nat.le_of_ble_eq_true rfl, Nat.le_of_ble_eq_true rfl⟩) (fun E9 ce q9 H1 hψ hz9 hk9 hce hcv hcl => ?_) (fun c_14 => ?_)
              · obtain ⟨c_14, rfl⟩ := hψ
                exact OUT _ _ _ _ _ _ _ (by have hs : cLoad σ (nI P) (nI G) x3 = (3, 0, σ) := (by simp [cLoad, palC, wkC, hrC, lkC, entC, pN, bI_t, bI_f, bI_inj, va_up_self, gHol, gGoo, gDec, gFee, gDeb, gLen, gNum, gPrf, gCop, gMad, gN, gsHol, gsGoo, gsDec, gsFee, gsDeb, gsLen, gsNum, gsPrf, gsCop, gsMad, gsN, cLoad1, c_1, c_3, c_6, c_8, c_11, c_13, hcP, hcG] <;> decide); rw [hs]; exact ⟨(show (3 : Nat) ≠ 0 by decide), rfl⟩) hz9 hk9 hce hcv hcl
              exact absurd c_14 (by decide)
            · skip
              have h8 := hhol P
              refine lv_aload_n hx hb dX1_load_81 rfl (lv_at hl 1 rfl) ?_
              refine lv_aload_n hx hb dX1_load_82 rfl (lv_at hl 1 rfl) ?_
              refine gf_1_1 hx hb hts hiX1 hown hK hP hf16 dX1_load_83 ?_
              refine lv_iload_n hx hb dX1_load_86 rfl (lv_at hl 2 rfl) ?_
              refine gld_2 (k := P) (v := ((gHol σ)) P) hx hb hK hP rfl (by omega) rfl dX1_load_87 ?_
              refine lv_iload_n hx hb dX1_load_88 rfl (lv_at hl 4 rfl) ?_
              refine lv_iload_n hx hb dX1_load_89 rfl (lv_at hl 3 rfl) ?_
              refine r_callE (x := (nI (G) + 1)) (va_runS (As := [.int (nI (G))]) (rest := [.int x3, .int (nI (((gHol σ)) P)), .ref (q 0)]) ⟨hx, hb, hml, hown, hts⟩ (c_X1_weightOfOne l (nI (G))) (va_cwS 1 hts gX1_load_X1_weightOfOne rfl rfl rfl kn_X1_weightOfOne ⟨Nat.le_of_ble_eq_true rfl, Nat.le_of_ble_eq_true rfl⟩) (pS_T) rfl rfl hl.1 rfl (lv_room (Nat.le_of_ble_eq_true rfl)) dX1_load_90 ⟨Nat.le_of_ble_eq_true rfl, Nat.le_of_ble_eq_true rfl⟩) ?_
              refine lv_imul hx hb dX1_load_93 ?_
              refine r_callE (x := bI (hrF (gHol σ) (gGoo σ) (gN σ) (((gHol σ)) P) ((x3 * (nI (G) + 1))))) (va_runV (As := [.int (nI (((gHol σ)) P)), .int ((x3 * (nI (G) + 1)))]) (rest := []) ⟨hx, hb, hml, hown, hts⟩ (c_X1_hasRoom l D cI q σ (((gHol σ)) P) ((x3 * (nI (G) + 1))) ⟨hn, hhol, hlen⟩ (by omega)) (cwV 2 hts gX1_load_X1_hasRoom rfl rfl rfl kd_X1_hasRoom ⟨Nat.le_of_ble_eq_true rfl, Nat.le_of_ble_eq_true rfl⟩) (pV_G0 hP hK hE) rfl rfl hl.1 rfl (lv_room (Nat.le_of_ble_eq_true rfl)) dX1_load_94 ⟨Nat.le_of_ble_eq_true rfl, Nat.le_of_ble_eq_true rfl⟩) ?_
              refine eqB (hrF (gHol σ) (gGoo σ) (gN σ) (((gHol σ)) P) ((x3 * (nI (G) + 1)))) (tgt := 104) hx hb rfl dX1_load_97 (by decide) (fun c_15 => ?_) (fun c_15 => ?_)
              · skip
                refine lv_iconst (v := 0) hx hb dX1_load_104 (by decide) ?_
                refine x_call (vx_runS (As := [.int 0]) (rest := []) ⟨hx, hb, hml, hown, hts⟩ (c_X1_needState l hf (false)) (va_cwS 1 hts gX1_load_X1_needState rfl rfl rfl kn_X1_needState ⟨Nat.le_of_ble_eq_true rfl, Nat.le_of_ble_eq_true rfl⟩) (pS_E hX) rfl rfl hl.1 rfl (lv_room (Nat.le_of_ble_eq_true rfl)) dX1_load_105 ⟨Nat.le_of_ble_eq_true rfl, Nat.le_of_ble_eq_true rfl⟩) (fun E9 ce q9 H1 hψ hz9 hk9 hce hcv hcl => ?_) (fun c_16 => ?_)
                · obtain ⟨c_16, rfl⟩ := hψ
                  exact OUT _ _ _ _ _ _ _ (by have hs : cLoad σ (nI P) (nI G) x3 = (3, 0, σ) := (by simp [cLoad, palC, wkC, hrC, lkC, entC, pN, bI_t, bI_f, bI_inj, va_up_self, gHol, gGoo, gDec, gFee, gDeb, gLen, gNum, gPrf, gCop, gMad, gN, gsHol, gsGoo, gsDec, gsFee, gsDeb, gsLen, gsNum, gsPrf, gsCop, gsMad, gsN, cLoad1, c_1, c_3, c_6, c_8, c_11, c_13, c_15, hcP, hcG] <;> decide); rw [hs]; exact ⟨(show (3 : Nat) ≠ 0 by decide), rfl⟩) hz9 hk9 hce hcv hcl
                exact absurd c_16 (by decide)
              · skip
                refine lv_iconst (v := 1) hx hb dX1_load_100 (by decide) ?_
                refine lv_goto (tgt := 105) hx hb dX1_load_101 (by decide) ?_
                refine x_call (vx_runS (As := [.int 1]) (rest := []) ⟨hx, hb, hml, hown, hts⟩ (c_X1_needState l hf (true)) (va_cwS 1 hts gX1_load_X1_needState rfl rfl rfl kn_X1_needState ⟨Nat.le_of_ble_eq_true rfl, Nat.le_of_ble_eq_true rfl⟩) (pS_E hX) rfl rfl hl.1 rfl (lv_room (Nat.le_of_ble_eq_true rfl)) dX1_load_105 ⟨Nat.le_of_ble_eq_true rfl, Nat.le_of_ble_eq_true rfl⟩) (fun E9 ce q9 H1 hψ hz9 hk9 hce hcv hcl => ?_) (fun c_17 => ?_)
                · exact absurd hψ.1 (by decide)
                have hE9 := wkF_len c_11
                refine lv_aload_n hx hb dX1_load_108 rfl (lv_at hl 1 rfl) ?_
                refine gf_1_2 hx hb hts hiX1 hown hK hP hf20 dX1_load_109 ?_
                refine lv_iload_n hx hb dX1_load_112 rfl (lv_at hl 2 rfl) ?_
                refine lv_bipush (v := 6) hx hb dX1_load_113 (by decide) ?_
                refine mulN P 6 hx hb rfl rfl dX1_load_115 ?_
                refine lv_iload_n hx hb dX1_load_116 rfl (lv_at hl 3 rfl) ?_
                refine addN (P * 6) G hx hb rfl rfl dX1_load_117 ?_
                refine lv_iload hx hb dX1_load_118 (lv_at hl 0 rfl) ?_
                refine gst_3 (k := P * 6 + G) (x := ((((gGoo σ)) (P * 6 + G)) + x3)) hx hb hK hP hq hS rfl (by omega) dX1_load_120 (fun goo_18 e_goo_18 H locs hP hS => ?_)
                have hP : va_P D vwCl (wG cI q (gsGoo σ goo_18)) H := hP
                refine lv_iload_n hx hb dX1_load_121 rfl (lv_at hl 4 rfl) ?_
                refine lv_if_le (tgt := 138) hx hb dX1_load_122 (by decide) (fun c_19 => ?_) (fun c_19 => ?_)
                · skip
                  refine lv_aload_n hx hb dX1_load_138 rfl (lv_at hl 1 rfl) ?_
                  refine lv_iload_n hx hb dX1_load_139 rfl (lv_at hl 2 rfl) ?_
                  refine lv_iconst (v := 2) hx hb dX1_load_140 (by decide) ?_
                  refine lv_iload_n hx hb dX1_load_141 rfl (lv_at hl 3 rfl) ?_
                  refine lv_iload_n hx hb dX1_load_142 rfl (lv_at hl 4 rfl) ?_
                  refine lv_ineg hx hb dX1_load_143 ?_
                  refine lv_iconst (v := 0) hx hb dX1_load_144 (by decide) ?_
                  refine lv_iconst (v := 0) hx hb dX1_load_145 (by decide) ?_
                  refine w_call (va_runV (As := [.int (nI (P)), .int 2, .int (nI (G)), .int ((-x3)), .int 0, .int 0]) (rest := []) ⟨hx, hb, hml, hown, hts⟩ (c_X1_write l D cI q (gsGoo σ goo_18) hq P 2 (nI (G)) ((-x3)) 0 0 (by omega) (by omega) ok (by omega)) (cwV 6 hts gX1_load_X1_write rfl rfl rfl kd_X1_write ⟨Nat.le_of_ble_eq_true rfl, Nat.le_of_ble_eq_true rfl⟩) (pV_G0 hP hK hE) rfl rfl hl.1 rfl (lv_room (Nat.le_of_ble_eq_true rfl)) dX1_load_146 ⟨Nat.le_of_ble_eq_true rfl, Nat.le_of_ble_eq_true rfl⟩) hS (fun _ h => h) (fun v_20 H locs hv_20 _ _ hS => ?_)
                  obtain ⟨rfl, hP⟩ := hv_20
                  obtain ⟨σ21, eσ21⟩ : ∃ z : SG, z = wrF (gsGoo σ goo_18) P 2 (nI (G)) ((-x3)) 0 0 := ⟨_, rfl⟩
                  rw [← eσ21] at hP
                  refine lv_iload hx hb dX1_load_149 (lv_at hl 0 rfl) ?_
                  exact RET _ _ _ _ _ (by have hs : cLoad σ (nI P) (nI G) x3 = (0, gGoo σ (P * 6 + G) + x3, wrF (cLoad1 σ P G x3) P 2 (nI G) (-x3) 0 0) := (by simp [cLoad, palC, wkC, hrC, lkC, entC, pN, c_1, c_3, c_6, c_8, c_11, c_13, c_15, c_19, hcP, hcG, Int32.not_lt.mpr c_19]); rw [hs]; exact ⟨rfl, rfl, by subst e_goo_18 eσ21; exact hP⟩) hS dX1_load_151
                · skip
                  refine lv_aload_n hx hb dX1_load_125 rfl (lv_at hl 1 rfl) ?_
                  refine lv_iload_n hx hb dX1_load_126 rfl (lv_at hl 2 rfl) ?_
                  refine lv_iconst (v := 1) hx hb dX1_load_127 (by decide) ?_
                  refine lv_iload_n hx hb dX1_load_128 rfl (lv_at hl 3 rfl) ?_
                  refine lv_iload_n hx hb dX1_load_129 rfl (lv_at hl 4 rfl) ?_
                  refine lv_iconst (v := 0) hx hb dX1_load_130 (by decide) ?_
                  refine lv_iconst (v := 0) hx hb dX1_load_131 (by decide) ?_
                  refine w_call (va_runV (As := [.int (nI (P)), .int 1, .int (nI (G)), .int x3, .int 0, .int 0]) (rest := []) ⟨hx, hb, hml, hown, hts⟩ (c_X1_write l D cI q (gsGoo σ goo_18) hq P 1 (nI (G)) x3 0 0 (by omega) (by omega) ok (by omega)) (cwV 6 hts gX1_load_X1_write rfl rfl rfl kd_X1_write ⟨Nat.le_of_ble_eq_true rfl, Nat.le_of_ble_eq_true rfl⟩) (pV_G0 hP hK hE) rfl rfl hl.1 rfl (lv_room (Nat.le_of_ble_eq_true rfl)) dX1_load_132 ⟨Nat.le_of_ble_eq_true rfl, Nat.le_of_ble_eq_true rfl⟩) hS (fun _ h => h) (fun v_22 H locs hv_22 _ _ hS => ?_)
                  obtain ⟨rfl, hP⟩ := hv_22
                  obtain ⟨σ23, eσ23⟩ : ∃ z : SG, z = wrF (gsGoo σ goo_18) P 1 (nI (G)) x3 0 0 := ⟨_, rfl⟩
                  rw [← eσ23] at hP
                  refine lv_goto (tgt := 149) hx hb dX1_load_135 (by decide) ?_
                  refine lv_iload hx hb dX1_load_149 (lv_at hl 0 rfl) ?_
                  exact RET _ _ _ _ _ (by have hs : cLoad σ (nI P) (nI G) x3 = (0, gGoo σ (P * 6 + G) + x3, wrF (cLoad1 σ P G x3) P 1 (nI G) x3 0 0) := (by simp [cLoad, palC, wkC, hrC, lkC, entC, pN, c_1, c_3, c_6, c_8, c_11, c_13, c_15, c_19, hcP, hcG, Int32.not_le.mp c_19]); rw [hs]; exact ⟨rfl, rfl, by subst e_goo_18 eσ23; exact hP⟩) hS dX1_load_151
theorem kn_X1_part : yX1_part.cls ≠ "java/lang/invoke/MethodHandle" ∧ yX1_part.cls ≠ "java/lang/invoke/VarHandle" ∧ (parseMethodDescriptor yX1_part.desc).map (fun d => d.parameters.length) = some 3 := by decide +kernel
theorem kd_X1_part : yX1_part.cls = RX1 ∧ yX1_part.cls ≠ "java/lang/invoke/MethodHandle" ∧ yX1_part.cls ≠ "java/lang/invoke/VarHandle" ∧ (parseMethodDescriptor yX1_part.desc).map (fun d => d.parameters.length) = some 3 := by decide +kernel
set_option maxHeartbeats 4000000 in
set_option maxRecDepth 100000 in
theorem c_X1_part (l : Launch) (hf : l.stackTraces = false) (D : va_G) (cI : ClassId) (q : Nat → Nat) (σ : SG) (hq : ijQ 12 q) (x1 x2 x3 : Int32) (ok : okG σ) (hz : ∀ P, gN σ ≤ P → gLen σ P = 0) : vx_Met l yX1_part wsX1_part ({ frames := 7, cells := 1, slots := 6, locals := 139 }) (va_Pc [.ref (q 0), .int x1, .int x2, .int x3] (PX D cI q σ)) (wQ (adQ 12 q) (fun v H1 => (cPart σ x1 x2 x3).1 = 0 ∧ v = some (.int (cPart σ x1 x2 x3).2.1) ∧ va_P D vwCl (wG cI q (cPart σ x1 x2 x3).2.2) H1)) (xQ (fun E => (cPart σ x1 x2 x3).1 ≠ 0 ∧ E = exN (cPart σ x1 x2 x3).1)) 1 6 (adQ 12 q) := by
  refine openX (cc := cX1_part) (maxL := 6) (by decide) rfl (Nat.le_of_ble_eq_true rfl) ?_
  intro p e s m args below meth c hx hb hml hts hown hpre Q RET OUT ls hl
  have hown : s.vm.findClass RX1 = some m.cls := hown
  have hl : lv_has ls 6 [(0, .ref (q 0)), (1, .int x1), (2, .int x2), (3, .int x3)] := hl
  obtain ⟨⟨hP, hK, hE⟩, hX⟩ := hpre
  have hS : va_S (adQ 12 q) s.heap s.heap [] := va_S.rf
  have hiX1 : ∀ w ∈ wsX10, w ∈ wsX1_part := by decide +kernel
  have hf20 := hts (.fieldLink RX1 20 "PalletGram" "goods" "[I") (by decide +kernel)
  have hf40 := hts (.fieldLink RX1 40 "PalletGram" "pallets" "I") (by decide +kernel)
  have hf16 := hts (.fieldLink RX1 16 "PalletGram" "holders" "[I") (by decide +kernel)
  have hf10 := hts (.fieldLink RX1 10 "PalletGram" "chains" "LPalletGram$Chains;") (by decide +kernel)
  have hn : gN σ ≤ 14 := ok.1
  have hhol : ∀ P, gHol σ P < 6 := ok.2.1
  have hlen : ∀ P, gLen σ P ≤ 30 := ok.2.2
  refine lv_aload_n hx hb dX1_part_0 rfl (lv_at hl 0 rfl) ?_
  refine lv_iload_n hx hb dX1_part_1 rfl (lv_at hl 1 rfl) ?_
  refine r_callE (x := bI (rngB 0 (nI (gN σ)) x1)) (va_runV (As := [.int x1]) (rest := []) ⟨hx, hb, hml, hown, hts⟩ (c_X1_isPallet l D cI q σ x1) (cwV 1 hts gX1_part_X1_isPallet rfl rfl rfl kd_X1_isPallet ⟨Nat.le_of_ble_eq_true rfl, Nat.le_of_ble_eq_true rfl⟩) (pV_G0 hP hK hE) rfl rfl hl.1 rfl (lv_room (Nat.le_of_ble_eq_true rfl)) dX1_part_2 ⟨Nat.le_of_ble_eq_true rfl, Nat.le_of_ble_eq_true rfl⟩) ?_
  refine eqB (rngB 0 (nI (gN σ)) x1) (tgt := 19) hx hb rfl dX1_part_5 (by decide) (fun c_1 => ?_) (fun c_1 => ?_)
  · skip
    refine lv_iconst (v := 0) hx hb dX1_part_19 (by decide) ?_
    refine x_call (vx_runS (As := [.int 0]) (rest := []) ⟨hx, hb, hml, hown, hts⟩ (c_X1_needThere l hf (false)) (va_cwS 1 hts gX1_part_X1_needThere rfl rfl rfl kn_X1_needThere ⟨Nat.le_of_ble_eq_true rfl, Nat.le_of_ble_eq_true rfl⟩) (pS_E hX) rfl rfl hl.1 rfl (lv_room (Nat.le_of_ble_eq_true rfl)) dX1_part_20 ⟨Nat.le_of_ble_eq_true rfl, Nat.le_of_ble_eq_true rfl⟩) (fun E9 ce q9 H1 hψ hz9 hk9 hce hcv hcl => ?_) (fun c_2 => ?_)
    · obtain ⟨c_2, rfl⟩ := hψ
      exact OUT _ _ _ _ _ _ _ (by have hs : cPart σ x1 x2 x3 = (1, 0, σ) := (by simp [cPart, palC, wkC, hrC, lkC, entC, pN, bI_t, bI_f, bI_inj, va_up_self, gHol, gGoo, gDec, gFee, gDeb, gLen, gNum, gPrf, gCop, gMad, gN, gsHol, gsGoo, gsDec, gsFee, gsDeb, gsLen, gsNum, gsPrf, gsCop, gsMad, gsN, cPart1, cPart2, c_1] <;> decide); rw [hs]; exact ⟨(show (1 : Nat) ≠ 0 by decide), rfl⟩) hz9 hk9 hce hcv hcl
    exact absurd c_2 (by decide)
  · skip
    refine lv_iload_n hx hb dX1_part_8 rfl (lv_at hl 2 rfl) ?_
    refine r_callE (x := bI (rngB 0 6 x2)) (va_runS (As := [.int x2]) (rest := []) ⟨hx, hb, hml, hown, hts⟩ (c_X1_isGood l x2) (va_cwS 1 hts gX1_part_X1_isGood rfl rfl rfl kn_X1_isGood ⟨Nat.le_of_ble_eq_true rfl, Nat.le_of_ble_eq_true rfl⟩) (pS_T) rfl rfl hl.1 rfl (lv_room (Nat.le_of_ble_eq_true rfl)) dX1_part_9 ⟨Nat.le_of_ble_eq_true rfl, Nat.le_of_ble_eq_true rfl⟩) ?_
    refine eqB (rngB 0 6 x2) (tgt := 19) hx hb rfl dX1_part_12 (by decide) (fun c_3 => ?_) (fun c_3 => ?_)
    · skip
      refine lv_iconst (v := 0) hx hb dX1_part_19 (by decide) ?_
      refine x_call (vx_runS (As := [.int 0]) (rest := []) ⟨hx, hb, hml, hown, hts⟩ (c_X1_needThere l hf (false)) (va_cwS 1 hts gX1_part_X1_needThere rfl rfl rfl kn_X1_needThere ⟨Nat.le_of_ble_eq_true rfl, Nat.le_of_ble_eq_true rfl⟩) (pS_E hX) rfl rfl hl.1 rfl (lv_room (Nat.le_of_ble_eq_true rfl)) dX1_part_20 ⟨Nat.le_of_ble_eq_true rfl, Nat.le_of_ble_eq_true rfl⟩) (fun E9 ce q9 H1 hψ hz9 hk9 hce hcv hcl => ?_) (fun c_4 => ?_)
      · obtain ⟨c_4, rfl⟩ := hψ
        exact OUT _ _ _ _ _ _ _ (by have hs : cPart σ x1 x2 x3 = (1, 0, σ) := (by simp [cPart, palC, wkC, hrC, lkC, entC, pN, bI_t, bI_f, bI_inj, va_up_self, gHol, gGoo, gDec, gFee, gDeb, gLen, gNum, gPrf, gCop, gMad, gN, gsHol, gsGoo, gsDec, gsFee, gsDeb, gsLen, gsNum, gsPrf, gsCop, gsMad, gsN, cPart1, cPart2, c_1, c_3] <;> decide); rw [hs]; exact ⟨(show (1 : Nat) ≠ 0 by decide), rfl⟩) hz9 hk9 hce hcv hcl
      exact absurd c_4 (by decide)
    · skip
      obtain ⟨P, hP9, rfl⟩ := rngB_pal (by omega) c_1
      have hcP : (nI P).toNatClampNeg = P := nI_clamp (by omega)
      obtain ⟨G, hG8, hG9, rfl⟩ := rngB_nat (lo := 0) (hi := 6) (by decide) (by decide) c_3
      have hcG : (nI G).toNatClampNeg = G := nI_clamp (by omega)
      refine lv_iconst (v := 1) hx hb dX1_part_15 (by decide) ?_
      refine lv_goto (tgt := 20) hx hb dX1_part_16 (by decide) ?_
      refine x_call (vx_runS (As := [.int 1]) (rest := []) ⟨hx, hb, hml, hown, hts⟩ (c_X1_needThere l hf (true)) (va_cwS 1 hts gX1_part_X1_needThere rfl rfl rfl kn_X1_needThere ⟨Nat.le_of_ble_eq_true rfl, Nat.le_of_ble_eq_true rfl⟩) (pS_E hX) rfl rfl hl.1 rfl (lv_room (Nat.le_of_ble_eq_true rfl)) dX1_part_20 ⟨Nat.le_of_ble_eq_true rfl, Nat.le_of_ble_eq_true rfl⟩) (fun E9 ce q9 H1 hψ hz9 hk9 hce hcv hcl => ?_) (fun c_5 => ?_)
      · exact absurd hψ.1 (by decide)
      refine lv_iload_n hx hb dX1_part_23 rfl (lv_at hl 3 rfl) ?_
      refine lv_iconst (v := 1) hx hb dX1_part_24 (by decide) ?_
      refine lv_bipush (v := 99) hx hb dX1_part_25 (by decide) ?_
      refine r_callE (x := bI (inB x3 1 99)) (va_runS (As := [.int x3, .int 1, .int 99]) (rest := []) ⟨hx, hb, hml, hown, hts⟩ (c_X1_isWithin l x3 1 99) (va_cwS 3 hts gX1_part_X1_isWithin rfl rfl rfl kn_X1_isWithin ⟨Nat.le_of_ble_eq_true rfl, Nat.le_of_ble_eq_true rfl⟩) (pS_T) rfl rfl hl.1 rfl (lv_room (Nat.le_of_ble_eq_true rfl)) dX1_part_27 ⟨Nat.le_of_ble_eq_true rfl, Nat.le_of_ble_eq_true rfl⟩) ?_
      refine x_call (vx_runS (As := [.int (bI (inB x3 1 99))]) (rest := []) ⟨hx, hb, hml, hown, hts⟩ (c_X1_needRange l hf (inB x3 1 99)) (va_cwS 1 hts gX1_part_X1_needRange rfl rfl rfl kn_X1_needRange ⟨Nat.le_of_ble_eq_true rfl, Nat.le_of_ble_eq_true rfl⟩) (pS_E hX) rfl rfl hl.1 rfl (lv_room (Nat.le_of_ble_eq_true rfl)) dX1_part_30 ⟨Nat.le_of_ble_eq_true rfl, Nat.le_of_ble_eq_true rfl⟩) (fun E9 ce q9 H1 hψ hz9 hk9 hce hcv hcl => ?_) (fun c_6 => ?_)
      · obtain ⟨c_6, rfl⟩ := hψ
        exact OUT _ _ _ _ _ _ _ (by have hs : cPart σ (nI P) (nI G) x3 = (2, 0, σ) := (by simp [cPart, palC, wkC, hrC, lkC, entC, pN, bI_t, bI_f, bI_inj, va_up_self, gHol, gGoo, gDec, gFee, gDeb, gLen, gNum, gPrf, gCop, gMad, gN, gsHol, gsGoo, gsDec, gsFee, gsDeb, gsLen, gsNum, gsPrf, gsCop, gsMad, gsN, cPart1, cPart2, c_1, c_3, c_6, hcP, hcG] <;> decide); rw [hs]; exact ⟨(show (2 : Nat) ≠ 0 by decide), rfl⟩) hz9 hk9 hce hcv hcl
      refine lv_aload_n hx hb dX1_part_33 rfl (lv_at hl 0 rfl) ?_
      refine lv_iload_n hx hb dX1_part_34 rfl (lv_at hl 1 rfl) ?_
      refine r_callE (x := bI (wkF (gN σ) (gLen σ) (gPrf σ) (gNum σ) P)) (va_runV (As := [.int (nI (P))]) (rest := []) ⟨hx, hb, hml, hown, hts⟩ (c_X1_isWorkable l D cI q σ P (by omega) ⟨hn, hhol, hlen⟩) (cwV 1 hts gX1_part_X1_isWorkable rfl rfl rfl kd_X1_isWorkable ⟨Nat.le_of_ble_eq_true rfl, Nat.le_of_ble_eq_true rfl⟩) (pV_G0 hP hK hE) rfl rfl hl.1 rfl (lv_room (Nat.le_of_ble_eq_true rfl)) dX1_part_35 ⟨Nat.le_of_ble_eq_true rfl, Nat.le_of_ble_eq_true rfl⟩) ?_
      refine eqB (wkF (gN σ) (gLen σ) (gPrf σ) (gNum σ) P) (tgt := 69) hx hb rfl dX1_part_38 (by decide) (fun c_7 => ?_) (fun c_7 => ?_)
      · skip
        refine lv_iconst (v := 0) hx hb dX1_part_69 (by decide) ?_
        refine x_call (vx_runS (As := [.int 0]) (rest := []) ⟨hx, hb, hml, hown, hts⟩ (c_X1_needState l hf (false)) (va_cwS 1 hts gX1_part_X1_needState rfl rfl rfl kn_X1_needState ⟨Nat.le_of_ble_eq_true rfl, Nat.le_of_ble_eq_true rfl⟩) (pS_E hX) rfl rfl hl.1 rfl (lv_room (Nat.le_of_ble_eq_true rfl)) dX1_part_70 ⟨Nat.le_of_ble_eq_true rfl, Nat.le_of_ble_eq_true rfl⟩) (fun E9 ce q9 H1 hψ hz9 hk9 hce hcv hcl => ?_) (fun c_8 => ?_)
        · obtain ⟨c_8, rfl⟩ := hψ
          exact OUT _ _ _ _ _ _ _ (by have hs : cPart σ (nI P) (nI G) x3 = (3, 0, σ) := (by simp [cPart, palC, wkC, hrC, lkC, entC, pN, bI_t, bI_f, bI_inj, va_up_self, gHol, gGoo, gDec, gFee, gDeb, gLen, gNum, gPrf, gCop, gMad, gN, gsHol, gsGoo, gsDec, gsFee, gsDeb, gsLen, gsNum, gsPrf, gsCop, gsMad, gsN, cPart1, cPart2, c_1, c_3, c_6, c_7, hcP, hcG] <;> decide); rw [hs]; exact ⟨(show (3 : Nat) ≠ 0 by decide), rfl⟩) hz9 hk9 hce hcv hcl
        exact absurd c_8 (by decide)
      · skip
        refine lv_aload_n hx hb dX1_part_41 rfl (lv_at hl 0 rfl) ?_
        refine gf_1_2 hx hb hts hiX1 hown hK hP hf20 dX1_part_42 ?_
        refine lv_iload_n hx hb dX1_part_45 rfl (lv_at hl 1 rfl) ?_
        refine lv_bipush (v := 6) hx hb dX1_part_46 (by decide) ?_
        refine mulN P 6 hx hb rfl rfl dX1_part_48 ?_
        refine lv_iload_n hx hb dX1_part_49 rfl (lv_at hl 2 rfl) ?_
        refine addN (P * 6) G hx hb rfl rfl dX1_part_50 ?_
        refine gld_3 (k := P * 6 + G) (v := ((gGoo σ)) (P * 6 + G)) hx hb hK hP rfl (by omega) rfl dX1_part_51 ?_
        refine lv_iload_n hx hb dX1_part_52 rfl (lv_at hl 3 rfl) ?_
        refine lv_icmp_lt (tgt := 69) hx hb dX1_part_53 (by decide) (fun c_9 => ?_) (fun c_9 => ?_)
        · skip
          refine lv_iconst (v := 0) hx hb dX1_part_69 (by decide) ?_
          refine x_call (vx_runS (As := [.int 0]) (rest := []) ⟨hx, hb, hml, hown, hts⟩ (c_X1_needState l hf (false)) (va_cwS 1 hts gX1_part_X1_needState rfl rfl rfl kn_X1_needState ⟨Nat.le_of_ble_eq_true rfl, Nat.le_of_ble_eq_true rfl⟩) (pS_E hX) rfl rfl hl.1 rfl (lv_room (Nat.le_of_ble_eq_true rfl)) dX1_part_70 ⟨Nat.le_of_ble_eq_true rfl, Nat.le_of_ble_eq_true rfl⟩) (fun E9 ce q9 H1 hψ hz9 hk9 hce hcv hcl => ?_) (fun c_10 => ?_)
          · obtain ⟨c_10, rfl⟩ := hψ
            exact OUT _ _ _ _ _ _ _ (by have hs : cPart σ (nI P) (nI G) x3 = (3, 0, σ) := (by simp [cPart, palC, wkC, hrC, lkC, entC, pN, bI_t, bI_f, bI_inj, va_up_self, gHol, gGoo, gDec, gFee, gDeb, gLen, gNum, gPrf, gCop, gMad, gN, gsHol, gsGoo, gsDec, gsFee, gsDeb, gsLen, gsNum, gsPrf, gsCop, gsMad, gsN, cPart1, cPart2, c_1, c_3, c_6, c_7, c_9, hcP, hcG, Int32.not_le.mpr c_9] <;> decide); rw [hs]; exact ⟨(show (3 : Nat) ≠ 0 by decide), rfl⟩) hz9 hk9 hce hcv hcl
          exact absurd c_10 (by decide)
        · skip
          refine lv_aload_n hx hb dX1_part_56 rfl (lv_at hl 0 rfl) ?_
          refine gf_1_6 hx hb hts hiX1 hown hK hP hf40 dX1_part_57 ?_
          refine lv_topE (y := nI ((gN σ))) rfl ?_
          refine lv_bipush (v := 14) hx hb dX1_part_60 (by decide) ?_
          refine geN ((gN σ)) 14 (tgt := 69) hx hb rfl rfl (by omega) (by omega) dX1_part_62 (by decide) (fun c_11 => ?_) (fun c_11 => ?_)
          · skip
            refine lv_iconst (v := 0) hx hb dX1_part_69 (by decide) ?_
            refine x_call (vx_runS (As := [.int 0]) (rest := []) ⟨hx, hb, hml, hown, hts⟩ (c_X1_needState l hf (false)) (va_cwS 1 hts gX1_part_X1_needState rfl rfl rfl kn_X1_needState ⟨Nat.le_of_ble_eq_true rfl, Nat.le_of_ble_eq_true rfl⟩) (pS_E hX) rfl rfl hl.1 rfl (lv_room (Nat.le_of_ble_eq_true rfl)) dX1_part_70 ⟨Nat.le_of_ble_eq_true rfl, Nat.le_of_ble_eq_true rfl⟩) (fun E9 ce q9 H1 hψ hz9 hk9 hce hcv hcl => ?_) (fun c_12 => ?_)
            · obtain ⟨c_12, rfl⟩ := hψ
              exact OUT _ _ _ _ _ _ _ (by have hs : cPart σ (nI P) (nI G) x3 = (3, 0, σ) := (by simp [cPart, palC, wkC, hrC, lkC, entC, pN, bI_t, bI_f, bI_inj, va_up_self, gHol, gGoo, gDec, gFee, gDeb, gLen, gNum, gPrf, gCop, gMad, gN, gsHol, gsGoo, gsDec, gsFee, gsDeb, gsLen, gsNum, gsPrf, gsCop, gsMad, gsN, cPart1, cPart2, c_1, c_3, c_6, c_7, c_9, c_11, hcP, hcG, Int32.not_lt.mp c_9, Nat.not_lt.mpr c_11] <;> decide); rw [hs]; exact ⟨(show (3 : Nat) ≠ 0 by decide), rfl⟩) hz9 hk9 hce hcv hcl
            exact absurd c_12 (by decide)
          · skip
            refine lv_iconst (v := 1) hx hb dX1_part_65 (by decide) ?_
            refine lv_goto (tgt := 70) hx hb dX1_part_66 (by decide) ?_
            refine x_call (vx_runS (As := [.int 1]) (rest := []) ⟨hx, hb, hml, hown, hts⟩ (c_X1_needState l hf (true)) (va_cwS 1 hts gX1_part_X1_needState rfl rfl rfl kn_X1_needState ⟨Nat.le_of_ble_eq_true rfl, Nat.le_of_ble_eq_true rfl⟩) (pS_E hX) rfl rfl hl.1 rfl (lv_room (Nat.le_of_ble_eq_true rfl)) dX1_part_70 ⟨Nat.le_of_ble_eq_true rfl, Nat.le_of_ble_eq_true rfl⟩) (fun E9 ce q9 H1 hψ hz9 hk9 hce hcv hcl => ?_) (fun c_13 => ?_)
            · exact absurd hψ.1 (by decide)
            have hE9 := wkF_len c_7
            have h8 := hhol P
            refine lv_aload_n hx hb dX1_part_73 rfl (lv_at hl 0 rfl) ?_
            refine lv_aload_n hx hb dX1_part_74 rfl (lv_at hl 0 rfl) ?_
            refine gf_1_1 hx hb hts hiX1 hown hK hP hf16 dX1_part_75 ?_
            refine lv_iload_n hx hb dX1_part_78 rfl (lv_at hl 1 rfl) ?_
            refine gld_2 (k := P) (v := ((gHol σ)) P) hx hb hK hP rfl (by omega) rfl dX1_part_79 ?_
            refine w_call (va_runV (As := [.int (nI (((gHol σ)) P))]) (rest := []) ⟨hx, hb, hml, hown, hts⟩ (c_X1_stand l D cI q σ hq (((gHol σ)) P) (by omega)) (cwV 1 hts gX1_part_X1_stand rfl rfl rfl kd_X1_stand ⟨Nat.le_of_ble_eq_true rfl, Nat.le_of_ble_eq_true rfl⟩) (pV_G0 hP hK hE) rfl rfl hl.1 rfl (lv_room (Nat.le_of_ble_eq_true rfl)) dX1_part_80 ⟨Nat.le_of_ble_eq_true rfl, Nat.le_of_ble_eq_true rfl⟩) hS (fun _ h => h) (fun v_14 H locs hv_14 _ _ hS => ?_)
            obtain ⟨rfl, hP⟩ := hv_14
            obtain ⟨σ15, eσ15⟩ : ∃ z : SG, z = stF σ (((gHol σ)) P) := ⟨_, rfl⟩
            rw [← eσ15] at hP
            refine lv_istore (lv' := [(4, .int (nI ((gN σ)))), (0, .ref (q 0)), (1, .int (nI (P))), (2, .int (nI (G))), (3, .int x3)]) hx hb dX1_part_83 hl (by decide) rfl (fun ls hl => ?_)
            refine lv_aload_n hx hb dX1_part_85 rfl (lv_at hl 1 rfl) ?_
            refine gf_1_2 hx hb hts hiX1 hown hK hP hf20 dX1_part_86 ?_
            refine lv_iload_n hx hb dX1_part_89 rfl (lv_at hl 2 rfl) ?_
            refine lv_bipush (v := 6) hx hb dX1_part_90 (by decide) ?_
            refine mulN P 6 hx hb rfl rfl dX1_part_92 ?_
            refine lv_iload_n hx hb dX1_part_93 rfl (lv_at hl 3 rfl) ?_
            refine addN (P * 6) G hx hb rfl rfl dX1_part_94 ?_
            refine lv_dup2_11 hx hb dX1_part_95 rfl rfl ?_
            refine gld_3 (k := P * 6 + G) (v := ((gGoo σ15)) (P * 6 + G)) hx hb hK hP rfl (by omega) rfl dX1_part_96 ?_
            refine lv_iload_n hx hb dX1_part_97 rfl (lv_at hl 4 rfl) ?_
            refine lv_isub hx hb dX1_part_98 ?_
            refine gst_3 (k := P * 6 + G) (x := ((((gGoo σ15)) (P * 6 + G)) - x3)) hx hb hK hP hq hS rfl (by omega) dX1_part_99 (fun goo_16 e_goo_16 H locs hP hS => ?_)
            have hP : va_P D vwCl (wG cI q (gsGoo σ15 goo_16)) H := hP
            refine lv_aload_n hx hb dX1_part_100 rfl (lv_at hl 1 rfl) ?_
            refine gf_1_2 hx hb hts hiX1 hown hK hP hf20 dX1_part_101 ?_
            refine lv_iload hx hb dX1_part_104 (lv_at hl 0 rfl) ?_
            refine lv_bipush (v := 6) hx hb dX1_part_106 (by decide) ?_
            refine mulN ((gN σ)) 6 hx hb rfl rfl dX1_part_108 ?_
            refine lv_iload_n hx hb dX1_part_109 rfl (lv_at hl 3 rfl) ?_
            refine addN (((gN σ)) * 6) G hx hb rfl rfl dX1_part_110 ?_
            refine lv_iload_n hx hb dX1_part_111 rfl (lv_at hl 4 rfl) ?_
            refine gst_3 (k := ((gN σ)) * 6 + G) (x := x3) hx hb hK hP hq hS rfl (by omega) dX1_part_112 (fun goo_17 e_goo_17 H locs hP hS => ?_)
            rw [gg_Goo] at hP
            have hP : va_P D vwCl (wG cI q (gsGoo σ15 goo_17)) H := hP
            have hlen2 : ∀ P, gLen (gsGoo σ15 goo_17) P ≤ 30 := by rw [eσ15]; exact hlen
            refine lv_aload_n hx hb dX1_part_113 rfl (lv_at hl 1 rfl) ?_
            refine gf_1_0 hx hb hts hiX1 hown hK hP hf10 dX1_part_114 ?_
            refine lv_iload_n hx hb dX1_part_117 rfl (lv_at hl 2 rfl) ?_
            refine r_callE (x := nI ((gLen σ15) P)) (va_runV (As := [.int (nI (P))]) (rest := []) ⟨hx, hb, hml, hown, hts⟩ (c_X0_length l D cI q (gsGoo σ15 goo_17) P (by omega)) (cwV 1 hts gX1_part_X0_length rfl rfl rfl kd_X0_length ⟨Nat.le_of_ble_eq_true rfl, Nat.le_of_ble_eq_true rfl⟩) (pV_G1 hP hK hE) rfl rfl hl.1 rfl (lv_room (Nat.le_of_ble_eq_true rfl)) dX1_part_118 ⟨Nat.le_of_ble_eq_true rfl, Nat.le_of_ble_eq_true rfl⟩) ?_
            refine lv_istore (lv' := [(5, .int (nI ((gLen σ15) P))), (4, .int (nI ((gN σ)))), (0, .ref (q 0)), (1, .int (nI (P))), (2, .int (nI (G))), (3, .int x3)]) hx hb dX1_part_121 hl (by decide) rfl (fun ls hl => ?_)
            refine lv_aload_n hx hb dX1_part_123 rfl (lv_at hl 2 rfl) ?_
            refine lv_iload_n hx hb dX1_part_124 rfl (lv_at hl 3 rfl) ?_
            refine lv_iconst (v := 3) hx hb dX1_part_125 (by decide) ?_
            refine lv_iload_n hx hb dX1_part_126 rfl (lv_at hl 4 rfl) ?_
            refine lv_iload_n hx hb dX1_part_127 rfl (lv_at hl 5 rfl) ?_
            refine lv_iload hx hb dX1_part_128 (lv_at hl 1 rfl) ?_
            refine lv_iconst (v := 0) hx hb dX1_part_130 (by decide) ?_
            refine w_call (va_runV (As := [.int (nI (P)), .int 3, .int (nI (G)), .int x3, .int (nI ((gN σ))), .int 0]) (rest := []) ⟨hx, hb, hml, hown, hts⟩ (c_X1_write l D cI q (gsGoo σ15 goo_17) hq P 3 (nI (G)) x3 (nI ((gN σ))) 0 (by omega) (by omega) (by rw [eσ15]; exact ok_st ok h8 (by omega)) (by rw [eσ15]; exact hE9)) (cwV 6 hts gX1_part_X1_write rfl rfl rfl kd_X1_write ⟨Nat.le_of_ble_eq_true rfl, Nat.le_of_ble_eq_true rfl⟩) (pV_G0 hP hK hE) rfl rfl hl.1 rfl (lv_room (Nat.le_of_ble_eq_true rfl)) dX1_part_131 ⟨Nat.le_of_ble_eq_true rfl, Nat.le_of_ble_eq_true rfl⟩) hS (fun _ h => h) (fun v_18 H locs hv_18 _ _ hS => ?_)
            obtain ⟨rfl, hP⟩ := hv_18
            obtain ⟨σ19, eσ19⟩ : ∃ z : SG, z = wrF (gsGoo σ15 goo_17) P 3 (nI (G)) x3 (nI ((gN σ))) 0 := ⟨_, rfl⟩
            rw [← eσ19] at hP
            refine lv_aload_n hx hb dX1_part_134 rfl (lv_at hl 2 rfl) ?_
            refine lv_iload hx hb dX1_part_135 (lv_at hl 1 rfl) ?_
            refine lv_iconst (v := 4) hx hb dX1_part_137 (by decide) ?_
            refine lv_iload_n hx hb dX1_part_138 rfl (lv_at hl 4 rfl) ?_
            refine lv_iload_n hx hb dX1_part_139 rfl (lv_at hl 5 rfl) ?_
            refine lv_iload_n hx hb dX1_part_140 rfl (lv_at hl 3 rfl) ?_
            refine lv_iload hx hb dX1_part_141 (lv_at hl 0 rfl) ?_
            refine w_call (va_runV (As := [.int (nI ((gN σ))), .int 4, .int (nI (G)), .int x3, .int (nI (P)), .int (nI ((gLen σ15) P))]) (rest := []) ⟨hx, hb, hml, hown, hts⟩ (c_X1_write l D cI q σ19 hq ((gN σ)) 4 (nI (G)) x3 (nI (P)) (nI ((gLen σ15) P)) (by omega) (by omega) (by rw [eσ19, eσ15]; exact ok_wr (ok_st ok h8 (by omega)) hE9) (by rw [eσ19, eσ15]; show va_up (gLen σ) P _ (gN σ) < 30; rw [va_up_ne _ _ (by omega), hz _ (Nat.le_refl _)]; decide)) (cwV 6 hts gX1_part_X1_write rfl rfl rfl kd_X1_write ⟨Nat.le_of_ble_eq_true rfl, Nat.le_of_ble_eq_true rfl⟩) (pV_G0 hP hK hE) rfl rfl hl.1 rfl (lv_room (Nat.le_of_ble_eq_true rfl)) dX1_part_143 ⟨Nat.le_of_ble_eq_true rfl, Nat.le_of_ble_eq_true rfl⟩) hS (fun _ h => h) (fun v_20 H locs hv_20 _ _ hS => ?_)
            obtain ⟨rfl, hP⟩ := hv_20
            obtain ⟨σ21, eσ21⟩ : ∃ z : SG, z = wrF σ19 ((gN σ)) 4 (nI (G)) x3 (nI (P)) (nI ((gLen σ15) P)) := ⟨_, rfl⟩
            rw [← eσ21] at hP
            refine lv_iload hx hb dX1_part_146 (lv_at hl 1 rfl) ?_
            exact RET _ _ _ _ _ (by have hs : cPart σ (nI P) (nI G) x3 = (0, nI (gN σ), wrF (cPart2 σ P G x3) (gN σ) 4 (nI G) x3 (nI P) (nI (gLen σ P))) := (by simp [cPart, palC, wkC, hrC, lkC, entC, pN, c_1, c_3, c_6, c_7, c_9, c_11, hcP, hcG, Int32.not_lt.mp c_9, Nat.not_le.mpr c_11]); rw [hs]; exact ⟨rfl, rfl, by subst eσ15 e_goo_16 e_goo_17 eσ19 eσ21; exact hP⟩) hS dX1_part_148
theorem kn_X1_join : yX1_join.cls ≠ "java/lang/invoke/MethodHandle" ∧ yX1_join.cls ≠ "java/lang/invoke/VarHandle" ∧ (parseMethodDescriptor yX1_join.desc).map (fun d => d.parameters.length) = some 2 := by decide +kernel
theorem kd_X1_join : yX1_join.cls = RX1 ∧ yX1_join.cls ≠ "java/lang/invoke/MethodHandle" ∧ yX1_join.cls ≠ "java/lang/invoke/VarHandle" ∧ (parseMethodDescriptor yX1_join.desc).map (fun d => d.parameters.length) = some 2 := by decide +kernel
set_option maxHeartbeats 4000000 in
set_option maxRecDepth 100000 in
theorem c_X1_join (l : Launch) (hf : l.stackTraces = false) (D : va_G) (cI : ClassId) (q : Nat → Nat) (σ : SG) (hq : ijQ 12 q) (x1 x2 : Int32) (ok : okG σ) (hz : ∀ P, gN σ ≤ P → gLen σ P = 0) : vx_Met l yX1_join wsX1_join ({ frames := 7, cells := 1, slots := 6, locals := 139 }) (va_Pc [.ref (q 0), .int x1, .int x2] (PX D cI q σ)) (wQ (adQ 12 q) (fun v H1 => (cJoin σ x1 x2).1 = 0 ∧ v = some (.int (cJoin σ x1 x2).2.1) ∧ va_P D vwCl (wG cI q (cJoin σ x1 x2).2.2) H1)) (xQ (fun E => (cJoin σ x1 x2).1 ≠ 0 ∧ E = exN (cJoin σ x1 x2).1)) 1 6 (adQ 12 q) := by
  refine openX (cc := cX1_join) (maxL := 6) (by decide) rfl (Nat.le_of_ble_eq_true rfl) ?_
  intro p e s m args below meth c hx hb hml hts hown hpre Q RET OUT ls hl
  have hown : s.vm.findClass RX1 = some m.cls := hown
  have hl : lv_has ls 6 [(0, .ref (q 0)), (1, .int x1), (2, .int x2)] := hl
  obtain ⟨⟨hP, hK, hE⟩, hX⟩ := hpre
  have hS : va_S (adQ 12 q) s.heap s.heap [] := va_S.rf
  have hiX1 : ∀ w ∈ wsX10, w ∈ wsX1_join := by decide +kernel
  have hf16 := hts (.fieldLink RX1 16 "PalletGram" "holders" "[I") (by decide +kernel)
  have hf10 := hts (.fieldLink RX1 10 "PalletGram" "chains" "LPalletGram$Chains;") (by decide +kernel)
  have hf20 := hts (.fieldLink RX1 20 "PalletGram" "goods" "[I") (by decide +kernel)
  have hn : gN σ ≤ 14 := ok.1
  have hhol : ∀ P, gHol σ P < 6 := ok.2.1
  have hlen : ∀ P, gLen σ P ≤ 30 := ok.2.2
  refine lv_aload_n hx hb dX1_join_0 rfl (lv_at hl 0 rfl) ?_
  refine lv_iload_n hx hb dX1_join_1 rfl (lv_at hl 1 rfl) ?_
  refine r_callE (x := bI (rngB 0 (nI (gN σ)) x1)) (va_runV (As := [.int x1]) (rest := []) ⟨hx, hb, hml, hown, hts⟩ (c_X1_isPallet l D cI q σ x1) (cwV 1 hts gX1_join_X1_isPallet rfl rfl rfl kd_X1_isPallet ⟨Nat.le_of_ble_eq_true rfl, Nat.le_of_ble_eq_true rfl⟩) (pV_G0 hP hK hE) rfl rfl hl.1 rfl (lv_room (Nat.le_of_ble_eq_true rfl)) dX1_join_2 ⟨Nat.le_of_ble_eq_true rfl, Nat.le_of_ble_eq_true rfl⟩) ?_
  refine eqB (rngB 0 (nI (gN σ)) x1) (tgt := 20) hx hb rfl dX1_join_5 (by decide) (fun c_1 => ?_) (fun c_1 => ?_)
  · skip
    refine lv_iconst (v := 0) hx hb dX1_join_20 (by decide) ?_
    refine x_call (vx_runS (As := [.int 0]) (rest := []) ⟨hx, hb, hml, hown, hts⟩ (c_X1_needThere l hf (false)) (va_cwS 1 hts gX1_join_X1_needThere rfl rfl rfl kn_X1_needThere ⟨Nat.le_of_ble_eq_true rfl, Nat.le_of_ble_eq_true rfl⟩) (pS_E hX) rfl rfl hl.1 rfl (lv_room (Nat.le_of_ble_eq_true rfl)) dX1_join_21 ⟨Nat.le_of_ble_eq_true rfl, Nat.le_of_ble_eq_true rfl⟩) (fun E9 ce q9 H1 hψ hz9 hk9 hce hcv hcl => ?_) (fun c_2 => ?_)
    · obtain ⟨c_2, rfl⟩ := hψ
      exact OUT _ _ _ _ _ _ _ (by have hs : cJoin σ x1 x2 = (1, 0, σ) := (by simp [cJoin, palC, wkC, hrC, lkC, entC, pN, bI_t, bI_f, bI_inj, va_up_self, gHol, gGoo, gDec, gFee, gDeb, gLen, gNum, gPrf, gCop, gMad, gN, gsHol, gsGoo, gsDec, gsFee, gsDeb, gsLen, gsNum, gsPrf, gsCop, gsMad, gsN, cJoin1, cJoin2, c_1] <;> decide); rw [hs]; exact ⟨(show (1 : Nat) ≠ 0 by decide), rfl⟩) hz9 hk9 hce hcv hcl
    exact absurd c_2 (by decide)
  · skip
    obtain ⟨P, hP9, rfl⟩ := rngB_pal (by omega) c_1
    have hcP : (nI P).toNatClampNeg = P := nI_clamp (by omega)
    refine lv_aload_n hx hb dX1_join_8 rfl (lv_at hl 0 rfl) ?_
    refine lv_iload_n hx hb dX1_join_9 rfl (lv_at hl 2 rfl) ?_
    refine r_callE (x := bI (rngB 0 (nI (gN σ)) x2)) (va_runV (As := [.int x2]) (rest := []) ⟨hx, hb, hml, hown, hts⟩ (c_X1_isPallet l D cI q σ x2) (cwV 1 hts gX1_join_X1_isPallet rfl rfl rfl kd_X1_isPallet ⟨Nat.le_of_ble_eq_true rfl, Nat.le_of_ble_eq_true rfl⟩) (pV_G0 hP hK hE) rfl rfl hl.1 rfl (lv_room (Nat.le_of_ble_eq_true rfl)) dX1_join_10 ⟨Nat.le_of_ble_eq_true rfl, Nat.le_of_ble_eq_true rfl⟩) ?_
    refine eqB (rngB 0 (nI (gN σ)) x2) (tgt := 20) hx hb rfl dX1_join_13 (by decide) (fun c_3 => ?_) (fun c_3 => ?_)
    · skip
      refine lv_iconst (v := 0) hx hb dX1_join_20 (by decide) ?_
      refine x_call (vx_runS (As := [.int 0]) (rest := []) ⟨hx, hb, hml, hown, hts⟩ (c_X1_needThere l hf (false)) (va_cwS 1 hts gX1_join_X1_needThere rfl rfl rfl kn_X1_needThere ⟨Nat.le_of_ble_eq_true rfl, Nat.le_of_ble_eq_true rfl⟩) (pS_E hX) rfl rfl hl.1 rfl (lv_room (Nat.le_of_ble_eq_true rfl)) dX1_join_21 ⟨Nat.le_of_ble_eq_true rfl, Nat.le_of_ble_eq_true rfl⟩) (fun E9 ce q9 H1 hψ hz9 hk9 hce hcv hcl => ?_) (fun c_4 => ?_)
      · obtain ⟨c_4, rfl⟩ := hψ
        exact OUT _ _ _ _ _ _ _ (by have hs : cJoin σ (nI P) x2 = (1, 0, σ) := (by simp [cJoin, palC, wkC, hrC, lkC, entC, pN, bI_t, bI_f, bI_inj, va_up_self, gHol, gGoo, gDec, gFee, gDeb, gLen, gNum, gPrf, gCop, gMad, gN, gsHol, gsGoo, gsDec, gsFee, gsDeb, gsLen, gsNum, gsPrf, gsCop, gsMad, gsN, cJoin1, cJoin2, c_1, c_3, hcP] <;> decide); rw [hs]; exact ⟨(show (1 : Nat) ≠ 0 by decide), rfl⟩) hz9 hk9 hce hcv hcl
      exact absurd c_4 (by decide)
    · skip
      obtain ⟨O, hO9, rfl⟩ := rngB_pal (by omega) c_3
      have hcO : (nI O).toNatClampNeg = O := nI_clamp (by omega)
      refine lv_iconst (v := 1) hx hb dX1_join_16 (by decide) ?_
      refine lv_goto (tgt := 21) hx hb dX1_join_17 (by decide) ?_
      refine x_call (vx_runS (As := [.int 1]) (rest := []) ⟨hx, hb, hml, hown, hts⟩ (c_X1_needThere l hf (true)) (va_cwS 1 hts gX1_join_X1_needThere rfl rfl rfl kn_X1_needThere ⟨Nat.le_of_ble_eq_true rfl, Nat.le_of_ble_eq_true rfl⟩) (pS_E hX) rfl rfl hl.1 rfl (lv_room (Nat.le_of_ble_eq_true rfl)) dX1_join_21 ⟨Nat.le_of_ble_eq_true rfl, Nat.le_of_ble_eq_true rfl⟩) (fun E9 ce q9 H1 hψ hz9 hk9 hce hcv hcl => ?_) (fun c_5 => ?_)
      · exact absurd hψ.1 (by decide)
      refine lv_iload_n hx hb dX1_join_24 rfl (lv_at hl 1 rfl) ?_
      refine lv_iload_n hx hb dX1_join_25 rfl (lv_at hl 2 rfl) ?_
      refine lv_icmp_eq (tgt := 33) hx hb dX1_join_26 (by decide) (fun c_6 => ?_) (fun c_6 => ?_)
      · skip
        refine lv_iconst (v := 0) hx hb dX1_join_33 (by decide) ?_
        refine x_call (vx_runS (As := [.int 0]) (rest := []) ⟨hx, hb, hml, hown, hts⟩ (c_X1_needRange l hf (false)) (va_cwS 1 hts gX1_join_X1_needRange rfl rfl rfl kn_X1_needRange ⟨Nat.le_of_ble_eq_true rfl, Nat.le_of_ble_eq_true rfl⟩) (pS_E hX) rfl rfl hl.1 rfl (lv_room (Nat.le_of_ble_eq_true rfl)) dX1_join_34 ⟨Nat.le_of_ble_eq_true rfl, Nat.le_of_ble_eq_true rfl⟩) (fun E9 ce q9 H1 hψ hz9 hk9 hce hcv hcl => ?_) (fun c_7 => ?_)
        · obtain ⟨c_7, rfl⟩ := hψ
          exact OUT _ _ _ _ _ _ _ (by have hs : cJoin σ (nI P) (nI O) = (2, 0, σ) := (by simp [cJoin, palC, wkC, hrC, lkC, entC, pN, bI_t, bI_f, bI_inj, va_up_self, gHol, gGoo, gDec, gFee, gDeb, gLen, gNum, gPrf, gCop, gMad, gN, gsHol, gsGoo, gsDec, gsFee, gsDeb, gsLen, gsNum, gsPrf, gsCop, gsMad, gsN, cJoin1, cJoin2, c_1, c_3, c_6, hcP, hcO] <;> decide); rw [hs]; exact ⟨(show (2 : Nat) ≠ 0 by decide), rfl⟩) hz9 hk9 hce hcv hcl
        exact absurd c_7 (by decide)
      · skip
        refine lv_iconst (v := 1) hx hb dX1_join_29 (by decide) ?_
        refine lv_goto (tgt := 34) hx hb dX1_join_30 (by decide) ?_
        refine x_call (vx_runS (As := [.int 1]) (rest := []) ⟨hx, hb, hml, hown, hts⟩ (c_X1_needRange l hf (true)) (va_cwS 1 hts gX1_join_X1_needRange rfl rfl rfl kn_X1_needRange ⟨Nat.le_of_ble_eq_true rfl, Nat.le_of_ble_eq_true rfl⟩) (pS_E hX) rfl rfl hl.1 rfl (lv_room (Nat.le_of_ble_eq_true rfl)) dX1_join_34 ⟨Nat.le_of_ble_eq_true rfl, Nat.le_of_ble_eq_true rfl⟩) (fun E9 ce q9 H1 hψ hz9 hk9 hce hcv hcl => ?_) (fun c_8 => ?_)
        · exact absurd hψ.1 (by decide)
        refine lv_aload_n hx hb dX1_join_37 rfl (lv_at hl 0 rfl) ?_
        refine lv_iload_n hx hb dX1_join_38 rfl (lv_at hl 1 rfl) ?_
        refine r_callE (x := bI (wkF (gN σ) (gLen σ) (gPrf σ) (gNum σ) P)) (va_runV (As := [.int (nI (P))]) (rest := []) ⟨hx, hb, hml, hown, hts⟩ (c_X1_isWorkable l D cI q σ P (by omega) ⟨hn, hhol, hlen⟩) (cwV 1 hts gX1_join_X1_isWorkable rfl rfl rfl kd_X1_isWorkable ⟨Nat.le_of_ble_eq_true rfl, Nat.le_of_ble_eq_true rfl⟩) (pV_G0 hP hK hE) rfl rfl hl.1 rfl (lv_room (Nat.le_of_ble_eq_true rfl)) dX1_join_39 ⟨Nat.le_of_ble_eq_true rfl, Nat.le_of_ble_eq_true rfl⟩) ?_
        refine eqB (wkF (gN σ) (gLen σ) (gPrf σ) (gNum σ) P) (tgt := 81) hx hb rfl dX1_join_42 (by decide) (fun c_9 => ?_) (fun c_9 => ?_)
        · skip
          refine lv_iconst (v := 0) hx hb dX1_join_81 (by decide) ?_
          refine x_call (vx_runS (As := [.int 0]) (rest := []) ⟨hx, hb, hml, hown, hts⟩ (c_X1_needState l hf (false)) (va_cwS 1 hts gX1_join_X1_needState rfl rfl rfl kn_X1_needState ⟨Nat.le_of_ble_eq_true rfl, Nat.le_of_ble_eq_true rfl⟩) (pS_E hX) rfl rfl hl.1 rfl (lv_room (Nat.le_of_ble_eq_true rfl)) dX1_join_82 ⟨Nat.le_of_ble_eq_true rfl, Nat.le_of_ble_eq_true rfl⟩) (fun E9 ce q9 H1 hψ hz9 hk9 hce hcv hcl => ?_) (fun c_10 => ?_)
          · obtain ⟨c_10, rfl⟩ := hψ
            exact OUT _ _ _ _ _ _ _ (by have hs : cJoin σ (nI P) (nI O) = (3, 0, σ) := (by simp [cJoin, palC, wkC, hrC, lkC, entC, pN, bI_t, bI_f, bI_inj, va_up_self, gHol, gGoo, gDec, gFee, gDeb, gLen, gNum, gPrf, gCop, gMad, gN, gsHol, gsGoo, gsDec, gsFee, gsDeb, gsLen, gsNum, gsPrf, gsCop, gsMad, gsN, cJoin1, cJoin2, c_1, c_3, c_6, c_9, hcP, hcO] <;> decide); rw [hs]; exact ⟨(show (3 : Nat) ≠ 0 by decide), rfl⟩) hz9 hk9 hce hcv hcl
          exact absurd c_10 (by decide)
        · skip
          refine lv_aload_n hx hb dX1_join_45 rfl (lv_at hl 0 rfl) ?_
          refine lv_iload_n hx hb dX1_join_46 rfl (lv_at hl 2 rfl) ?_
          refine r_callE (x := bI (wkF (gN σ) (gLen σ) (gPrf σ) (gNum σ) O)) (va_runV (As := [.int (nI (O))]) (rest := []) ⟨hx, hb, hml, hown, hts⟩ (c_X1_isWorkable l D cI q σ O (by omega) ⟨hn, hhol, hlen⟩) (cwV 1 hts gX1_join_X1_isWorkable rfl rfl rfl kd_X1_isWorkable ⟨Nat.le_of_ble_eq_true rfl, Nat.le_of_ble_eq_true rfl⟩) (pV_G0 hP hK hE) rfl rfl hl.1 rfl (lv_room (Nat.le_of_ble_eq_true rfl)) dX1_join_47 ⟨Nat.le_of_ble_eq_true rfl, Nat.le_of_ble_eq_true rfl⟩) ?_
          refine eqB (wkF (gN σ) (gLen σ) (gPrf σ) (gNum σ) O) (tgt := 81) hx hb rfl dX1_join_50 (by decide) (fun c_11 => ?_) (fun c_11 => ?_)
          · skip
            refine lv_iconst (v := 0) hx hb dX1_join_81 (by decide) ?_
            refine x_call (vx_runS (As := [.int 0]) (rest := []) ⟨hx, hb, hml, hown, hts⟩ (c_X1_needState l hf (false)) (va_cwS 1 hts gX1_join_X1_needState rfl rfl rfl kn_X1_needState ⟨Nat.le_of_ble_eq_true rfl, Nat.le_of_ble_eq_true rfl⟩) (pS_E hX) rfl rfl hl.1 rfl (lv_room (Nat.le_of_ble_eq_true rfl)) dX1_join_82 ⟨Nat.le_of_ble_eq_true rfl, Nat.le_of_ble_eq_true rfl⟩) (fun E9 ce q9 H1 hψ hz9 hk9 hce hcv hcl => ?_) (fun c_12 => ?_)
            · obtain ⟨c_12, rfl⟩ := hψ
              exact OUT _ _ _ _ _ _ _ (by have hs : cJoin σ (nI P) (nI O) = (3, 0, σ) := (by simp [cJoin, palC, wkC, hrC, lkC, entC, pN, bI_t, bI_f, bI_inj, va_up_self, gHol, gGoo, gDec, gFee, gDeb, gLen, gNum, gPrf, gCop, gMad, gN, gsHol, gsGoo, gsDec, gsFee, gsDeb, gsLen, gsNum, gsPrf, gsCop, gsMad, gsN, cJoin1, cJoin2, c_1, c_3, c_6, c_9, c_11, hcP, hcO] <;> decide); rw [hs]; exact ⟨(show (3 : Nat) ≠ 0 by decide), rfl⟩) hz9 hk9 hce hcv hcl
            exact absurd c_12 (by decide)
          · skip
            have h8 := hhol P
            have h7 := hhol O
            refine lv_aload_n hx hb dX1_join_53 rfl (lv_at hl 0 rfl) ?_
            refine gf_1_1 hx hb hts hiX1 hown hK hP hf16 dX1_join_54 ?_
            refine lv_iload_n hx hb dX1_join_57 rfl (lv_at hl 1 rfl) ?_
            refine gld_2 (k := P) (v := ((gHol σ)) P) hx hb hK hP rfl (by omega) rfl dX1_join_58 ?_
            refine lv_aload_n hx hb dX1_join_59 rfl (lv_at hl 0 rfl) ?_
            refine gf_1_1 hx hb hts hiX1 hown hK hP hf16 dX1_join_60 ?_
            refine lv_iload_n hx hb dX1_join_63 rfl (lv_at hl 2 rfl) ?_
            refine gld_2 (k := O) (v := ((gHol σ)) O) hx hb hK hP rfl (by omega) rfl dX1_join_64 ?_
            refine neN (((gHol σ)) P) (((gHol σ)) O) (tgt := 81) hx hb rfl rfl (by omega) (by omega) dX1_join_65 (by decide) (fun c_13 => ?_) (fun c_13 => ?_)
            · skip
              refine lv_iconst (v := 0) hx hb dX1_join_81 (by decide) ?_
              refine x_call (vx_runS (As := [.int 0]) (rest := []) ⟨hx, hb, hml, hown, hts⟩ (c_X1_needState l hf (false)) (va_cwS 1 hts gX1_join_X1_needState rfl rfl rfl kn_X1_needState ⟨Nat.le_of_ble_eq_true rfl, Nat.le_of_ble_eq_true rfl⟩) (pS_E hX) rfl rfl hl.1 rfl (lv_room (Nat.le_of_ble_eq_true rfl)) dX1_join_82 ⟨Nat.le_of_ble_eq_true rfl, Nat.le_of_ble_eq_true rfl⟩) (fun E9 ce q9 H1 hψ hz9 hk9 hce hcv hcl => ?_) (fun c_14 => ?_)
              · obtain ⟨c_14, rfl⟩ := hψ
                exact OUT _ _ _ _ _ _ _ (by have hs : cJoin σ (nI P) (nI O) = (3, 0, σ) := (by simp [cJoin, palC, wkC, hrC, lkC, entC, pN, bI_t, bI_f, bI_inj, va_up_self, gHol, gGoo, gDec, gFee, gDeb, gLen, gNum, gPrf, gCop, gMad, gN, gsHol, gsGoo, gsDec, gsFee, gsDeb, gsLen, gsNum, gsPrf, gsCop, gsMad, gsN, cJoin1, cJoin2, c_1, c_3, c_6, c_9, c_11, c_13, hcP, hcO] <;> decide); rw [hs]; exact ⟨(show (3 : Nat) ≠ 0 by decide), rfl⟩) hz9 hk9 hce hcv hcl
              exact absurd c_14 (by decide)
            · skip
              refine lv_aload_n hx hb dX1_join_68 rfl (lv_at hl 0 rfl) ?_
              refine lv_iload_n hx hb dX1_join_69 rfl (lv_at hl 1 rfl) ?_
              refine lv_iload_n hx hb dX1_join_70 rfl (lv_at hl 2 rfl) ?_
              refine r_callE (x := bI (ctF (gGoo σ) P O)) (va_runV (As := [.int (nI (P)), .int (nI (O))]) (rest := []) ⟨hx, hb, hml, hown, hts⟩ (c_X1_canComeTogether l D cI q σ P O (by omega) (by omega)) (cwV 2 hts gX1_join_X1_canComeTogether rfl rfl rfl kd_X1_canComeTogether ⟨Nat.le_of_ble_eq_true rfl, Nat.le_of_ble_eq_true rfl⟩) (pV_G0 hP hK hE) rfl rfl hl.1 rfl (lv_room (Nat.le_of_ble_eq_true rfl)) dX1_join_71 ⟨Nat.le_of_ble_eq_true rfl, Nat.le_of_ble_eq_true rfl⟩) ?_
              refine eqB (ctF (gGoo σ) P O) (tgt := 81) hx hb rfl dX1_join_74 (by decide) (fun c_15 => ?_) (fun c_15 => ?_)
              · skip
                refine lv_iconst (v := 0) hx hb dX1_join_81 (by decide) ?_
                refine x_call (vx_runS (As := [.int 0]) (rest := []) ⟨hx, hb, hml, hown, hts⟩ (c_X1_needState l hf (false)) (va_cwS 1 hts gX1_join_X1_needState rfl rfl rfl kn_X1_needState ⟨Nat.le_of_ble_eq_true rfl, Nat.le_of_ble_eq_true rfl⟩) (pS_E hX) rfl rfl hl.1 rfl (lv_room (Nat.le_of_ble_eq_true rfl)) dX1_join_82 ⟨Nat.le_of_ble_eq_true rfl, Nat.le_of_ble_eq_true rfl⟩) (fun E9 ce q9 H1 hψ hz9 hk9 hce hcv hcl => ?_) (fun c_16 => ?_)
                · obtain ⟨c_16, rfl⟩ := hψ
                  exact OUT _ _ _ _ _ _ _ (by have hs : cJoin σ (nI P) (nI O) = (3, 0, σ) := (by simp [cJoin, palC, wkC, hrC, lkC, entC, pN, bI_t, bI_f, bI_inj, va_up_self, gHol, gGoo, gDec, gFee, gDeb, gLen, gNum, gPrf, gCop, gMad, gN, gsHol, gsGoo, gsDec, gsFee, gsDeb, gsLen, gsNum, gsPrf, gsCop, gsMad, gsN, cJoin1, cJoin2, c_1, c_3, c_6, c_9, c_11, c_13, c_15, hcP, hcO] <;> decide); rw [hs]; exact ⟨(show (3 : Nat) ≠ 0 by decide), rfl⟩) hz9 hk9 hce hcv hcl
                exact absurd c_16 (by decide)
              · skip
                refine lv_iconst (v := 1) hx hb dX1_join_77 (by decide) ?_
                refine lv_goto (tgt := 82) hx hb dX1_join_78 (by decide) ?_
                refine x_call (vx_runS (As := [.int 1]) (rest := []) ⟨hx, hb, hml, hown, hts⟩ (c_X1_needState l hf (true)) (va_cwS 1 hts gX1_join_X1_needState rfl rfl rfl kn_X1_needState ⟨Nat.le_of_ble_eq_true rfl, Nat.le_of_ble_eq_true rfl⟩) (pS_E hX) rfl rfl hl.1 rfl (lv_room (Nat.le_of_ble_eq_true rfl)) dX1_join_82 ⟨Nat.le_of_ble_eq_true rfl, Nat.le_of_ble_eq_true rfl⟩) (fun E9 ce q9 H1 hψ hz9 hk9 hce hcv hcl => ?_) (fun c_17 => ?_)
                · exact absurd hψ.1 (by decide)
                have hE8 := wkF_len c_9
                have hE7 := wkF_len c_11
                have hOP : ¬ O = P := fun z => c_6 (by rw [z])
                refine lv_iconst (v := 0) hx hb dX1_join_85 (by decide) ?_
                refine lv_istore_n (lv' := [(3, .int 0), (0, .ref (q 0)), (1, .int (nI (P))), (2, .int (nI (O)))]) hx hb dX1_join_86 rfl hl (by decide) rfl (fun ls hl => ?_)
                refine lv_iconst (v := 0) hx hb dX1_join_87 (by decide) ?_
                refine lv_istore (lv' := [(4, .int 0), (3, .int 0), (0, .ref (q 0)), (1, .int (nI (P))), (2, .int (nI (O)))]) hx hb dX1_join_88 hl (by decide) rfl (fun ls hl => ?_)
                refine loopH (N := 6) (k0 := 0) (fun k ls H locs => lv_has ls 6 [(0, .ref (q 0)), (1, .int (nI (P))), (2, .int (nI (O))), (3, .int ((jnS P O (gGoo σ) k).2)), (4, .int (nI (k)))] ∧ va_P D vwCl (wG cI q (gsGoo σ (jnS P O (gGoo σ) k).1)) H ∧ va_S (adQ 12 q) s.heap H locs) (Nat.zero_le _) ⟨lv_sub hl [2, 3, 4, 1, 0] rfl, hP, hS⟩ (fun k ls H locs hk_k hI ih_k => ?_)
                obtain ⟨hl, hP, hS⟩ := hI
                refine lv_iload hx hb dX1_join_90 (lv_at hl 4 rfl) ?_
                refine lv_bipush (v := 6) hx hb dX1_join_92 (by decide) ?_
                refine geN k 6 (tgt := 158) hx hb rfl rfl (by omega) (by omega) dX1_join_94 (by decide) (fun c_18 => ?_) (fun c_18 => ?_)
                · skip
                  have h9 : k = 6 := by omega
                  subst k
                  refine lv_aload_n hx hb dX1_join_158 rfl (lv_at hl 0 rfl) ?_
                  refine gf_1_0 hx hb hts hiX1 hown hK hP hf10 dX1_join_159 ?_
                  refine lv_iload_n hx hb dX1_join_162 rfl (lv_at hl 1 rfl) ?_
                  refine r_callE (x := nI ((gLen σ) P)) (va_runV (As := [.int (nI (P))]) (rest := []) ⟨hx, hb, hml, hown, hts⟩ (c_X0_length l D cI q (gsGoo σ (jnS P O (gGoo σ) 6).1) P (by omega)) (cwV 1 hts gX1_join_X0_length rfl rfl rfl kd_X0_length ⟨Nat.le_of_ble_eq_true rfl, Nat.le_of_ble_eq_true rfl⟩) (pV_G1 hP hK hE) rfl rfl hl.1 rfl (lv_room (Nat.le_of_ble_eq_true rfl)) dX1_join_163 ⟨Nat.le_of_ble_eq_true rfl, Nat.le_of_ble_eq_true rfl⟩) ?_
                  refine lv_istore (lv' := [(4, .int (nI ((gLen σ) P))), (0, .ref (q 0)), (1, .int (nI (P))), (2, .int (nI (O))), (3, .int ((jnS P O (gGoo σ) 6).2))]) hx hb dX1_join_166 hl (by decide) rfl (fun ls hl => ?_)
                  refine lv_aload_n hx hb dX1_join_168 rfl (lv_at hl 1 rfl) ?_
                  refine gf_1_0 hx hb hts hiX1 hown hK hP hf10 dX1_join_169 ?_
                  refine lv_iload_n hx hb dX1_join_172 rfl (lv_at hl 3 rfl) ?_
                  refine r_callE (x := nI ((gLen σ) O)) (va_runV (As := [.int (nI (O))]) (rest := []) ⟨hx, hb, hml, hown, hts⟩ (c_X0_length l D cI q (gsGoo σ (jnS P O (gGoo σ) 6).1) O (by omega)) (cwV 1 hts gX1_join_X0_length rfl rfl rfl kd_X0_length ⟨Nat.le_of_ble_eq_true rfl, Nat.le_of_ble_eq_true rfl⟩) (pV_G1 hP hK hE) rfl rfl hl.1 rfl (lv_room (Nat.le_of_ble_eq_true rfl)) dX1_join_173 ⟨Nat.le_of_ble_eq_true rfl, Nat.le_of_ble_eq_true rfl⟩) ?_
                  refine lv_istore (lv' := [(5, .int (nI ((gLen σ) O))), (4, .int (nI ((gLen σ) P))), (0, .ref (q 0)), (1, .int (nI (P))), (2, .int (nI (O))), (3, .int ((jnS P O (gGoo σ) 6).2))]) hx hb dX1_join_176 hl (by decide) rfl (fun ls hl => ?_)
                  refine lv_aload_n hx hb dX1_join_178 rfl (lv_at hl 2 rfl) ?_
                  refine lv_iload_n hx hb dX1_join_179 rfl (lv_at hl 3 rfl) ?_
                  refine lv_bipush (v := 6) hx hb dX1_join_180 (by decide) ?_
                  refine lv_iconst (v := 0) hx hb dX1_join_182 (by decide) ?_
                  refine lv_iconst (v := 0) hx hb dX1_join_183 (by decide) ?_
                  refine lv_iload_n hx hb dX1_join_184 rfl (lv_at hl 4 rfl) ?_
                  refine lv_iload hx hb dX1_join_185 (lv_at hl 0 rfl) ?_
                  refine w_call (va_runV (As := [.int (nI (P)), .int 6, .int 0, .int 0, .int (nI (O)), .int (nI ((gLen σ) O))]) (rest := []) ⟨hx, hb, hml, hown, hts⟩ (c_X1_write l D cI q (gsGoo σ (jnS P O (gGoo σ) 6).1) hq P 6 0 0 (nI (O)) (nI ((gLen σ) O)) (by omega) (by omega) ok hE8) (cwV 6 hts gX1_join_X1_write rfl rfl rfl kd_X1_write ⟨Nat.le_of_ble_eq_true rfl, Nat.le_of_ble_eq_true rfl⟩) (pV_G0 hP hK hE) rfl rfl hl.1 rfl (lv_room (Nat.le_of_ble_eq_true rfl)) dX1_join_187 ⟨Nat.le_of_ble_eq_true rfl, Nat.le_of_ble_eq_true rfl⟩) hS (fun _ h => h) (fun v_19 H locs hv_19 _ _ hS => ?_)
                  obtain ⟨rfl, hP⟩ := hv_19
                  obtain ⟨σ20, eσ20⟩ : ∃ z : SG, z = wrF (gsGoo σ (jnS P O (gGoo σ) 6).1) P 6 0 0 (nI (O)) (nI ((gLen σ) O)) := ⟨_, rfl⟩
                  rw [← eσ20] at hP
                  refine lv_aload_n hx hb dX1_join_190 rfl (lv_at hl 2 rfl) ?_
                  refine lv_iload_n hx hb dX1_join_191 rfl (lv_at hl 4 rfl) ?_
                  refine lv_iconst (v := 5) hx hb dX1_join_192 (by decide) ?_
                  refine lv_iconst (v := 0) hx hb dX1_join_193 (by decide) ?_
                  refine lv_iconst (v := 0) hx hb dX1_join_194 (by decide) ?_
                  refine lv_iload_n hx hb dX1_join_195 rfl (lv_at hl 3 rfl) ?_
                  refine lv_iload hx hb dX1_join_196 (lv_at hl 1 rfl) ?_
                  refine w_call (va_runV (As := [.int (nI (O)), .int 5, .int 0, .int 0, .int (nI (P)), .int (nI ((gLen σ) P))]) (rest := []) ⟨hx, hb, hml, hown, hts⟩ (c_X1_write l D cI q σ20 hq O 5 0 0 (nI (P)) (nI ((gLen σ) P)) (by omega) (by omega) (by rw [eσ20]; exact ok_wr (σ := gsGoo σ (jnS P O (gGoo σ) 6).1) ok hE8) (by rw [eσ20]; show va_up (gLen σ) P _ O < 30; rw [va_up_ne _ _ hOP]; exact hE7)) (cwV 6 hts gX1_join_X1_write rfl rfl rfl kd_X1_write ⟨Nat.le_of_ble_eq_true rfl, Nat.le_of_ble_eq_true rfl⟩) (pV_G0 hP hK hE) rfl rfl hl.1 rfl (lv_room (Nat.le_of_ble_eq_true rfl)) dX1_join_198 ⟨Nat.le_of_ble_eq_true rfl, Nat.le_of_ble_eq_true rfl⟩) hS (fun _ h => h) (fun v_21 H locs hv_21 _ _ hS => ?_)
                  obtain ⟨rfl, hP⟩ := hv_21
                  obtain ⟨σ22, eσ22⟩ : ∃ z : SG, z = wrF σ20 O 5 0 0 (nI (P)) (nI ((gLen σ) P)) := ⟨_, rfl⟩
                  rw [← eσ22] at hP
                  refine lv_iload_n hx hb dX1_join_201 rfl (lv_at hl 5 rfl) ?_
                  exact RET _ _ _ _ _ (by have hs : cJoin σ (nI P) (nI O) = (0, (jnS P O (gGoo σ) 6).2, cJoin2 σ P O) := (by simp [cJoin, palC, wkC, hrC, lkC, entC, pN, c_1, c_3, c_6, c_9, c_11, c_13, c_15, c_18, hcP, hcO, Nat.not_lt.mpr c_18]); rw [hs]; exact ⟨rfl, rfl, by subst eσ20 eσ22; exact hP⟩) hS dX1_join_202
                · skip
                  refine lv_aload_n hx hb dX1_join_97 rfl (lv_at hl 0 rfl) ?_
                  refine gf_1_2 hx hb hts hiX1 hown hK hP hf20 dX1_join_98 ?_
                  refine lv_iload_n hx hb dX1_join_101 rfl (lv_at hl 2 rfl) ?_
                  refine lv_bipush (v := 6) hx hb dX1_join_102 (by decide) ?_
                  refine mulN O 6 hx hb rfl rfl dX1_join_104 ?_
                  refine lv_iload hx hb dX1_join_105 (lv_at hl 4 rfl) ?_
                  refine addN (O * 6) k hx hb rfl rfl dX1_join_107 ?_
                  refine lv_dup2_11 hx hb dX1_join_108 rfl rfl ?_
                  refine gld_3 (k := O * 6 + k) (v := ((jnS P O (gGoo σ) k).1) (O * 6 + k)) hx hb hK hP rfl (by omega) rfl dX1_join_109 ?_
                  refine lv_aload_n hx hb dX1_join_110 rfl (lv_at hl 0 rfl) ?_
                  refine gf_1_2 hx hb hts hiX1 hown hK hP hf20 dX1_join_111 ?_
                  refine lv_iload_n hx hb dX1_join_114 rfl (lv_at hl 1 rfl) ?_
                  refine lv_bipush (v := 6) hx hb dX1_join_115 (by decide) ?_
                  refine mulN P 6 hx hb rfl rfl dX1_join_117 ?_
                  refine lv_iload hx hb dX1_join_118 (lv_at hl 4 rfl) ?_
                  refine addN (P * 6) k hx hb rfl rfl dX1_join_120 ?_
                  refine gld_3 (k := P * 6 + k) (v := ((jnS P O (gGoo σ) k).1) (P * 6 + k)) hx hb hK hP rfl (by omega) rfl dX1_join_121 ?_
                  refine lv_iadd hx hb dX1_join_122 ?_
                  refine gst_3 (k := O * 6 + k) (x := ((((jnS P O (gGoo σ) k).1) (O * 6 + k)) + (((jnS P O (gGoo σ) k).1) (P * 6 + k)))) hx hb hK hP hq hS rfl (by omega) dX1_join_123 (fun goo_23 e_goo_23 H locs hP hS => ?_)
                  rw [gg_Goo] at hP
                  have hP : va_P D vwCl (wG cI q (gsGoo σ goo_23)) H := hP
                  refine lv_aload_n hx hb dX1_join_124 rfl (lv_at hl 0 rfl) ?_
                  refine gf_1_2 hx hb hts hiX1 hown hK hP hf20 dX1_join_125 ?_
                  refine lv_iload_n hx hb dX1_join_128 rfl (lv_at hl 1 rfl) ?_
                  refine lv_bipush (v := 6) hx hb dX1_join_129 (by decide) ?_
                  refine mulN P 6 hx hb rfl rfl dX1_join_131 ?_
                  refine lv_iload hx hb dX1_join_132 (lv_at hl 4 rfl) ?_
                  refine addN (P * 6) k hx hb rfl rfl dX1_join_134 ?_
                  refine lv_iconst (v := 0) hx hb dX1_join_135 (by decide) ?_
                  refine gst_3 (k := P * 6 + k) (x := 0) hx hb hK hP hq hS rfl (by omega) dX1_join_136 (fun goo_24 e_goo_24 H locs hP hS => ?_)
                  rw [gg_Goo] at hP
                  have hP : va_P D vwCl (wG cI q (gsGoo σ goo_24)) H := hP
                  refine lv_iload_n hx hb dX1_join_137 rfl (lv_at hl 3 rfl) ?_
                  refine lv_aload_n hx hb dX1_join_138 rfl (lv_at hl 0 rfl) ?_
                  refine gf_1_2 hx hb hts hiX1 hown hK hP hf20 dX1_join_139 ?_
                  refine lv_iload_n hx hb dX1_join_142 rfl (lv_at hl 2 rfl) ?_
                  refine lv_bipush (v := 6) hx hb dX1_join_143 (by decide) ?_
                  refine mulN O 6 hx hb rfl rfl dX1_join_145 ?_
                  refine lv_iload hx hb dX1_join_146 (lv_at hl 4 rfl) ?_
                  refine addN (O * 6) k hx hb rfl rfl dX1_join_148 ?_
                  refine gld_3 (k := O * 6 + k) (v := goo_24 (O * 6 + k)) hx hb hK hP rfl (by omega) rfl dX1_join_149 ?_
                  refine lv_iadd hx hb dX1_join_150 ?_
                  refine lv_istore_n (lv' := [(3, .int (((jnS P O (gGoo σ) k).2 + (goo_24 (O * 6 + k))))), (0, .ref (q 0)), (1, .int (nI (P))), (2, .int (nI (O))), (4, .int (nI (k)))]) hx hb dX1_join_151 rfl hl (by decide) rfl (fun ls hl => ?_)
                  refine lv_iinc (v := nI (k + 1)) (lv' := [(4, .int (nI (k + 1))), (3, .int (((jnS P O (gGoo σ) k).2 + (goo_24 (O * 6 + k))))), (0, .ref (q 0)), (1, .int (nI (P))), (2, .int (nI (O)))]) hx hb dX1_join_152 hl (k := 4) rfl (iincN (k)) (by decide) rfl (fun ls hl => ?_)
                  refine lv_goto (tgt := 90) hx hb dX1_join_155 (by decide) ?_
                  have hl : lv_has ls 6 [(4, .int (nI (k + 1))), (3, .int ((jnS P O (gGoo σ) (k + 1)).2)), (0, .ref (q 0)), (1, .int (nI (P))), (2, .int (nI (O)))] := by rw [← (show (((jnS P O (gGoo σ) k).2 + (goo_24 (O * 6 + k))) : Int32) = (jnS P O (gGoo σ) (k + 1)).2 from by simp [jnS, c_1, c_3, c_6, c_9, c_11, c_13, c_15, c_18, hcP, hcO, e_goo_23, e_goo_24, gHol, gGoo, gDec, gFee, gDeb, gLen, gNum, gPrf, gCop, gMad, gN])]; exact hl
                  rw [show goo_24 = (jnS P O (gGoo σ) (k + 1)).1 from by simp [jnS, c_1, c_3, c_6, c_9, c_11, c_13, c_15, c_18, hcP, hcO, e_goo_23, e_goo_24, gHol, gGoo, gDec, gFee, gDeb, gLen, gNum, gPrf, gCop, gMad, gN]] at hP
                  exact ih_k (by omega) _ _ _ ⟨lv_sub hl [2, 3, 4, 1, 0] rfl, hP, hS⟩
theorem kn_X1_move : yX1_move.cls ≠ "java/lang/invoke/MethodHandle" ∧ yX1_move.cls ≠ "java/lang/invoke/VarHandle" ∧ (parseMethodDescriptor yX1_move.desc).map (fun d => d.parameters.length) = some 2 := by decide +kernel
theorem kd_X1_move : yX1_move.cls = RX1 ∧ yX1_move.cls ≠ "java/lang/invoke/MethodHandle" ∧ yX1_move.cls ≠ "java/lang/invoke/VarHandle" ∧ (parseMethodDescriptor yX1_move.desc).map (fun d => d.parameters.length) = some 2 := by decide +kernel
set_option maxHeartbeats 4000000 in
set_option maxRecDepth 100000 in
theorem c_X1_move (l : Launch) (hf : l.stackTraces = false) (D : va_G) (cI : ClassId) (q : Nat → Nat) (σ : SG) (hq : ijQ 12 q) (x1 x2 : Int32) (ok : okG σ) (hz : ∀ P, gN σ ≤ P → gLen σ P = 0) : vx_Met l yX1_move wsX1_move ({ frames := 7, cells := 1, slots := 6, locals := 139 }) (va_Pc [.ref (q 0), .int x1, .int x2] (PX D cI q σ)) (wQ (adQ 12 q) (fun v H1 => (cMove σ x1 x2).1 = 0 ∧ v = some (.int (cMove σ x1 x2).2.1) ∧ va_P D vwCl (wG cI q (cMove σ x1 x2).2.2) H1)) (xQ (fun E => (cMove σ x1 x2).1 ≠ 0 ∧ E = exN (cMove σ x1 x2).1)) 1 6 (adQ 12 q) := by
  refine openX (cc := cX1_move) (maxL := 4) (by decide) rfl (Nat.le_of_ble_eq_true rfl) ?_
  intro p e s m args below meth c hx hb hml hts hown hpre Q RET OUT ls hl
  have hown : s.vm.findClass RX1 = some m.cls := hown
  have hl : lv_has ls 4 [(0, .ref (q 0)), (1, .int x1), (2, .int x2)] := hl
  obtain ⟨⟨hP, hK, hE⟩, hX⟩ := hpre
  have hS : va_S (adQ 12 q) s.heap s.heap [] := va_S.rf
  have hiX1 : ∀ w ∈ wsX10, w ∈ wsX1_move := by decide +kernel
  have hf16 := hts (.fieldLink RX1 16 "PalletGram" "holders" "[I") (by decide +kernel)
  have hn : gN σ ≤ 14 := ok.1
  have hhol : ∀ P, gHol σ P < 6 := ok.2.1
  have hlen : ∀ P, gLen σ P ≤ 30 := ok.2.2
  refine lv_aload_n hx hb dX1_move_0 rfl (lv_at hl 0 rfl) ?_
  refine lv_iload_n hx hb dX1_move_1 rfl (lv_at hl 1 rfl) ?_
  refine r_callE (x := bI (rngB 0 (nI (gN σ)) x1)) (va_runV (As := [.int x1]) (rest := []) ⟨hx, hb, hml, hown, hts⟩ (c_X1_isPallet l D cI q σ x1) (cwV 1 hts gX1_move_X1_isPallet rfl rfl rfl kd_X1_isPallet ⟨Nat.le_of_ble_eq_true rfl, Nat.le_of_ble_eq_true rfl⟩) (pV_G0 hP hK hE) rfl rfl hl.1 rfl (lv_room (Nat.le_of_ble_eq_true rfl)) dX1_move_2 ⟨Nat.le_of_ble_eq_true rfl, Nat.le_of_ble_eq_true rfl⟩) ?_
  refine eqB (rngB 0 (nI (gN σ)) x1) (tgt := 19) hx hb rfl dX1_move_5 (by decide) (fun c_1 => ?_) (fun c_1 => ?_)
  · skip
    refine lv_iconst (v := 0) hx hb dX1_move_19 (by decide) ?_
    refine x_call (vx_runS (As := [.int 0]) (rest := []) ⟨hx, hb, hml, hown, hts⟩ (c_X1_needThere l hf (false)) (va_cwS 1 hts gX1_move_X1_needThere rfl rfl rfl kn_X1_needThere ⟨Nat.le_of_ble_eq_true rfl, Nat.le_of_ble_eq_true rfl⟩) (pS_E hX) rfl rfl hl.1 rfl (lv_room (Nat.le_of_ble_eq_true rfl)) dX1_move_20 ⟨Nat.le_of_ble_eq_true rfl, Nat.le_of_ble_eq_true rfl⟩) (fun E9 ce q9 H1 hψ hz9 hk9 hce hcv hcl => ?_) (fun c_2 => ?_)
    · obtain ⟨c_2, rfl⟩ := hψ
      exact OUT _ _ _ _ _ _ _ (by have hs : cMove σ x1 x2 = (1, 0, σ) := (by simp [cMove, palC, wkC, hrC, lkC, entC, pN, bI_t, bI_f, bI_inj, va_up_self, gHol, gGoo, gDec, gFee, gDeb, gLen, gNum, gPrf, gCop, gMad, gN, gsHol, gsGoo, gsDec, gsFee, gsDeb, gsLen, gsNum, gsPrf, gsCop, gsMad, gsN, cMove1, c_1] <;> decide); rw [hs]; exact ⟨(show (1 : Nat) ≠ 0 by decide), rfl⟩) hz9 hk9 hce hcv hcl
    exact absurd c_2 (by decide)
  · skip
    refine lv_iload_n hx hb dX1_move_8 rfl (lv_at hl 2 rfl) ?_
    refine r_callE (x := bI (rngB 0 6 x2)) (va_runS (As := [.int x2]) (rest := []) ⟨hx, hb, hml, hown, hts⟩ (c_X1_isHolder l x2) (va_cwS 1 hts gX1_move_X1_isHolder rfl rfl rfl kn_X1_isHolder ⟨Nat.le_of_ble_eq_true rfl, Nat.le_of_ble_eq_true rfl⟩) (pS_T) rfl rfl hl.1 rfl (lv_room (Nat.le_of_ble_eq_true rfl)) dX1_move_9 ⟨Nat.le_of_ble_eq_true rfl, Nat.le_of_ble_eq_true rfl⟩) ?_
    refine eqB (rngB 0 6 x2) (tgt := 19) hx hb rfl dX1_move_12 (by decide) (fun c_3 => ?_) (fun c_3 => ?_)
    · skip
      refine lv_iconst (v := 0) hx hb dX1_move_19 (by decide) ?_
      refine x_call (vx_runS (As := [.int 0]) (rest := []) ⟨hx, hb, hml, hown, hts⟩ (c_X1_needThere l hf (false)) (va_cwS 1 hts gX1_move_X1_needThere rfl rfl rfl kn_X1_needThere ⟨Nat.le_of_ble_eq_true rfl, Nat.le_of_ble_eq_true rfl⟩) (pS_E hX) rfl rfl hl.1 rfl (lv_room (Nat.le_of_ble_eq_true rfl)) dX1_move_20 ⟨Nat.le_of_ble_eq_true rfl, Nat.le_of_ble_eq_true rfl⟩) (fun E9 ce q9 H1 hψ hz9 hk9 hce hcv hcl => ?_) (fun c_4 => ?_)
      · obtain ⟨c_4, rfl⟩ := hψ
        exact OUT _ _ _ _ _ _ _ (by have hs : cMove σ x1 x2 = (1, 0, σ) := (by simp [cMove, palC, wkC, hrC, lkC, entC, pN, bI_t, bI_f, bI_inj, va_up_self, gHol, gGoo, gDec, gFee, gDeb, gLen, gNum, gPrf, gCop, gMad, gN, gsHol, gsGoo, gsDec, gsFee, gsDeb, gsLen, gsNum, gsPrf, gsCop, gsMad, gsN, cMove1, c_1, c_3] <;> decide); rw [hs]; exact ⟨(show (1 : Nat) ≠ 0 by decide), rfl⟩) hz9 hk9 hce hcv hcl
      exact absurd c_4 (by decide)
    · skip
      obtain ⟨P, hP9, rfl⟩ := rngB_pal (by omega) c_1
      have hcP : (nI P).toNatClampNeg = P := nI_clamp (by omega)
      obtain ⟨U8, hU88, hU89, rfl⟩ := rngB_nat (lo := 0) (hi := 6) (by decide) (by decide) c_3
      have hcU8 : (nI U8).toNatClampNeg = U8 := nI_clamp (by omega)
      refine lv_iconst (v := 1) hx hb dX1_move_15 (by decide) ?_
      refine lv_goto (tgt := 20) hx hb dX1_move_16 (by decide) ?_
      refine x_call (vx_runS (As := [.int 1]) (rest := []) ⟨hx, hb, hml, hown, hts⟩ (c_X1_needThere l hf (true)) (va_cwS 1 hts gX1_move_X1_needThere rfl rfl rfl kn_X1_needThere ⟨Nat.le_of_ble_eq_true rfl, Nat.le_of_ble_eq_true rfl⟩) (pS_E hX) rfl rfl hl.1 rfl (lv_room (Nat.le_of_ble_eq_true rfl)) dX1_move_20 ⟨Nat.le_of_ble_eq_true rfl, Nat.le_of_ble_eq_true rfl⟩) (fun E9 ce q9 H1 hψ hz9 hk9 hce hcv hcl => ?_) (fun c_5 => ?_)
      · exact absurd hψ.1 (by decide)
      refine lv_aload_n hx hb dX1_move_23 rfl (lv_at hl 0 rfl) ?_
      refine lv_iload_n hx hb dX1_move_24 rfl (lv_at hl 1 rfl) ?_
      refine r_callE (x := (wS (gGoo σ) P 6)) (va_runV (As := [.int (nI (P))]) (rest := []) ⟨hx, hb, hml, hown, hts⟩ (c_X1_weightOf l D cI q σ P (by omega)) (cwV 1 hts gX1_move_X1_weightOf rfl rfl rfl kd_X1_weightOf ⟨Nat.le_of_ble_eq_true rfl, Nat.le_of_ble_eq_true rfl⟩) (pV_G0 hP hK hE) rfl rfl hl.1 rfl (lv_room (Nat.le_of_ble_eq_true rfl)) dX1_move_25 ⟨Nat.le_of_ble_eq_true rfl, Nat.le_of_ble_eq_true rfl⟩) ?_
      refine lv_istore_n (lv' := [(3, .int ((wS (gGoo σ) P 6))), (0, .ref (q 0)), (1, .int (nI (P))), (2, .int (nI (U8)))]) hx hb dX1_move_28 rfl hl (by decide) rfl (fun ls hl => ?_)
      refine lv_aload_n hx hb dX1_move_29 rfl (lv_at hl 1 rfl) ?_
      refine lv_iload_n hx hb dX1_move_30 rfl (lv_at hl 2 rfl) ?_
      refine r_callE (x := bI (wkF (gN σ) (gLen σ) (gPrf σ) (gNum σ) P)) (va_runV (As := [.int (nI (P))]) (rest := []) ⟨hx, hb, hml, hown, hts⟩ (c_X1_isWorkable l D cI q σ P (by omega) ⟨hn, hhol, hlen⟩) (cwV 1 hts gX1_move_X1_isWorkable rfl rfl rfl kd_X1_isWorkable ⟨Nat.le_of_ble_eq_true rfl, Nat.le_of_ble_eq_true rfl⟩) (pV_G0 hP hK hE) rfl rfl hl.1 rfl (lv_room (Nat.le_of_ble_eq_true rfl)) dX1_move_31 ⟨Nat.le_of_ble_eq_true rfl, Nat.le_of_ble_eq_true rfl⟩) ?_
      refine eqB (wkF (gN σ) (gLen σ) (gPrf σ) (gNum σ) P) (tgt := 66) hx hb rfl dX1_move_34 (by decide) (fun c_6 => ?_) (fun c_6 => ?_)
      · skip
        refine lv_iconst (v := 0) hx hb dX1_move_66 (by decide) ?_
        refine x_call (vx_runS (As := [.int 0]) (rest := []) ⟨hx, hb, hml, hown, hts⟩ (c_X1_needState l hf (false)) (va_cwS 1 hts gX1_move_X1_needState rfl rfl rfl kn_X1_needState ⟨Nat.le_of_ble_eq_true rfl, Nat.le_of_ble_eq_true rfl⟩) (pS_E hX) rfl rfl hl.1 rfl (lv_room (Nat.le_of_ble_eq_true rfl)) dX1_move_67 ⟨Nat.le_of_ble_eq_true rfl, Nat.le_of_ble_eq_true rfl⟩) (fun E9 ce q9 H1 hψ hz9 hk9 hce hcv hcl => ?_) (fun c_7 => ?_)
        · obtain ⟨c_7, rfl⟩ := hψ
          exact OUT _ _ _ _ _ _ _ (by have hs : cMove σ (nI P) (nI U8) = (3, 0, σ) := (by simp [cMove, palC, wkC, hrC, lkC, entC, pN, bI_t, bI_f, bI_inj, va_up_self, gHol, gGoo, gDec, gFee, gDeb, gLen, gNum, gPrf, gCop, gMad, gN, gsHol, gsGoo, gsDec, gsFee, gsDeb, gsLen, gsNum, gsPrf, gsCop, gsMad, gsN, cMove1, c_1, c_3, c_6, hcP, hcU8] <;> decide); rw [hs]; exact ⟨(show (3 : Nat) ≠ 0 by decide), rfl⟩) hz9 hk9 hce hcv hcl
        exact absurd c_7 (by decide)
      · skip
        have h8 := hhol P
        refine lv_aload_n hx hb dX1_move_37 rfl (lv_at hl 1 rfl) ?_
        refine gf_1_1 hx hb hts hiX1 hown hK hP hf16 dX1_move_38 ?_
        refine lv_iload_n hx hb dX1_move_41 rfl (lv_at hl 2 rfl) ?_
        refine gld_2 (k := P) (v := ((gHol σ)) P) hx hb hK hP rfl (by omega) rfl dX1_move_42 ?_
        refine r_callE (x := bI (decide (((gHol σ)) P < 4))) (va_runS (As := [.int (nI (((gHol σ)) P))]) (rest := []) ⟨hx, hb, hml, hown, hts⟩ (c_X1_isDock_N l (((gHol σ)) P) (by omega)) (va_cwS 1 hts gX1_move_X1_isDock rfl rfl rfl kn_X1_isDock ⟨Nat.le_of_ble_eq_true rfl, Nat.le_of_ble_eq_true rfl⟩) (pS_T) rfl rfl hl.1 rfl (lv_room (Nat.le_of_ble_eq_true rfl)) dX1_move_43 ⟨Nat.le_of_ble_eq_true rfl, Nat.le_of_ble_eq_true rfl⟩) ?_
        refine lv_iload_n hx hb dX1_move_46 rfl (lv_at hl 3 rfl) ?_
        refine r_callE (x := bI (decide (U8 < 4))) (va_runS (As := [.int (nI (U8))]) (rest := [.int (bI (decide (((gHol σ)) P < 4)))]) ⟨hx, hb, hml, hown, hts⟩ (c_X1_isDock_N l U8 (by omega)) (va_cwS 1 hts gX1_move_X1_isDock rfl rfl rfl kn_X1_isDock ⟨Nat.le_of_ble_eq_true rfl, Nat.le_of_ble_eq_true rfl⟩) (pS_T) rfl rfl hl.1 rfl (lv_room (Nat.le_of_ble_eq_true rfl)) dX1_move_47 ⟨Nat.le_of_ble_eq_true rfl, Nat.le_of_ble_eq_true rfl⟩) ?_
        refine lv_icmp_eq (tgt := 66) hx hb dX1_move_50 (by decide) (fun c_8 => ?_) (fun c_8 => ?_)
        · skip
          have hd9 : (gHol σ P < 4 ↔ U8 < 4) := decide_eq_decide.mp (bI_inj.mp c_8)
          refine lv_iconst (v := 0) hx hb dX1_move_66 (by decide) ?_
          refine x_call (vx_runS (As := [.int 0]) (rest := []) ⟨hx, hb, hml, hown, hts⟩ (c_X1_needState l hf (false)) (va_cwS 1 hts gX1_move_X1_needState rfl rfl rfl kn_X1_needState ⟨Nat.le_of_ble_eq_true rfl, Nat.le_of_ble_eq_true rfl⟩) (pS_E hX) rfl rfl hl.1 rfl (lv_room (Nat.le_of_ble_eq_true rfl)) dX1_move_67 ⟨Nat.le_of_ble_eq_true rfl, Nat.le_of_ble_eq_true rfl⟩) (fun E9 ce q9 H1 hψ hz9 hk9 hce hcv hcl => ?_) (fun c_9 => ?_)
          · obtain ⟨c_9, rfl⟩ := hψ
            exact OUT _ _ _ _ _ _ _ (by have hs : cMove σ (nI P) (nI U8) = (3, 0, σ) := (by simp [cMove, palC, wkC, hrC, lkC, entC, pN, bI_t, bI_f, bI_inj, va_up_self, gHol, gGoo, gDec, gFee, gDeb, gLen, gNum, gPrf, gCop, gMad, gN, gsHol, gsGoo, gsDec, gsFee, gsDeb, gsLen, gsNum, gsPrf, gsCop, gsMad, gsN, cMove1, c_1, c_3, c_6, c_8, hcP, hcU8, hd9] <;> decide); rw [hs]; exact ⟨(show (3 : Nat) ≠ 0 by decide), rfl⟩) hz9 hk9 hce hcv hcl
          exact absurd c_9 (by decide)
        · skip
          have hd9 : ¬ (gHol σ P < 4 ↔ U8 < 4) := fun z => c_8 (bI_inj.mpr (decide_eq_decide.mpr z))
          refine lv_aload_n hx hb dX1_move_53 rfl (lv_at hl 1 rfl) ?_
          refine lv_iload_n hx hb dX1_move_54 rfl (lv_at hl 3 rfl) ?_
          refine lv_iload_n hx hb dX1_move_55 rfl (lv_at hl 0 rfl) ?_
          refine r_callE (x := bI (hrF (gHol σ) (gGoo σ) (gN σ) U8 ((wS (gGoo σ) P 6)))) (va_runV (As := [.int (nI (U8)), .int ((wS (gGoo σ) P 6))]) (rest := []) ⟨hx, hb, hml, hown, hts⟩ (c_X1_hasRoom l D cI q σ U8 ((wS (gGoo σ) P 6)) ⟨hn, hhol, hlen⟩ (by omega)) (cwV 2 hts gX1_move_X1_hasRoom rfl rfl rfl kd_X1_hasRoom ⟨Nat.le_of_ble_eq_true rfl, Nat.le_of_ble_eq_true rfl⟩) (pV_G0 hP hK hE) rfl rfl hl.1 rfl (lv_room (Nat.le_of_ble_eq_true rfl)) dX1_move_56 ⟨Nat.le_of_ble_eq_true rfl, Nat.le_of_ble_eq_true rfl⟩) ?_
          refine eqB (hrF (gHol σ) (gGoo σ) (gN σ) U8 ((wS (gGoo σ) P 6))) (tgt := 66) hx hb rfl dX1_move_59 (by decide) (fun c_10 => ?_) (fun c_10 => ?_)
          · skip
            refine lv_iconst (v := 0) hx hb dX1_move_66 (by decide) ?_
            refine x_call (vx_runS (As := [.int 0]) (rest := []) ⟨hx, hb, hml, hown, hts⟩ (c_X1_needState l hf (false)) (va_cwS 1 hts gX1_move_X1_needState rfl rfl rfl kn_X1_needState ⟨Nat.le_of_ble_eq_true rfl, Nat.le_of_ble_eq_true rfl⟩) (pS_E hX) rfl rfl hl.1 rfl (lv_room (Nat.le_of_ble_eq_true rfl)) dX1_move_67 ⟨Nat.le_of_ble_eq_true rfl, Nat.le_of_ble_eq_true rfl⟩) (fun E9 ce q9 H1 hψ hz9 hk9 hce hcv hcl => ?_) (fun c_11 => ?_)
            · obtain ⟨c_11, rfl⟩ := hψ
              exact OUT _ _ _ _ _ _ _ (by have hs : cMove σ (nI P) (nI U8) = (3, 0, σ) := (by simp [cMove, palC, wkC, hrC, lkC, entC, pN, bI_t, bI_f, bI_inj, va_up_self, gHol, gGoo, gDec, gFee, gDeb, gLen, gNum, gPrf, gCop, gMad, gN, gsHol, gsGoo, gsDec, gsFee, gsDeb, gsLen, gsNum, gsPrf, gsCop, gsMad, gsN, cMove1, c_1, c_3, c_6, c_8, c_10, hcP, hcU8, hd9] <;> decide); rw [hs]; exact ⟨(show (3 : Nat) ≠ 0 by decide), rfl⟩) hz9 hk9 hce hcv hcl
            exact absurd c_11 (by decide)
          · skip
            refine lv_iconst (v := 1) hx hb dX1_move_62 (by decide) ?_
            refine lv_goto (tgt := 67) hx hb dX1_move_63 (by decide) ?_
            refine x_call (vx_runS (As := [.int 1]) (rest := []) ⟨hx, hb, hml, hown, hts⟩ (c_X1_needState l hf (true)) (va_cwS 1 hts gX1_move_X1_needState rfl rfl rfl kn_X1_needState ⟨Nat.le_of_ble_eq_true rfl, Nat.le_of_ble_eq_true rfl⟩) (pS_E hX) rfl rfl hl.1 rfl (lv_room (Nat.le_of_ble_eq_true rfl)) dX1_move_67 ⟨Nat.le_of_ble_eq_true rfl, Nat.le_of_ble_eq_true rfl⟩) (fun E9 ce q9 H1 hψ hz9 hk9 hce hcv hcl => ?_) (fun c_12 => ?_)
            · exact absurd hψ.1 (by decide)
            have hE9 := wkF_len c_6
            refine lv_aload_n hx hb dX1_move_70 rfl (lv_at hl 1 rfl) ?_
            refine lv_iload_n hx hb dX1_move_71 rfl (lv_at hl 2 rfl) ?_
            refine lv_bipush (v := 7) hx hb dX1_move_72 (by decide) ?_
            refine lv_iconst (v := 0) hx hb dX1_move_74 (by decide) ?_
            refine lv_iload_n hx hb dX1_move_75 rfl (lv_at hl 3 rfl) ?_
            refine lv_iconst (v := 0) hx hb dX1_move_76 (by decide) ?_
            refine lv_iconst (v := 0) hx hb dX1_move_77 (by decide) ?_
            refine w_call (va_runV (As := [.int (nI (P)), .int 7, .int 0, .int (nI (U8)), .int 0, .int 0]) (rest := []) ⟨hx, hb, hml, hown, hts⟩ (c_X1_write l D cI q σ hq P 7 0 (nI (U8)) 0 0 (by omega) (by omega) ok hE9) (cwV 6 hts gX1_move_X1_write rfl rfl rfl kd_X1_write ⟨Nat.le_of_ble_eq_true rfl, Nat.le_of_ble_eq_true rfl⟩) (pV_G0 hP hK hE) rfl rfl hl.1 rfl (lv_room (Nat.le_of_ble_eq_true rfl)) dX1_move_78 ⟨Nat.le_of_ble_eq_true rfl, Nat.le_of_ble_eq_true rfl⟩) hS (fun _ h => h) (fun v_13 H locs hv_13 _ _ hS => ?_)
            obtain ⟨rfl, hP⟩ := hv_13
            obtain ⟨σ14, eσ14⟩ : ∃ z : SG, z = wrF σ P 7 0 (nI (U8)) 0 0 := ⟨_, rfl⟩
            rw [← eσ14] at hP
            refine lv_aload_n hx hb dX1_move_81 rfl (lv_at hl 1 rfl) ?_
            refine gf_1_1 hx hb hts hiX1 hown hK hP hf16 dX1_move_82 ?_
            refine lv_iload_n hx hb dX1_move_85 rfl (lv_at hl 2 rfl) ?_
            refine lv_iload_n hx hb dX1_move_86 rfl (lv_at hl 3 rfl) ?_
            refine gst_2 (k := P) (x := U8) hx hb hK hP hq hS rfl (by omega) dX1_move_87 (fun hol_15 e_hol_15 H locs hP hS => ?_)
            have hP : va_P D vwCl (wG cI q (gsHol σ14 hol_15)) H := hP
            refine lv_iload_n hx hb dX1_move_88 rfl (lv_at hl 0 rfl) ?_
            exact RET _ _ _ _ _ (by have hs : cMove σ (nI P) (nI U8) = (0, wS (gGoo σ) P 6, gsHol (cMove1 σ P U8) (va_up (gHol (cMove1 σ P U8)) P U8)) := (by simp [cMove, palC, wkC, hrC, lkC, entC, pN, c_1, c_3, c_6, c_8, c_10, hcP, hcU8, hd9]); rw [hs]; exact ⟨rfl, rfl, by subst eσ14 e_hol_15; exact hP⟩) hS dX1_move_89
theorem kn_X1_hold : yX1_hold.cls ≠ "java/lang/invoke/MethodHandle" ∧ yX1_hold.cls ≠ "java/lang/invoke/VarHandle" ∧ (parseMethodDescriptor yX1_hold.desc).map (fun d => d.parameters.length) = some 1 := by decide +kernel
theorem kd_X1_hold : yX1_hold.cls = RX1 ∧ yX1_hold.cls ≠ "java/lang/invoke/MethodHandle" ∧ yX1_hold.cls ≠ "java/lang/invoke/VarHandle" ∧ (parseMethodDescriptor yX1_hold.desc).map (fun d => d.parameters.length) = some 1 := by decide +kernel
set_option maxHeartbeats 4000000 in
set_option maxRecDepth 100000 in
theorem c_X1_hold (l : Launch) (hf : l.stackTraces = false) (D : va_G) (cI : ClassId) (q : Nat → Nat) (σ : SG) (hq : ijQ 12 q) (x1 : Int32) (ok : okG σ) (hz : ∀ P, gN σ ≤ P → gLen σ P = 0) : vx_Met l yX1_hold wsX1_hold ({ frames := 7, cells := 1, slots := 6, locals := 102 }) (va_Pc [.ref (q 0), .int x1] (PX D cI q σ)) (wQ (adQ 12 q) (fun v H1 => (cHold σ x1).1 = 0 ∧ v = some (.int (bI (cHold σ x1).2.1)) ∧ va_P D vwCl (wG cI q (cHold σ x1).2.2) H1)) (xQ (fun E => (cHold σ x1).1 ≠ 0 ∧ E = exN (cHold σ x1).1)) 1 6 (adQ 12 q) := by
  refine openXZ (cc := cX1_hold) (maxL := 3) (by decide) rfl (Nat.le_of_ble_eq_true rfl) ?_
  intro p e s m args below meth c hx hb hml hts hown hpre Q RET OUT ls hl
  have hown : s.vm.findClass RX1 = some m.cls := hown
  have hl : lv_has ls 3 [(0, .ref (q 0)), (1, .int x1)] := hl
  obtain ⟨⟨hP, hK, hE⟩, hX⟩ := hpre
  have hS : va_S (adQ 12 q) s.heap s.heap [] := va_S.rf
  have hiX1 : ∀ w ∈ wsX10, w ∈ wsX1_hold := by decide +kernel
  have hf10 := hts (.fieldLink RX1 10 "PalletGram" "chains" "LPalletGram$Chains;") (by decide +kernel)
  have hn : gN σ ≤ 14 := ok.1
  have hhol : ∀ P, gHol σ P < 6 := ok.2.1
  have hlen : ∀ P, gLen σ P ≤ 30 := ok.2.2
  refine lv_aload_n hx hb dX1_hold_0 rfl (lv_at hl 0 rfl) ?_
  refine lv_iload_n hx hb dX1_hold_1 rfl (lv_at hl 1 rfl) ?_
  refine r_callE (x := bI (rngB 0 (nI (gN σ)) x1)) (va_runV (As := [.int x1]) (rest := []) ⟨hx, hb, hml, hown, hts⟩ (c_X1_isPallet l D cI q σ x1) (cwV 1 hts gX1_hold_X1_isPallet rfl rfl rfl kd_X1_isPallet ⟨Nat.le_of_ble_eq_true rfl, Nat.le_of_ble_eq_true rfl⟩) (pV_G0 hP hK hE) rfl rfl hl.1 rfl (lv_room (Nat.le_of_ble_eq_true rfl)) dX1_hold_2 ⟨Nat.le_of_ble_eq_true rfl, Nat.le_of_ble_eq_true rfl⟩) ?_
  refine x_call (vx_runS (As := [.int (bI (rngB 0 (nI (gN σ)) x1))]) (rest := []) ⟨hx, hb, hml, hown, hts⟩ (c_X1_needThere l hf (rngB 0 (nI (gN σ)) x1)) (va_cwS 1 hts gX1_hold_X1_needThere rfl rfl rfl kn_X1_needThere ⟨Nat.le_of_ble_eq_true rfl, Nat.le_of_ble_eq_true rfl⟩) (pS_E hX) rfl rfl hl.1 rfl (lv_room (Nat.le_of_ble_eq_true rfl)) dX1_hold_5 ⟨Nat.le_of_ble_eq_true rfl, Nat.le_of_ble_eq_true rfl⟩) (fun E9 ce q9 H1 hψ hz9 hk9 hce hcv hcl => ?_) (fun c_1 => ?_)
  · obtain ⟨c_1, rfl⟩ := hψ
    exact OUT _ _ _ _ _ _ _ (by have hs : cHold σ x1 = (1, false, σ) := (by simp [cHold, palC, wkC, hrC, lkC, entC, pN, bI_t, bI_f, bI_inj, va_up_self, gHol, gGoo, gDec, gFee, gDeb, gLen, gNum, gPrf, gCop, gMad, gN, gsHol, gsGoo, gsDec, gsFee, gsDeb, gsLen, gsNum, gsPrf, gsCop, gsMad, gsN, hdK, c_1] <;> decide); rw [hs]; exact ⟨(show (1 : Nat) ≠ 0 by decide), rfl⟩) hz9 hk9 hce hcv hcl
  obtain ⟨P, hP9, rfl⟩ := rngB_pal (by omega) c_1
  have hcP : (nI P).toNatClampNeg = P := nI_clamp (by omega)
  refine lv_aload_n hx hb dX1_hold_8 rfl (lv_at hl 0 rfl) ?_
  refine lv_iload_n hx hb dX1_hold_9 rfl (lv_at hl 1 rfl) ?_
  refine r_callE (x := bI (decide (lkF (gLen σ) (gNum σ) P = 6))) (va_runV (As := [.int (nI (P))]) (rest := []) ⟨hx, hb, hml, hown, hts⟩ (c_X1_isGone l D cI q σ P (by omega) hlen) (cwV 1 hts gX1_hold_X1_isGone rfl rfl rfl kd_X1_isGone ⟨Nat.le_of_ble_eq_true rfl, Nat.le_of_ble_eq_true rfl⟩) (pV_G0 hP hK hE) rfl rfl hl.1 rfl (lv_room (Nat.le_of_ble_eq_true rfl)) dX1_hold_10 ⟨Nat.le_of_ble_eq_true rfl, Nat.le_of_ble_eq_true rfl⟩) ?_
  refine neB (decide (lkF (gLen σ) (gNum σ) P = 6)) (tgt := 31) hx hb rfl dX1_hold_13 (by decide) (fun c_2 => ?_) (fun c_2 => ?_)
  · skip
    have c_2 := of_decide_eq_true c_2
    refine lv_iconst (v := 0) hx hb dX1_hold_31 (by decide) ?_
    refine x_call (vx_runS (As := [.int 0]) (rest := []) ⟨hx, hb, hml, hown, hts⟩ (c_X1_needState l hf (false)) (va_cwS 1 hts gX1_hold_X1_needState rfl rfl rfl kn_X1_needState ⟨Nat.le_of_ble_eq_true rfl, Nat.le_of_ble_eq_true rfl⟩) (pS_E hX) rfl rfl hl.1 rfl (lv_room (Nat.le_of_ble_eq_true rfl)) dX1_hold_32 ⟨Nat.le_of_ble_eq_true rfl, Nat.le_of_ble_eq_true rfl⟩) (fun E9 ce q9 H1 hψ hz9 hk9 hce hcv hcl => ?_) (fun c_3 => ?_)
    · obtain ⟨c_3, rfl⟩ := hψ
      exact OUT _ _ _ _ _ _ _ (by have hs : cHold σ (nI P) = (3, false, σ) := (by simp [cHold, palC, wkC, hrC, lkC, entC, pN, bI_t, bI_f, bI_inj, va_up_self, gHol, gGoo, gDec, gFee, gDeb, gLen, gNum, gPrf, gCop, gMad, gN, gsHol, gsGoo, gsDec, gsFee, gsDeb, gsLen, gsNum, gsPrf, gsCop, gsMad, gsN, hdK, c_1, c_2, hcP] <;> decide); rw [hs]; exact ⟨(show (3 : Nat) ≠ 0 by decide), rfl⟩) hz9 hk9 hce hcv hcl
    exact absurd c_3 (by decide)
  · skip
    have c_2 := of_decide_eq_false c_2
    refine lv_aload_n hx hb dX1_hold_16 rfl (lv_at hl 0 rfl) ?_
    refine gf_1_0 hx hb hts hiX1 hown hK hP hf10 dX1_hold_17 ?_
    refine lv_iload_n hx hb dX1_hold_20 rfl (lv_at hl 1 rfl) ?_
    refine r_callE (x := bI (decide ((gLen σ) P < 30))) (va_runV (As := [.int (nI (P))]) (rest := []) ⟨hx, hb, hml, hown, hts⟩ (c_X0_hasRoom l D cI q σ P (by omega) hlen) (cwV 1 hts gX1_hold_X0_hasRoom rfl rfl rfl kd_X0_hasRoom ⟨Nat.le_of_ble_eq_true rfl, Nat.le_of_ble_eq_true rfl⟩) (pV_G1 hP hK hE) rfl rfl hl.1 rfl (lv_room (Nat.le_of_ble_eq_true rfl)) dX1_hold_21 ⟨Nat.le_of_ble_eq_true rfl, Nat.le_of_ble_eq_true rfl⟩) ?_
    refine eqB (decide ((gLen σ) P < 30)) (tgt := 31) hx hb rfl dX1_hold_24 (by decide) (fun c_4 => ?_) (fun c_4 => ?_)
    · skip
      have c_4 := of_decide_eq_false c_4
      refine lv_iconst (v := 0) hx hb dX1_hold_31 (by decide) ?_
      refine x_call (vx_runS (As := [.int 0]) (rest := []) ⟨hx, hb, hml, hown, hts⟩ (c_X1_needState l hf (false)) (va_cwS 1 hts gX1_hold_X1_needState rfl rfl rfl kn_X1_needState ⟨Nat.le_of_ble_eq_true rfl, Nat.le_of_ble_eq_true rfl⟩) (pS_E hX) rfl rfl hl.1 rfl (lv_room (Nat.le_of_ble_eq_true rfl)) dX1_hold_32 ⟨Nat.le_of_ble_eq_true rfl, Nat.le_of_ble_eq_true rfl⟩) (fun E9 ce q9 H1 hψ hz9 hk9 hce hcv hcl => ?_) (fun c_5 => ?_)
      · obtain ⟨c_5, rfl⟩ := hψ
        exact OUT _ _ _ _ _ _ _ (by have hs : cHold σ (nI P) = (3, false, σ) := (by simp [cHold, palC, wkC, hrC, lkC, entC, pN, bI_t, bI_f, bI_inj, va_up_self, gHol, gGoo, gDec, gFee, gDeb, gLen, gNum, gPrf, gCop, gMad, gN, gsHol, gsGoo, gsDec, gsFee, gsDeb, gsLen, gsNum, gsPrf, gsCop, gsMad, gsN, hdK, c_1, c_2, c_4, hcP] <;> decide); rw [hs]; exact ⟨(show (3 : Nat) ≠ 0 by decide), rfl⟩) hz9 hk9 hce hcv hcl
      exact absurd c_5 (by decide)
    · skip
      have c_4 := of_decide_eq_true c_4
      refine lv_iconst (v := 1) hx hb dX1_hold_27 (by decide) ?_
      refine lv_goto (tgt := 32) hx hb dX1_hold_28 (by decide) ?_
      refine x_call (vx_runS (As := [.int 1]) (rest := []) ⟨hx, hb, hml, hown, hts⟩ (c_X1_needState l hf (true)) (va_cwS 1 hts gX1_hold_X1_needState rfl rfl rfl kn_X1_needState ⟨Nat.le_of_ble_eq_true rfl, Nat.le_of_ble_eq_true rfl⟩) (pS_E hX) rfl rfl hl.1 rfl (lv_room (Nat.le_of_ble_eq_true rfl)) dX1_hold_32 ⟨Nat.le_of_ble_eq_true rfl, Nat.le_of_ble_eq_true rfl⟩) (fun E9 ce q9 H1 hψ hz9 hk9 hce hcv hcl => ?_) (fun c_6 => ?_)
      · exact absurd hψ.1 (by decide)
      have h9 := hlen P
      refine lv_aload_n hx hb dX1_hold_35 rfl (lv_at hl 0 rfl) ?_
      refine lv_iload_n hx hb dX1_hold_36 rfl (lv_at hl 1 rfl) ?_
      refine r_callE (x := bI (decide (lkF (gLen σ) (gNum σ) P = 8))) (va_runV (As := [.int (nI (P))]) (rest := []) ⟨hx, hb, hml, hown, hts⟩ (c_X1_isHeld l D cI q σ P (by omega) hlen) (cwV 1 hts gX1_hold_X1_isHeld rfl rfl rfl kd_X1_isHeld ⟨Nat.le_of_ble_eq_true rfl, Nat.le_of_ble_eq_true rfl⟩) (pV_G0 hP hK hE) rfl rfl hl.1 rfl (lv_room (Nat.le_of_ble_eq_true rfl)) dX1_hold_37 ⟨Nat.le_of_ble_eq_true rfl, Nat.le_of_ble_eq_true rfl⟩) ?_
      refine neB (decide (lkF (gLen σ) (gNum σ) P = 8)) (tgt := 47) hx hb rfl dX1_hold_40 (by decide) (fun c_7 => ?_) (fun c_7 => ?_)
      · skip
        have c_7 := of_decide_eq_true c_7
        refine lv_iconst (v := 0) hx hb dX1_hold_47 (by decide) ?_
        refine lv_istore_n (lv' := [(2, .int 0), (0, .ref (q 0)), (1, .int (nI (P)))]) hx hb dX1_hold_48 rfl hl (by decide) rfl (fun ls hl => ?_)
        refine lv_aload_n hx hb dX1_hold_49 rfl (lv_at hl 1 rfl) ?_
        refine lv_iload_n hx hb dX1_hold_50 rfl (lv_at hl 2 rfl) ?_
        refine lv_iload_n hx hb dX1_hold_51 rfl (lv_at hl 0 rfl) ?_
        refine eqB false (tgt := 60) hx hb rfl dX1_hold_52 (by decide) (fun c_8 => ?_) (fun c_8 => ?_)
        rotate_left
        · exact absurd c_8 (by decide)
        refine lv_bipush (v := 9) hx hb dX1_hold_60 (by decide) ?_
        refine lv_iconst (v := 0) hx hb dX1_hold_62 (by decide) ?_
        refine lv_iconst (v := 0) hx hb dX1_hold_63 (by decide) ?_
        refine lv_iconst (v := 0) hx hb dX1_hold_64 (by decide) ?_
        refine lv_iconst (v := 0) hx hb dX1_hold_65 (by decide) ?_
        refine w_call (va_runV (As := [.int (nI (P)), .int 9, .int 0, .int 0, .int 0, .int 0]) (rest := []) ⟨hx, hb, hml, hown, hts⟩ (c_X1_write l D cI q σ hq P 9 0 0 0 0 (by omega) (by omega) ok (by omega)) (cwV 6 hts gX1_hold_X1_write rfl rfl rfl kd_X1_write ⟨Nat.le_of_ble_eq_true rfl, Nat.le_of_ble_eq_true rfl⟩) (pV_G0 hP hK hE) rfl rfl hl.1 rfl (lv_room (Nat.le_of_ble_eq_true rfl)) dX1_hold_66 ⟨Nat.le_of_ble_eq_true rfl, Nat.le_of_ble_eq_true rfl⟩) hS (fun _ h => h) (fun v_9 H locs hv_9 _ _ hS => ?_)
        obtain ⟨rfl, hP⟩ := hv_9
        obtain ⟨σ10, eσ10⟩ : ∃ z : SG, z = wrF σ P 9 0 0 0 0 := ⟨_, rfl⟩
        rw [← eσ10] at hP
        refine lv_iload_n hx hb dX1_hold_69 rfl (lv_at hl 0 rfl) ?_
        exact RET (false) _ _ _ _ (by have hs : cHold σ (nI P) = (0, false, σ10) := (by simp [cHold, palC, wkC, hrC, lkC, entC, pN, bI_t, bI_f, bI_inj, va_up_self, gHol, gGoo, gDec, gFee, gDeb, gLen, gNum, gPrf, gCop, gMad, gN, gsHol, gsGoo, gsDec, gsFee, gsDeb, gsLen, gsNum, gsPrf, gsCop, gsMad, gsN, hdK, c_1, c_2, c_4, c_7, hcP, eσ10] <;> decide); rw [hs]; exact ⟨rfl, rfl, hP⟩) hS dX1_hold_70
      · skip
        have c_7 := of_decide_eq_false c_7
        refine lv_iconst (v := 1) hx hb dX1_hold_43 (by decide) ?_
        refine lv_goto (tgt := 48) hx hb dX1_hold_44 (by decide) ?_
        refine lv_istore_n (lv' := [(2, .int 1), (0, .ref (q 0)), (1, .int (nI (P)))]) hx hb dX1_hold_48 rfl hl (by decide) rfl (fun ls hl => ?_)
        refine lv_aload_n hx hb dX1_hold_49 rfl (lv_at hl 1 rfl) ?_
        refine lv_iload_n hx hb dX1_hold_50 rfl (lv_at hl 2 rfl) ?_
        refine lv_iload_n hx hb dX1_hold_51 rfl (lv_at hl 0 rfl) ?_
        refine eqB true (tgt := 60) hx hb rfl dX1_hold_52 (by decide) (fun c_11 => ?_) (fun c_11 => ?_)
        · exact absurd c_11 (by decide)
        refine lv_bipush (v := 8) hx hb dX1_hold_55 (by decide) ?_
        refine lv_goto (tgt := 62) hx hb dX1_hold_57 (by decide) ?_
        refine lv_iconst (v := 0) hx hb dX1_hold_62 (by decide) ?_
        refine lv_iconst (v := 0) hx hb dX1_hold_63 (by decide) ?_
        refine lv_iconst (v := 0) hx hb dX1_hold_64 (by decide) ?_
        refine lv_iconst (v := 0) hx hb dX1_hold_65 (by decide) ?_
        refine w_call (va_runV (As := [.int (nI (P)), .int 8, .int 0, .int 0, .int 0, .int 0]) (rest := []) ⟨hx, hb, hml, hown, hts⟩ (c_X1_write l D cI q σ hq P 8 0 0 0 0 (by omega) (by omega) ok (by omega)) (cwV 6 hts gX1_hold_X1_write rfl rfl rfl kd_X1_write ⟨Nat.le_of_ble_eq_true rfl, Nat.le_of_ble_eq_true rfl⟩) (pV_G0 hP hK hE) rfl rfl hl.1 rfl (lv_room (Nat.le_of_ble_eq_true rfl)) dX1_hold_66 ⟨Nat.le_of_ble_eq_true rfl, Nat.le_of_ble_eq_true rfl⟩) hS (fun _ h => h) (fun v_12 H locs hv_12 _ _ hS => ?_)
        obtain ⟨rfl, hP⟩ := hv_12
        obtain ⟨σ13, eσ13⟩ : ∃ z : SG, z = wrF σ P 8 0 0 0 0 := ⟨_, rfl⟩
        rw [← eσ13] at hP
        refine lv_iload_n hx hb dX1_hold_69 rfl (lv_at hl 0 rfl) ?_
        exact RET (true) _ _ _ _ (by have hs : cHold σ (nI P) = (0, true, σ13) := (by simp [cHold, palC, wkC, hrC, lkC, entC, pN, bI_t, bI_f, bI_inj, va_up_self, gHol, gGoo, gDec, gFee, gDeb, gLen, gNum, gPrf, gCop, gMad, gN, gsHol, gsGoo, gsDec, gsFee, gsDeb, gsLen, gsNum, gsPrf, gsCop, gsMad, gsN, hdK, c_1, c_2, c_4, c_7, hcP, eσ13] <;> decide); rw [hs]; exact ⟨rfl, rfl, hP⟩) hS dX1_hold_70
theorem kn_X1_pallet : yX1_pallet.cls ≠ "java/lang/invoke/MethodHandle" ∧ yX1_pallet.cls ≠ "java/lang/invoke/VarHandle" ∧ (parseMethodDescriptor yX1_pallet.desc).map (fun d => d.parameters.length) = some 2 := by decide +kernel
theorem kd_X1_pallet : yX1_pallet.cls = RX1 ∧ yX1_pallet.cls ≠ "java/lang/invoke/MethodHandle" ∧ yX1_pallet.cls ≠ "java/lang/invoke/VarHandle" ∧ (parseMethodDescriptor yX1_pallet.desc).map (fun d => d.parameters.length) = some 2 := by decide +kernel
set_option maxHeartbeats 4000000 in
set_option maxRecDepth 100000 in
theorem c_X1_pallet (l : Launch) (hf : l.stackTraces = false) (D : va_G) (cI : ClassId) (q : Nat → Nat) (σ : SG) (hq : ijQ 12 q) (x1 x2 : Int32) (ok : okG σ) (hz : ∀ P, gN σ ≤ P → gLen σ P = 0) : vx_Met l yX1_pallet wsX1_pallet ({ frames := 7, cells := 1, slots := 6, locals := 102 }) (va_Pc [.ref (q 0), .int x1, .int x2] (PX D cI q σ)) (rX (fun r => (cPallet σ x1 x2).1 = 0 ∧ r = (cPallet σ x1 x2).2.1)) (xQ (fun E => (cPallet σ x1 x2).1 ≠ 0 ∧ E = exN (cPallet σ x1 x2).1)) 1 6 noF := by
  refine openXR (cc := cX1_pallet) (maxL := 3) (by decide) rfl (Nat.le_of_ble_eq_true rfl) ?_
  intro p e s m args below meth c hx hb hml hts hown hpre Q RET OUT ls hl
  have hown : s.vm.findClass RX1 = some m.cls := hown
  have hl : lv_has ls 3 [(0, .ref (q 0)), (1, .int x1), (2, .int x2)] := hl
  obtain ⟨⟨hP, hK, hE⟩, hX⟩ := hpre
  have hS : va_S (adQ 12 q) s.heap s.heap [] := va_S.rf
  have hiX1 : ∀ w ∈ wsX10, w ∈ wsX1_pallet := by decide +kernel
  have hf16 := hts (.fieldLink RX1 16 "PalletGram" "holders" "[I") (by decide +kernel)
  have hf10 := hts (.fieldLink RX1 10 "PalletGram" "chains" "LPalletGram$Chains;") (by decide +kernel)
  have hn : gN σ ≤ 14 := ok.1
  have hhol : ∀ P, gHol σ P < 6 := ok.2.1
  have hlen : ∀ P, gLen σ P ≤ 30 := ok.2.2
  refine lv_aload_n hx hb dX1_pallet_0 rfl (lv_at hl 0 rfl) ?_
  refine lv_iload_n hx hb dX1_pallet_1 rfl (lv_at hl 1 rfl) ?_
  refine r_callE (x := bI (rngB 0 (nI (gN σ)) x1)) (va_runV (As := [.int x1]) (rest := []) ⟨hx, hb, hml, hown, hts⟩ (c_X1_isPallet l D cI q σ x1) (cwV 1 hts gX1_pallet_X1_isPallet rfl rfl rfl kd_X1_isPallet ⟨Nat.le_of_ble_eq_true rfl, Nat.le_of_ble_eq_true rfl⟩) (pV_G0 hP hK hE) rfl rfl hl.1 rfl (lv_room (Nat.le_of_ble_eq_true rfl)) dX1_pallet_2 ⟨Nat.le_of_ble_eq_true rfl, Nat.le_of_ble_eq_true rfl⟩) ?_
  refine x_call (vx_runS (As := [.int (bI (rngB 0 (nI (gN σ)) x1))]) (rest := []) ⟨hx, hb, hml, hown, hts⟩ (c_X1_needThere l hf (rngB 0 (nI (gN σ)) x1)) (va_cwS 1 hts gX1_pallet_X1_needThere rfl rfl rfl kn_X1_needThere ⟨Nat.le_of_ble_eq_true rfl, Nat.le_of_ble_eq_true rfl⟩) (pS_E hX) rfl rfl hl.1 rfl (lv_room (Nat.le_of_ble_eq_true rfl)) dX1_pallet_5 ⟨Nat.le_of_ble_eq_true rfl, Nat.le_of_ble_eq_true rfl⟩) (fun E9 ce q9 H1 hψ hz9 hk9 hce hcv hcl => ?_) (fun c_1 => ?_)
  · obtain ⟨c_1, rfl⟩ := hψ
    exact OUT _ _ _ _ _ _ _ (by have hs : cPallet σ x1 x2 = (1, 0, σ) := (by simp [cPallet, palC, wkC, hrC, lkC, entC, pN, bI_t, bI_f, bI_inj, va_up_self, gHol, gGoo, gDec, gFee, gDeb, gLen, gNum, gPrf, gCop, gMad, gN, gsHol, gsGoo, gsDec, gsFee, gsDeb, gsLen, gsNum, gsPrf, gsCop, gsMad, gsN, c_1] <;> decide); rw [hs]; exact ⟨(show (1 : Nat) ≠ 0 by decide), rfl⟩) hz9 hk9 hce hcv hcl
  obtain ⟨P, hP9, rfl⟩ := rngB_pal (by omega) c_1
  have hcP : (nI P).toNatClampNeg = P := nI_clamp (by omega)
  refine lv_iload_n hx hb dX1_pallet_8 rfl (lv_at hl 2 rfl) ?_
  refine lv_iconst (v := 0) hx hb dX1_pallet_9 (by decide) ?_
  refine lv_iconst (v := 4) hx hb dX1_pallet_10 (by decide) ?_
  refine r_callE (x := bI (inB x2 0 4)) (va_runS (As := [.int x2, .int 0, .int 4]) (rest := []) ⟨hx, hb, hml, hown, hts⟩ (c_X1_isWithin l x2 0 4) (va_cwS 3 hts gX1_pallet_X1_isWithin rfl rfl rfl kn_X1_isWithin ⟨Nat.le_of_ble_eq_true rfl, Nat.le_of_ble_eq_true rfl⟩) (pS_T) rfl rfl hl.1 rfl (lv_room (Nat.le_of_ble_eq_true rfl)) dX1_pallet_11 ⟨Nat.le_of_ble_eq_true rfl, Nat.le_of_ble_eq_true rfl⟩) ?_
  refine x_call (vx_runS (As := [.int (bI (inB x2 0 4))]) (rest := []) ⟨hx, hb, hml, hown, hts⟩ (c_X1_needRange l hf (inB x2 0 4)) (va_cwS 1 hts gX1_pallet_X1_needRange rfl rfl rfl kn_X1_needRange ⟨Nat.le_of_ble_eq_true rfl, Nat.le_of_ble_eq_true rfl⟩) (pS_E hX) rfl rfl hl.1 rfl (lv_room (Nat.le_of_ble_eq_true rfl)) dX1_pallet_14 ⟨Nat.le_of_ble_eq_true rfl, Nat.le_of_ble_eq_true rfl⟩) (fun E9 ce q9 H1 hψ hz9 hk9 hce hcv hcl => ?_) (fun c_2 => ?_)
  · obtain ⟨c_2, rfl⟩ := hψ
    exact OUT _ _ _ _ _ _ _ (by have hs : cPallet σ (nI P) x2 = (2, 0, σ) := (by simp [cPallet, palC, wkC, hrC, lkC, entC, pN, bI_t, bI_f, bI_inj, va_up_self, gHol, gGoo, gDec, gFee, gDeb, gLen, gNum, gPrf, gCop, gMad, gN, gsHol, gsGoo, gsDec, gsFee, gsDeb, gsLen, gsNum, gsPrf, gsCop, gsMad, gsN, c_1, c_2, hcP] <;> decide); rw [hs]; exact ⟨(show (2 : Nat) ≠ 0 by decide), rfl⟩) hz9 hk9 hce hcv hcl
  obtain ⟨W, hW8, hW9, rfl⟩ := inB_nat (lo := 0) (hi := 4) (by decide) (by decide) c_2
  have hcW : (nI W).toNatClampNeg = W := nI_clamp (by omega)
  refine lv_iload_n hx hb dX1_pallet_17 rfl (lv_at hl 2 rfl) ?_
  have hw9 : W = 0 ∨ W = 1 ∨ W = 2 ∨ W = 3 ∨ W = 4 := by omega
  rcases hw9 with rfl | rfl | rfl | rfl | rfl
  · skip
    refine lv_tableIn (tgt := 48) hx hb dX1_pallet_18 (by decide) (by decide) rfl (by decide) ?_
    refine lv_aload_n hx hb dX1_pallet_48 rfl (lv_at hl 0 rfl) ?_
    refine gf_1_1 hx hb hts hiX1 hown hK hP hf16 dX1_pallet_49 ?_
    refine lv_iload_n hx hb dX1_pallet_52 rfl (lv_at hl 1 rfl) ?_
    refine gld_2 (k := P) (v := ((gHol σ)) P) hx hb hK hP rfl (by omega) rfl dX1_pallet_53 ?_
    exact RET _ _ _ (by have hs : cPallet σ (nI P) (nI 0) = (0, nI (((gHol σ)) P), σ) := (by simp [cPallet, palC, wkC, hrC, lkC, entC, pN, bI_t, bI_f, bI_inj, va_up_self, gHol, gGoo, gDec, gFee, gDeb, gLen, gNum, gPrf, gCop, gMad, gN, gsHol, gsGoo, gsDec, gsFee, gsDeb, gsLen, gsNum, gsPrf, gsCop, gsMad, gsN, c_1, c_2, hcP, nI_l0, nI_l1, nI_l2, nI_l3, nI_l4] <;> decide); rw [hs]; exact ⟨rfl, rfl⟩) dX1_pallet_54
  · skip
    refine lv_tableIn (tgt := 55) hx hb dX1_pallet_18 (by decide) (by decide) rfl (by decide) ?_
    refine lv_aload_n hx hb dX1_pallet_55 rfl (lv_at hl 0 rfl) ?_
    refine gf_1_0 hx hb hts hiX1 hown hK hP hf10 dX1_pallet_56 ?_
    refine lv_iload_n hx hb dX1_pallet_59 rfl (lv_at hl 1 rfl) ?_
    refine r_callE (x := nI ((gLen σ) P)) (va_runV (As := [.int (nI (P))]) (rest := []) ⟨hx, hb, hml, hown, hts⟩ (c_X0_length l D cI q σ P (by omega)) (cwV 1 hts gX1_pallet_X0_length rfl rfl rfl kd_X0_length ⟨Nat.le_of_ble_eq_true rfl, Nat.le_of_ble_eq_true rfl⟩) (pV_G1 hP hK hE) rfl rfl hl.1 rfl (lv_room (Nat.le_of_ble_eq_true rfl)) dX1_pallet_60 ⟨Nat.le_of_ble_eq_true rfl, Nat.le_of_ble_eq_true rfl⟩) ?_
    exact RET _ _ _ (by have hs : cPallet σ (nI P) (nI 1) = (0, nI ((gLen σ) P), σ) := (by simp [cPallet, palC, wkC, hrC, lkC, entC, pN, bI_t, bI_f, bI_inj, va_up_self, gHol, gGoo, gDec, gFee, gDeb, gLen, gNum, gPrf, gCop, gMad, gN, gsHol, gsGoo, gsDec, gsFee, gsDeb, gsLen, gsNum, gsPrf, gsCop, gsMad, gsN, c_1, c_2, hcP, nI_l0, nI_l1, nI_l2, nI_l3, nI_l4] <;> decide); rw [hs]; exact ⟨rfl, rfl⟩) dX1_pallet_63
  · skip
    refine lv_tableIn (tgt := 64) hx hb dX1_pallet_18 (by decide) (by decide) rfl (by decide) ?_
    refine lv_aload_n hx hb dX1_pallet_64 rfl (lv_at hl 0 rfl) ?_
    refine lv_iload_n hx hb dX1_pallet_65 rfl (lv_at hl 1 rfl) ?_
    refine r_callE (x := (wS (gGoo σ) P 6)) (va_runV (As := [.int (nI (P))]) (rest := []) ⟨hx, hb, hml, hown, hts⟩ (c_X1_weightOf l D cI q σ P (by omega)) (cwV 1 hts gX1_pallet_X1_weightOf rfl rfl rfl kd_X1_weightOf ⟨Nat.le_of_ble_eq_true rfl, Nat.le_of_ble_eq_true rfl⟩) (pV_G0 hP hK hE) rfl rfl hl.1 rfl (lv_room (Nat.le_of_ble_eq_true rfl)) dX1_pallet_66 ⟨Nat.le_of_ble_eq_true rfl, Nat.le_of_ble_eq_true rfl⟩) ?_
    exact RET _ _ _ (by have hs : cPallet σ (nI P) (nI 2) = (0, (wS (gGoo σ) P 6), σ) := (by simp [cPallet, palC, wkC, hrC, lkC, entC, pN, bI_t, bI_f, bI_inj, va_up_self, gHol, gGoo, gDec, gFee, gDeb, gLen, gNum, gPrf, gCop, gMad, gN, gsHol, gsGoo, gsDec, gsFee, gsDeb, gsLen, gsNum, gsPrf, gsCop, gsMad, gsN, c_1, c_2, hcP, nI_l0, nI_l1, nI_l2, nI_l3, nI_l4] <;> decide); rw [hs]; exact ⟨rfl, rfl⟩) dX1_pallet_69
  · skip
    refine lv_tableIn (tgt := 70) hx hb dX1_pallet_18 (by decide) (by decide) rfl (by decide) ?_
    refine lv_aload_n hx hb dX1_pallet_70 rfl (lv_at hl 0 rfl) ?_
    refine lv_iload_n hx hb dX1_pallet_71 rfl (lv_at hl 1 rfl) ?_
    refine r_callE (x := bI (decide (lkF (gLen σ) (gNum σ) P = 8))) (va_runV (As := [.int (nI (P))]) (rest := []) ⟨hx, hb, hml, hown, hts⟩ (c_X1_isHeld l D cI q σ P (by omega) hlen) (cwV 1 hts gX1_pallet_X1_isHeld rfl rfl rfl kd_X1_isHeld ⟨Nat.le_of_ble_eq_true rfl, Nat.le_of_ble_eq_true rfl⟩) (pV_G0 hP hK hE) rfl rfl hl.1 rfl (lv_room (Nat.le_of_ble_eq_true rfl)) dX1_pallet_72 ⟨Nat.le_of_ble_eq_true rfl, Nat.le_of_ble_eq_true rfl⟩) ?_
    refine eqB (decide (lkF (gLen σ) (gNum σ) P = 8)) (tgt := 82) hx hb rfl dX1_pallet_75 (by decide) (fun c_3 => ?_) (fun c_3 => ?_)
    · skip
      have c_3 := of_decide_eq_false c_3
      refine lv_iconst (v := 0) hx hb dX1_pallet_82 (by decide) ?_
      exact RET _ _ _ (by have hs : cPallet σ (nI P) (nI 3) = (0, 0, σ) := (by simp [cPallet, palC, wkC, hrC, lkC, entC, pN, bI_t, bI_f, bI_inj, va_up_self, gHol, gGoo, gDec, gFee, gDeb, gLen, gNum, gPrf, gCop, gMad, gN, gsHol, gsGoo, gsDec, gsFee, gsDeb, gsLen, gsNum, gsPrf, gsCop, gsMad, gsN, c_1, c_2, c_3, hcP, nI_l0, nI_l1, nI_l2, nI_l3, nI_l4] <;> decide); rw [hs]; exact ⟨rfl, rfl⟩) dX1_pallet_83
    · skip
      have c_3 := of_decide_eq_true c_3
      refine lv_iconst (v := 1) hx hb dX1_pallet_78 (by decide) ?_
      refine lv_goto (tgt := 83) hx hb dX1_pallet_79 (by decide) ?_
      exact RET _ _ _ (by have hs : cPallet σ (nI P) (nI 3) = (0, 1, σ) := (by simp [cPallet, palC, wkC, hrC, lkC, entC, pN, bI_t, bI_f, bI_inj, va_up_self, gHol, gGoo, gDec, gFee, gDeb, gLen, gNum, gPrf, gCop, gMad, gN, gsHol, gsGoo, gsDec, gsFee, gsDeb, gsLen, gsNum, gsPrf, gsCop, gsMad, gsN, c_1, c_2, c_3, hcP, nI_l0, nI_l1, nI_l2, nI_l3, nI_l4] <;> decide); rw [hs]; exact ⟨rfl, rfl⟩) dX1_pallet_83
  · skip
    refine lv_tableOut (tgt := 84) hx hb dX1_pallet_18 (by decide) (by decide) ?_
    refine lv_aload_n hx hb dX1_pallet_84 rfl (lv_at hl 0 rfl) ?_
    refine lv_iload_n hx hb dX1_pallet_85 rfl (lv_at hl 1 rfl) ?_
    refine r_callE (x := bI (decide (lkF (gLen σ) (gNum σ) P = 6))) (va_runV (As := [.int (nI (P))]) (rest := []) ⟨hx, hb, hml, hown, hts⟩ (c_X1_isGone l D cI q σ P (by omega) hlen) (cwV 1 hts gX1_pallet_X1_isGone rfl rfl rfl kd_X1_isGone ⟨Nat.le_of_ble_eq_true rfl, Nat.le_of_ble_eq_true rfl⟩) (pV_G0 hP hK hE) rfl rfl hl.1 rfl (lv_room (Nat.le_of_ble_eq_true rfl)) dX1_pallet_86 ⟨Nat.le_of_ble_eq_true rfl, Nat.le_of_ble_eq_true rfl⟩) ?_
    refine eqB (decide (lkF (gLen σ) (gNum σ) P = 6)) (tgt := 96) hx hb rfl dX1_pallet_89 (by decide) (fun c_4 => ?_) (fun c_4 => ?_)
    · skip
      have c_4 := of_decide_eq_false c_4
      refine lv_iconst (v := 0) hx hb dX1_pallet_96 (by decide) ?_
      exact RET _ _ _ (by have hs : cPallet σ (nI P) (nI 4) = (0, 0, σ) := (by simp [cPallet, palC, wkC, hrC, lkC, entC, pN, bI_t, bI_f, bI_inj, va_up_self, gHol, gGoo, gDec, gFee, gDeb, gLen, gNum, gPrf, gCop, gMad, gN, gsHol, gsGoo, gsDec, gsFee, gsDeb, gsLen, gsNum, gsPrf, gsCop, gsMad, gsN, c_1, c_2, c_4, hcP, nI_l0, nI_l1, nI_l2, nI_l3, nI_l4] <;> decide); rw [hs]; exact ⟨rfl, rfl⟩) dX1_pallet_97
    · skip
      have c_4 := of_decide_eq_true c_4
      refine lv_iconst (v := 1) hx hb dX1_pallet_92 (by decide) ?_
      refine lv_goto (tgt := 97) hx hb dX1_pallet_93 (by decide) ?_
      exact RET _ _ _ (by have hs : cPallet σ (nI P) (nI 4) = (0, 1, σ) := (by simp [cPallet, palC, wkC, hrC, lkC, entC, pN, bI_t, bI_f, bI_inj, va_up_self, gHol, gGoo, gDec, gFee, gDeb, gLen, gNum, gPrf, gCop, gMad, gN, gsHol, gsGoo, gsDec, gsFee, gsDeb, gsLen, gsNum, gsPrf, gsCop, gsMad, gsN, c_1, c_2, c_4, hcP, nI_l0, nI_l1, nI_l2, nI_l3, nI_l4] <;> decide); rw [hs]; exact ⟨rfl, rfl⟩) dX1_pallet_97
theorem kn_X1_entry : yX1_entry.cls ≠ "java/lang/invoke/MethodHandle" ∧ yX1_entry.cls ≠ "java/lang/invoke/VarHandle" ∧ (parseMethodDescriptor yX1_entry.desc).map (fun d => d.parameters.length) = some 3 := by decide +kernel
theorem kd_X1_entry : yX1_entry.cls = RX1 ∧ yX1_entry.cls ≠ "java/lang/invoke/MethodHandle" ∧ yX1_entry.cls ≠ "java/lang/invoke/VarHandle" ∧ (parseMethodDescriptor yX1_entry.desc).map (fun d => d.parameters.length) = some 3 := by decide +kernel
set_option maxHeartbeats 4000000 in
set_option maxRecDepth 100000 in
theorem c_X1_entry (l : Launch) (hf : l.stackTraces = false) (D : va_G) (cI : ClassId) (q : Nat → Nat) (σ : SG) (hq : ijQ 12 q) (x1 x2 x3 : Int32) (ok : okG σ) (hz : ∀ P, gN σ ≤ P → gLen σ P = 0) : vx_Met l yX1_entry wsX1_entry ({ frames := 7, cells := 1, slots := 6, locals := 102 }) (va_Pc [.ref (q 0), .int x1, .int x2, .int x3] (PX D cI q σ)) (rX (fun r => (cEntry σ x1 x2 x3).1 = 0 ∧ r = (cEntry σ x1 x2 x3).2.1)) (xQ (fun E => (cEntry σ x1 x2 x3).1 ≠ 0 ∧ E = exN (cEntry σ x1 x2 x3).1)) 1 6 noF := by
  refine openXR (cc := cX1_entry) (maxL := 4) (by decide) rfl (Nat.le_of_ble_eq_true rfl) ?_
  intro p e s m args below meth c hx hb hml hts hown hpre Q RET OUT ls hl
  have hown : s.vm.findClass RX1 = some m.cls := hown
  have hl : lv_has ls 4 [(0, .ref (q 0)), (1, .int x1), (2, .int x2), (3, .int x3)] := hl
  obtain ⟨⟨hP, hK, hE⟩, hX⟩ := hpre
  have hS : va_S (adQ 12 q) s.heap s.heap [] := va_S.rf
  have hiX1 : ∀ w ∈ wsX10, w ∈ wsX1_entry := by decide +kernel
  have hf10 := hts (.fieldLink RX1 10 "PalletGram" "chains" "LPalletGram$Chains;") (by decide +kernel)
  have hn : gN σ ≤ 14 := ok.1
  have hhol : ∀ P, gHol σ P < 6 := ok.2.1
  have hlen : ∀ P, gLen σ P ≤ 30 := ok.2.2
  refine lv_aload_n hx hb dX1_entry_0 rfl (lv_at hl 0 rfl) ?_
  refine lv_iload_n hx hb dX1_entry_1 rfl (lv_at hl 1 rfl) ?_
  refine r_callE (x := bI (rngB 0 (nI (gN σ)) x1)) (va_runV (As := [.int x1]) (rest := []) ⟨hx, hb, hml, hown, hts⟩ (c_X1_isPallet l D cI q σ x1) (cwV 1 hts gX1_entry_X1_isPallet rfl rfl rfl kd_X1_isPallet ⟨Nat.le_of_ble_eq_true rfl, Nat.le_of_ble_eq_true rfl⟩) (pV_G0 hP hK hE) rfl rfl hl.1 rfl (lv_room (Nat.le_of_ble_eq_true rfl)) dX1_entry_2 ⟨Nat.le_of_ble_eq_true rfl, Nat.le_of_ble_eq_true rfl⟩) ?_
  refine eqB (rngB 0 (nI (gN σ)) x1) (tgt := 24) hx hb rfl dX1_entry_5 (by decide) (fun c_1 => ?_) (fun c_1 => ?_)
  · skip
    refine lv_iconst (v := 0) hx hb dX1_entry_24 (by decide) ?_
    refine x_call (vx_runS (As := [.int 0]) (rest := []) ⟨hx, hb, hml, hown, hts⟩ (c_X1_needThere l hf (false)) (va_cwS 1 hts gX1_entry_X1_needThere rfl rfl rfl kn_X1_needThere ⟨Nat.le_of_ble_eq_true rfl, Nat.le_of_ble_eq_true rfl⟩) (pS_E hX) rfl rfl hl.1 rfl (lv_room (Nat.le_of_ble_eq_true rfl)) dX1_entry_25 ⟨Nat.le_of_ble_eq_true rfl, Nat.le_of_ble_eq_true rfl⟩) (fun E9 ce q9 H1 hψ hz9 hk9 hce hcv hcl => ?_) (fun c_2 => ?_)
    · obtain ⟨c_2, rfl⟩ := hψ
      exact OUT _ _ _ _ _ _ _ (by have hs : cEntry σ x1 x2 x3 = (1, 0, σ) := (by simp [cEntry, palC, wkC, hrC, lkC, entC, pN, bI_t, bI_f, bI_inj, va_up_self, gHol, gGoo, gDec, gFee, gDeb, gLen, gNum, gPrf, gCop, gMad, gN, gsHol, gsGoo, gsDec, gsFee, gsDeb, gsLen, gsNum, gsPrf, gsCop, gsMad, gsN, nIc6, inB6, c_1] <;> decide); rw [hs]; exact ⟨(show (1 : Nat) ≠ 0 by decide), rfl⟩) hz9 hk9 hce hcv hcl
    exact absurd c_2 (by decide)
  · skip
    obtain ⟨P, hP9, rfl⟩ := rngB_pal (by omega) c_1
    have hcP : (nI P).toNatClampNeg = P := nI_clamp (by omega)
    refine lv_aload_n hx hb dX1_entry_8 rfl (lv_at hl 0 rfl) ?_
    refine gf_1_0 hx hb hts hiX1 hown hK hP hf10 dX1_entry_9 ?_
    refine lv_iload_n hx hb dX1_entry_12 rfl (lv_at hl 1 rfl) ?_
    refine lv_iload_n hx hb dX1_entry_13 rfl (lv_at hl 2 rfl) ?_
    refine r_callE (x := bI (rngB 0 (nI ((gLen σ) P)) x2)) (va_runV (As := [.int (nI (P)), .int x2]) (rest := []) ⟨hx, hb, hml, hown, hts⟩ (c_X0_has l D cI q σ P x2 (by omega)) (cwV 2 hts gX1_entry_X0_has rfl rfl rfl kd_X0_has ⟨Nat.le_of_ble_eq_true rfl, Nat.le_of_ble_eq_true rfl⟩) (pV_G1 hP hK hE) rfl rfl hl.1 rfl (lv_room (Nat.le_of_ble_eq_true rfl)) dX1_entry_14 ⟨Nat.le_of_ble_eq_true rfl, Nat.le_of_ble_eq_true rfl⟩) ?_
    refine eqB (rngB 0 (nI ((gLen σ) P)) x2) (tgt := 24) hx hb rfl dX1_entry_17 (by decide) (fun c_3 => ?_) (fun c_3 => ?_)
    · skip
      refine lv_iconst (v := 0) hx hb dX1_entry_24 (by decide) ?_
      refine x_call (vx_runS (As := [.int 0]) (rest := []) ⟨hx, hb, hml, hown, hts⟩ (c_X1_needThere l hf (false)) (va_cwS 1 hts gX1_entry_X1_needThere rfl rfl rfl kn_X1_needThere ⟨Nat.le_of_ble_eq_true rfl, Nat.le_of_ble_eq_true rfl⟩) (pS_E hX) rfl rfl hl.1 rfl (lv_room (Nat.le_of_ble_eq_true rfl)) dX1_entry_25 ⟨Nat.le_of_ble_eq_true rfl, Nat.le_of_ble_eq_true rfl⟩) (fun E9 ce q9 H1 hψ hz9 hk9 hce hcv hcl => ?_) (fun c_4 => ?_)
      · obtain ⟨c_4, rfl⟩ := hψ
        exact OUT _ _ _ _ _ _ _ (by have hs : cEntry σ (nI P) x2 x3 = (1, 0, σ) := (by simp [cEntry, palC, wkC, hrC, lkC, entC, pN, bI_t, bI_f, bI_inj, va_up_self, gHol, gGoo, gDec, gFee, gDeb, gLen, gNum, gPrf, gCop, gMad, gN, gsHol, gsGoo, gsDec, gsFee, gsDeb, gsLen, gsNum, gsPrf, gsCop, gsMad, gsN, nIc6, inB6, c_1, c_3, hcP] <;> decide); rw [hs]; exact ⟨(show (1 : Nat) ≠ 0 by decide), rfl⟩) hz9 hk9 hce hcv hcl
      exact absurd c_4 (by decide)
    · skip
      have hm9 := hlen P
      obtain ⟨E, hE9, rfl⟩ := rngB_pal (n := gLen σ P) (by omega) c_3
      have hcE : (nI E).toNatClampNeg = E := nI_clamp (by omega)
      refine lv_iconst (v := 1) hx hb dX1_entry_20 (by decide) ?_
      refine lv_goto (tgt := 25) hx hb dX1_entry_21 (by decide) ?_
      refine x_call (vx_runS (As := [.int 1]) (rest := []) ⟨hx, hb, hml, hown, hts⟩ (c_X1_needThere l hf (true)) (va_cwS 1 hts gX1_entry_X1_needThere rfl rfl rfl kn_X1_needThere ⟨Nat.le_of_ble_eq_true rfl, Nat.le_of_ble_eq_true rfl⟩) (pS_E hX) rfl rfl hl.1 rfl (lv_room (Nat.le_of_ble_eq_true rfl)) dX1_entry_25 ⟨Nat.le_of_ble_eq_true rfl, Nat.le_of_ble_eq_true rfl⟩) (fun E9 ce q9 H1 hψ hz9 hk9 hce hcv hcl => ?_) (fun c_5 => ?_)
      · exact absurd hψ.1 (by decide)
      refine lv_iload_n hx hb dX1_entry_28 rfl (lv_at hl 3 rfl) ?_
      refine lv_iconst (v := 0) hx hb dX1_entry_29 (by decide) ?_
      refine lv_bipush (v := 7) hx hb dX1_entry_30 (by decide) ?_
      refine r_callE (x := bI (inB x3 0 7)) (va_runS (As := [.int x3, .int 0, .int 7]) (rest := []) ⟨hx, hb, hml, hown, hts⟩ (c_X1_isWithin l x3 0 7) (va_cwS 3 hts gX1_entry_X1_isWithin rfl rfl rfl kn_X1_isWithin ⟨Nat.le_of_ble_eq_true rfl, Nat.le_of_ble_eq_true rfl⟩) (pS_T) rfl rfl hl.1 rfl (lv_room (Nat.le_of_ble_eq_true rfl)) dX1_entry_32 ⟨Nat.le_of_ble_eq_true rfl, Nat.le_of_ble_eq_true rfl⟩) ?_
      refine x_call (vx_runS (As := [.int (bI (inB x3 0 7))]) (rest := []) ⟨hx, hb, hml, hown, hts⟩ (c_X1_needRange l hf (inB x3 0 7)) (va_cwS 1 hts gX1_entry_X1_needRange rfl rfl rfl kn_X1_needRange ⟨Nat.le_of_ble_eq_true rfl, Nat.le_of_ble_eq_true rfl⟩) (pS_E hX) rfl rfl hl.1 rfl (lv_room (Nat.le_of_ble_eq_true rfl)) dX1_entry_35 ⟨Nat.le_of_ble_eq_true rfl, Nat.le_of_ble_eq_true rfl⟩) (fun E9 ce q9 H1 hψ hz9 hk9 hce hcv hcl => ?_) (fun c_6 => ?_)
      · obtain ⟨c_6, rfl⟩ := hψ
        exact OUT _ _ _ _ _ _ _ (by have hs : cEntry σ (nI P) (nI E) x3 = (2, 0, σ) := (by simp [cEntry, palC, wkC, hrC, lkC, entC, pN, bI_t, bI_f, bI_inj, va_up_self, gHol, gGoo, gDec, gFee, gDeb, gLen, gNum, gPrf, gCop, gMad, gN, gsHol, gsGoo, gsDec, gsFee, gsDeb, gsLen, gsNum, gsPrf, gsCop, gsMad, gsN, nIc6, inB6, c_1, c_3, c_6, hcP, hcE] <;> decide); rw [hs]; exact ⟨(show (2 : Nat) ≠ 0 by decide), rfl⟩) hz9 hk9 hce hcv hcl
      obtain ⟨W, hW8, hW9, rfl⟩ := inB_nat (lo := 0) (hi := 7) (by decide) (by decide) c_6
      have hcW : (nI W).toNatClampNeg = W := nI_clamp (by omega)
      refine lv_iload_n hx hb dX1_entry_38 rfl (lv_at hl 3 rfl) ?_
      refine lv_bipush (v := 6) hx hb dX1_entry_39 (by decide) ?_
      refine geN W 6 (tgt := 55) hx hb rfl rfl (by omega) (by omega) dX1_entry_41 (by decide) (fun c_7 => ?_) (fun c_7 => ?_)
      · skip
        refine lv_iload_n hx hb dX1_entry_55 rfl (lv_at hl 3 rfl) ?_
        refine lv_bipush (v := 6) hx hb dX1_entry_56 (by decide) ?_
        refine neN W 6 (tgt := 73) hx hb rfl rfl (by omega) (by omega) dX1_entry_58 (by decide) (fun c_8 => ?_) (fun c_8 => ?_)
        · skip
          refine lv_aload_n hx hb dX1_entry_73 rfl (lv_at hl 0 rfl) ?_
          refine gf_1_0 hx hb hts hiX1 hown hK hP hf10 dX1_entry_74 ?_
          refine lv_iload_n hx hb dX1_entry_77 rfl (lv_at hl 1 rfl) ?_
          refine lv_iload_n hx hb dX1_entry_78 rfl (lv_at hl 2 rfl) ?_
          refine r_callE (x := ((gCop σ) (P * 30 + E))) (va_runV (As := [.int (nI (P)), .int (nI (E))]) (rest := []) ⟨hx, hb, hml, hown, hts⟩ (c_X0_copies l D cI q σ P E (by omega) (by omega)) (cwV 2 hts gX1_entry_X0_copies rfl rfl rfl kd_X0_copies ⟨Nat.le_of_ble_eq_true rfl, Nat.le_of_ble_eq_true rfl⟩) (pV_G1 hP hK hE) rfl rfl hl.1 rfl (lv_room (Nat.le_of_ble_eq_true rfl)) dX1_entry_79 ⟨Nat.le_of_ble_eq_true rfl, Nat.le_of_ble_eq_true rfl⟩) ?_
          exact RET _ _ _ (by have hs : cEntry σ (nI P) (nI E) (nI W) = (0, ((gCop σ) (P * 30 + E)), σ) := (by simp [cEntry, palC, wkC, hrC, lkC, entC, pN, bI_t, bI_f, bI_inj, va_up_self, gHol, gGoo, gDec, gFee, gDeb, gLen, gNum, gPrf, gCop, gMad, gN, gsHol, gsGoo, gsDec, gsFee, gsDeb, gsLen, gsNum, gsPrf, gsCop, gsMad, gsN, nIc6, inB6, c_1, c_3, c_6, c_7, c_8, hcP, hcE, hcW, Nat.not_lt.mpr c_7] <;> decide); rw [hs]; exact ⟨rfl, rfl⟩) dX1_entry_82
        · skip
          refine lv_aload_n hx hb dX1_entry_61 rfl (lv_at hl 0 rfl) ?_
          refine gf_1_0 hx hb hts hiX1 hown hK hP hf10 dX1_entry_62 ?_
          refine lv_iload_n hx hb dX1_entry_65 rfl (lv_at hl 1 rfl) ?_
          refine lv_iload_n hx hb dX1_entry_66 rfl (lv_at hl 2 rfl) ?_
          refine r_callE (x := ((gPrf σ) (P * 30 + E))) (va_runV (As := [.int (nI (P)), .int (nI (E))]) (rest := []) ⟨hx, hb, hml, hown, hts⟩ (c_X0_proof l D cI q σ P E (by omega) (by omega)) (cwV 2 hts gX1_entry_X0_proof rfl rfl rfl kd_X0_proof ⟨Nat.le_of_ble_eq_true rfl, Nat.le_of_ble_eq_true rfl⟩) (pV_G1 hP hK hE) rfl rfl hl.1 rfl (lv_room (Nat.le_of_ble_eq_true rfl)) dX1_entry_67 ⟨Nat.le_of_ble_eq_true rfl, Nat.le_of_ble_eq_true rfl⟩) ?_
          refine lv_goto (tgt := 82) hx hb dX1_entry_70 (by decide) ?_
          exact RET _ _ _ (by have hs : cEntry σ (nI P) (nI E) (nI W) = (0, ((gPrf σ) (P * 30 + E)), σ) := (by simp [cEntry, palC, wkC, hrC, lkC, entC, pN, bI_t, bI_f, bI_inj, va_up_self, gHol, gGoo, gDec, gFee, gDeb, gLen, gNum, gPrf, gCop, gMad, gN, gsHol, gsGoo, gsDec, gsFee, gsDeb, gsLen, gsNum, gsPrf, gsCop, gsMad, gsN, nIc6, inB6, c_1, c_3, c_6, c_7, c_8, hcP, hcE, hcW, Nat.not_lt.mpr c_7] <;> decide); rw [hs]; exact ⟨rfl, rfl⟩) dX1_entry_82
      · skip
        refine lv_aload_n hx hb dX1_entry_44 rfl (lv_at hl 0 rfl) ?_
        refine gf_1_0 hx hb hts hiX1 hown hK hP hf10 dX1_entry_45 ?_
        refine lv_iload_n hx hb dX1_entry_48 rfl (lv_at hl 1 rfl) ?_
        refine lv_iload_n hx hb dX1_entry_49 rfl (lv_at hl 2 rfl) ?_
        refine lv_iload_n hx hb dX1_entry_50 rfl (lv_at hl 3 rfl) ?_
        refine r_callE (x := ((gNum σ) ((P * 30 + E) * 6 + W))) (va_runV (As := [.int (nI (P)), .int (nI (E)), .int (nI (W))]) (rest := []) ⟨hx, hb, hml, hown, hts⟩ (c_X0_number l D cI q σ P E W (by omega) (by omega) (by omega)) (cwV 3 hts gX1_entry_X0_number rfl rfl rfl kd_X0_number ⟨Nat.le_of_ble_eq_true rfl, Nat.le_of_ble_eq_true rfl⟩) (pV_G1 hP hK hE) rfl rfl hl.1 rfl (lv_room (Nat.le_of_ble_eq_true rfl)) dX1_entry_51 ⟨Nat.le_of_ble_eq_true rfl, Nat.le_of_ble_eq_true rfl⟩) ?_
        exact RET _ _ _ (by have hs : cEntry σ (nI P) (nI E) (nI W) = (0, ((gNum σ) ((P * 30 + E) * 6 + W)), σ) := (by simp [cEntry, palC, wkC, hrC, lkC, entC, pN, bI_t, bI_f, bI_inj, va_up_self, gHol, gGoo, gDec, gFee, gDeb, gLen, gNum, gPrf, gCop, gMad, gN, gsHol, gsGoo, gsDec, gsFee, gsDeb, gsLen, gsNum, gsPrf, gsCop, gsMad, gsN, nIc6, inB6, c_1, c_3, c_6, c_7, hcP, hcE, hcW, Nat.not_le.mpr c_7] <;> decide); rw [hs]; exact ⟨rfl, rfl⟩) dX1_entry_54
theorem kn_X1_mismatch : yX1_mismatch.cls ≠ "java/lang/invoke/MethodHandle" ∧ yX1_mismatch.cls ≠ "java/lang/invoke/VarHandle" ∧ (parseMethodDescriptor yX1_mismatch.desc).map (fun d => d.parameters.length) = some 1 := by decide +kernel
theorem kd_X1_mismatch : yX1_mismatch.cls = RX1 ∧ yX1_mismatch.cls ≠ "java/lang/invoke/MethodHandle" ∧ yX1_mismatch.cls ≠ "java/lang/invoke/VarHandle" ∧ (parseMethodDescriptor yX1_mismatch.desc).map (fun d => d.parameters.length) = some 1 := by decide +kernel
set_option maxHeartbeats 4000000 in
set_option maxRecDepth 100000 in
theorem c_X1_mismatch (l : Launch) (hf : l.stackTraces = false) (D : va_G) (cI : ClassId) (q : Nat → Nat) (σ : SG) (hq : ijQ 12 q) (x1 : Int32) (ok : okG σ) (hz : ∀ P, gN σ ≤ P → gLen σ P = 0) : vx_Met l yX1_mismatch wsX1_mismatch ({ frames := 7, cells := 1, slots := 6, locals := 144 }) (va_Pc [.ref (q 0), .int x1] (PX D cI q σ)) (rX (fun r => (cMismatch σ x1).1 = 0 ∧ r = (cMismatch σ x1).2.1)) (xQ (fun E => (cMismatch σ x1).1 ≠ 0 ∧ E = exN (cMismatch σ x1).1)) 1 6 noF := by
  refine openXR (cc := cX1_mismatch) (maxL := 4) (by decide) rfl (Nat.le_of_ble_eq_true rfl) ?_
  intro p e s m args below meth c hx hb hml hts hown hpre Q RET OUT ls hl
  have hown : s.vm.findClass RX1 = some m.cls := hown
  have hl : lv_has ls 4 [(0, .ref (q 0)), (1, .int x1)] := hl
  obtain ⟨⟨hP, hK, hE⟩, hX⟩ := hpre
  have hS : va_S (adQ 12 q) s.heap s.heap [] := va_S.rf
  have hiX1 : ∀ w ∈ wsX10, w ∈ wsX1_mismatch := by decide +kernel
  have hf23 := hts (.fieldLink RX1 23 "PalletGram" "declared" "[I") (by decide +kernel)
  have hn : gN σ ≤ 14 := ok.1
  have hhol : ∀ P, gHol σ P < 6 := ok.2.1
  have hlen : ∀ P, gLen σ P ≤ 30 := ok.2.2
  refine lv_iload_n hx hb dX1_mismatch_0 rfl (lv_at hl 1 rfl) ?_
  refine r_callE (x := bI (rngB 4 6 x1)) (va_runS (As := [.int x1]) (rest := []) ⟨hx, hb, hml, hown, hts⟩ (c_X1_isTruck l x1) (va_cwS 1 hts gX1_mismatch_X1_isTruck rfl rfl rfl kn_X1_isTruck ⟨Nat.le_of_ble_eq_true rfl, Nat.le_of_ble_eq_true rfl⟩) (pS_T) rfl rfl hl.1 rfl (lv_room (Nat.le_of_ble_eq_true rfl)) dX1_mismatch_1 ⟨Nat.le_of_ble_eq_true rfl, Nat.le_of_ble_eq_true rfl⟩) ?_
  refine x_call (vx_runS (As := [.int (bI (rngB 4 6 x1))]) (rest := []) ⟨hx, hb, hml, hown, hts⟩ (c_X1_needThere l hf (rngB 4 6 x1)) (va_cwS 1 hts gX1_mismatch_X1_needThere rfl rfl rfl kn_X1_needThere ⟨Nat.le_of_ble_eq_true rfl, Nat.le_of_ble_eq_true rfl⟩) (pS_E hX) rfl rfl hl.1 rfl (lv_room (Nat.le_of_ble_eq_true rfl)) dX1_mismatch_4 ⟨Nat.le_of_ble_eq_true rfl, Nat.le_of_ble_eq_true rfl⟩) (fun E9 ce q9 H1 hψ hz9 hk9 hce hcv hcl => ?_) (fun c_1 => ?_)
  · obtain ⟨c_1, rfl⟩ := hψ
    exact OUT _ _ _ _ _ _ _ (by have hs : cMismatch σ x1 = (1, 0, σ) := (by simp [cMismatch, palC, wkC, hrC, lkC, entC, pN, bI_t, bI_f, bI_inj, va_up_self, gHol, gGoo, gDec, gFee, gDeb, gLen, gNum, gPrf, gCop, gMad, gN, gsHol, gsGoo, gsDec, gsFee, gsDeb, gsLen, gsNum, gsPrf, gsCop, gsMad, gsN, c_1] <;> decide); rw [hs]; exact ⟨(show (1 : Nat) ≠ 0 by decide), rfl⟩) hz9 hk9 hce hcv hcl
  obtain ⟨P, hP8, hP9, rfl⟩ := rngB_nat (lo := 4) (hi := 6) (by decide) (by decide) c_1
  have hcP : (nI P).toNatClampNeg = P := nI_clamp (by omega)
  refine lv_iconst (v := 0) hx hb dX1_mismatch_7 (by decide) ?_
  refine lv_istore_n (lv' := [(2, .int 0), (0, .ref (q 0)), (1, .int (nI (P)))]) hx hb dX1_mismatch_8 rfl hl (by decide) rfl (fun ls hl => ?_)
  refine lv_iconst (v := 0) hx hb dX1_mismatch_9 (by decide) ?_
  refine lv_istore_n (lv' := [(3, .int 0), (2, .int 0), (0, .ref (q 0)), (1, .int (nI (P)))]) hx hb dX1_mismatch_10 rfl hl (by decide) rfl (fun ls hl => ?_)
  refine loopW (N := 6) (k0 := 0) (fun k ls => lv_has ls 4 [(0, .ref (q 0)), (1, .int (nI (P))), (2, .int ((cmS (gN σ) (gHol σ) (gLen σ) (gNum σ) (gDec σ) P k))), (3, .int (nI (k)))]) (Nat.zero_le _) (lv_sub hl [2, 3, 1, 0] rfl) (fun k ls hk_k hI ih_k => ?_)
  have hl := hI
  refine lv_iload_n hx hb dX1_mismatch_11 rfl (lv_at hl 3 rfl) ?_
  refine lv_bipush (v := 6) hx hb dX1_mismatch_12 (by decide) ?_
  refine geN k 6 (tgt := 49) hx hb rfl rfl (by omega) (by omega) dX1_mismatch_14 (by decide) (fun c_2 => ?_) (fun c_2 => ?_)
  · skip
    have h9 : k = 6 := by omega
    subst k
    refine lv_iload_n hx hb dX1_mismatch_49 rfl (lv_at hl 2 rfl) ?_
    exact RET _ _ _ (by have hs : cMismatch σ (nI P) = (0, (cmS (gN σ) (gHol σ) (gLen σ) (gNum σ) (gDec σ) P 6), σ) := (by simp [cMismatch, palC, wkC, hrC, lkC, entC, pN, bI_t, bI_f, bI_inj, va_up_self, gHol, gGoo, gDec, gFee, gDeb, gLen, gNum, gPrf, gCop, gMad, gN, gsHol, gsGoo, gsDec, gsFee, gsDeb, gsLen, gsNum, gsPrf, gsCop, gsMad, gsN, c_1, c_2, hcP, Nat.not_lt.mpr c_2] <;> decide); rw [hs]; exact ⟨rfl, rfl⟩) dX1_mismatch_50
  · skip
    refine lv_iload_n hx hb dX1_mismatch_17 rfl (lv_at hl 2 rfl) ?_
    refine lv_aload_n hx hb dX1_mismatch_18 rfl (lv_at hl 0 rfl) ?_
    refine gf_1_3 hx hb hts hiX1 hown hK hP hf23 dX1_mismatch_19 ?_
    refine lv_iload_n hx hb dX1_mismatch_22 rfl (lv_at hl 1 rfl) ?_
    refine lv_iconst (v := 4) hx hb dX1_mismatch_23 (by decide) ?_
    refine subN P 4 hx hb rfl rfl (by omega) dX1_mismatch_24 ?_
    refine lv_bipush (v := 6) hx hb dX1_mismatch_25 (by decide) ?_
    refine mulN (P - 4) 6 hx hb rfl rfl dX1_mismatch_27 ?_
    refine lv_iload_n hx hb dX1_mismatch_28 rfl (lv_at hl 3 rfl) ?_
    refine addN ((P - 4) * 6) k hx hb rfl rfl dX1_mismatch_29 ?_
    refine gld_4 (k := (P - 4) * 6 + k) (v := ((gDec σ)) ((P - 4) * 6 + k)) hx hb hK hP rfl (by omega) rfl dX1_mismatch_30 ?_
    refine lv_aload_n hx hb dX1_mismatch_31 rfl (lv_at hl 0 rfl) ?_
    refine lv_iload_n hx hb dX1_mismatch_32 rfl (lv_at hl 1 rfl) ?_
    refine lv_iload_n hx hb dX1_mismatch_33 rfl (lv_at hl 3 rfl) ?_
    refine r_callE (x := (ttS (gN σ) (gHol σ) (gLen σ) (gNum σ) P (nI (k)) (gN σ))) (va_runV (As := [.int (nI (P)), .int (nI (k))]) (rest := [.int ((((gDec σ)) ((P - 4) * 6 + k))), .int ((cmS (gN σ) (gHol σ) (gLen σ) (gNum σ) (gDec σ) P k))]) ⟨hx, hb, hml, hown, hts⟩ (c_X1_toldOfTruck l D cI q σ P (nI (k)) (by omega) ⟨hn, hhol, hlen⟩) (cwV 2 hts gX1_mismatch_X1_toldOfTruck rfl rfl rfl kd_X1_toldOfTruck ⟨Nat.le_of_ble_eq_true rfl, Nat.le_of_ble_eq_true rfl⟩) (pV_G0 hP hK hE) rfl rfl hl.1 rfl (lv_room (Nat.le_of_ble_eq_true rfl)) dX1_mismatch_34 ⟨Nat.le_of_ble_eq_true rfl, Nat.le_of_ble_eq_true rfl⟩) ?_
    refine lv_isub hx hb dX1_mismatch_37 ?_
    refine va_mabs hx hb (hml.trans hl.1.symm) hown (hts (.methodLink RX1 147 Lib.Math.abs.name) (by decide +kernel)) (hts (.static Lib.Math.abs.name) (by decide +kernel)) (hts (.initialized "java/lang/Math") (by decide +kernel)) (hts (.code Lib.Math.abs.name Lib.Math.abs.code 1 (some .int)) (by decide +kernel)) (Nat.le_of_ble_eq_true rfl) (Nat.le_of_ble_eq_true rfl) (Nat.le_of_ble_eq_true rfl) (Nat.le_of_ble_eq_true rfl) dX1_mismatch_38 ?_
    refine lv_topE (y := (absI ((((gDec σ)) ((P - 4) * 6 + k)) - (ttS (gN σ) (gHol σ) (gLen σ) (gNum σ) P (nI (k)) (gN σ))))) abs_eq ?_
    refine lv_iadd hx hb dX1_mismatch_41 ?_
    refine lv_istore_n (lv' := [(2, .int (((cmS (gN σ) (gHol σ) (gLen σ) (gNum σ) (gDec σ) P k) + (absI ((((gDec σ)) ((P - 4) * 6 + k)) - (ttS (gN σ) (gHol σ) (gLen σ) (gNum σ) P (nI (k)) (gN σ))))))), (0, .ref (q 0)), (1, .int (nI (P))), (3, .int (nI (k)))]) hx hb dX1_mismatch_42 rfl hl (by decide) rfl (fun ls hl => ?_)
    refine lv_iinc (v := nI (k + 1)) (lv' := [(3, .int (nI (k + 1))), (2, .int (((cmS (gN σ) (gHol σ) (gLen σ) (gNum σ) (gDec σ) P k) + (absI ((((gDec σ)) ((P - 4) * 6 + k)) - (ttS (gN σ) (gHol σ) (gLen σ) (gNum σ) P (nI (k)) (gN σ))))))), (0, .ref (q 0)), (1, .int (nI (P)))]) hx hb dX1_mismatch_43 hl (k := 3) rfl (iincN (k)) (by decide) rfl (fun ls hl => ?_)
    refine lv_goto (tgt := 11) hx hb dX1_mismatch_46 (by decide) ?_
    exact ih_k (by omega) _ (lv_sub hl [2, 3, 1, 0] rfl)
