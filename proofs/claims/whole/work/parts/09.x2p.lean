theorem kn_X2_broken : yX2_broken.cls ≠ "java/lang/invoke/MethodHandle" ∧ yX2_broken.cls ≠ "java/lang/invoke/VarHandle" ∧ (parseMethodDescriptor yX2_broken.desc).map (fun d => d.parameters.length) = some 1 := by decide +kernel
theorem kd_X2_broken : yX2_broken.cls = RX2 ∧ yX2_broken.cls ≠ "java/lang/invoke/MethodHandle" ∧ yX2_broken.cls ≠ "java/lang/invoke/VarHandle" ∧ (parseMethodDescriptor yX2_broken.desc).map (fun d => d.parameters.length) = some 1 := by decide +kernel
set_option maxHeartbeats 4000000 in
set_option maxRecDepth 100000 in
theorem c_X2_broken (l : Launch) (D : va_G) (cI cZ : ClassId) (q : Nat → Nat) (σ : SM) (hq : ijQ 20 q) (x1 : Int32) (ok : okM σ) (hoth : othM σ) : Met l yX2_broken wsX2_broken ({ frames := 3, cells := 0, slots := 0, locals := 68 }) (va_Pc [.ref (q 0), .int x1] (PM D cI cZ q σ)) (wQ (adQ 20 q) (fun v H1 => v = some (.int (mBroken σ x1).1) ∧ va_P D vwCl (wM cI cZ q (mBroken σ x1).2) H1)) 0 0 (adQ 20 q) := by
  refine openW (cc := cX2_broken) (maxL := 2) (by decide) rfl (Nat.le_of_ble_eq_true rfl) ?_
  intro p e s m args below meth c hx hb hml hts hown hpre Q RET ls hl
  have hown : s.vm.findClass RX2 = some m.cls := hown
  have hl : lv_has ls 2 [(0, .ref (q 0)), (1, .int x1)] := hl
  obtain ⟨hP, hK⟩ := hpre
  have hS : va_S (adQ 20 q) s.heap s.heap [] := va_S.rf
  have hn : mN σ ≤ 14 := ok.1
  have hhol : ∀ P, mHol σ P < 6 := ok.2.1
  have hman : ∀ P, mMan σ P ≤ 30 := ok.2.2.1
  have hgor := ok.2.2.2.1
  have hwen := ok.2.2.2.2
  refine lv_aload_n hx hb dX2_broken_0 rfl (lv_at hl 0 rfl) ?_
  refine lv_aload_n hx hb dX2_broken_1 rfl (lv_at hl 0 rfl) ?_
  refine lv_iload_n hx hb dX2_broken_2 rfl (lv_at hl 1 rfl) ?_
  refine r_callE (x := bI (inB x1 0 (nI (mN σ) - 1))) (va_runV (As := [.int x1]) (rest := [.ref (q 0)]) ⟨hx, hb, hml, hown, hts⟩ (c_X2_isPallet l D cI cZ q σ x1) (cwV 1 hts gX2_broken_X2_isPallet rfl rfl rfl kd_X2_isPallet ⟨Nat.le_of_ble_eq_true rfl, Nat.le_of_ble_eq_true rfl⟩) (pV_M hP hK) rfl rfl hl.1 rfl (lv_room (Nat.le_of_ble_eq_true rfl)) dX2_broken_3 ⟨Nat.le_of_ble_eq_true rfl, Nat.le_of_ble_eq_true rfl⟩) ?_
  refine eqB (inB x1 0 (nI (mN σ) - 1)) (tgt := 13) hx hb rfl dX2_broken_6 (by decide) (fun c_1 => ?_) (fun c_1 => ?_)
  · skip
    refine lv_iconst (v := 1) hx hb dX2_broken_13 (by decide) ?_
    refine w_call (va_runV (As := [.int 1]) (rest := []) ⟨hx, hb, hml, hown, hts⟩ (c_X2_holds l D cI cZ q σ hq 1) (cwV 1 hts gX2_broken_X2_holds rfl rfl rfl kd_X2_holds ⟨Nat.le_of_ble_eq_true rfl, Nat.le_of_ble_eq_true rfl⟩) (pV_M hP hK) rfl rfl hl.1 rfl (lv_room (Nat.le_of_ble_eq_true rfl)) dX2_broken_14 ⟨Nat.le_of_ble_eq_true rfl, Nat.le_of_ble_eq_true rfl⟩) hS (fun _ h => h) (fun v_2 H locs hv_2 _ _ hS => ?_)
    obtain ⟨rfl, hP⟩ := hv_2
    refine eqB false (tgt := 28) hx hb rfl dX2_broken_17 (by decide) (fun c_3 => ?_) (fun c_3 => ?_)
    rotate_left
    · exact absurd c_3 (by decide)
    refine lv_iconst (v := 0) hx hb dX2_broken_28 (by decide) ?_
    exact RET _ _ _ _ _ (by have hs : mBroken σ x1 = (0, (msThr σ 1)) := (by simp [mBroken, palM, pN, thr_1, thr_2, thr_3, thr_4, thr_5, thr_6, thr_7, thr_8, c_1]); rw [hs]; exact ⟨rfl, hP⟩) hS dX2_broken_29
  · skip
    obtain ⟨P, hP9, rfl⟩ := inB_pal (by omega) c_1
    have hcP : (nI P).toNatClampNeg = P := nI_clamp (by omega)
    refine lv_iconst (v := 0) hx hb dX2_broken_9 (by decide) ?_
    refine lv_goto (tgt := 14) hx hb dX2_broken_10 (by decide) ?_
    refine w_call (va_runV (As := [.int 0]) (rest := []) ⟨hx, hb, hml, hown, hts⟩ (c_X2_holds l D cI cZ q σ hq 0) (cwV 1 hts gX2_broken_X2_holds rfl rfl rfl kd_X2_holds ⟨Nat.le_of_ble_eq_true rfl, Nat.le_of_ble_eq_true rfl⟩) (pV_M hP hK) rfl rfl hl.1 rfl (lv_room (Nat.le_of_ble_eq_true rfl)) dX2_broken_14 ⟨Nat.le_of_ble_eq_true rfl, Nat.le_of_ble_eq_true rfl⟩) hS (fun _ h => h) (fun v_4 H locs hv_4 _ _ hS => ?_)
    obtain ⟨rfl, hP⟩ := hv_4
    refine eqB true (tgt := 28) hx hb rfl dX2_broken_17 (by decide) (fun c_5 => ?_) (fun c_5 => ?_)
    · exact absurd c_5 (by decide)
    refine lv_aload_n hx hb dX2_broken_20 rfl (lv_at hl 0 rfl) ?_
    refine lv_iload_n hx hb dX2_broken_21 rfl (lv_at hl 1 rfl) ?_
    refine r_callE (x := (mfF (msThr σ 0) P)) (va_runV (As := [.int (nI (P))]) (rest := []) ⟨hx, hb, hml, hown, hts⟩ (c_X2_firstBroken l D cI cZ q (msThr σ 0) P (by omega) hman) (cwV 1 hts gX2_broken_X2_firstBroken rfl rfl rfl kd_X2_firstBroken ⟨Nat.le_of_ble_eq_true rfl, Nat.le_of_ble_eq_true rfl⟩) (pV_M hP hK) rfl rfl hl.1 rfl (lv_room (Nat.le_of_ble_eq_true rfl)) dX2_broken_22 ⟨Nat.le_of_ble_eq_true rfl, Nat.le_of_ble_eq_true rfl⟩) ?_
    refine lv_goto (tgt := 29) hx hb dX2_broken_25 (by decide) ?_
    exact RET _ _ _ _ _ (by have hs : mBroken σ (nI P) = ((mfF (msThr σ 0) P), (msThr σ 0)) := (by simp [mBroken, palM, pN, thr_1, thr_2, thr_3, thr_4, thr_5, thr_6, thr_7, thr_8, c_1, hcP]); rw [hs]; exact ⟨rfl, hP⟩) hS dX2_broken_29
theorem kn_X2_isSound : yX2_isSound.cls ≠ "java/lang/invoke/MethodHandle" ∧ yX2_isSound.cls ≠ "java/lang/invoke/VarHandle" ∧ (parseMethodDescriptor yX2_isSound.desc).map (fun d => d.parameters.length) = some 1 := by decide +kernel
theorem kd_X2_isSound : yX2_isSound.cls = RX2 ∧ yX2_isSound.cls ≠ "java/lang/invoke/MethodHandle" ∧ yX2_isSound.cls ≠ "java/lang/invoke/VarHandle" ∧ (parseMethodDescriptor yX2_isSound.desc).map (fun d => d.parameters.length) = some 1 := by decide +kernel
set_option maxHeartbeats 4000000 in
set_option maxRecDepth 100000 in
theorem c_X2_isSound (l : Launch) (D : va_G) (cI cZ : ClassId) (q : Nat → Nat) (σ : SM) (hq : ijQ 20 q) (x1 : Int32) (ok : okM σ) (hoth : othM σ) : Met l yX2_isSound wsX2_isSound ({ frames := 4, cells := 0, slots := 0, locals := 93 }) (va_Pc [.ref (q 0), .int x1] (PM D cI cZ q σ)) (wQ (adQ 20 q) (fun v H1 => v = some (.int (bI (mSound σ x1).1)) ∧ va_P D vwCl (wM cI cZ q (mSound σ x1).2) H1)) 0 0 (adQ 20 q) := by
  refine openY (cc := cX2_isSound) (maxL := 2) (by decide) rfl (Nat.le_of_ble_eq_true rfl) ?_
  intro p e s m args below meth c hx hb hml hts hown hpre Q RET ls hl
  have hown : s.vm.findClass RX2 = some m.cls := hown
  have hl : lv_has ls 2 [(0, .ref (q 0)), (1, .int x1)] := hl
  obtain ⟨hP, hK⟩ := hpre
  have hS : va_S (adQ 20 q) s.heap s.heap [] := va_S.rf
  have hn : mN σ ≤ 14 := ok.1
  have hhol : ∀ P, mHol σ P < 6 := ok.2.1
  have hman : ∀ P, mMan σ P ≤ 30 := ok.2.2.1
  have hgor := ok.2.2.2.1
  have hwen := ok.2.2.2.2
  refine lv_aload_n hx hb dX2_isSound_0 rfl (lv_at hl 0 rfl) ?_
  refine lv_aload_n hx hb dX2_isSound_1 rfl (lv_at hl 0 rfl) ?_
  refine lv_iload_n hx hb dX2_isSound_2 rfl (lv_at hl 1 rfl) ?_
  refine r_callE (x := bI (inB x1 0 (nI (mN σ) - 1))) (va_runV (As := [.int x1]) (rest := [.ref (q 0)]) ⟨hx, hb, hml, hown, hts⟩ (c_X2_isPallet l D cI cZ q σ x1) (cwV 1 hts gX2_isSound_X2_isPallet rfl rfl rfl kd_X2_isPallet ⟨Nat.le_of_ble_eq_true rfl, Nat.le_of_ble_eq_true rfl⟩) (pV_M hP hK) rfl rfl hl.1 rfl (lv_room (Nat.le_of_ble_eq_true rfl)) dX2_isSound_3 ⟨Nat.le_of_ble_eq_true rfl, Nat.le_of_ble_eq_true rfl⟩) ?_
  refine eqB (inB x1 0 (nI (mN σ) - 1)) (tgt := 13) hx hb rfl dX2_isSound_6 (by decide) (fun c_1 => ?_) (fun c_1 => ?_)
  · skip
    refine lv_iconst (v := 1) hx hb dX2_isSound_13 (by decide) ?_
    refine w_call (va_runV (As := [.int 1]) (rest := []) ⟨hx, hb, hml, hown, hts⟩ (c_X2_holds l D cI cZ q σ hq 1) (cwV 1 hts gX2_isSound_X2_holds rfl rfl rfl kd_X2_holds ⟨Nat.le_of_ble_eq_true rfl, Nat.le_of_ble_eq_true rfl⟩) (pV_M hP hK) rfl rfl hl.1 rfl (lv_room (Nat.le_of_ble_eq_true rfl)) dX2_isSound_14 ⟨Nat.le_of_ble_eq_true rfl, Nat.le_of_ble_eq_true rfl⟩) hS (fun _ h => h) (fun v_2 H locs hv_2 _ _ hS => ?_)
    obtain ⟨rfl, hP⟩ := hv_2
    refine eqB false (tgt := 32) hx hb rfl dX2_isSound_17 (by decide) (fun c_3 => ?_) (fun c_3 => ?_)
    rotate_left
    · exact absurd c_3 (by decide)
    refine lv_iconst (v := 0) hx hb dX2_isSound_32 (by decide) ?_
    exact RET (false) _ _ _ _ (by have hs : mSound σ x1 = (false, (msThr σ 1)) := (by simp [mSound, palM, pN, thr_1, thr_2, thr_3, thr_4, thr_5, thr_6, thr_7, thr_8, c_1]); rw [hs]; exact ⟨rfl, hP⟩) hS dX2_isSound_33
  · skip
    obtain ⟨P, hP9, rfl⟩ := inB_pal (by omega) c_1
    have hcP : (nI P).toNatClampNeg = P := nI_clamp (by omega)
    refine lv_iconst (v := 0) hx hb dX2_isSound_9 (by decide) ?_
    refine lv_goto (tgt := 14) hx hb dX2_isSound_10 (by decide) ?_
    refine w_call (va_runV (As := [.int 0]) (rest := []) ⟨hx, hb, hml, hown, hts⟩ (c_X2_holds l D cI cZ q σ hq 0) (cwV 1 hts gX2_isSound_X2_holds rfl rfl rfl kd_X2_holds ⟨Nat.le_of_ble_eq_true rfl, Nat.le_of_ble_eq_true rfl⟩) (pV_M hP hK) rfl rfl hl.1 rfl (lv_room (Nat.le_of_ble_eq_true rfl)) dX2_isSound_14 ⟨Nat.le_of_ble_eq_true rfl, Nat.le_of_ble_eq_true rfl⟩) hS (fun _ h => h) (fun v_4 H locs hv_4 _ _ hS => ?_)
    obtain ⟨rfl, hP⟩ := hv_4
    refine eqB true (tgt := 32) hx hb rfl dX2_isSound_17 (by decide) (fun c_5 => ?_) (fun c_5 => ?_)
    · exact absurd c_5 (by decide)
    refine lv_aload_n hx hb dX2_isSound_20 rfl (lv_at hl 0 rfl) ?_
    refine lv_iload_n hx hb dX2_isSound_21 rfl (lv_at hl 1 rfl) ?_
    refine r_callE (x := bI (msF (msThr σ 0) P)) (va_runV (As := [.int (nI (P))]) (rest := []) ⟨hx, hb, hml, hown, hts⟩ (c_X2_sound l D cI cZ q (msThr σ 0) P (by omega) hman hoth) (cwV 1 hts gX2_isSound_X2_sound rfl rfl rfl kd_X2_sound ⟨Nat.le_of_ble_eq_true rfl, Nat.le_of_ble_eq_true rfl⟩) (pV_M hP hK) rfl rfl hl.1 rfl (lv_room (Nat.le_of_ble_eq_true rfl)) dX2_isSound_22 ⟨Nat.le_of_ble_eq_true rfl, Nat.le_of_ble_eq_true rfl⟩) ?_
    refine eqB (msF (msThr σ 0) P) (tgt := 32) hx hb rfl dX2_isSound_25 (by decide) (fun c_6 => ?_) (fun c_6 => ?_)
    · skip
      refine lv_iconst (v := 0) hx hb dX2_isSound_32 (by decide) ?_
      exact RET (false) _ _ _ _ (by have hs : mSound σ (nI P) = (false, (msThr σ 0)) := (by simp [mSound, palM, pN, thr_1, thr_2, thr_3, thr_4, thr_5, thr_6, thr_7, thr_8, c_1, c_6, hcP]); rw [hs]; exact ⟨rfl, hP⟩) hS dX2_isSound_33
    · skip
      refine lv_iconst (v := 1) hx hb dX2_isSound_28 (by decide) ?_
      refine lv_goto (tgt := 33) hx hb dX2_isSound_29 (by decide) ?_
      exact RET (true) _ _ _ _ (by have hs : mSound σ (nI P) = (true, (msThr σ 0)) := (by simp [mSound, palM, pN, thr_1, thr_2, thr_3, thr_4, thr_5, thr_6, thr_7, thr_8, c_1, c_6, hcP]); rw [hs]; exact ⟨rfl, hP⟩) hS dX2_isSound_33
theorem kn_X2_contents : yX2_contents.cls ≠ "java/lang/invoke/MethodHandle" ∧ yX2_contents.cls ≠ "java/lang/invoke/VarHandle" ∧ (parseMethodDescriptor yX2_contents.desc).map (fun d => d.parameters.length) = some 2 := by decide +kernel
theorem kd_X2_contents : yX2_contents.cls = RX2 ∧ yX2_contents.cls ≠ "java/lang/invoke/MethodHandle" ∧ yX2_contents.cls ≠ "java/lang/invoke/VarHandle" ∧ (parseMethodDescriptor yX2_contents.desc).map (fun d => d.parameters.length) = some 2 := by decide +kernel
set_option maxHeartbeats 4000000 in
set_option maxRecDepth 100000 in
theorem c_X2_contents (l : Launch) (D : va_G) (cI cZ : ClassId) (q : Nat → Nat) (σ : SM) (hq : ijQ 20 q) (x1 x2 : Int32) (ok : okM σ) (hoth : othM σ) : Met l yX2_contents wsX2_contents ({ frames := 2, cells := 0, slots := 0, locals := 43 }) (va_Pc [.ref (q 0), .int x1, .int x2] (PM D cI cZ q σ)) (wQ (adQ 20 q) (fun v H1 => v = some (.int (mContents σ x1 x2).1) ∧ va_P D vwCl (wM cI cZ q (mContents σ x1 x2).2) H1)) 0 0 (adQ 20 q) := by
  refine openW (cc := cX2_contents) (maxL := 3) (by decide) rfl (Nat.le_of_ble_eq_true rfl) ?_
  intro p e s m args below meth c hx hb hml hts hown hpre Q RET ls hl
  have hown : s.vm.findClass RX2 = some m.cls := hown
  have hl : lv_has ls 3 [(0, .ref (q 0)), (1, .int x1), (2, .int x2)] := hl
  obtain ⟨hP, hK⟩ := hpre
  have hS : va_S (adQ 20 q) s.heap s.heap [] := va_S.rf
  have hiX2 : ∀ w ∈ wsX20, w ∈ wsX2_contents := by decide +kernel
  have hf13 := hts (.fieldLink RX2 13 "PalletGramModel" "goods" "[I") (by decide +kernel)
  have hn : mN σ ≤ 14 := ok.1
  have hhol : ∀ P, mHol σ P < 6 := ok.2.1
  have hman : ∀ P, mMan σ P ≤ 30 := ok.2.2.1
  have hgor := ok.2.2.2.1
  have hwen := ok.2.2.2.2
  refine lv_aload_n hx hb dX2_contents_0 rfl (lv_at hl 0 rfl) ?_
  refine lv_aload_n hx hb dX2_contents_1 rfl (lv_at hl 0 rfl) ?_
  refine lv_iload_n hx hb dX2_contents_2 rfl (lv_at hl 1 rfl) ?_
  refine r_callE (x := bI (inB x1 0 (nI (mN σ) - 1))) (va_runV (As := [.int x1]) (rest := [.ref (q 0)]) ⟨hx, hb, hml, hown, hts⟩ (c_X2_isPallet l D cI cZ q σ x1) (cwV 1 hts gX2_contents_X2_isPallet rfl rfl rfl kd_X2_isPallet ⟨Nat.le_of_ble_eq_true rfl, Nat.le_of_ble_eq_true rfl⟩) (pV_M hP hK) rfl rfl hl.1 rfl (lv_room (Nat.le_of_ble_eq_true rfl)) dX2_contents_3 ⟨Nat.le_of_ble_eq_true rfl, Nat.le_of_ble_eq_true rfl⟩) ?_
  refine eqB (inB x1 0 (nI (mN σ) - 1)) (tgt := 20) hx hb rfl dX2_contents_6 (by decide) (fun c_1 => ?_) (fun c_1 => ?_)
  · skip
    refine lv_iconst (v := 1) hx hb dX2_contents_20 (by decide) ?_
    refine w_call (va_runV (As := [.int 1]) (rest := []) ⟨hx, hb, hml, hown, hts⟩ (c_X2_holds l D cI cZ q σ hq 1) (cwV 1 hts gX2_contents_X2_holds rfl rfl rfl kd_X2_holds ⟨Nat.le_of_ble_eq_true rfl, Nat.le_of_ble_eq_true rfl⟩) (pV_M hP hK) rfl rfl hl.1 rfl (lv_room (Nat.le_of_ble_eq_true rfl)) dX2_contents_21 ⟨Nat.le_of_ble_eq_true rfl, Nat.le_of_ble_eq_true rfl⟩) hS (fun _ h => h) (fun v_2 H locs hv_2 _ _ hS => ?_)
    obtain ⟨rfl, hP⟩ := hv_2
    refine eqB false (tgt := 41) hx hb rfl dX2_contents_24 (by decide) (fun c_3 => ?_) (fun c_3 => ?_)
    rotate_left
    · exact absurd c_3 (by decide)
    refine lv_iconst (v := 0) hx hb dX2_contents_41 (by decide) ?_
    exact RET _ _ _ _ _ (by have hs : mContents σ x1 x2 = (0, (msThr σ 1)) := (by simp [mContents, palM, pN, thr_1, thr_2, thr_3, thr_4, thr_5, thr_6, thr_7, thr_8, c_1]); rw [hs]; exact ⟨rfl, hP⟩) hS dX2_contents_42
  · skip
    refine lv_iload_n hx hb dX2_contents_9 rfl (lv_at hl 2 rfl) ?_
    refine r_callE (x := bI (inB x2 0 5)) (va_runS (As := [.int x2]) (rest := [.ref (q 0)]) ⟨hx, hb, hml, hown, hts⟩ (c_X2_isGood l x2) (va_cwS 1 hts gX2_contents_X2_isGood rfl rfl rfl kn_X2_isGood ⟨Nat.le_of_ble_eq_true rfl, Nat.le_of_ble_eq_true rfl⟩) (pS_T) rfl rfl hl.1 rfl (lv_room (Nat.le_of_ble_eq_true rfl)) dX2_contents_10 ⟨Nat.le_of_ble_eq_true rfl, Nat.le_of_ble_eq_true rfl⟩) ?_
    refine eqB (inB x2 0 5) (tgt := 20) hx hb rfl dX2_contents_13 (by decide) (fun c_4 => ?_) (fun c_4 => ?_)
    · skip
      refine lv_iconst (v := 1) hx hb dX2_contents_20 (by decide) ?_
      refine w_call (va_runV (As := [.int 1]) (rest := []) ⟨hx, hb, hml, hown, hts⟩ (c_X2_holds l D cI cZ q σ hq 1) (cwV 1 hts gX2_contents_X2_holds rfl rfl rfl kd_X2_holds ⟨Nat.le_of_ble_eq_true rfl, Nat.le_of_ble_eq_true rfl⟩) (pV_M hP hK) rfl rfl hl.1 rfl (lv_room (Nat.le_of_ble_eq_true rfl)) dX2_contents_21 ⟨Nat.le_of_ble_eq_true rfl, Nat.le_of_ble_eq_true rfl⟩) hS (fun _ h => h) (fun v_5 H locs hv_5 _ _ hS => ?_)
      obtain ⟨rfl, hP⟩ := hv_5
      refine eqB false (tgt := 41) hx hb rfl dX2_contents_24 (by decide) (fun c_6 => ?_) (fun c_6 => ?_)
      rotate_left
      · exact absurd c_6 (by decide)
      refine lv_iconst (v := 0) hx hb dX2_contents_41 (by decide) ?_
      exact RET _ _ _ _ _ (by have hs : mContents σ x1 x2 = (0, (msThr σ 1)) := (by simp [mContents, palM, pN, thr_1, thr_2, thr_3, thr_4, thr_5, thr_6, thr_7, thr_8, c_1, c_4]); rw [hs]; exact ⟨rfl, hP⟩) hS dX2_contents_42
    · skip
      obtain ⟨P, hP9, rfl⟩ := inB_pal (by omega) c_1
      have hcP : (nI P).toNatClampNeg = P := nI_clamp (by omega)
      obtain ⟨G, hG8, hG9, rfl⟩ := inB_nat (lo := 0) (hi := 5) (by decide) (by decide) c_4
      have hcG : (nI G).toNatClampNeg = G := nI_clamp (by omega)
      refine lv_iconst (v := 0) hx hb dX2_contents_16 (by decide) ?_
      refine lv_goto (tgt := 21) hx hb dX2_contents_17 (by decide) ?_
      refine w_call (va_runV (As := [.int 0]) (rest := []) ⟨hx, hb, hml, hown, hts⟩ (c_X2_holds l D cI cZ q σ hq 0) (cwV 1 hts gX2_contents_X2_holds rfl rfl rfl kd_X2_holds ⟨Nat.le_of_ble_eq_true rfl, Nat.le_of_ble_eq_true rfl⟩) (pV_M hP hK) rfl rfl hl.1 rfl (lv_room (Nat.le_of_ble_eq_true rfl)) dX2_contents_21 ⟨Nat.le_of_ble_eq_true rfl, Nat.le_of_ble_eq_true rfl⟩) hS (fun _ h => h) (fun v_7 H locs hv_7 _ _ hS => ?_)
      obtain ⟨rfl, hP⟩ := hv_7
      refine eqB true (tgt := 41) hx hb rfl dX2_contents_24 (by decide) (fun c_8 => ?_) (fun c_8 => ?_)
      · exact absurd c_8 (by decide)
      refine lv_aload_n hx hb dX2_contents_27 rfl (lv_at hl 0 rfl) ?_
      refine gf_2_2 hx hb hts hiX2 hown hK hP hf13 dX2_contents_28 ?_
      refine lv_bipush (v := 6) hx hb dX2_contents_31 (by decide) ?_
      refine lv_iload_n hx hb dX2_contents_33 rfl (lv_at hl 1 rfl) ?_
      refine mulNc 6 P hx hb rfl rfl dX2_contents_34 ?_
      refine lv_iload_n hx hb dX2_contents_35 rfl (lv_at hl 2 rfl) ?_
      refine addN (P * 6) G hx hb rfl rfl dX2_contents_36 ?_
      refine mld_2 (k := P * 6 + G) (v := ((mGoo σ)) (P * 6 + G)) hx hb hK hP rfl (by omega) rfl dX2_contents_37 ?_
      refine lv_goto (tgt := 42) hx hb dX2_contents_38 (by decide) ?_
      exact RET _ _ _ _ _ (by have hs : mContents σ (nI P) (nI G) = ((((mGoo σ)) (P * 6 + G)), (msThr σ 0)) := (by simp [mContents, palM, pN, thr_1, thr_2, thr_3, thr_4, thr_5, thr_6, thr_7, thr_8, c_1, c_4, hcP, hcG]); rw [hs]; exact ⟨rfl, hP⟩) hS dX2_contents_42
theorem kn_X2_contentsAnew : yX2_contentsAnew.cls ≠ "java/lang/invoke/MethodHandle" ∧ yX2_contentsAnew.cls ≠ "java/lang/invoke/VarHandle" ∧ (parseMethodDescriptor yX2_contentsAnew.desc).map (fun d => d.parameters.length) = some 2 := by decide +kernel
theorem kd_X2_contentsAnew : yX2_contentsAnew.cls = RX2 ∧ yX2_contentsAnew.cls ≠ "java/lang/invoke/MethodHandle" ∧ yX2_contentsAnew.cls ≠ "java/lang/invoke/VarHandle" ∧ (parseMethodDescriptor yX2_contentsAnew.desc).map (fun d => d.parameters.length) = some 2 := by decide +kernel
set_option maxHeartbeats 4000000 in
set_option maxRecDepth 100000 in
theorem c_X2_contentsAnew (l : Launch) (D : va_G) (cI cZ : ClassId) (q : Nat → Nat) (σ : SM) (hq : ijQ 20 q) (x1 x2 : Int32) (ok : okM σ) (hoth : othM σ) : Met l yX2_contentsAnew wsX2_contentsAnew ({ frames := 3, cells := 0, slots := 0, locals := 69 }) (va_Pc [.ref (q 0), .int x1, .int x2] (PM D cI cZ q σ)) (wQ (adQ 20 q) (fun v H1 => v = some (.int (mAnew σ x1 x2).1) ∧ va_P D vwCl (wM cI cZ q (mAnew σ x1 x2).2) H1)) 0 0 (adQ 20 q) := by
  refine openW (cc := cX2_contentsAnew) (maxL := 3) (by decide) rfl (Nat.le_of_ble_eq_true rfl) ?_
  intro p e s m args below meth c hx hb hml hts hown hpre Q RET ls hl
  have hown : s.vm.findClass RX2 = some m.cls := hown
  have hl : lv_has ls 3 [(0, .ref (q 0)), (1, .int x1), (2, .int x2)] := hl
  obtain ⟨hP, hK⟩ := hpre
  have hS : va_S (adQ 20 q) s.heap s.heap [] := va_S.rf
  have hn : mN σ ≤ 14 := ok.1
  have hhol : ∀ P, mHol σ P < 6 := ok.2.1
  have hman : ∀ P, mMan σ P ≤ 30 := ok.2.2.1
  have hgor := ok.2.2.2.1
  have hwen := ok.2.2.2.2
  refine lv_aload_n hx hb dX2_contentsAnew_0 rfl (lv_at hl 0 rfl) ?_
  refine lv_aload_n hx hb dX2_contentsAnew_1 rfl (lv_at hl 0 rfl) ?_
  refine lv_iload_n hx hb dX2_contentsAnew_2 rfl (lv_at hl 1 rfl) ?_
  refine r_callE (x := bI (inB x1 0 (nI (mN σ) - 1))) (va_runV (As := [.int x1]) (rest := [.ref (q 0)]) ⟨hx, hb, hml, hown, hts⟩ (c_X2_isPallet l D cI cZ q σ x1) (cwV 1 hts gX2_contentsAnew_X2_isPallet rfl rfl rfl kd_X2_isPallet ⟨Nat.le_of_ble_eq_true rfl, Nat.le_of_ble_eq_true rfl⟩) (pV_M hP hK) rfl rfl hl.1 rfl (lv_room (Nat.le_of_ble_eq_true rfl)) dX2_contentsAnew_3 ⟨Nat.le_of_ble_eq_true rfl, Nat.le_of_ble_eq_true rfl⟩) ?_
  refine eqB (inB x1 0 (nI (mN σ) - 1)) (tgt := 20) hx hb rfl dX2_contentsAnew_6 (by decide) (fun c_1 => ?_) (fun c_1 => ?_)
  · skip
    refine lv_iconst (v := 1) hx hb dX2_contentsAnew_20 (by decide) ?_
    refine w_call (va_runV (As := [.int 1]) (rest := []) ⟨hx, hb, hml, hown, hts⟩ (c_X2_holds l D cI cZ q σ hq 1) (cwV 1 hts gX2_contentsAnew_X2_holds rfl rfl rfl kd_X2_holds ⟨Nat.le_of_ble_eq_true rfl, Nat.le_of_ble_eq_true rfl⟩) (pV_M hP hK) rfl rfl hl.1 rfl (lv_room (Nat.le_of_ble_eq_true rfl)) dX2_contentsAnew_21 ⟨Nat.le_of_ble_eq_true rfl, Nat.le_of_ble_eq_true rfl⟩) hS (fun _ h => h) (fun v_2 H locs hv_2 _ _ hS => ?_)
    obtain ⟨rfl, hP⟩ := hv_2
    refine eqB false (tgt := 36) hx hb rfl dX2_contentsAnew_24 (by decide) (fun c_3 => ?_) (fun c_3 => ?_)
    rotate_left
    · exact absurd c_3 (by decide)
    refine lv_iconst (v := 0) hx hb dX2_contentsAnew_36 (by decide) ?_
    exact RET _ _ _ _ _ (by have hs : mAnew σ x1 x2 = (0, (msThr σ 1)) := (by simp [mAnew, palM, pN, thr_1, thr_2, thr_3, thr_4, thr_5, thr_6, thr_7, thr_8, c_1]); rw [hs]; exact ⟨rfl, hP⟩) hS dX2_contentsAnew_37
  · skip
    refine lv_iload_n hx hb dX2_contentsAnew_9 rfl (lv_at hl 2 rfl) ?_
    refine r_callE (x := bI (inB x2 0 5)) (va_runS (As := [.int x2]) (rest := [.ref (q 0)]) ⟨hx, hb, hml, hown, hts⟩ (c_X2_isGood l x2) (va_cwS 1 hts gX2_contentsAnew_X2_isGood rfl rfl rfl kn_X2_isGood ⟨Nat.le_of_ble_eq_true rfl, Nat.le_of_ble_eq_true rfl⟩) (pS_T) rfl rfl hl.1 rfl (lv_room (Nat.le_of_ble_eq_true rfl)) dX2_contentsAnew_10 ⟨Nat.le_of_ble_eq_true rfl, Nat.le_of_ble_eq_true rfl⟩) ?_
    refine eqB (inB x2 0 5) (tgt := 20) hx hb rfl dX2_contentsAnew_13 (by decide) (fun c_4 => ?_) (fun c_4 => ?_)
    · skip
      refine lv_iconst (v := 1) hx hb dX2_contentsAnew_20 (by decide) ?_
      refine w_call (va_runV (As := [.int 1]) (rest := []) ⟨hx, hb, hml, hown, hts⟩ (c_X2_holds l D cI cZ q σ hq 1) (cwV 1 hts gX2_contentsAnew_X2_holds rfl rfl rfl kd_X2_holds ⟨Nat.le_of_ble_eq_true rfl, Nat.le_of_ble_eq_true rfl⟩) (pV_M hP hK) rfl rfl hl.1 rfl (lv_room (Nat.le_of_ble_eq_true rfl)) dX2_contentsAnew_21 ⟨Nat.le_of_ble_eq_true rfl, Nat.le_of_ble_eq_true rfl⟩) hS (fun _ h => h) (fun v_5 H locs hv_5 _ _ hS => ?_)
      obtain ⟨rfl, hP⟩ := hv_5
      refine eqB false (tgt := 36) hx hb rfl dX2_contentsAnew_24 (by decide) (fun c_6 => ?_) (fun c_6 => ?_)
      rotate_left
      · exact absurd c_6 (by decide)
      refine lv_iconst (v := 0) hx hb dX2_contentsAnew_36 (by decide) ?_
      exact RET _ _ _ _ _ (by have hs : mAnew σ x1 x2 = (0, (msThr σ 1)) := (by simp [mAnew, palM, pN, thr_1, thr_2, thr_3, thr_4, thr_5, thr_6, thr_7, thr_8, c_1, c_4]); rw [hs]; exact ⟨rfl, hP⟩) hS dX2_contentsAnew_37
    · skip
      obtain ⟨P, hP9, rfl⟩ := inB_pal (by omega) c_1
      have hcP : (nI P).toNatClampNeg = P := nI_clamp (by omega)
      obtain ⟨G, hG8, hG9, rfl⟩ := inB_nat (lo := 0) (hi := 5) (by decide) (by decide) c_4
      have hcG : (nI G).toNatClampNeg = G := nI_clamp (by omega)
      refine lv_iconst (v := 0) hx hb dX2_contentsAnew_16 (by decide) ?_
      refine lv_goto (tgt := 21) hx hb dX2_contentsAnew_17 (by decide) ?_
      refine w_call (va_runV (As := [.int 0]) (rest := []) ⟨hx, hb, hml, hown, hts⟩ (c_X2_holds l D cI cZ q σ hq 0) (cwV 1 hts gX2_contentsAnew_X2_holds rfl rfl rfl kd_X2_holds ⟨Nat.le_of_ble_eq_true rfl, Nat.le_of_ble_eq_true rfl⟩) (pV_M hP hK) rfl rfl hl.1 rfl (lv_room (Nat.le_of_ble_eq_true rfl)) dX2_contentsAnew_21 ⟨Nat.le_of_ble_eq_true rfl, Nat.le_of_ble_eq_true rfl⟩) hS (fun _ h => h) (fun v_7 H locs hv_7 _ _ hS => ?_)
      obtain ⟨rfl, hP⟩ := hv_7
      refine eqB true (tgt := 36) hx hb rfl dX2_contentsAnew_24 (by decide) (fun c_8 => ?_) (fun c_8 => ?_)
      · exact absurd c_8 (by decide)
      refine lv_aload_n hx hb dX2_contentsAnew_27 rfl (lv_at hl 0 rfl) ?_
      refine lv_iload_n hx hb dX2_contentsAnew_28 rfl (lv_at hl 1 rfl) ?_
      refine lv_iload_n hx hb dX2_contentsAnew_29 rfl (lv_at hl 2 rfl) ?_
      refine w_call (va_runV (As := [.int (nI (P)), .int (nI (G))]) (rest := []) ⟨hx, hb, hml, hown, hts⟩ (c_X2_anew l D cI cZ q (msThr σ 0) hq P (nI (G)) (by omega) ⟨hn, hhol, hman, hgor, hwen⟩ hoth) (cwV 2 hts gX2_contentsAnew_X2_anew rfl rfl rfl kd_X2_anew ⟨Nat.le_of_ble_eq_true rfl, Nat.le_of_ble_eq_true rfl⟩) (pV_M hP hK) rfl rfl hl.1 rfl (lv_room (Nat.le_of_ble_eq_true rfl)) dX2_contentsAnew_30 ⟨Nat.le_of_ble_eq_true rfl, Nat.le_of_ble_eq_true rfl⟩) hS (fun _ h => h) (fun v_9 H locs hv_9 _ _ hS => ?_)
      obtain ⟨rfl, hP⟩ := hv_9
      refine lv_goto (tgt := 37) hx hb dX2_contentsAnew_33 (by decide) ?_
      exact RET _ _ _ _ _ (by have hs : mAnew σ (nI P) (nI G) = ((anF (msThr σ 0) (mTol σ) P (nI (G))), (msTol (msThr σ 0) (tlF (msThr σ 0) (mTol σ) (nI (G))))) := (by simp [mAnew, palM, pN, thr_1, thr_2, thr_3, thr_4, thr_5, thr_6, thr_7, thr_8, c_1, c_4, hcP, hcG]); rw [hs]; exact ⟨rfl, hP⟩) hS dX2_contentsAnew_37
theorem kn_X2_owed : yX2_owed.cls ≠ "java/lang/invoke/MethodHandle" ∧ yX2_owed.cls ≠ "java/lang/invoke/VarHandle" ∧ (parseMethodDescriptor yX2_owed.desc).map (fun d => d.parameters.length) = some 1 := by decide +kernel
theorem kd_X2_owed : yX2_owed.cls = RX2 ∧ yX2_owed.cls ≠ "java/lang/invoke/MethodHandle" ∧ yX2_owed.cls ≠ "java/lang/invoke/VarHandle" ∧ (parseMethodDescriptor yX2_owed.desc).map (fun d => d.parameters.length) = some 1 := by decide +kernel
set_option maxHeartbeats 4000000 in
set_option maxRecDepth 100000 in
theorem c_X2_owed (l : Launch) (D : va_G) (cI cZ : ClassId) (q : Nat → Nat) (σ : SM) (hq : ijQ 20 q) (x1 : Int32) (ok : okM σ) (hoth : othM σ) : Met l yX2_owed wsX2_owed ({ frames := 1, cells := 0, slots := 0, locals := 22 }) (va_Pc [.ref (q 0), .int x1] (PM D cI cZ q σ)) (wQ (adQ 20 q) (fun v H1 => v = some (.int (mOwed σ x1).1) ∧ va_P D vwCl (wM cI cZ q (mOwed σ x1).2) H1)) 0 0 (adQ 20 q) := by
  refine openW (cc := cX2_owed) (maxL := 2) (by decide) rfl (Nat.le_of_ble_eq_true rfl) ?_
  intro p e s m args below meth c hx hb hml hts hown hpre Q RET ls hl
  have hown : s.vm.findClass RX2 = some m.cls := hown
  have hl : lv_has ls 2 [(0, .ref (q 0)), (1, .int x1)] := hl
  obtain ⟨hP, hK⟩ := hpre
  have hS : va_S (adQ 20 q) s.heap s.heap [] := va_S.rf
  have hiX2 : ∀ w ∈ wsX20, w ∈ wsX2_owed := by decide +kernel
  have hf62 := hts (.fieldLink RX2 62 "PalletGramModel" "owed" "[I") (by decide +kernel)
  have hn : mN σ ≤ 14 := ok.1
  have hhol : ∀ P, mHol σ P < 6 := ok.2.1
  have hman : ∀ P, mMan σ P ≤ 30 := ok.2.2.1
  have hgor := ok.2.2.2.1
  have hwen := ok.2.2.2.2
  refine lv_aload_n hx hb dX2_owed_0 rfl (lv_at hl 0 rfl) ?_
  refine lv_iload_n hx hb dX2_owed_1 rfl (lv_at hl 1 rfl) ?_
  refine lv_iconst (v := 0) hx hb dX2_owed_2 (by decide) ?_
  refine lv_bipush (v := 6) hx hb dX2_owed_3 (by decide) ?_
  refine r_callE (x := bI (inB x1 0 6)) (va_runS (As := [.int x1, .int 0, .int 6]) (rest := [.ref (q 0)]) ⟨hx, hb, hml, hown, hts⟩ (c_X2_isIn l x1 0 6) (va_cwS 3 hts gX2_owed_X2_isIn rfl rfl rfl kn_X2_isIn ⟨Nat.le_of_ble_eq_true rfl, Nat.le_of_ble_eq_true rfl⟩) (pS_T) rfl rfl hl.1 rfl (lv_room (Nat.le_of_ble_eq_true rfl)) dX2_owed_5 ⟨Nat.le_of_ble_eq_true rfl, Nat.le_of_ble_eq_true rfl⟩) ?_
  refine eqB (inB x1 0 6) (tgt := 15) hx hb rfl dX2_owed_8 (by decide) (fun c_1 => ?_) (fun c_1 => ?_)
  · skip
    refine lv_iconst (v := 1) hx hb dX2_owed_15 (by decide) ?_
    refine w_call (va_runV (As := [.int 1]) (rest := []) ⟨hx, hb, hml, hown, hts⟩ (c_X2_holds l D cI cZ q σ hq 1) (cwV 1 hts gX2_owed_X2_holds rfl rfl rfl kd_X2_holds ⟨Nat.le_of_ble_eq_true rfl, Nat.le_of_ble_eq_true rfl⟩) (pV_M hP hK) rfl rfl hl.1 rfl (lv_room (Nat.le_of_ble_eq_true rfl)) dX2_owed_16 ⟨Nat.le_of_ble_eq_true rfl, Nat.le_of_ble_eq_true rfl⟩) hS (fun _ h => h) (fun v_2 H locs hv_2 _ _ hS => ?_)
    obtain ⟨rfl, hP⟩ := hv_2
    refine eqB false (tgt := 31) hx hb rfl dX2_owed_19 (by decide) (fun c_3 => ?_) (fun c_3 => ?_)
    rotate_left
    · exact absurd c_3 (by decide)
    refine lv_iconst (v := 0) hx hb dX2_owed_31 (by decide) ?_
    exact RET _ _ _ _ _ (by have hs : mOwed σ x1 = (0, (msThr σ 1)) := (by simp [mOwed, palM, pN, thr_1, thr_2, thr_3, thr_4, thr_5, thr_6, thr_7, thr_8, c_1]); rw [hs]; exact ⟨rfl, hP⟩) hS dX2_owed_32
  · skip
    obtain ⟨P, hP8, hP9, rfl⟩ := inB_nat (lo := 0) (hi := 6) (by decide) (by decide) c_1
    have hcP : (nI P).toNatClampNeg = P := nI_clamp (by omega)
    refine lv_iconst (v := 0) hx hb dX2_owed_11 (by decide) ?_
    refine lv_goto (tgt := 16) hx hb dX2_owed_12 (by decide) ?_
    refine w_call (va_runV (As := [.int 0]) (rest := []) ⟨hx, hb, hml, hown, hts⟩ (c_X2_holds l D cI cZ q σ hq 0) (cwV 1 hts gX2_owed_X2_holds rfl rfl rfl kd_X2_holds ⟨Nat.le_of_ble_eq_true rfl, Nat.le_of_ble_eq_true rfl⟩) (pV_M hP hK) rfl rfl hl.1 rfl (lv_room (Nat.le_of_ble_eq_true rfl)) dX2_owed_16 ⟨Nat.le_of_ble_eq_true rfl, Nat.le_of_ble_eq_true rfl⟩) hS (fun _ h => h) (fun v_4 H locs hv_4 _ _ hS => ?_)
    obtain ⟨rfl, hP⟩ := hv_4
    refine eqB true (tgt := 31) hx hb rfl dX2_owed_19 (by decide) (fun c_5 => ?_) (fun c_5 => ?_)
    · exact absurd c_5 (by decide)
    refine lv_aload_n hx hb dX2_owed_22 rfl (lv_at hl 0 rfl) ?_
    refine gf_2_20 hx hb hts hiX2 hown hK hP hf62 dX2_owed_23 ?_
    refine lv_iload_n hx hb dX2_owed_26 rfl (lv_at hl 1 rfl) ?_
    refine mld_18 (k := P) (v := ((mOwe σ)) P) hx hb hK hP rfl (by omega) rfl dX2_owed_27 ?_
    refine lv_goto (tgt := 32) hx hb dX2_owed_28 (by decide) ?_
    exact RET _ _ _ _ _ (by have hs : mOwed σ (nI P) = ((((mOwe σ)) P), (msThr σ 0)) := (by simp [mOwed, palM, pN, thr_1, thr_2, thr_3, thr_4, thr_5, thr_6, thr_7, thr_8, c_1, hcP]); rw [hs]; exact ⟨rfl, hP⟩) hS dX2_owed_32
theorem kn_X2_fee : yX2_fee.cls ≠ "java/lang/invoke/MethodHandle" ∧ yX2_fee.cls ≠ "java/lang/invoke/VarHandle" ∧ (parseMethodDescriptor yX2_fee.desc).map (fun d => d.parameters.length) = some 2 := by decide +kernel
theorem kd_X2_fee : yX2_fee.cls = RX2 ∧ yX2_fee.cls ≠ "java/lang/invoke/MethodHandle" ∧ yX2_fee.cls ≠ "java/lang/invoke/VarHandle" ∧ (parseMethodDescriptor yX2_fee.desc).map (fun d => d.parameters.length) = some 2 := by decide +kernel
set_option maxHeartbeats 4000000 in
set_option maxRecDepth 100000 in
theorem c_X2_fee (l : Launch) (D : va_G) (cI cZ : ClassId) (q : Nat → Nat) (σ : SM) (hq : ijQ 20 q) (x1 x2 : Int32) (ok : okM σ) (hoth : othM σ) : Met l yX2_fee wsX2_fee ({ frames := 1, cells := 0, slots := 0, locals := 22 }) (va_Pc [.ref (q 0), .int x1, .int x2] (PM D cI cZ q σ)) (wQ (adQ 20 q) (fun v H1 => v = some (.int (mFeeF σ x1 x2).1) ∧ va_P D vwCl (wM cI cZ q (mFeeF σ x1 x2).2) H1)) 0 0 (adQ 20 q) := by
  refine openW (cc := cX2_fee) (maxL := 4) (by decide) rfl (Nat.le_of_ble_eq_true rfl) ?_
  intro p e s m args below meth c hx hb hml hts hown hpre Q RET ls hl
  have hown : s.vm.findClass RX2 = some m.cls := hown
  have hl : lv_has ls 4 [(0, .ref (q 0)), (1, .int x1), (2, .int x2)] := hl
  obtain ⟨hP, hK⟩ := hpre
  have hS : va_S (adQ 20 q) s.heap s.heap [] := va_S.rf
  have hiX2 : ∀ w ∈ wsX20, w ∈ wsX2_fee := by decide +kernel
  have hf59 := hts (.fieldLink RX2 59 "PalletGramModel" "fee" "[I") (by decide +kernel)
  have hn : mN σ ≤ 14 := ok.1
  have hhol : ∀ P, mHol σ P < 6 := ok.2.1
  have hman : ∀ P, mMan σ P ≤ 30 := ok.2.2.1
  have hgor := ok.2.2.2.1
  have hwen := ok.2.2.2.2
  refine lv_aload_n hx hb dX2_fee_0 rfl (lv_at hl 0 rfl) ?_
  refine lv_iload_n hx hb dX2_fee_1 rfl (lv_at hl 1 rfl) ?_
  refine lv_iconst (v := 0) hx hb dX2_fee_2 (by decide) ?_
  refine lv_bipush (v := 9) hx hb dX2_fee_3 (by decide) ?_
  refine r_callE (x := bI (inB x1 0 9)) (va_runS (As := [.int x1, .int 0, .int 9]) (rest := [.ref (q 0)]) ⟨hx, hb, hml, hown, hts⟩ (c_X2_isIn l x1 0 9) (va_cwS 3 hts gX2_fee_X2_isIn rfl rfl rfl kn_X2_isIn ⟨Nat.le_of_ble_eq_true rfl, Nat.le_of_ble_eq_true rfl⟩) (pS_T) rfl rfl hl.1 rfl (lv_room (Nat.le_of_ble_eq_true rfl)) dX2_fee_5 ⟨Nat.le_of_ble_eq_true rfl, Nat.le_of_ble_eq_true rfl⟩) ?_
  refine eqB (inB x1 0 9) (tgt := 25) hx hb rfl dX2_fee_8 (by decide) (fun c_1 => ?_) (fun c_1 => ?_)
  · skip
    refine lv_iconst (v := 1) hx hb dX2_fee_25 (by decide) ?_
    refine w_call (va_runV (As := [.int 1]) (rest := []) ⟨hx, hb, hml, hown, hts⟩ (c_X2_holds l D cI cZ q σ hq 1) (cwV 1 hts gX2_fee_X2_holds rfl rfl rfl kd_X2_holds ⟨Nat.le_of_ble_eq_true rfl, Nat.le_of_ble_eq_true rfl⟩) (pV_M hP hK) rfl rfl hl.1 rfl (lv_room (Nat.le_of_ble_eq_true rfl)) dX2_fee_26 ⟨Nat.le_of_ble_eq_true rfl, Nat.le_of_ble_eq_true rfl⟩) hS (fun _ h => h) (fun v_2 H locs hv_2 _ _ hS => ?_)
    obtain ⟨rfl, hP⟩ := hv_2
    refine neB false (tgt := 34) hx hb rfl dX2_fee_29 (by decide) (fun c_3 => ?_) (fun c_3 => ?_)
    · exact absurd c_3 (by decide)
    refine lv_iconst (v := 0) hx hb dX2_fee_32 (by decide) ?_
    exact RET _ _ _ _ _ (by have hs : mFeeF σ x1 x2 = (0, (msThr σ 1)) := (by simp [mFeeF, palM, pN, thr_1, thr_2, thr_3, thr_4, thr_5, thr_6, thr_7, thr_8, c_1]); rw [hs]; exact ⟨rfl, hP⟩) hS dX2_fee_33
  · skip
    refine lv_iload_n hx hb dX2_fee_11 rfl (lv_at hl 2 rfl) ?_
    refine lv_iconst (v := 0) hx hb dX2_fee_12 (by decide) ?_
    refine lv_bipush (v := 99) hx hb dX2_fee_13 (by decide) ?_
    refine r_callE (x := bI (inB x2 0 99)) (va_runS (As := [.int x2, .int 0, .int 99]) (rest := [.ref (q 0)]) ⟨hx, hb, hml, hown, hts⟩ (c_X2_isIn l x2 0 99) (va_cwS 3 hts gX2_fee_X2_isIn rfl rfl rfl kn_X2_isIn ⟨Nat.le_of_ble_eq_true rfl, Nat.le_of_ble_eq_true rfl⟩) (pS_T) rfl rfl hl.1 rfl (lv_room (Nat.le_of_ble_eq_true rfl)) dX2_fee_15 ⟨Nat.le_of_ble_eq_true rfl, Nat.le_of_ble_eq_true rfl⟩) ?_
    refine eqB (inB x2 0 99) (tgt := 25) hx hb rfl dX2_fee_18 (by decide) (fun c_4 => ?_) (fun c_4 => ?_)
    · skip
      refine lv_iconst (v := 1) hx hb dX2_fee_25 (by decide) ?_
      refine w_call (va_runV (As := [.int 1]) (rest := []) ⟨hx, hb, hml, hown, hts⟩ (c_X2_holds l D cI cZ q σ hq 1) (cwV 1 hts gX2_fee_X2_holds rfl rfl rfl kd_X2_holds ⟨Nat.le_of_ble_eq_true rfl, Nat.le_of_ble_eq_true rfl⟩) (pV_M hP hK) rfl rfl hl.1 rfl (lv_room (Nat.le_of_ble_eq_true rfl)) dX2_fee_26 ⟨Nat.le_of_ble_eq_true rfl, Nat.le_of_ble_eq_true rfl⟩) hS (fun _ h => h) (fun v_5 H locs hv_5 _ _ hS => ?_)
      obtain ⟨rfl, hP⟩ := hv_5
      refine neB false (tgt := 34) hx hb rfl dX2_fee_29 (by decide) (fun c_6 => ?_) (fun c_6 => ?_)
      · exact absurd c_6 (by decide)
      refine lv_iconst (v := 0) hx hb dX2_fee_32 (by decide) ?_
      exact RET _ _ _ _ _ (by have hs : mFeeF σ x1 x2 = (0, (msThr σ 1)) := (by simp [mFeeF, palM, pN, thr_1, thr_2, thr_3, thr_4, thr_5, thr_6, thr_7, thr_8, c_1, c_4]); rw [hs]; exact ⟨rfl, hP⟩) hS dX2_fee_33
    · skip
      obtain ⟨P, hP8, hP9, rfl⟩ := inB_nat (lo := 0) (hi := 9) (by decide) (by decide) c_1
      have hcP : (nI P).toNatClampNeg = P := nI_clamp (by omega)
      refine lv_iconst (v := 0) hx hb dX2_fee_21 (by decide) ?_
      refine lv_goto (tgt := 26) hx hb dX2_fee_22 (by decide) ?_
      refine w_call (va_runV (As := [.int 0]) (rest := []) ⟨hx, hb, hml, hown, hts⟩ (c_X2_holds l D cI cZ q σ hq 0) (cwV 1 hts gX2_fee_X2_holds rfl rfl rfl kd_X2_holds ⟨Nat.le_of_ble_eq_true rfl, Nat.le_of_ble_eq_true rfl⟩) (pV_M hP hK) rfl rfl hl.1 rfl (lv_room (Nat.le_of_ble_eq_true rfl)) dX2_fee_26 ⟨Nat.le_of_ble_eq_true rfl, Nat.le_of_ble_eq_true rfl⟩) hS (fun _ h => h) (fun v_7 H locs hv_7 _ _ hS => ?_)
      obtain ⟨rfl, hP⟩ := hv_7
      refine neB true (tgt := 34) hx hb rfl dX2_fee_29 (by decide) (fun c_8 => ?_) (fun c_8 => ?_)
      rotate_left
      · exact absurd c_8 (by decide)
      refine lv_aload_n hx hb dX2_fee_34 rfl (lv_at hl 0 rfl) ?_
      refine gf_2_19 hx hb hts hiX2 hown hK hP hf59 dX2_fee_35 ?_
      refine lv_iload_n hx hb dX2_fee_38 rfl (lv_at hl 1 rfl) ?_
      refine mld_17 (k := P) (v := ((mFee σ)) P) hx hb hK hP rfl (by omega) rfl dX2_fee_39 ?_
      refine lv_istore_n (lv' := [(3, .int ((((mFee σ)) P))), (0, .ref (q 0)), (1, .int (nI (P))), (2, .int x2)]) hx hb dX2_fee_40 rfl hl (by decide) rfl (fun ls hl => ?_)
      refine lv_aload_n hx hb dX2_fee_41 rfl (lv_at hl 1 rfl) ?_
      refine gf_2_19 hx hb hts hiX2 hown hK hP hf59 dX2_fee_42 ?_
      refine lv_iload_n hx hb dX2_fee_45 rfl (lv_at hl 2 rfl) ?_
      refine lv_iload_n hx hb dX2_fee_46 rfl (lv_at hl 3 rfl) ?_
      refine mst_17 (k := P) (x := x2) hx hb hK hP hq hS rfl (by omega) dX2_fee_47 (fun fee_9 e_fee_9 H locs hP hS => ?_)
      have hP : va_P D vwCl (wM cI cZ q (msFee (msThr σ 0) fee_9)) H := hP
      refine lv_iload_n hx hb dX2_fee_48 rfl (lv_at hl 0 rfl) ?_
      exact RET _ _ _ _ _ (by have hs : mFeeF σ (nI P) x2 = ((((mFee σ)) P), (msFee (msThr σ 0) fee_9)) := (by simp [mFeeF, palM, pN, thr_1, thr_2, thr_3, thr_4, thr_5, thr_6, thr_7, thr_8, c_1, c_4, hcP, e_fee_9]); rw [hs]; exact ⟨rfl, hP⟩) hS dX2_fee_49
theorem kn_X2_mismatch : yX2_mismatch.cls ≠ "java/lang/invoke/MethodHandle" ∧ yX2_mismatch.cls ≠ "java/lang/invoke/VarHandle" ∧ (parseMethodDescriptor yX2_mismatch.desc).map (fun d => d.parameters.length) = some 1 := by decide +kernel
theorem kd_X2_mismatch : yX2_mismatch.cls = RX2 ∧ yX2_mismatch.cls ≠ "java/lang/invoke/MethodHandle" ∧ yX2_mismatch.cls ≠ "java/lang/invoke/VarHandle" ∧ (parseMethodDescriptor yX2_mismatch.desc).map (fun d => d.parameters.length) = some 1 := by decide +kernel
set_option maxHeartbeats 4000000 in
set_option maxRecDepth 100000 in
theorem c_X2_mismatch (l : Launch) (D : va_G) (cI cZ : ClassId) (q : Nat → Nat) (σ : SM) (hq : ijQ 20 q) (x1 : Int32) (ok : okM σ) (hoth : othM σ) : Met l yX2_mismatch wsX2_mismatch ({ frames := 4, cells := 0, slots := 0, locals := 94 }) (va_Pc [.ref (q 0), .int x1] (PM D cI cZ q σ)) (wQ (adQ 20 q) (fun v H1 => v = some (.int (mMismatch σ x1).1) ∧ va_P D vwCl (wM cI cZ q (mMismatch σ x1).2) H1)) 0 0 (adQ 20 q) := by
  refine openW (cc := cX2_mismatch) (maxL := 2) (by decide) rfl (Nat.le_of_ble_eq_true rfl) ?_
  intro p e s m args below meth c hx hb hml hts hown hpre Q RET ls hl
  have hown : s.vm.findClass RX2 = some m.cls := hown
  have hl : lv_has ls 2 [(0, .ref (q 0)), (1, .int x1)] := hl
  obtain ⟨hP, hK⟩ := hpre
  have hS : va_S (adQ 20 q) s.heap s.heap [] := va_S.rf
  have hn : mN σ ≤ 14 := ok.1
  have hhol : ∀ P, mHol σ P < 6 := ok.2.1
  have hman : ∀ P, mMan σ P ≤ 30 := ok.2.2.1
  have hgor := ok.2.2.2.1
  have hwen := ok.2.2.2.2
  refine lv_aload_n hx hb dX2_mismatch_0 rfl (lv_at hl 0 rfl) ?_
  refine lv_iload_n hx hb dX2_mismatch_1 rfl (lv_at hl 1 rfl) ?_
  refine r_callE (x := bI (inB x1 4 5)) (va_runS (As := [.int x1]) (rest := [.ref (q 0)]) ⟨hx, hb, hml, hown, hts⟩ (c_X2_isTruck l x1) (va_cwS 1 hts gX2_mismatch_X2_isTruck rfl rfl rfl kn_X2_isTruck ⟨Nat.le_of_ble_eq_true rfl, Nat.le_of_ble_eq_true rfl⟩) (pS_T) rfl rfl hl.1 rfl (lv_room (Nat.le_of_ble_eq_true rfl)) dX2_mismatch_2 ⟨Nat.le_of_ble_eq_true rfl, Nat.le_of_ble_eq_true rfl⟩) ?_
  refine eqB (inB x1 4 5) (tgt := 12) hx hb rfl dX2_mismatch_5 (by decide) (fun c_1 => ?_) (fun c_1 => ?_)
  · skip
    refine lv_iconst (v := 1) hx hb dX2_mismatch_12 (by decide) ?_
    refine w_call (va_runV (As := [.int 1]) (rest := []) ⟨hx, hb, hml, hown, hts⟩ (c_X2_holds l D cI cZ q σ hq 1) (cwV 1 hts gX2_mismatch_X2_holds rfl rfl rfl kd_X2_holds ⟨Nat.le_of_ble_eq_true rfl, Nat.le_of_ble_eq_true rfl⟩) (pV_M hP hK) rfl rfl hl.1 rfl (lv_room (Nat.le_of_ble_eq_true rfl)) dX2_mismatch_13 ⟨Nat.le_of_ble_eq_true rfl, Nat.le_of_ble_eq_true rfl⟩) hS (fun _ h => h) (fun v_2 H locs hv_2 _ _ hS => ?_)
    obtain ⟨rfl, hP⟩ := hv_2
    refine eqB false (tgt := 27) hx hb rfl dX2_mismatch_16 (by decide) (fun c_3 => ?_) (fun c_3 => ?_)
    rotate_left
    · exact absurd c_3 (by decide)
    refine lv_iconst (v := 0) hx hb dX2_mismatch_27 (by decide) ?_
    exact RET _ _ _ _ _ (by have hs : mMismatch σ x1 = (0, (msThr σ 1)) := (by simp [mMismatch, palM, pN, thr_1, thr_2, thr_3, thr_4, thr_5, thr_6, thr_7, thr_8, c_1]); rw [hs]; exact ⟨rfl, hP⟩) hS dX2_mismatch_28
  · skip
    obtain ⟨P, hP8, hP9, rfl⟩ := inB_nat (lo := 4) (hi := 5) (by decide) (by decide) c_1
    have hcP : (nI P).toNatClampNeg = P := nI_clamp (by omega)
    refine lv_iconst (v := 0) hx hb dX2_mismatch_8 (by decide) ?_
    refine lv_goto (tgt := 13) hx hb dX2_mismatch_9 (by decide) ?_
    refine w_call (va_runV (As := [.int 0]) (rest := []) ⟨hx, hb, hml, hown, hts⟩ (c_X2_holds l D cI cZ q σ hq 0) (cwV 1 hts gX2_mismatch_X2_holds rfl rfl rfl kd_X2_holds ⟨Nat.le_of_ble_eq_true rfl, Nat.le_of_ble_eq_true rfl⟩) (pV_M hP hK) rfl rfl hl.1 rfl (lv_room (Nat.le_of_ble_eq_true rfl)) dX2_mismatch_13 ⟨Nat.le_of_ble_eq_true rfl, Nat.le_of_ble_eq_true rfl⟩) hS (fun _ h => h) (fun v_4 H locs hv_4 _ _ hS => ?_)
    obtain ⟨rfl, hP⟩ := hv_4
    refine eqB true (tgt := 27) hx hb rfl dX2_mismatch_16 (by decide) (fun c_5 => ?_) (fun c_5 => ?_)
    · exact absurd c_5 (by decide)
    refine lv_aload_n hx hb dX2_mismatch_19 rfl (lv_at hl 0 rfl) ?_
    refine lv_iload_n hx hb dX2_mismatch_20 rfl (lv_at hl 1 rfl) ?_
    refine w_call (va_runV (As := [.int (nI (P))]) (rest := []) ⟨hx, hb, hml, hown, hts⟩ (c_X2_mismatchOf l D cI cZ q (msThr σ 0) hq P (by omega) (by omega) ⟨hn, hhol, hman, hgor, hwen⟩ hoth) (cwV 1 hts gX2_mismatch_X2_mismatchOf rfl rfl rfl kd_X2_mismatchOf ⟨Nat.le_of_ble_eq_true rfl, Nat.le_of_ble_eq_true rfl⟩) (pV_M hP hK) rfl rfl hl.1 rfl (lv_room (Nat.le_of_ble_eq_true rfl)) dX2_mismatch_21 ⟨Nat.le_of_ble_eq_true rfl, Nat.le_of_ble_eq_true rfl⟩) hS (fun _ h => h) (fun v_6 H locs hv_6 _ _ hS => ?_)
    obtain ⟨rfl, hP⟩ := hv_6
    refine lv_goto (tgt := 28) hx hb dX2_mismatch_24 (by decide) ?_
    exact RET _ _ _ _ _ (by have hs : mMismatch σ (nI P) = ((mmF (msThr σ 0) P).1, (msTol (msThr σ 0) (mmF (msThr σ 0) P).2)) := (by simp [mMismatch, palM, pN, thr_1, thr_2, thr_3, thr_4, thr_5, thr_6, thr_7, thr_8, c_1, hcP]); rw [hs]; exact ⟨rfl, hP⟩) hS dX2_mismatch_28
theorem kn_X2_declare : yX2_declare.cls ≠ "java/lang/invoke/MethodHandle" ∧ yX2_declare.cls ≠ "java/lang/invoke/VarHandle" ∧ (parseMethodDescriptor yX2_declare.desc).map (fun d => d.parameters.length) = some 3 := by decide +kernel
theorem kd_X2_declare : yX2_declare.cls = RX2 ∧ yX2_declare.cls ≠ "java/lang/invoke/MethodHandle" ∧ yX2_declare.cls ≠ "java/lang/invoke/VarHandle" ∧ (parseMethodDescriptor yX2_declare.desc).map (fun d => d.parameters.length) = some 3 := by decide +kernel
set_option maxHeartbeats 4000000 in
set_option maxRecDepth 100000 in
theorem c_X2_declare (l : Launch) (D : va_G) (cI cZ : ClassId) (q : Nat → Nat) (σ : SM) (hq : ijQ 20 q) (x1 x2 x3 : Int32) (ok : okM σ) (hoth : othM σ) : Met l yX2_declare wsX2_declare ({ frames := 2, cells := 0, slots := 0, locals := 42 }) (va_Pc [.ref (q 0), .int x1, .int x2, .int x3] (PM D cI cZ q σ)) (wQ (adQ 20 q) (fun v H1 => v = some (.int (mDeclare σ x1 x2 x3).1) ∧ va_P D vwCl (wM cI cZ q (mDeclare σ x1 x2 x3).2) H1)) 0 0 (adQ 20 q) := by
  refine openW (cc := cX2_declare) (maxL := 7) (by decide) rfl (Nat.le_of_ble_eq_true rfl) ?_
  intro p e s m args below meth c hx hb hml hts hown hpre Q RET ls hl
  have hown : s.vm.findClass RX2 = some m.cls := hown
  have hl : lv_has ls 7 [(0, .ref (q 0)), (1, .int x1), (2, .int x2), (3, .int x3)] := hl
  obtain ⟨hP, hK⟩ := hpre
  have hS : va_S (adQ 20 q) s.heap s.heap [] := va_S.rf
  have hiX2 : ∀ w ∈ wsX20, w ∈ wsX2_declare := by decide +kernel
  have hf56 := hts (.fieldLink RX2 56 "PalletGramModel" "declared" "[I") (by decide +kernel)
  have hn : mN σ ≤ 14 := ok.1
  have hhol : ∀ P, mHol σ P < 6 := ok.2.1
  have hman : ∀ P, mMan σ P ≤ 30 := ok.2.2.1
  have hgor := ok.2.2.2.1
  have hwen := ok.2.2.2.2
  refine lv_iload_n hx hb dX2_declare_0 rfl (lv_at hl 1 rfl) ?_
  refine r_callE (x := bI (inB x1 4 5)) (va_runS (As := [.int x1]) (rest := []) ⟨hx, hb, hml, hown, hts⟩ (c_X2_isTruck l x1) (va_cwS 1 hts gX2_declare_X2_isTruck rfl rfl rfl kn_X2_isTruck ⟨Nat.le_of_ble_eq_true rfl, Nat.le_of_ble_eq_true rfl⟩) (pS_T) rfl rfl hl.1 rfl (lv_room (Nat.le_of_ble_eq_true rfl)) dX2_declare_1 ⟨Nat.le_of_ble_eq_true rfl, Nat.le_of_ble_eq_true rfl⟩) ?_
  refine eqB (inB x1 4 5) (tgt := 18) hx hb rfl dX2_declare_4 (by decide) (fun c_1 => ?_) (fun c_1 => ?_)
  · skip
    refine lv_iconst (v := 0) hx hb dX2_declare_18 (by decide) ?_
    refine lv_istore (lv' := [(4, .int 0), (0, .ref (q 0)), (1, .int x1), (2, .int x2), (3, .int x3)]) hx hb dX2_declare_19 hl (by decide) rfl (fun ls hl => ?_)
    refine lv_aload_n hx hb dX2_declare_21 rfl (lv_at hl 1 rfl) ?_
    refine lv_iload hx hb dX2_declare_22 (lv_at hl 0 rfl) ?_
    refine neB false (tgt := 31) hx hb rfl dX2_declare_24 (by decide) (fun c_2 => ?_) (fun c_2 => ?_)
    · exact absurd c_2 (by decide)
    refine lv_iconst (v := 1) hx hb dX2_declare_27 (by decide) ?_
    refine lv_goto (tgt := 47) hx hb dX2_declare_28 (by decide) ?_
    refine w_call (va_runV (As := [.int 1]) (rest := []) ⟨hx, hb, hml, hown, hts⟩ (c_X2_holds l D cI cZ q σ hq 1) (cwV 1 hts gX2_declare_X2_holds rfl rfl rfl kd_X2_holds ⟨Nat.le_of_ble_eq_true rfl, Nat.le_of_ble_eq_true rfl⟩) (pV_M hP hK) rfl rfl hl.1 rfl (lv_room (Nat.le_of_ble_eq_true rfl)) dX2_declare_47 ⟨Nat.le_of_ble_eq_true rfl, Nat.le_of_ble_eq_true rfl⟩) hS (fun _ h => h) (fun v_3 H locs hv_3 _ _ hS => ?_)
    obtain ⟨rfl, hP⟩ := hv_3
    refine neB false (tgt := 55) hx hb rfl dX2_declare_50 (by decide) (fun c_4 => ?_) (fun c_4 => ?_)
    · exact absurd c_4 (by decide)
    refine lv_iconst (v := 0) hx hb dX2_declare_53 (by decide) ?_
    exact RET _ _ _ _ _ (by have hs : mDeclare σ x1 x2 x3 = (0, (msThr σ 1)) := (by simp [mDeclare, palM, pN, thr_1, thr_2, thr_3, thr_4, thr_5, thr_6, thr_7, thr_8, c_1]); rw [hs]; exact ⟨rfl, hP⟩) hS dX2_declare_54
  · skip
    refine lv_iload_n hx hb dX2_declare_7 rfl (lv_at hl 2 rfl) ?_
    refine r_callE (x := bI (inB x2 0 5)) (va_runS (As := [.int x2]) (rest := []) ⟨hx, hb, hml, hown, hts⟩ (c_X2_isGood l x2) (va_cwS 1 hts gX2_declare_X2_isGood rfl rfl rfl kn_X2_isGood ⟨Nat.le_of_ble_eq_true rfl, Nat.le_of_ble_eq_true rfl⟩) (pS_T) rfl rfl hl.1 rfl (lv_room (Nat.le_of_ble_eq_true rfl)) dX2_declare_8 ⟨Nat.le_of_ble_eq_true rfl, Nat.le_of_ble_eq_true rfl⟩) ?_
    refine eqB (inB x2 0 5) (tgt := 18) hx hb rfl dX2_declare_11 (by decide) (fun c_5 => ?_) (fun c_5 => ?_)
    · skip
      refine lv_iconst (v := 0) hx hb dX2_declare_18 (by decide) ?_
      refine lv_istore (lv' := [(4, .int 0), (0, .ref (q 0)), (1, .int x1), (2, .int x2), (3, .int x3)]) hx hb dX2_declare_19 hl (by decide) rfl (fun ls hl => ?_)
      refine lv_aload_n hx hb dX2_declare_21 rfl (lv_at hl 1 rfl) ?_
      refine lv_iload hx hb dX2_declare_22 (lv_at hl 0 rfl) ?_
      refine neB false (tgt := 31) hx hb rfl dX2_declare_24 (by decide) (fun c_6 => ?_) (fun c_6 => ?_)
      · exact absurd c_6 (by decide)
      refine lv_iconst (v := 1) hx hb dX2_declare_27 (by decide) ?_
      refine lv_goto (tgt := 47) hx hb dX2_declare_28 (by decide) ?_
      refine w_call (va_runV (As := [.int 1]) (rest := []) ⟨hx, hb, hml, hown, hts⟩ (c_X2_holds l D cI cZ q σ hq 1) (cwV 1 hts gX2_declare_X2_holds rfl rfl rfl kd_X2_holds ⟨Nat.le_of_ble_eq_true rfl, Nat.le_of_ble_eq_true rfl⟩) (pV_M hP hK) rfl rfl hl.1 rfl (lv_room (Nat.le_of_ble_eq_true rfl)) dX2_declare_47 ⟨Nat.le_of_ble_eq_true rfl, Nat.le_of_ble_eq_true rfl⟩) hS (fun _ h => h) (fun v_7 H locs hv_7 _ _ hS => ?_)
      obtain ⟨rfl, hP⟩ := hv_7
      refine neB false (tgt := 55) hx hb rfl dX2_declare_50 (by decide) (fun c_8 => ?_) (fun c_8 => ?_)
      · exact absurd c_8 (by decide)
      refine lv_iconst (v := 0) hx hb dX2_declare_53 (by decide) ?_
      exact RET _ _ _ _ _ (by have hs : mDeclare σ x1 x2 x3 = (0, (msThr σ 1)) := (by simp [mDeclare, palM, pN, thr_1, thr_2, thr_3, thr_4, thr_5, thr_6, thr_7, thr_8, c_1, c_5]); rw [hs]; exact ⟨rfl, hP⟩) hS dX2_declare_54
    · skip
      obtain ⟨P, hP8, hP9, rfl⟩ := inB_nat (lo := 4) (hi := 5) (by decide) (by decide) c_1
      have hcP : (nI P).toNatClampNeg = P := nI_clamp (by omega)
      obtain ⟨G, hG8, hG9, rfl⟩ := inB_nat (lo := 0) (hi := 5) (by decide) (by decide) c_5
      have hcG : (nI G).toNatClampNeg = G := nI_clamp (by omega)
      refine lv_iconst (v := 1) hx hb dX2_declare_14 (by decide) ?_
      refine lv_goto (tgt := 19) hx hb dX2_declare_15 (by decide) ?_
      refine lv_istore (lv' := [(4, .int 1), (0, .ref (q 0)), (1, .int (nI (P))), (2, .int (nI (G))), (3, .int x3)]) hx hb dX2_declare_19 hl (by decide) rfl (fun ls hl => ?_)
      refine lv_aload_n hx hb dX2_declare_21 rfl (lv_at hl 1 rfl) ?_
      refine lv_iload hx hb dX2_declare_22 (lv_at hl 0 rfl) ?_
      refine neB true (tgt := 31) hx hb rfl dX2_declare_24 (by decide) (fun c_9 => ?_) (fun c_9 => ?_)
      rotate_left
      · exact absurd c_9 (by decide)
      refine lv_iload_n hx hb dX2_declare_31 rfl (lv_at hl 4 rfl) ?_
      refine lv_iconst (v := 0) hx hb dX2_declare_32 (by decide) ?_
      refine lv_sipush (v := 9999) hx hb dX2_declare_33 (by decide) ?_
      refine r_callE (x := bI (inB x3 0 9999)) (va_runS (As := [.int x3, .int 0, .int 9999]) (rest := [.ref (q 0)]) ⟨hx, hb, hml, hown, hts⟩ (c_X2_isIn l x3 0 9999) (va_cwS 3 hts gX2_declare_X2_isIn rfl rfl rfl kn_X2_isIn ⟨Nat.le_of_ble_eq_true rfl, Nat.le_of_ble_eq_true rfl⟩) (pS_T) rfl rfl hl.1 rfl (lv_room (Nat.le_of_ble_eq_true rfl)) dX2_declare_36 ⟨Nat.le_of_ble_eq_true rfl, Nat.le_of_ble_eq_true rfl⟩) ?_
      refine neB (inB x3 0 9999) (tgt := 46) hx hb rfl dX2_declare_39 (by decide) (fun c_10 => ?_) (fun c_10 => ?_)
      · skip
        refine lv_iconst (v := 0) hx hb dX2_declare_46 (by decide) ?_
        refine w_call (va_runV (As := [.int 0]) (rest := []) ⟨hx, hb, hml, hown, hts⟩ (c_X2_holds l D cI cZ q σ hq 0) (cwV 1 hts gX2_declare_X2_holds rfl rfl rfl kd_X2_holds ⟨Nat.le_of_ble_eq_true rfl, Nat.le_of_ble_eq_true rfl⟩) (pV_M hP hK) rfl rfl hl.1 rfl (lv_room (Nat.le_of_ble_eq_true rfl)) dX2_declare_47 ⟨Nat.le_of_ble_eq_true rfl, Nat.le_of_ble_eq_true rfl⟩) hS (fun _ h => h) (fun v_11 H locs hv_11 _ _ hS => ?_)
        obtain ⟨rfl, hP⟩ := hv_11
        refine neB true (tgt := 55) hx hb rfl dX2_declare_50 (by decide) (fun c_12 => ?_) (fun c_12 => ?_)
        rotate_left
        · exact absurd c_12 (by decide)
        refine lv_bipush (v := 6) hx hb dX2_declare_55 (by decide) ?_
        refine lv_iload_n hx hb dX2_declare_57 rfl (lv_at hl 2 rfl) ?_
        refine lv_iconst (v := 4) hx hb dX2_declare_58 (by decide) ?_
        refine subN P 4 hx hb rfl rfl (by omega) dX2_declare_59 ?_
        refine mulNc 6 (P - 4) hx hb rfl rfl dX2_declare_60 ?_
        refine lv_iload_n hx hb dX2_declare_61 rfl (lv_at hl 3 rfl) ?_
        refine addN ((P - 4) * 6) G hx hb rfl rfl dX2_declare_62 ?_
        refine lv_istore (lv' := [(5, .int (nI (((P - 4) * 6) + G))), (4, .int 1), (0, .ref (q 0)), (1, .int (nI (P))), (2, .int (nI (G))), (3, .int x3)]) hx hb dX2_declare_63 hl (by decide) rfl (fun ls hl => ?_)
        refine lv_aload_n hx hb dX2_declare_65 rfl (lv_at hl 2 rfl) ?_
        refine gf_2_18 hx hb hts hiX2 hown hK hP hf56 dX2_declare_66 ?_
        refine lv_iload hx hb dX2_declare_69 (lv_at hl 0 rfl) ?_
        refine mld_16 (k := (P - 4) * 6 + G) (v := ((mDec σ)) ((P - 4) * 6 + G)) hx hb hK hP rfl (by omega) rfl dX2_declare_71 ?_
        refine lv_istore (lv' := [(6, .int ((((mDec σ)) ((P - 4) * 6 + G)))), (5, .int (nI (((P - 4) * 6) + G))), (4, .int 1), (0, .ref (q 0)), (1, .int (nI (P))), (2, .int (nI (G))), (3, .int x3)]) hx hb dX2_declare_72 hl (by decide) rfl (fun ls hl => ?_)
        refine lv_aload_n hx hb dX2_declare_74 rfl (lv_at hl 3 rfl) ?_
        refine gf_2_18 hx hb hts hiX2 hown hK hP hf56 dX2_declare_75 ?_
        refine lv_iload hx hb dX2_declare_78 (lv_at hl 1 rfl) ?_
        refine lv_iload_n hx hb dX2_declare_80 rfl (lv_at hl 6 rfl) ?_
        refine mst_16 (k := (P - 4) * 6 + G) (x := x3) hx hb hK hP hq hS rfl (by omega) dX2_declare_81 (fun dec_13 e_dec_13 H locs hP hS => ?_)
        have hP : va_P D vwCl (wM cI cZ q (msDec (msThr σ 0) dec_13)) H := hP
        refine lv_iload hx hb dX2_declare_82 (lv_at hl 0 rfl) ?_
        exact RET _ _ _ _ _ (by have hs : mDeclare σ (nI P) (nI G) x3 = ((((mDec σ)) ((P - 4) * 6 + G)), (msDec (msThr σ 0) dec_13)) := (by simp [mDeclare, palM, pN, thr_1, thr_2, thr_3, thr_4, thr_5, thr_6, thr_7, thr_8, c_1, c_5, c_10, hcP, hcG, e_dec_13]); rw [hs]; exact ⟨rfl, hP⟩) hS dX2_declare_84
      · skip
        refine lv_iconst (v := 2) hx hb dX2_declare_42 (by decide) ?_
        refine lv_goto (tgt := 47) hx hb dX2_declare_43 (by decide) ?_
        refine w_call (va_runV (As := [.int 2]) (rest := []) ⟨hx, hb, hml, hown, hts⟩ (c_X2_holds l D cI cZ q σ hq 2) (cwV 1 hts gX2_declare_X2_holds rfl rfl rfl kd_X2_holds ⟨Nat.le_of_ble_eq_true rfl, Nat.le_of_ble_eq_true rfl⟩) (pV_M hP hK) rfl rfl hl.1 rfl (lv_room (Nat.le_of_ble_eq_true rfl)) dX2_declare_47 ⟨Nat.le_of_ble_eq_true rfl, Nat.le_of_ble_eq_true rfl⟩) hS (fun _ h => h) (fun v_14 H locs hv_14 _ _ hS => ?_)
        obtain ⟨rfl, hP⟩ := hv_14
        refine neB false (tgt := 55) hx hb rfl dX2_declare_50 (by decide) (fun c_15 => ?_) (fun c_15 => ?_)
        · exact absurd c_15 (by decide)
        refine lv_iconst (v := 0) hx hb dX2_declare_53 (by decide) ?_
        exact RET _ _ _ _ _ (by have hs : mDeclare σ (nI P) (nI G) x3 = (0, (msThr σ 2)) := (by simp [mDeclare, palM, pN, thr_1, thr_2, thr_3, thr_4, thr_5, thr_6, thr_7, thr_8, c_1, c_5, c_10, hcP, hcG]); rw [hs]; exact ⟨rfl, hP⟩) hS dX2_declare_54
theorem kn_X2_spoil : yX2_spoil.cls ≠ "java/lang/invoke/MethodHandle" ∧ yX2_spoil.cls ≠ "java/lang/invoke/VarHandle" ∧ (parseMethodDescriptor yX2_spoil.desc).map (fun d => d.parameters.length) = some 3 := by decide +kernel
theorem kd_X2_spoil : yX2_spoil.cls = RX2 ∧ yX2_spoil.cls ≠ "java/lang/invoke/MethodHandle" ∧ yX2_spoil.cls ≠ "java/lang/invoke/VarHandle" ∧ (parseMethodDescriptor yX2_spoil.desc).map (fun d => d.parameters.length) = some 3 := by decide +kernel
set_option maxHeartbeats 4000000 in
set_option maxRecDepth 100000 in
theorem c_X2_spoil (l : Launch) (D : va_G) (cI cZ : ClassId) (q : Nat → Nat) (σ : SM) (hq : ijQ 20 q) (x1 x2 x3 : Int32) (ok : okM σ) (hoth : othM σ) : Met l yX2_spoil wsX2_spoil ({ frames := 3, cells := 0, slots := 0, locals := 65 }) (va_Pc [.ref (q 0), .int x1, .int x2, .int x3] (PM D cI cZ q σ)) (wQ (adQ 20 q) (fun v H1 => v = some (.int (mSpoil σ x1 x2 x3).1) ∧ va_P D vwCl (wM cI cZ q (mSpoil σ x1 x2 x3).2) H1)) 0 0 (adQ 20 q) := by
  refine openW (cc := cX2_spoil) (maxL := 7) (by decide) rfl (Nat.le_of_ble_eq_true rfl) ?_
  intro p e s m args below meth c hx hb hml hts hown hpre Q RET ls hl
  have hown : s.vm.findClass RX2 = some m.cls := hown
  have hl : lv_has ls 7 [(0, .ref (q 0)), (1, .int x1), (2, .int x2), (3, .int x3)] := hl
  obtain ⟨hP, hK⟩ := hpre
  have hS : va_S (adQ 20 q) s.heap s.heap [] := va_S.rf
  have hiX2 : ∀ w ∈ wsX20, w ∈ wsX2_spoil := by decide +kernel
  have hf38 := hts (.fieldLink RX2 38 "PalletGramModel" "amount" "[I") (by decide +kernel)
  have hn : mN σ ≤ 14 := ok.1
  have hhol : ∀ P, mHol σ P < 6 := ok.2.1
  have hman : ∀ P, mMan σ P ≤ 30 := ok.2.2.1
  have hgor := ok.2.2.2.1
  have hwen := ok.2.2.2.2
  refine lv_aload_n hx hb dX2_spoil_0 rfl (lv_at hl 0 rfl) ?_
  refine lv_iload_n hx hb dX2_spoil_1 rfl (lv_at hl 1 rfl) ?_
  refine lv_iload_n hx hb dX2_spoil_2 rfl (lv_at hl 2 rfl) ?_
  refine r_callE (x := bI (entB σ x1 x2)) (va_runV (As := [.int x1, .int x2]) (rest := []) ⟨hx, hb, hml, hown, hts⟩ (c_X2_isEntry l D cI cZ q σ x1 x2 ⟨hn, hhol, hman, hgor, hwen⟩) (cwV 2 hts gX2_spoil_X2_isEntry rfl rfl rfl kd_X2_isEntry ⟨Nat.le_of_ble_eq_true rfl, Nat.le_of_ble_eq_true rfl⟩) (pV_M hP hK) rfl rfl hl.1 rfl (lv_room (Nat.le_of_ble_eq_true rfl)) dX2_spoil_3 ⟨Nat.le_of_ble_eq_true rfl, Nat.le_of_ble_eq_true rfl⟩) ?_
  refine lv_istore (lv' := [(4, .int (bI (entB σ x1 x2))), (0, .ref (q 0)), (1, .int x1), (2, .int x2), (3, .int x3)]) hx hb dX2_spoil_6 hl (by decide) rfl (fun ls hl => ?_)
  refine lv_aload_n hx hb dX2_spoil_8 rfl (lv_at hl 1 rfl) ?_
  refine lv_iload hx hb dX2_spoil_9 (lv_at hl 0 rfl) ?_
  refine neB (entB σ x1 x2) (tgt := 18) hx hb rfl dX2_spoil_11 (by decide) (fun c_1 => ?_) (fun c_1 => ?_)
  · skip
    obtain ⟨P, hP9, rfl, E, hE9, rfl⟩ := ent_nat hn hman c_1
    have hcP : (nI P).toNatClampNeg = P := nI_clamp (by omega)
    have hm9 := hman P
    have hcE : (nI E).toNatClampNeg = E := nI_clamp (by omega)
    refine lv_iload_n hx hb dX2_spoil_18 rfl (lv_at hl 4 rfl) ?_
    refine lv_sipush (v := (-999)) hx hb dX2_spoil_19 (by decide) ?_
    refine lv_sipush (v := 999) hx hb dX2_spoil_22 (by decide) ?_
    refine r_callE (x := bI (inB x3 ((-999)) 999)) (va_runS (As := [.int x3, .int ((-999)), .int 999]) (rest := [.ref (q 0)]) ⟨hx, hb, hml, hown, hts⟩ (c_X2_isIn l x3 ((-999)) 999) (va_cwS 3 hts gX2_spoil_X2_isIn rfl rfl rfl kn_X2_isIn ⟨Nat.le_of_ble_eq_true rfl, Nat.le_of_ble_eq_true rfl⟩) (pS_T) rfl rfl hl.1 rfl (lv_room (Nat.le_of_ble_eq_true rfl)) dX2_spoil_25 ⟨Nat.le_of_ble_eq_true rfl, Nat.le_of_ble_eq_true rfl⟩) ?_
    refine neB (inB x3 ((-999)) 999) (tgt := 35) hx hb rfl dX2_spoil_28 (by decide) (fun c_2 => ?_) (fun c_2 => ?_)
    · skip
      refine lv_iconst (v := 0) hx hb dX2_spoil_35 (by decide) ?_
      refine w_call (va_runV (As := [.int 0]) (rest := []) ⟨hx, hb, hml, hown, hts⟩ (c_X2_holds l D cI cZ q σ hq 0) (cwV 1 hts gX2_spoil_X2_holds rfl rfl rfl kd_X2_holds ⟨Nat.le_of_ble_eq_true rfl, Nat.le_of_ble_eq_true rfl⟩) (pV_M hP hK) rfl rfl hl.1 rfl (lv_room (Nat.le_of_ble_eq_true rfl)) dX2_spoil_36 ⟨Nat.le_of_ble_eq_true rfl, Nat.le_of_ble_eq_true rfl⟩) hS (fun _ h => h) (fun v_3 H locs hv_3 _ _ hS => ?_)
      obtain ⟨rfl, hP⟩ := hv_3
      refine neB true (tgt := 44) hx hb rfl dX2_spoil_39 (by decide) (fun c_4 => ?_) (fun c_4 => ?_)
      rotate_left
      · exact absurd c_4 (by decide)
      refine lv_bipush (v := 30) hx hb dX2_spoil_44 (by decide) ?_
      refine lv_iload_n hx hb dX2_spoil_46 rfl (lv_at hl 2 rfl) ?_
      refine mulNc 30 P hx hb rfl rfl dX2_spoil_47 ?_
      refine lv_iload_n hx hb dX2_spoil_48 rfl (lv_at hl 3 rfl) ?_
      refine addN (P * 30) E hx hb rfl rfl dX2_spoil_49 ?_
      refine lv_istore (lv' := [(5, .int (nI ((P * 30) + E))), (4, .int (bI (entB σ (nI P) (nI E)))), (0, .ref (q 0)), (1, .int (nI (P))), (2, .int (nI (E))), (3, .int x3)]) hx hb dX2_spoil_50 hl (by decide) rfl (fun ls hl => ?_)
      refine lv_aload_n hx hb dX2_spoil_52 rfl (lv_at hl 2 rfl) ?_
      refine gf_2_12 hx hb hts hiX2 hown hK hP hf38 dX2_spoil_53 ?_
      refine lv_iload hx hb dX2_spoil_56 (lv_at hl 0 rfl) ?_
      refine mld_10 (k := P * 30 + E) (v := ((mAmo σ)) (P * 30 + E)) hx hb hK hP rfl (by omega) rfl dX2_spoil_58 ?_
      refine lv_istore (lv' := [(6, .int ((((mAmo σ)) (P * 30 + E)))), (5, .int (nI ((P * 30) + E))), (4, .int (bI (entB σ (nI P) (nI E)))), (0, .ref (q 0)), (1, .int (nI (P))), (2, .int (nI (E))), (3, .int x3)]) hx hb dX2_spoil_59 hl (by decide) rfl (fun ls hl => ?_)
      refine lv_aload_n hx hb dX2_spoil_61 rfl (lv_at hl 3 rfl) ?_
      refine gf_2_12 hx hb hts hiX2 hown hK hP hf38 dX2_spoil_62 ?_
      refine lv_iload hx hb dX2_spoil_65 (lv_at hl 1 rfl) ?_
      refine lv_iload_n hx hb dX2_spoil_67 rfl (lv_at hl 6 rfl) ?_
      refine mst_10 (k := P * 30 + E) (x := x3) hx hb hK hP hq hS rfl (by omega) dX2_spoil_68 (fun amo_5 e_amo_5 H locs hP hS => ?_)
      have hP : va_P D vwCl (wM cI cZ q (msAmo (msThr σ 0) amo_5)) H := hP
      refine lv_iload hx hb dX2_spoil_69 (lv_at hl 0 rfl) ?_
      exact RET _ _ _ _ _ (by have hs : mSpoil σ (nI P) (nI E) x3 = ((((mAmo σ)) (P * 30 + E)), (msAmo (msThr σ 0) amo_5)) := (by simp [mSpoil, palM, pN, thr_1, thr_2, thr_3, thr_4, thr_5, thr_6, thr_7, thr_8, c_1, c_2, hcP, hcE, e_amo_5]); rw [hs]; exact ⟨rfl, hP⟩) hS dX2_spoil_71
    · skip
      refine lv_iconst (v := 2) hx hb dX2_spoil_31 (by decide) ?_
      refine lv_goto (tgt := 36) hx hb dX2_spoil_32 (by decide) ?_
      refine w_call (va_runV (As := [.int 2]) (rest := []) ⟨hx, hb, hml, hown, hts⟩ (c_X2_holds l D cI cZ q σ hq 2) (cwV 1 hts gX2_spoil_X2_holds rfl rfl rfl kd_X2_holds ⟨Nat.le_of_ble_eq_true rfl, Nat.le_of_ble_eq_true rfl⟩) (pV_M hP hK) rfl rfl hl.1 rfl (lv_room (Nat.le_of_ble_eq_true rfl)) dX2_spoil_36 ⟨Nat.le_of_ble_eq_true rfl, Nat.le_of_ble_eq_true rfl⟩) hS (fun _ h => h) (fun v_6 H locs hv_6 _ _ hS => ?_)
      obtain ⟨rfl, hP⟩ := hv_6
      refine neB false (tgt := 44) hx hb rfl dX2_spoil_39 (by decide) (fun c_7 => ?_) (fun c_7 => ?_)
      · exact absurd c_7 (by decide)
      refine lv_iconst (v := 0) hx hb dX2_spoil_42 (by decide) ?_
      exact RET _ _ _ _ _ (by have hs : mSpoil σ (nI P) (nI E) x3 = (0, (msThr σ 2)) := (by simp [mSpoil, palM, pN, thr_1, thr_2, thr_3, thr_4, thr_5, thr_6, thr_7, thr_8, c_1, c_2, hcP, hcE]); rw [hs]; exact ⟨rfl, hP⟩) hS dX2_spoil_43
  · skip
    refine lv_iconst (v := 1) hx hb dX2_spoil_14 (by decide) ?_
    refine lv_goto (tgt := 36) hx hb dX2_spoil_15 (by decide) ?_
    refine w_call (va_runV (As := [.int 1]) (rest := []) ⟨hx, hb, hml, hown, hts⟩ (c_X2_holds l D cI cZ q σ hq 1) (cwV 1 hts gX2_spoil_X2_holds rfl rfl rfl kd_X2_holds ⟨Nat.le_of_ble_eq_true rfl, Nat.le_of_ble_eq_true rfl⟩) (pV_M hP hK) rfl rfl hl.1 rfl (lv_room (Nat.le_of_ble_eq_true rfl)) dX2_spoil_36 ⟨Nat.le_of_ble_eq_true rfl, Nat.le_of_ble_eq_true rfl⟩) hS (fun _ h => h) (fun v_8 H locs hv_8 _ _ hS => ?_)
    obtain ⟨rfl, hP⟩ := hv_8
    refine neB false (tgt := 44) hx hb rfl dX2_spoil_39 (by decide) (fun c_9 => ?_) (fun c_9 => ?_)
    · exact absurd c_9 (by decide)
    refine lv_iconst (v := 0) hx hb dX2_spoil_42 (by decide) ?_
    exact RET _ _ _ _ _ (by have hs : mSpoil σ x1 x2 x3 = (0, (msThr σ 1)) := (by simp [mSpoil, palM, pN, thr_1, thr_2, thr_3, thr_4, thr_5, thr_6, thr_7, thr_8, c_1]); rw [hs]; exact ⟨rfl, hP⟩) hS dX2_spoil_43
