theorem kn_X2_broken : yX2_broken.cls ≠ "java/lang/invoke/MethodHandle" ∧ yX2_broken.cls ≠ "java/lang/invoke/VarHandle" ∧ (parseMethodDescriptor yX2_broken.desc).map (fun d => d.parameters.length) = some 1 := by decide +kernel
theorem kd_X2_broken : yX2_broken.cls = RX2 ∧ yX2_broken.cls ≠ "java/lang/invoke/MethodHandle" ∧ yX2_broken.cls ≠ "java/lang/invoke/VarHandle" ∧ (parseMethodDescriptor yX2_broken.desc).map (fun d => d.parameters.length) = some 1 := by decide +kernel
set_option maxHeartbeats 4000000 in
set_option maxRecDepth 100000 in
theorem c_X2_broken (l : Launch) (D : va_G) (cI cZ : ClassId) (q : Nat → Nat) (σ : SM) (hq : ijQ 20 q) (x1 : Int32) (ok : okM σ) (hoth : othM σ) (hz : ∀ P, mN σ ≤ P → mMan σ P = 0) (hg14 : ∀ P O, cjF σ P O = true → mGor σ < 14) (hc7 : ∀ r i, 7 ≤ i → i < 32 → bt (mCop σ r) i = false) : Met l yX2_broken wsX2_broken ({ frames := 3, cells := 0, slots := 0, locals := 68 }) (va_Pc [.ref (q 0), .int x1] (PM D cI cZ q σ)) (wQ (adQ 20 q) (fun v H1 => v = some (.int (mBroken σ x1).1) ∧ va_P D vwCl (wM cI cZ q (mBroken σ x1).2) H1)) 0 0 (adQ 20 q) := by
  refine openW (cc := cX2_broken) (maxL := 2) (by decide) rfl (Nat.le_of_ble_eq_true rfl) ?_
  intro p e s m args below meth c hx hb hml hts hown hpre Q RET ls hl
  have hown : s.vm.findClass RX2 = some m.cls := hown
  have hl : lv_has ls 2 [(0, .ref (q 0)), (1, .int x1)] := hl
  obtain ⟨hP, hK⟩ := hpre
  have hS : va_S (adQ 20 q) s.heap s.heap [] := va_S.rf
  have hn : mN σ ≤ 14 := ok.1
  have hhol : ∀ P, mHol σ P < 6 := ok.2.1
  have hman : ∀ P, mMan σ P ≤ 30 := ok.2.2.1
  have hgor := ok.2.2.2.1
  have hwen := ok.2.2.2.2
  refine lv_aload_n hx hb dX2_broken_0 rfl (lv_at hl 0 rfl) ?_
  refine lv_aload_n hx hb dX2_broken_1 rfl (lv_at hl 0 rfl) ?_
  refine lv_iload_n hx hb dX2_broken_2 rfl (lv_at hl 1 rfl) ?_
  refine r_callE (x := bI (inB x1 0 (nI (mN σ) - 1))) (va_runV (As := [.int x1]) (rest := [.ref (q 0)]) ⟨hx, hb, hml, hown, hts⟩ (c_X2_isPallet l D cI cZ q σ x1) (cwV 1 hts gX2_broken_X2_isPallet rfl rfl rfl kd_X2_isPallet ⟨Nat.le_of_ble_eq_true rfl, Nat.le_of_ble_eq_true rfl⟩) (pV_M hP hK) rfl rfl hl.1 rfl (lv_room (Nat.le_of_ble_eq_true rfl)) dX2_broken_3 ⟨Nat.le_of_ble_eq_true rfl, Nat.le_of_ble_eq_true rfl⟩) ?_
  refine eqB (inB x1 0 (nI (mN σ) - 1)) (tgt := 13) hx hb rfl dX2_broken_6 (by decide) (fun c_1 => ?_) (fun c_1 => ?_)
  · skip
    refine lv_iconst (v := 1) hx hb dX2_broken_13 (by decide) ?_
    refine w_call (va_runV (As := [.int 1]) (rest := []) ⟨hx, hb, hml, hown, hts⟩ (c_X2_holds l D cI cZ q σ hq 1) (cwV 1 hts gX2_broken_X2_holds rfl rfl rfl kd_X2_holds ⟨Nat.le_of_ble_eq_true rfl, Nat.le_of_ble_eq_true rfl⟩) (pV_M hP hK) rfl rfl hl.1 rfl (lv_room (Nat.le_of_ble_eq_true rfl)) dX2_broken_14 ⟨Nat.le_of_ble_eq_true rfl, Nat.le_of_ble_eq_true rfl⟩) hS (fun _ h => h) (fun v_2 H locs hv_2 _ _ hS => ?_)
    obtain ⟨rfl, hP⟩ := hv_2
    have hP : va_P D vwCl (wM cI cZ q (msThr σ 1)) H := hP
    refine eqB false (tgt := 28) hx hb rfl dX2_broken_17 (by decide) (fun c_3 => ?_) (fun c_3 => ?_)
    rotate_left
    · exact absurd c_3 (by decide)
    refine lv_iconst (v := 0) hx hb dX2_broken_28 (by decide) ?_
    exact RET _ _ _ _ _ (by have hs : mBroken σ x1 = (0, (msThr σ 1)) := (by simp [mBroken, palM, pN, thr_1, thr_2, thr_3, thr_4, thr_5, thr_6, thr_7, thr_8, c_1] <;> decide); rw [hs]; exact ⟨rfl, hP⟩) hS dX2_broken_29
  · skip
    obtain ⟨P, hP9, rfl⟩ := inB_pal (by omega) c_1
    have hcP : (nI P).toNatClampNeg = P := nI_clamp (by omega)
    refine lv_iconst (v := 0) hx hb dX2_broken_9 (by decide) ?_
    refine lv_goto (tgt := 14) hx hb dX2_broken_10 (by decide) ?_
    refine w_call (va_runV (As := [.int 0]) (rest := []) ⟨hx, hb, hml, hown, hts⟩ (c_X2_holds l D cI cZ q σ hq 0) (cwV 1 hts gX2_broken_X2_holds rfl rfl rfl kd_X2_holds ⟨Nat.le_of_ble_eq_true rfl, Nat.le_of_ble_eq_true rfl⟩) (pV_M hP hK) rfl rfl hl.1 rfl (lv_room (Nat.le_of_ble_eq_true rfl)) dX2_broken_14 ⟨Nat.le_of_ble_eq_true rfl, Nat.le_of_ble_eq_true rfl⟩) hS (fun _ h => h) (fun v_4 H locs hv_4 _ _ hS => ?_)
    obtain ⟨rfl, hP⟩ := hv_4
    have hP : va_P D vwCl (wM cI cZ q (msThr σ 0)) H := hP
    refine eqB true (tgt := 28) hx hb rfl dX2_broken_17 (by decide) (fun c_5 => ?_) (fun c_5 => ?_)
    · exact absurd c_5 (by decide)
    refine lv_aload_n hx hb dX2_broken_20 rfl (lv_at hl 0 rfl) ?_
    refine lv_iload_n hx hb dX2_broken_21 rfl (lv_at hl 1 rfl) ?_
    refine r_callE (x := (mfF σ P)) (va_runV (As := [.int (nI (P))]) (rest := []) ⟨hx, hb, hml, hown, hts⟩ (c_X2_firstBroken l D cI cZ q (msThr σ 0) P (by omega) hman) (cwV 1 hts gX2_broken_X2_firstBroken rfl rfl rfl kd_X2_firstBroken ⟨Nat.le_of_ble_eq_true rfl, Nat.le_of_ble_eq_true rfl⟩) (pV_M hP hK) rfl rfl hl.1 rfl (lv_room (Nat.le_of_ble_eq_true rfl)) dX2_broken_22 ⟨Nat.le_of_ble_eq_true rfl, Nat.le_of_ble_eq_true rfl⟩) ?_
    refine lv_goto (tgt := 29) hx hb dX2_broken_25 (by decide) ?_
    exact RET _ _ _ _ _ (by have hs : mBroken σ (nI P) = ((mfF σ P), (msThr σ 0)) := (by simp [mBroken, palM, pN, thr_1, thr_2, thr_3, thr_4, thr_5, thr_6, thr_7, thr_8, c_1, hcP] <;> decide); rw [hs]; exact ⟨rfl, hP⟩) hS dX2_broken_29
theorem kn_X2_isSound : yX2_isSound.cls ≠ "java/lang/invoke/MethodHandle" ∧ yX2_isSound.cls ≠ "java/lang/invoke/VarHandle" ∧ (parseMethodDescriptor yX2_isSound.desc).map (fun d => d.parameters.length) = some 1 := by decide +kernel
theorem kd_X2_isSound : yX2_isSound.cls = RX2 ∧ yX2_isSound.cls ≠ "java/lang/invoke/MethodHandle" ∧ yX2_isSound.cls ≠ "java/lang/invoke/VarHandle" ∧ (parseMethodDescriptor yX2_isSound.desc).map (fun d => d.parameters.length) = some 1 := by decide +kernel
set_option maxHeartbeats 4000000 in
set_option maxRecDepth 100000 in
theorem c_X2_isSound (l : Launch) (D : va_G) (cI cZ : ClassId) (q : Nat → Nat) (σ : SM) (hq : ijQ 20 q) (x1 : Int32) (ok : okM σ) (hoth : othM σ) (hz : ∀ P, mN σ ≤ P → mMan σ P = 0) (hg14 : ∀ P O, cjF σ P O = true → mGor σ < 14) (hc7 : ∀ r i, 7 ≤ i → i < 32 → bt (mCop σ r) i = false) : Met l yX2_isSound wsX2_isSound ({ frames := 4, cells := 0, slots := 0, locals := 93 }) (va_Pc [.ref (q 0), .int x1] (PM D cI cZ q σ)) (wQ (adQ 20 q) (fun v H1 => v = some (.int (bI (mSound σ x1).1)) ∧ va_P D vwCl (wM cI cZ q (mSound σ x1).2) H1)) 0 0 (adQ 20 q) := by
  refine openY (cc := cX2_isSound) (maxL := 2) (by decide) rfl (Nat.le_of_ble_eq_true rfl) ?_
  intro p e s m args below meth c hx hb hml hts hown hpre Q RET ls hl
  have hown : s.vm.findClass RX2 = some m.cls := hown
  have hl : lv_has ls 2 [(0, .ref (q 0)), (1, .int x1)] := hl
  obtain ⟨hP, hK⟩ := hpre
  have hS : va_S (adQ 20 q) s.heap s.heap [] := va_S.rf
  have hn : mN σ ≤ 14 := ok.1
  have hhol : ∀ P, mHol σ P < 6 := ok.2.1
  have hman : ∀ P, mMan σ P ≤ 30 := ok.2.2.1
  have hgor := ok.2.2.2.1
  have hwen := ok.2.2.2.2
  refine lv_aload_n hx hb dX2_isSound_0 rfl (lv_at hl 0 rfl) ?_
  refine lv_aload_n hx hb dX2_isSound_1 rfl (lv_at hl 0 rfl) ?_
  refine lv_iload_n hx hb dX2_isSound_2 rfl (lv_at hl 1 rfl) ?_
  refine r_callE (x := bI (inB x1 0 (nI (mN σ) - 1))) (va_runV (As := [.int x1]) (rest := [.ref (q 0)]) ⟨hx, hb, hml, hown, hts⟩ (c_X2_isPallet l D cI cZ q σ x1) (cwV 1 hts gX2_isSound_X2_isPallet rfl rfl rfl kd_X2_isPallet ⟨Nat.le_of_ble_eq_true rfl, Nat.le_of_ble_eq_true rfl⟩) (pV_M hP hK) rfl rfl hl.1 rfl (lv_room (Nat.le_of_ble_eq_true rfl)) dX2_isSound_3 ⟨Nat.le_of_ble_eq_true rfl, Nat.le_of_ble_eq_true rfl⟩) ?_
  refine eqB (inB x1 0 (nI (mN σ) - 1)) (tgt := 13) hx hb rfl dX2_isSound_6 (by decide) (fun c_1 => ?_) (fun c_1 => ?_)
  · skip
    refine lv_iconst (v := 1) hx hb dX2_isSound_13 (by decide) ?_
    refine w_call (va_runV (As := [.int 1]) (rest := []) ⟨hx, hb, hml, hown, hts⟩ (c_X2_holds l D cI cZ q σ hq 1) (cwV 1 hts gX2_isSound_X2_holds rfl rfl rfl kd_X2_holds ⟨Nat.le_of_ble_eq_true rfl, Nat.le_of_ble_eq_true rfl⟩) (pV_M hP hK) rfl rfl hl.1 rfl (lv_room (Nat.le_of_ble_eq_true rfl)) dX2_isSound_14 ⟨Nat.le_of_ble_eq_true rfl, Nat.le_of_ble_eq_true rfl⟩) hS (fun _ h => h) (fun v_2 H locs hv_2 _ _ hS => ?_)
    obtain ⟨rfl, hP⟩ := hv_2
    have hP : va_P D vwCl (wM cI cZ q (msThr σ 1)) H := hP
    refine eqB false (tgt := 32) hx hb rfl dX2_isSound_17 (by decide) (fun c_3 => ?_) (fun c_3 => ?_)
    rotate_left
    · exact absurd c_3 (by decide)
    refine lv_iconst (v := 0) hx hb dX2_isSound_32 (by decide) ?_
    exact RET (false) _ _ _ _ (by have hs : mSound σ x1 = (false, (msThr σ 1)) := (by simp [mSound, palM, pN, thr_1, thr_2, thr_3, thr_4, thr_5, thr_6, thr_7, thr_8, c_1] <;> decide); rw [hs]; exact ⟨rfl, hP⟩) hS dX2_isSound_33
  · skip
    obtain ⟨P, hP9, rfl⟩ := inB_pal (by omega) c_1
    have hcP : (nI P).toNatClampNeg = P := nI_clamp (by omega)
    refine lv_iconst (v := 0) hx hb dX2_isSound_9 (by decide) ?_
    refine lv_goto (tgt := 14) hx hb dX2_isSound_10 (by decide) ?_
    refine w_call (va_runV (As := [.int 0]) (rest := []) ⟨hx, hb, hml, hown, hts⟩ (c_X2_holds l D cI cZ q σ hq 0) (cwV 1 hts gX2_isSound_X2_holds rfl rfl rfl kd_X2_holds ⟨Nat.le_of_ble_eq_true rfl, Nat.le_of_ble_eq_true rfl⟩) (pV_M hP hK) rfl rfl hl.1 rfl (lv_room (Nat.le_of_ble_eq_true rfl)) dX2_isSound_14 ⟨Nat.le_of_ble_eq_true rfl, Nat.le_of_ble_eq_true rfl⟩) hS (fun _ h => h) (fun v_4 H locs hv_4 _ _ hS => ?_)
    obtain ⟨rfl, hP⟩ := hv_4
    have hP : va_P D vwCl (wM cI cZ q (msThr σ 0)) H := hP
    refine eqB true (tgt := 32) hx hb rfl dX2_isSound_17 (by decide) (fun c_5 => ?_) (fun c_5 => ?_)
    · exact absurd c_5 (by decide)
    refine lv_aload_n hx hb dX2_isSound_20 rfl (lv_at hl 0 rfl) ?_
    refine lv_iload_n hx hb dX2_isSound_21 rfl (lv_at hl 1 rfl) ?_
    refine r_callE (x := bI (msF σ P)) (va_runV (As := [.int (nI (P))]) (rest := []) ⟨hx, hb, hml, hown, hts⟩ (c_X2_sound l D cI cZ q (msThr σ 0) P (by omega) hman hoth) (cwV 1 hts gX2_isSound_X2_sound rfl rfl rfl kd_X2_sound ⟨Nat.le_of_ble_eq_true rfl, Nat.le_of_ble_eq_true rfl⟩) (pV_M hP hK) rfl rfl hl.1 rfl (lv_room (Nat.le_of_ble_eq_true rfl)) dX2_isSound_22 ⟨Nat.le_of_ble_eq_true rfl, Nat.le_of_ble_eq_true rfl⟩) ?_
    refine eqB (msF σ P) (tgt := 32) hx hb rfl dX2_isSound_25 (by decide) (fun c_6 => ?_) (fun c_6 => ?_)
    · skip
      refine lv_iconst (v := 0) hx hb dX2_isSound_32 (by decide) ?_
      exact RET (false) _ _ _ _ (by have hs : mSound σ (nI P) = (false, (msThr σ 0)) := (by simp [mSound, palM, pN, thr_1, thr_2, thr_3, thr_4, thr_5, thr_6, thr_7, thr_8, c_1, c_6, hcP] <;> decide); rw [hs]; exact ⟨rfl, hP⟩) hS dX2_isSound_33
    · skip
      refine lv_iconst (v := 1) hx hb dX2_isSound_28 (by decide) ?_
      refine lv_goto (tgt := 33) hx hb dX2_isSound_29 (by decide) ?_
      exact RET (true) _ _ _ _ (by have hs : mSound σ (nI P) = (true, (msThr σ 0)) := (by simp [mSound, palM, pN, thr_1, thr_2, thr_3, thr_4, thr_5, thr_6, thr_7, thr_8, c_1, c_6, hcP] <;> decide); rw [hs]; exact ⟨rfl, hP⟩) hS dX2_isSound_33
theorem kn_X2_contents : yX2_contents.cls ≠ "java/lang/invoke/MethodHandle" ∧ yX2_contents.cls ≠ "java/lang/invoke/VarHandle" ∧ (parseMethodDescriptor yX2_contents.desc).map (fun d => d.parameters.length) = some 2 := by decide +kernel
theorem kd_X2_contents : yX2_contents.cls = RX2 ∧ yX2_contents.cls ≠ "java/lang/invoke/MethodHandle" ∧ yX2_contents.cls ≠ "java/lang/invoke/VarHandle" ∧ (parseMethodDescriptor yX2_contents.desc).map (fun d => d.parameters.length) = some 2 := by decide +kernel
set_option maxHeartbeats 4000000 in
set_option maxRecDepth 100000 in
theorem c_X2_contents (l : Launch) (D : va_G) (cI cZ : ClassId) (q : Nat → Nat) (σ : SM) (hq : ijQ 20 q) (x1 x2 : Int32) (ok : okM σ) (hoth : othM σ) (hz : ∀ P, mN σ ≤ P → mMan σ P = 0) (hg14 : ∀ P O, cjF σ P O = true → mGor σ < 14) (hc7 : ∀ r i, 7 ≤ i → i < 32 → bt (mCop σ r) i = false) : Met l yX2_contents wsX2_contents ({ frames := 2, cells := 0, slots := 0, locals := 43 }) (va_Pc [.ref (q 0), .int x1, .int x2] (PM D cI cZ q σ)) (wQ (adQ 20 q) (fun v H1 => v = some (.int (mContents σ x1 x2).1) ∧ va_P D vwCl (wM cI cZ q (mContents σ x1 x2).2) H1)) 0 0 (adQ 20 q) := by
  refine openW (cc := cX2_contents) (maxL := 3) (by decide) rfl (Nat.le_of_ble_eq_true rfl) ?_
  intro p e s m args below meth c hx hb hml hts hown hpre Q RET ls hl
  have hown : s.vm.findClass RX2 = some m.cls := hown
  have hl : lv_has ls 3 [(0, .ref (q 0)), (1, .int x1), (2, .int x2)] := hl
  obtain ⟨hP, hK⟩ := hpre
  have hS : va_S (adQ 20 q) s.heap s.heap [] := va_S.rf
  have hiX2 : ∀ w ∈ wsX20, w ∈ wsX2_contents := by decide +kernel
  have hf13 := hts (.fieldLink RX2 13 "PalletGramModel" "goods" "[I") (by decide +kernel)
  have hn : mN σ ≤ 14 := ok.1
  have hhol : ∀ P, mHol σ P < 6 := ok.2.1
  have hman : ∀ P, mMan σ P ≤ 30 := ok.2.2.1
  have hgor := ok.2.2.2.1
  have hwen := ok.2.2.2.2
  refine lv_aload_n hx hb dX2_contents_0 rfl (lv_at hl 0 rfl) ?_
  refine lv_aload_n hx hb dX2_contents_1 rfl (lv_at hl 0 rfl) ?_
  refine lv_iload_n hx hb dX2_contents_2 rfl (lv_at hl 1 rfl) ?_
  refine r_callE (x := bI (inB x1 0 (nI (mN σ) - 1))) (va_runV (As := [.int x1]) (rest := [.ref (q 0)]) ⟨hx, hb, hml, hown, hts⟩ (c_X2_isPallet l D cI cZ q σ x1) (cwV 1 hts gX2_contents_X2_isPallet rfl rfl rfl kd_X2_isPallet ⟨Nat.le_of_ble_eq_true rfl, Nat.le_of_ble_eq_true rfl⟩) (pV_M hP hK) rfl rfl hl.1 rfl (lv_room (Nat.le_of_ble_eq_true rfl)) dX2_contents_3 ⟨Nat.le_of_ble_eq_true rfl, Nat.le_of_ble_eq_true rfl⟩) ?_
  refine eqB (inB x1 0 (nI (mN σ) - 1)) (tgt := 20) hx hb rfl dX2_contents_6 (by decide) (fun c_1 => ?_) (fun c_1 => ?_)
  · skip
    refine lv_iconst (v := 1) hx hb dX2_contents_20 (by decide) ?_
    refine w_call (va_runV (As := [.int 1]) (rest := []) ⟨hx, hb, hml, hown, hts⟩ (c_X2_holds l D cI cZ q σ hq 1) (cwV 1 hts gX2_contents_X2_holds rfl rfl rfl kd_X2_holds ⟨Nat.le_of_ble_eq_true rfl, Nat.le_of_ble_eq_true rfl⟩) (pV_M hP hK) rfl rfl hl.1 rfl (lv_room (Nat.le_of_ble_eq_true rfl)) dX2_contents_21 ⟨Nat.le_of_ble_eq_true rfl, Nat.le_of_ble_eq_true rfl⟩) hS (fun _ h => h) (fun v_2 H locs hv_2 _ _ hS => ?_)
    obtain ⟨rfl, hP⟩ := hv_2
    have hP : va_P D vwCl (wM cI cZ q (msThr σ 1)) H := hP
    refine eqB false (tgt := 41) hx hb rfl dX2_contents_24 (by decide) (fun c_3 => ?_) (fun c_3 => ?_)
    rotate_left
    · exact absurd c_3 (by decide)
    refine lv_iconst (v := 0) hx hb dX2_contents_41 (by decide) ?_
    exact RET _ _ _ _ _ (by have hs : mContents σ x1 x2 = (0, (msThr σ 1)) := (by simp [mContents, palM, pN, thr_1, thr_2, thr_3, thr_4, thr_5, thr_6, thr_7, thr_8, c_1] <;> decide); rw [hs]; exact ⟨rfl, hP⟩) hS dX2_contents_42
  · skip
    refine lv_iload_n hx hb dX2_contents_9 rfl (lv_at hl 2 rfl) ?_
    refine r_callE (x := bI (inB x2 0 5)) (va_runS (As := [.int x2]) (rest := [.ref (q 0)]) ⟨hx, hb, hml, hown, hts⟩ (c_X2_isGood l x2) (va_cwS 1 hts gX2_contents_X2_isGood rfl rfl rfl kn_X2_isGood ⟨Nat.le_of_ble_eq_true rfl, Nat.le_of_ble_eq_true rfl⟩) (pS_T) rfl rfl hl.1 rfl (lv_room (Nat.le_of_ble_eq_true rfl)) dX2_contents_10 ⟨Nat.le_of_ble_eq_true rfl, Nat.le_of_ble_eq_true rfl⟩) ?_
    refine eqB (inB x2 0 5) (tgt := 20) hx hb rfl dX2_contents_13 (by decide) (fun c_4 => ?_) (fun c_4 => ?_)
    · skip
      refine lv_iconst (v := 1) hx hb dX2_contents_20 (by decide) ?_
      refine w_call (va_runV (As := [.int 1]) (rest := []) ⟨hx, hb, hml, hown, hts⟩ (c_X2_holds l D cI cZ q σ hq 1) (cwV 1 hts gX2_contents_X2_holds rfl rfl rfl kd_X2_holds ⟨Nat.le_of_ble_eq_true rfl, Nat.le_of_ble_eq_true rfl⟩) (pV_M hP hK) rfl rfl hl.1 rfl (lv_room (Nat.le_of_ble_eq_true rfl)) dX2_contents_21 ⟨Nat.le_of_ble_eq_true rfl, Nat.le_of_ble_eq_true rfl⟩) hS (fun _ h => h) (fun v_5 H locs hv_5 _ _ hS => ?_)
      obtain ⟨rfl, hP⟩ := hv_5
      have hP : va_P D vwCl (wM cI cZ q (msThr σ 1)) H := hP
      refine eqB false (tgt := 41) hx hb rfl dX2_contents_24 (by decide) (fun c_6 => ?_) (fun c_6 => ?_)
      rotate_left
      · exact absurd c_6 (by decide)
      refine lv_iconst (v := 0) hx hb dX2_contents_41 (by decide) ?_
      exact RET _ _ _ _ _ (by have hs : mContents σ x1 x2 = (0, (msThr σ 1)) := (by simp [mContents, palM, pN, thr_1, thr_2, thr_3, thr_4, thr_5, thr_6, thr_7, thr_8, c_1, c_4] <;> decide); rw [hs]; exact ⟨rfl, hP⟩) hS dX2_contents_42
    · skip
      obtain ⟨P, hP9, rfl⟩ := inB_pal (by omega) c_1
      have hcP : (nI P).toNatClampNeg = P := nI_clamp (by omega)
      obtain ⟨G, hG8, hG9, rfl⟩ := inB_nat (lo := 0) (hi := 5) (by decide) (by decide) c_4
      have hcG : (nI G).toNatClampNeg = G := nI_clamp (by omega)
      refine lv_iconst (v := 0) hx hb dX2_contents_16 (by decide) ?_
      refine lv_goto (tgt := 21) hx hb dX2_contents_17 (by decide) ?_
      refine w_call (va_runV (As := [.int 0]) (rest := []) ⟨hx, hb, hml, hown, hts⟩ (c_X2_holds l D cI cZ q σ hq 0) (cwV 1 hts gX2_contents_X2_holds rfl rfl rfl kd_X2_holds ⟨Nat.le_of_ble_eq_true rfl, Nat.le_of_ble_eq_true rfl⟩) (pV_M hP hK) rfl rfl hl.1 rfl (lv_room (Nat.le_of_ble_eq_true rfl)) dX2_contents_21 ⟨Nat.le_of_ble_eq_true rfl, Nat.le_of_ble_eq_true rfl⟩) hS (fun _ h => h) (fun v_7 H locs hv_7 _ _ hS => ?_)
      obtain ⟨rfl, hP⟩ := hv_7
      have hP : va_P D vwCl (wM cI cZ q (msThr σ 0)) H := hP
      refine eqB true (tgt := 41) hx hb rfl dX2_contents_24 (by decide) (fun c_8 => ?_) (fun c_8 => ?_)
      · exact absurd c_8 (by decide)
      refine lv_aload_n hx hb dX2_contents_27 rfl (lv_at hl 0 rfl) ?_
      refine gf_2_2 hx hb hts hiX2 hown hK hP hf13 dX2_contents_28 ?_
      refine lv_bipush (v := 6) hx hb dX2_contents_31 (by decide) ?_
      refine lv_iload_n hx hb dX2_contents_33 rfl (lv_at hl 1 rfl) ?_
      refine mulNc 6 P hx hb rfl rfl dX2_contents_34 ?_
      refine lv_iload_n hx hb dX2_contents_35 rfl (lv_at hl 2 rfl) ?_
      refine addN (P * 6) G hx hb rfl rfl dX2_contents_36 ?_
      refine mld_2 (k := P * 6 + G) (v := ((mGoo σ)) (P * 6 + G)) hx hb hK hP rfl (by omega) rfl dX2_contents_37 ?_
      refine lv_goto (tgt := 42) hx hb dX2_contents_38 (by decide) ?_
      exact RET _ _ _ _ _ (by have hs : mContents σ (nI P) (nI G) = ((((mGoo σ)) (P * 6 + G)), (msThr σ 0)) := (by simp [mContents, palM, pN, thr_1, thr_2, thr_3, thr_4, thr_5, thr_6, thr_7, thr_8, c_1, c_4, hcP, hcG] <;> decide); rw [hs]; exact ⟨rfl, hP⟩) hS dX2_contents_42
theorem kn_X2_contentsAnew : yX2_contentsAnew.cls ≠ "java/lang/invoke/MethodHandle" ∧ yX2_contentsAnew.cls ≠ "java/lang/invoke/VarHandle" ∧ (parseMethodDescriptor yX2_contentsAnew.desc).map (fun d => d.parameters.length) = some 2 := by decide +kernel
theorem kd_X2_contentsAnew : yX2_contentsAnew.cls = RX2 ∧ yX2_contentsAnew.cls ≠ "java/lang/invoke/MethodHandle" ∧ yX2_contentsAnew.cls ≠ "java/lang/invoke/VarHandle" ∧ (parseMethodDescriptor yX2_contentsAnew.desc).map (fun d => d.parameters.length) = some 2 := by decide +kernel
set_option maxHeartbeats 4000000 in
set_option maxRecDepth 100000 in
theorem c_X2_contentsAnew (l : Launch) (D : va_G) (cI cZ : ClassId) (q : Nat → Nat) (σ : SM) (hq : ijQ 20 q) (x1 x2 : Int32) (ok : okM σ) (hoth : othM σ) (hz : ∀ P, mN σ ≤ P → mMan σ P = 0) (hg14 : ∀ P O, cjF σ P O = true → mGor σ < 14) (hc7 : ∀ r i, 7 ≤ i → i < 32 → bt (mCop σ r) i = false) : Met l yX2_contentsAnew wsX2_contentsAnew ({ frames := 3, cells := 0, slots := 0, locals := 69 }) (va_Pc [.ref (q 0), .int x1, .int x2] (PM D cI cZ q σ)) (wQ (adQ 20 q) (fun v H1 => v = some (.int (mAnew σ x1 x2).1) ∧ va_P D vwCl (wM cI cZ q (mAnew σ x1 x2).2) H1)) 0 0 (adQ 20 q) := by
  refine openW (cc := cX2_contentsAnew) (maxL := 3) (by decide) rfl (Nat.le_of_ble_eq_true rfl) ?_
  intro p e s m args below meth c hx hb hml hts hown hpre Q RET ls hl
  have hown : s.vm.findClass RX2 = some m.cls := hown
  have hl : lv_has ls 3 [(0, .ref (q 0)), (1, .int x1), (2, .int x2)] := hl
  obtain ⟨hP, hK⟩ := hpre
  have hS : va_S (adQ 20 q) s.heap s.heap [] := va_S.rf
  have hn : mN σ ≤ 14 := ok.1
  have hhol : ∀ P, mHol σ P < 6 := ok.2.1
  have hman : ∀ P, mMan σ P ≤ 30 := ok.2.2.1
  have hgor := ok.2.2.2.1
  have hwen := ok.2.2.2.2
  refine lv_aload_n hx hb dX2_contentsAnew_0 rfl (lv_at hl 0 rfl) ?_
  refine lv_aload_n hx hb dX2_contentsAnew_1 rfl (lv_at hl 0 rfl) ?_
  refine lv_iload_n hx hb dX2_contentsAnew_2 rfl (lv_at hl 1 rfl) ?_
  refine r_callE (x := bI (inB x1 0 (nI (mN σ) - 1))) (va_runV (As := [.int x1]) (rest := [.ref (q 0)]) ⟨hx, hb, hml, hown, hts⟩ (c_X2_isPallet l D cI cZ q σ x1) (cwV 1 hts gX2_contentsAnew_X2_isPallet rfl rfl rfl kd_X2_isPallet ⟨Nat.le_of_ble_eq_true rfl, Nat.le_of_ble_eq_true rfl⟩) (pV_M hP hK) rfl rfl hl.1 rfl (lv_room (Nat.le_of_ble_eq_true rfl)) dX2_contentsAnew_3 ⟨Nat.le_of_ble_eq_true rfl, Nat.le_of_ble_eq_true rfl⟩) ?_
  refine eqB (inB x1 0 (nI (mN σ) - 1)) (tgt := 20) hx hb rfl dX2_contentsAnew_6 (by decide) (fun c_1 => ?_) (fun c_1 => ?_)
  · skip
    refine lv_iconst (v := 1) hx hb dX2_contentsAnew_20 (by decide) ?_
    refine w_call (va_runV (As := [.int 1]) (rest := []) ⟨hx, hb, hml, hown, hts⟩ (c_X2_holds l D cI cZ q σ hq 1) (cwV 1 hts gX2_contentsAnew_X2_holds rfl rfl rfl kd_X2_holds ⟨Nat.le_of_ble_eq_true rfl, Nat.le_of_ble_eq_true rfl⟩) (pV_M hP hK) rfl rfl hl.1 rfl (lv_room (Nat.le_of_ble_eq_true rfl)) dX2_contentsAnew_21 ⟨Nat.le_of_ble_eq_true rfl, Nat.le_of_ble_eq_true rfl⟩) hS (fun _ h => h) (fun v_2 H locs hv_2 _ _ hS => ?_)
    obtain ⟨rfl, hP⟩ := hv_2
    have hP : va_P D vwCl (wM cI cZ q (msThr σ 1)) H := hP
    refine eqB false (tgt := 36) hx hb rfl dX2_contentsAnew_24 (by decide) (fun c_3 => ?_) (fun c_3 => ?_)
    rotate_left
    · exact absurd c_3 (by decide)
    refine lv_iconst (v := 0) hx hb dX2_contentsAnew_36 (by decide) ?_
    exact RET _ _ _ _ _ (by have hs : mAnew σ x1 x2 = (0, (msThr σ 1)) := (by simp [mAnew, palM, pN, thr_1, thr_2, thr_3, thr_4, thr_5, thr_6, thr_7, thr_8, c_1] <;> decide); rw [hs]; exact ⟨rfl, hP⟩) hS dX2_contentsAnew_37
  · skip
    refine lv_iload_n hx hb dX2_contentsAnew_9 rfl (lv_at hl 2 rfl) ?_
    refine r_callE (x := bI (inB x2 0 5)) (va_runS (As := [.int x2]) (rest := [.ref (q 0)]) ⟨hx, hb, hml, hown, hts⟩ (c_X2_isGood l x2) (va_cwS 1 hts gX2_contentsAnew_X2_isGood rfl rfl rfl kn_X2_isGood ⟨Nat.le_of_ble_eq_true rfl, Nat.le_of_ble_eq_true rfl⟩) (pS_T) rfl rfl hl.1 rfl (lv_room (Nat.le_of_ble_eq_true rfl)) dX2_contentsAnew_10 ⟨Nat.le_of_ble_eq_true rfl, Nat.le_of_ble_eq_true rfl⟩) ?_
    refine eqB (inB x2 0 5) (tgt := 20) hx hb rfl dX2_contentsAnew_13 (by decide) (fun c_4 => ?_) (fun c_4 => ?_)
    · skip
      refine lv_iconst (v := 1) hx hb dX2_contentsAnew_20 (by decide) ?_
      refine w_call (va_runV (As := [.int 1]) (rest := []) ⟨hx, hb, hml, hown, hts⟩ (c_X2_holds l D cI cZ q σ hq 1) (cwV 1 hts gX2_contentsAnew_X2_holds rfl rfl rfl kd_X2_holds ⟨Nat.le_of_ble_eq_true rfl, Nat.le_of_ble_eq_true rfl⟩) (pV_M hP hK) rfl rfl hl.1 rfl (lv_room (Nat.le_of_ble_eq_true rfl)) dX2_contentsAnew_21 ⟨Nat.le_of_ble_eq_true rfl, Nat.le_of_ble_eq_true rfl⟩) hS (fun _ h => h) (fun v_5 H locs hv_5 _ _ hS => ?_)
      obtain ⟨rfl, hP⟩ := hv_5
      have hP : va_P D vwCl (wM cI cZ q (msThr σ 1)) H := hP
      refine eqB false (tgt := 36) hx hb rfl dX2_contentsAnew_24 (by decide) (fun c_6 => ?_) (fun c_6 => ?_)
      rotate_left
      · exact absurd c_6 (by decide)
      refine lv_iconst (v := 0) hx hb dX2_contentsAnew_36 (by decide) ?_
      exact RET _ _ _ _ _ (by have hs : mAnew σ x1 x2 = (0, (msThr σ 1)) := (by simp [mAnew, palM, pN, thr_1, thr_2, thr_3, thr_4, thr_5, thr_6, thr_7, thr_8, c_1, c_4] <;> decide); rw [hs]; exact ⟨rfl, hP⟩) hS dX2_contentsAnew_37
    · skip
      obtain ⟨P, hP9, rfl⟩ := inB_pal (by omega) c_1
      have hcP : (nI P).toNatClampNeg = P := nI_clamp (by omega)
      obtain ⟨G, hG8, hG9, rfl⟩ := inB_nat (lo := 0) (hi := 5) (by decide) (by decide) c_4
      have hcG : (nI G).toNatClampNeg = G := nI_clamp (by omega)
      refine lv_iconst (v := 0) hx hb dX2_contentsAnew_16 (by decide) ?_
      refine lv_goto (tgt := 21) hx hb dX2_contentsAnew_17 (by decide) ?_
      refine w_call (va_runV (As := [.int 0]) (rest := []) ⟨hx, hb, hml, hown, hts⟩ (c_X2_holds l D cI cZ q σ hq 0) (cwV 1 hts gX2_contentsAnew_X2_holds rfl rfl rfl kd_X2_holds ⟨Nat.le_of_ble_eq_true rfl, Nat.le_of_ble_eq_true rfl⟩) (pV_M hP hK) rfl rfl hl.1 rfl (lv_room (Nat.le_of_ble_eq_true rfl)) dX2_contentsAnew_21 ⟨Nat.le_of_ble_eq_true rfl, Nat.le_of_ble_eq_true rfl⟩) hS (fun _ h => h) (fun v_7 H locs hv_7 _ _ hS => ?_)
      obtain ⟨rfl, hP⟩ := hv_7
      have hP : va_P D vwCl (wM cI cZ q (msThr σ 0)) H := hP
      refine eqB true (tgt := 36) hx hb rfl dX2_contentsAnew_24 (by decide) (fun c_8 => ?_) (fun c_8 => ?_)
      · exact absurd c_8 (by decide)
      refine lv_aload_n hx hb dX2_contentsAnew_27 rfl (lv_at hl 0 rfl) ?_
      refine lv_iload_n hx hb dX2_contentsAnew_28 rfl (lv_at hl 1 rfl) ?_
      refine lv_iload_n hx hb dX2_contentsAnew_29 rfl (lv_at hl 2 rfl) ?_
      refine w_call (va_runV (As := [.int (nI (P)), .int (nI (G))]) (rest := []) ⟨hx, hb, hml, hown, hts⟩ (c_X2_anew l D cI cZ q (msThr σ 0) hq P (nI (G)) (by omega) ⟨hn, hhol, hman, hgor, hwen⟩ hoth) (cwV 2 hts gX2_contentsAnew_X2_anew rfl rfl rfl kd_X2_anew ⟨Nat.le_of_ble_eq_true rfl, Nat.le_of_ble_eq_true rfl⟩) (pV_M hP hK) rfl rfl hl.1 rfl (lv_room (Nat.le_of_ble_eq_true rfl)) dX2_contentsAnew_30 ⟨Nat.le_of_ble_eq_true rfl, Nat.le_of_ble_eq_true rfl⟩) hS (fun _ h => h) (fun v_9 H locs hv_9 _ _ hS => ?_)
      obtain ⟨rfl, hP⟩ := hv_9
      have hP : va_P D vwCl (wM cI cZ q (msTol (msThr σ 0) (tlF σ (mTol σ) (nI (G))))) H := hP
      refine lv_goto (tgt := 37) hx hb dX2_contentsAnew_33 (by decide) ?_
      exact RET _ _ _ _ _ (by have hs : mAnew σ (nI P) (nI G) = ((anF σ (mTol σ) P (nI (G))), (msTol (msThr σ 0) (tlF σ (mTol σ) (nI (G))))) := (by simp [mAnew, palM, pN, thr_1, thr_2, thr_3, thr_4, thr_5, thr_6, thr_7, thr_8, c_1, c_4, hcP, hcG] <;> decide); rw [hs]; exact ⟨rfl, hP⟩) hS dX2_contentsAnew_37
theorem kn_X2_owed : yX2_owed.cls ≠ "java/lang/invoke/MethodHandle" ∧ yX2_owed.cls ≠ "java/lang/invoke/VarHandle" ∧ (parseMethodDescriptor yX2_owed.desc).map (fun d => d.parameters.length) = some 1 := by decide +kernel
theorem kd_X2_owed : yX2_owed.cls = RX2 ∧ yX2_owed.cls ≠ "java/lang/invoke/MethodHandle" ∧ yX2_owed.cls ≠ "java/lang/invoke/VarHandle" ∧ (parseMethodDescriptor yX2_owed.desc).map (fun d => d.parameters.length) = some 1 := by decide +kernel
set_option maxHeartbeats 4000000 in
set_option maxRecDepth 100000 in
theorem c_X2_owed (l : Launch) (D : va_G) (cI cZ : ClassId) (q : Nat → Nat) (σ : SM) (hq : ijQ 20 q) (x1 : Int32) (ok : okM σ) (hoth : othM σ) (hz : ∀ P, mN σ ≤ P → mMan σ P = 0) (hg14 : ∀ P O, cjF σ P O = true → mGor σ < 14) (hc7 : ∀ r i, 7 ≤ i → i < 32 → bt (mCop σ r) i = false) : Met l yX2_owed wsX2_owed ({ frames := 1, cells := 0, slots := 0, locals := 22 }) (va_Pc [.ref (q 0), .int x1] (PM D cI cZ q σ)) (wQ (adQ 20 q) (fun v H1 => v = some (.int (mOwed σ x1).1) ∧ va_P D vwCl (wM cI cZ q (mOwed σ x1).2) H1)) 0 0 (adQ 20 q) := by
  refine openW (cc := cX2_owed) (maxL := 2) (by decide) rfl (Nat.le_of_ble_eq_true rfl) ?_
  intro p e s m args below meth c hx hb hml hts hown hpre Q RET ls hl
  have hown : s.vm.findClass RX2 = some m.cls := hown
  have hl : lv_has ls 2 [(0, .ref (q 0)), (1, .int x1)] := hl
  obtain ⟨hP, hK⟩ := hpre
  have hS : va_S (adQ 20 q) s.heap s.heap [] := va_S.rf
  have hiX2 : ∀ w ∈ wsX20, w ∈ wsX2_owed := by decide +kernel
  have hf62 := hts (.fieldLink RX2 62 "PalletGramModel" "owed" "[I") (by decide +kernel)
  have hn : mN σ ≤ 14 := ok.1
  have hhol : ∀ P, mHol σ P < 6 := ok.2.1
  have hman : ∀ P, mMan σ P ≤ 30 := ok.2.2.1
  have hgor := ok.2.2.2.1
  have hwen := ok.2.2.2.2
  refine lv_aload_n hx hb dX2_owed_0 rfl (lv_at hl 0 rfl) ?_
  refine lv_iload_n hx hb dX2_owed_1 rfl (lv_at hl 1 rfl) ?_
  refine lv_iconst (v := 0) hx hb dX2_owed_2 (by decide) ?_
  refine lv_bipush (v := 6) hx hb dX2_owed_3 (by decide) ?_
  refine r_callE (x := bI (inB x1 0 6)) (va_runS (As := [.int x1, .int 0, .int 6]) (rest := [.ref (q 0)]) ⟨hx, hb, hml, hown, hts⟩ (c_X2_isIn l x1 0 6) (va_cwS 3 hts gX2_owed_X2_isIn rfl rfl rfl kn_X2_isIn ⟨Nat.le_of_ble_eq_true rfl, Nat.le_of_ble_eq_true rfl⟩) (pS_T) rfl rfl hl.1 rfl (lv_room (Nat.le_of_ble_eq_true rfl)) dX2_owed_5 ⟨Nat.le_of_ble_eq_true rfl, Nat.le_of_ble_eq_true rfl⟩) ?_
  refine eqB (inB x1 0 6) (tgt := 15) hx hb rfl dX2_owed_8 (by decide) (fun c_1 => ?_) (fun c_1 => ?_)
  · skip
    refine lv_iconst (v := 1) hx hb dX2_owed_15 (by decide) ?_
    refine w_call (va_runV (As := [.int 1]) (rest := []) ⟨hx, hb, hml, hown, hts⟩ (c_X2_holds l D cI cZ q σ hq 1) (cwV 1 hts gX2_owed_X2_holds rfl rfl rfl kd_X2_holds ⟨Nat.le_of_ble_eq_true rfl, Nat.le_of_ble_eq_true rfl⟩) (pV_M hP hK) rfl rfl hl.1 rfl (lv_room (Nat.le_of_ble_eq_true rfl)) dX2_owed_16 ⟨Nat.le_of_ble_eq_true rfl, Nat.le_of_ble_eq_true rfl⟩) hS (fun _ h => h) (fun v_2 H locs hv_2 _ _ hS => ?_)
    obtain ⟨rfl, hP⟩ := hv_2
    have hP : va_P D vwCl (wM cI cZ q (msThr σ 1)) H := hP
    refine eqB false (tgt := 31) hx hb rfl dX2_owed_19 (by decide) (fun c_3 => ?_) (fun c_3 => ?_)
    rotate_left
    · exact absurd c_3 (by decide)
    refine lv_iconst (v := 0) hx hb dX2_owed_31 (by decide) ?_
    exact RET _ _ _ _ _ (by have hs : mOwed σ x1 = (0, (msThr σ 1)) := (by simp [mOwed, palM, pN, thr_1, thr_2, thr_3, thr_4, thr_5, thr_6, thr_7, thr_8, c_1] <;> decide); rw [hs]; exact ⟨rfl, hP⟩) hS dX2_owed_32
  · skip
    obtain ⟨P, hP8, hP9, rfl⟩ := inB_nat (lo := 0) (hi := 6) (by decide) (by decide) c_1
    have hcP : (nI P).toNatClampNeg = P := nI_clamp (by omega)
    refine lv_iconst (v := 0) hx hb dX2_owed_11 (by decide) ?_
    refine lv_goto (tgt := 16) hx hb dX2_owed_12 (by decide) ?_
    refine w_call (va_runV (As := [.int 0]) (rest := []) ⟨hx, hb, hml, hown, hts⟩ (c_X2_holds l D cI cZ q σ hq 0) (cwV 1 hts gX2_owed_X2_holds rfl rfl rfl kd_X2_holds ⟨Nat.le_of_ble_eq_true rfl, Nat.le_of_ble_eq_true rfl⟩) (pV_M hP hK) rfl rfl hl.1 rfl (lv_room (Nat.le_of_ble_eq_true rfl)) dX2_owed_16 ⟨Nat.le_of_ble_eq_true rfl, Nat.le_of_ble_eq_true rfl⟩) hS (fun _ h => h) (fun v_4 H locs hv_4 _ _ hS => ?_)
    obtain ⟨rfl, hP⟩ := hv_4
    have hP : va_P D vwCl (wM cI cZ q (msThr σ 0)) H := hP
    refine eqB true (tgt := 31) hx hb rfl dX2_owed_19 (by decide) (fun c_5 => ?_) (fun c_5 => ?_)
    · exact absurd c_5 (by decide)
    refine lv_aload_n hx hb dX2_owed_22 rfl (lv_at hl 0 rfl) ?_
    refine gf_2_20 hx hb hts hiX2 hown hK hP hf62 dX2_owed_23 ?_
    refine lv_iload_n hx hb dX2_owed_26 rfl (lv_at hl 1 rfl) ?_
    refine mld_18 (k := P) (v := ((mOwe σ)) P) hx hb hK hP rfl (by omega) rfl dX2_owed_27 ?_
    refine lv_goto (tgt := 32) hx hb dX2_owed_28 (by decide) ?_
    exact RET _ _ _ _ _ (by have hs : mOwed σ (nI P) = ((((mOwe σ)) P), (msThr σ 0)) := (by simp [mOwed, palM, pN, thr_1, thr_2, thr_3, thr_4, thr_5, thr_6, thr_7, thr_8, c_1, hcP] <;> decide); rw [hs]; exact ⟨rfl, hP⟩) hS dX2_owed_32
theorem kn_X2_fee : yX2_fee.cls ≠ "java/lang/invoke/MethodHandle" ∧ yX2_fee.cls ≠ "java/lang/invoke/VarHandle" ∧ (parseMethodDescriptor yX2_fee.desc).map (fun d => d.parameters.length) = some 2 := by decide +kernel
theorem kd_X2_fee : yX2_fee.cls = RX2 ∧ yX2_fee.cls ≠ "java/lang/invoke/MethodHandle" ∧ yX2_fee.cls ≠ "java/lang/invoke/VarHandle" ∧ (parseMethodDescriptor yX2_fee.desc).map (fun d => d.parameters.length) = some 2 := by decide +kernel
set_option maxHeartbeats 4000000 in
set_option maxRecDepth 100000 in
theorem c_X2_fee (l : Launch) (D : va_G) (cI cZ : ClassId) (q : Nat → Nat) (σ : SM) (hq : ijQ 20 q) (x1 x2 : Int32) (ok : okM σ) (hoth : othM σ) (hz : ∀ P, mN σ ≤ P → mMan σ P = 0) (hg14 : ∀ P O, cjF σ P O = true → mGor σ < 14) (hc7 : ∀ r i, 7 ≤ i → i < 32 → bt (mCop σ r) i = false) : Met l yX2_fee wsX2_fee ({ frames := 1, cells := 0, slots := 0, locals := 22 }) (va_Pc [.ref (q 0), .int x1, .int x2] (PM D cI cZ q σ)) (wQ (adQ 20 q) (fun v H1 => v = some (.int (mFeeF σ x1 x2).1) ∧ va_P D vwCl (wM cI cZ q (mFeeF σ x1 x2).2) H1)) 0 0 (adQ 20 q) := by
  refine openW (cc := cX2_fee) (maxL := 4) (by decide) rfl (Nat.le_of_ble_eq_true rfl) ?_
  intro p e s m args below meth c hx hb hml hts hown hpre Q RET ls hl
  have hown : s.vm.findClass RX2 = some m.cls := hown
  have hl : lv_has ls 4 [(0, .ref (q 0)), (1, .int x1), (2, .int x2)] := hl
  obtain ⟨hP, hK⟩ := hpre
  have hS : va_S (adQ 20 q) s.heap s.heap [] := va_S.rf
  have hiX2 : ∀ w ∈ wsX20, w ∈ wsX2_fee := by decide +kernel
  have hf59 := hts (.fieldLink RX2 59 "PalletGramModel" "fee" "[I") (by decide +kernel)
  have hn : mN σ ≤ 14 := ok.1
  have hhol : ∀ P, mHol σ P < 6 := ok.2.1
  have hman : ∀ P, mMan σ P ≤ 30 := ok.2.2.1
  have hgor := ok.2.2.2.1
  have hwen := ok.2.2.2.2
  refine lv_aload_n hx hb dX2_fee_0 rfl (lv_at hl 0 rfl) ?_
  refine lv_iload_n hx hb dX2_fee_1 rfl (lv_at hl 1 rfl) ?_
  refine lv_iconst (v := 0) hx hb dX2_fee_2 (by decide) ?_
  refine lv_bipush (v := 9) hx hb dX2_fee_3 (by decide) ?_
  refine r_callE (x := bI (inB x1 0 9)) (va_runS (As := [.int x1, .int 0, .int 9]) (rest := [.ref (q 0)]) ⟨hx, hb, hml, hown, hts⟩ (c_X2_isIn l x1 0 9) (va_cwS 3 hts gX2_fee_X2_isIn rfl rfl rfl kn_X2_isIn ⟨Nat.le_of_ble_eq_true rfl, Nat.le_of_ble_eq_true rfl⟩) (pS_T) rfl rfl hl.1 rfl (lv_room (Nat.le_of_ble_eq_true rfl)) dX2_fee_5 ⟨Nat.le_of_ble_eq_true rfl, Nat.le_of_ble_eq_true rfl⟩) ?_
  refine eqB (inB x1 0 9) (tgt := 25) hx hb rfl dX2_fee_8 (by decide) (fun c_1 => ?_) (fun c_1 => ?_)
  · skip
    refine lv_iconst (v := 1) hx hb dX2_fee_25 (by decide) ?_
    refine w_call (va_runV (As := [.int 1]) (rest := []) ⟨hx, hb, hml, hown, hts⟩ (c_X2_holds l D cI cZ q σ hq 1) (cwV 1 hts gX2_fee_X2_holds rfl rfl rfl kd_X2_holds ⟨Nat.le_of_ble_eq_true rfl, Nat.le_of_ble_eq_true rfl⟩) (pV_M hP hK) rfl rfl hl.1 rfl (lv_room (Nat.le_of_ble_eq_true rfl)) dX2_fee_26 ⟨Nat.le_of_ble_eq_true rfl, Nat.le_of_ble_eq_true rfl⟩) hS (fun _ h => h) (fun v_2 H locs hv_2 _ _ hS => ?_)
    obtain ⟨rfl, hP⟩ := hv_2
    have hP : va_P D vwCl (wM cI cZ q (msThr σ 1)) H := hP
    refine neB false (tgt := 34) hx hb rfl dX2_fee_29 (by decide) (fun c_3 => ?_) (fun c_3 => ?_)
    · exact absurd c_3 (by decide)
    refine lv_iconst (v := 0) hx hb dX2_fee_32 (by decide) ?_
    exact RET _ _ _ _ _ (by have hs : mFeeF σ x1 x2 = (0, (msThr σ 1)) := (by simp [mFeeF, palM, pN, thr_1, thr_2, thr_3, thr_4, thr_5, thr_6, thr_7, thr_8, c_1] <;> decide); rw [hs]; exact ⟨rfl, hP⟩) hS dX2_fee_33
  · skip
    refine lv_iload_n hx hb dX2_fee_11 rfl (lv_at hl 2 rfl) ?_
    refine lv_iconst (v := 0) hx hb dX2_fee_12 (by decide) ?_
    refine lv_bipush (v := 99) hx hb dX2_fee_13 (by decide) ?_
    refine r_callE (x := bI (inB x2 0 99)) (va_runS (As := [.int x2, .int 0, .int 99]) (rest := [.ref (q 0)]) ⟨hx, hb, hml, hown, hts⟩ (c_X2_isIn l x2 0 99) (va_cwS 3 hts gX2_fee_X2_isIn rfl rfl rfl kn_X2_isIn ⟨Nat.le_of_ble_eq_true rfl, Nat.le_of_ble_eq_true rfl⟩) (pS_T) rfl rfl hl.1 rfl (lv_room (Nat.le_of_ble_eq_true rfl)) dX2_fee_15 ⟨Nat.le_of_ble_eq_true rfl, Nat.le_of_ble_eq_true rfl⟩) ?_
    refine eqB (inB x2 0 99) (tgt := 25) hx hb rfl dX2_fee_18 (by decide) (fun c_4 => ?_) (fun c_4 => ?_)
    · skip
      refine lv_iconst (v := 1) hx hb dX2_fee_25 (by decide) ?_
      refine w_call (va_runV (As := [.int 1]) (rest := []) ⟨hx, hb, hml, hown, hts⟩ (c_X2_holds l D cI cZ q σ hq 1) (cwV 1 hts gX2_fee_X2_holds rfl rfl rfl kd_X2_holds ⟨Nat.le_of_ble_eq_true rfl, Nat.le_of_ble_eq_true rfl⟩) (pV_M hP hK) rfl rfl hl.1 rfl (lv_room (Nat.le_of_ble_eq_true rfl)) dX2_fee_26 ⟨Nat.le_of_ble_eq_true rfl, Nat.le_of_ble_eq_true rfl⟩) hS (fun _ h => h) (fun v_5 H locs hv_5 _ _ hS => ?_)
      obtain ⟨rfl, hP⟩ := hv_5
      have hP : va_P D vwCl (wM cI cZ q (msThr σ 1)) H := hP
      refine neB false (tgt := 34) hx hb rfl dX2_fee_29 (by decide) (fun c_6 => ?_) (fun c_6 => ?_)
      · exact absurd c_6 (by decide)
      refine lv_iconst (v := 0) hx hb dX2_fee_32 (by decide) ?_
      exact RET _ _ _ _ _ (by have hs : mFeeF σ x1 x2 = (0, (msThr σ 1)) := (by simp [mFeeF, palM, pN, thr_1, thr_2, thr_3, thr_4, thr_5, thr_6, thr_7, thr_8, c_1, c_4] <;> decide); rw [hs]; exact ⟨rfl, hP⟩) hS dX2_fee_33
    · skip
      obtain ⟨P, hP8, hP9, rfl⟩ := inB_nat (lo := 0) (hi := 9) (by decide) (by decide) c_1
      have hcP : (nI P).toNatClampNeg = P := nI_clamp (by omega)
      refine lv_iconst (v := 0) hx hb dX2_fee_21 (by decide) ?_
      refine lv_goto (tgt := 26) hx hb dX2_fee_22 (by decide) ?_
      refine w_call (va_runV (As := [.int 0]) (rest := []) ⟨hx, hb, hml, hown, hts⟩ (c_X2_holds l D cI cZ q σ hq 0) (cwV 1 hts gX2_fee_X2_holds rfl rfl rfl kd_X2_holds ⟨Nat.le_of_ble_eq_true rfl, Nat.le_of_ble_eq_true rfl⟩) (pV_M hP hK) rfl rfl hl.1 rfl (lv_room (Nat.le_of_ble_eq_true rfl)) dX2_fee_26 ⟨Nat.le_of_ble_eq_true rfl, Nat.le_of_ble_eq_true rfl⟩) hS (fun _ h => h) (fun v_7 H locs hv_7 _ _ hS => ?_)
      obtain ⟨rfl, hP⟩ := hv_7
      have hP : va_P D vwCl (wM cI cZ q (msThr σ 0)) H := hP
      refine neB true (tgt := 34) hx hb rfl dX2_fee_29 (by decide) (fun c_8 => ?_) (fun c_8 => ?_)
      rotate_left
      · exact absurd c_8 (by decide)
      refine lv_aload_n hx hb dX2_fee_34 rfl (lv_at hl 0 rfl) ?_
      refine gf_2_19 hx hb hts hiX2 hown hK hP hf59 dX2_fee_35 ?_
      refine lv_iload_n hx hb dX2_fee_38 rfl (lv_at hl 1 rfl) ?_
      refine mld_17 (k := P) (v := ((mFee σ)) P) hx hb hK hP rfl (by omega) rfl dX2_fee_39 ?_
      refine lv_istore_n (lv' := [(3, .int ((((mFee σ)) P))), (0, .ref (q 0)), (1, .int (nI (P))), (2, .int x2)]) hx hb dX2_fee_40 rfl hl (by decide) rfl (fun ls hl => ?_)
      refine lv_aload_n hx hb dX2_fee_41 rfl (lv_at hl 1 rfl) ?_
      refine gf_2_19 hx hb hts hiX2 hown hK hP hf59 dX2_fee_42 ?_
      refine lv_iload_n hx hb dX2_fee_45 rfl (lv_at hl 2 rfl) ?_
      refine lv_iload_n hx hb dX2_fee_46 rfl (lv_at hl 3 rfl) ?_
      refine mst_17 (k := P) (x := x2) hx hb hK hP hq hS rfl (by omega) dX2_fee_47 (fun fee_9 e_fee_9 H locs hP hS => ?_)
      have hP : va_P D vwCl (wM cI cZ q (msFee (msThr σ 0) fee_9)) H := hP
      refine lv_iload_n hx hb dX2_fee_48 rfl (lv_at hl 0 rfl) ?_
      exact RET _ _ _ _ _ (by have hs : mFeeF σ (nI P) x2 = ((((mFee σ)) P), (msFee (msThr σ 0) fee_9)) := (by simp [mFeeF, palM, pN, thr_1, thr_2, thr_3, thr_4, thr_5, thr_6, thr_7, thr_8, c_1, c_4, hcP, e_fee_9] <;> decide); rw [hs]; exact ⟨rfl, hP⟩) hS dX2_fee_49
theorem kn_X2_mismatch : yX2_mismatch.cls ≠ "java/lang/invoke/MethodHandle" ∧ yX2_mismatch.cls ≠ "java/lang/invoke/VarHandle" ∧ (parseMethodDescriptor yX2_mismatch.desc).map (fun d => d.parameters.length) = some 1 := by decide +kernel
theorem kd_X2_mismatch : yX2_mismatch.cls = RX2 ∧ yX2_mismatch.cls ≠ "java/lang/invoke/MethodHandle" ∧ yX2_mismatch.cls ≠ "java/lang/invoke/VarHandle" ∧ (parseMethodDescriptor yX2_mismatch.desc).map (fun d => d.parameters.length) = some 1 := by decide +kernel
set_option maxHeartbeats 4000000 in
set_option maxRecDepth 100000 in
theorem c_X2_mismatch (l : Launch) (D : va_G) (cI cZ : ClassId) (q : Nat → Nat) (σ : SM) (hq : ijQ 20 q) (x1 : Int32) (ok : okM σ) (hoth : othM σ) (hz : ∀ P, mN σ ≤ P → mMan σ P = 0) (hg14 : ∀ P O, cjF σ P O = true → mGor σ < 14) (hc7 : ∀ r i, 7 ≤ i → i < 32 → bt (mCop σ r) i = false) : Met l yX2_mismatch wsX2_mismatch ({ frames := 4, cells := 0, slots := 0, locals := 94 }) (va_Pc [.ref (q 0), .int x1] (PM D cI cZ q σ)) (wQ (adQ 20 q) (fun v H1 => v = some (.int (mMismatch σ x1).1) ∧ va_P D vwCl (wM cI cZ q (mMismatch σ x1).2) H1)) 0 0 (adQ 20 q) := by
  refine openW (cc := cX2_mismatch) (maxL := 2) (by decide) rfl (Nat.le_of_ble_eq_true rfl) ?_
  intro p e s m args below meth c hx hb hml hts hown hpre Q RET ls hl
  have hown : s.vm.findClass RX2 = some m.cls := hown
  have hl : lv_has ls 2 [(0, .ref (q 0)), (1, .int x1)] := hl
  obtain ⟨hP, hK⟩ := hpre
  have hS : va_S (adQ 20 q) s.heap s.heap [] := va_S.rf
  have hn : mN σ ≤ 14 := ok.1
  have hhol : ∀ P, mHol σ P < 6 := ok.2.1
  have hman : ∀ P, mMan σ P ≤ 30 := ok.2.2.1
  have hgor := ok.2.2.2.1
  have hwen := ok.2.2.2.2
  refine lv_aload_n hx hb dX2_mismatch_0 rfl (lv_at hl 0 rfl) ?_
  refine lv_iload_n hx hb dX2_mismatch_1 rfl (lv_at hl 1 rfl) ?_
  refine r_callE (x := bI (inB x1 4 5)) (va_runS (As := [.int x1]) (rest := [.ref (q 0)]) ⟨hx, hb, hml, hown, hts⟩ (c_X2_isTruck l x1) (va_cwS 1 hts gX2_mismatch_X2_isTruck rfl rfl rfl kn_X2_isTruck ⟨Nat.le_of_ble_eq_true rfl, Nat.le_of_ble_eq_true rfl⟩) (pS_T) rfl rfl hl.1 rfl (lv_room (Nat.le_of_ble_eq_true rfl)) dX2_mismatch_2 ⟨Nat.le_of_ble_eq_true rfl, Nat.le_of_ble_eq_true rfl⟩) ?_
  refine eqB (inB x1 4 5) (tgt := 12) hx hb rfl dX2_mismatch_5 (by decide) (fun c_1 => ?_) (fun c_1 => ?_)
  · skip
    refine lv_iconst (v := 1) hx hb dX2_mismatch_12 (by decide) ?_
    refine w_call (va_runV (As := [.int 1]) (rest := []) ⟨hx, hb, hml, hown, hts⟩ (c_X2_holds l D cI cZ q σ hq 1) (cwV 1 hts gX2_mismatch_X2_holds rfl rfl rfl kd_X2_holds ⟨Nat.le_of_ble_eq_true rfl, Nat.le_of_ble_eq_true rfl⟩) (pV_M hP hK) rfl rfl hl.1 rfl (lv_room (Nat.le_of_ble_eq_true rfl)) dX2_mismatch_13 ⟨Nat.le_of_ble_eq_true rfl, Nat.le_of_ble_eq_true rfl⟩) hS (fun _ h => h) (fun v_2 H locs hv_2 _ _ hS => ?_)
    obtain ⟨rfl, hP⟩ := hv_2
    have hP : va_P D vwCl (wM cI cZ q (msThr σ 1)) H := hP
    refine eqB false (tgt := 27) hx hb rfl dX2_mismatch_16 (by decide) (fun c_3 => ?_) (fun c_3 => ?_)
    rotate_left
    · exact absurd c_3 (by decide)
    refine lv_iconst (v := 0) hx hb dX2_mismatch_27 (by decide) ?_
    exact RET _ _ _ _ _ (by have hs : mMismatch σ x1 = (0, (msThr σ 1)) := (by simp [mMismatch, palM, pN, thr_1, thr_2, thr_3, thr_4, thr_5, thr_6, thr_7, thr_8, c_1] <;> decide); rw [hs]; exact ⟨rfl, hP⟩) hS dX2_mismatch_28
  · skip
    obtain ⟨P, hP8, hP9, rfl⟩ := inB_nat (lo := 4) (hi := 5) (by decide) (by decide) c_1
    have hcP : (nI P).toNatClampNeg = P := nI_clamp (by omega)
    refine lv_iconst (v := 0) hx hb dX2_mismatch_8 (by decide) ?_
    refine lv_goto (tgt := 13) hx hb dX2_mismatch_9 (by decide) ?_
    refine w_call (va_runV (As := [.int 0]) (rest := []) ⟨hx, hb, hml, hown, hts⟩ (c_X2_holds l D cI cZ q σ hq 0) (cwV 1 hts gX2_mismatch_X2_holds rfl rfl rfl kd_X2_holds ⟨Nat.le_of_ble_eq_true rfl, Nat.le_of_ble_eq_true rfl⟩) (pV_M hP hK) rfl rfl hl.1 rfl (lv_room (Nat.le_of_ble_eq_true rfl)) dX2_mismatch_13 ⟨Nat.le_of_ble_eq_true rfl, Nat.le_of_ble_eq_true rfl⟩) hS (fun _ h => h) (fun v_4 H locs hv_4 _ _ hS => ?_)
    obtain ⟨rfl, hP⟩ := hv_4
    have hP : va_P D vwCl (wM cI cZ q (msThr σ 0)) H := hP
    refine eqB true (tgt := 27) hx hb rfl dX2_mismatch_16 (by decide) (fun c_5 => ?_) (fun c_5 => ?_)
    · exact absurd c_5 (by decide)
    refine lv_aload_n hx hb dX2_mismatch_19 rfl (lv_at hl 0 rfl) ?_
    refine lv_iload_n hx hb dX2_mismatch_20 rfl (lv_at hl 1 rfl) ?_
    refine w_call (va_runV (As := [.int (nI (P))]) (rest := []) ⟨hx, hb, hml, hown, hts⟩ (c_X2_mismatchOf l D cI cZ q (msThr σ 0) hq P (by omega) (by omega) ⟨hn, hhol, hman, hgor, hwen⟩ hoth) (cwV 1 hts gX2_mismatch_X2_mismatchOf rfl rfl rfl kd_X2_mismatchOf ⟨Nat.le_of_ble_eq_true rfl, Nat.le_of_ble_eq_true rfl⟩) (pV_M hP hK) rfl rfl hl.1 rfl (lv_room (Nat.le_of_ble_eq_true rfl)) dX2_mismatch_21 ⟨Nat.le_of_ble_eq_true rfl, Nat.le_of_ble_eq_true rfl⟩) hS (fun _ h => h) (fun v_6 H locs hv_6 _ _ hS => ?_)
    obtain ⟨rfl, hP⟩ := hv_6
    have hP : va_P D vwCl (wM cI cZ q (msTol (msThr σ 0) (mmF σ P).2)) H := hP
    refine lv_goto (tgt := 28) hx hb dX2_mismatch_24 (by decide) ?_
    exact RET _ _ _ _ _ (by have hs : mMismatch σ (nI P) = ((mmF σ P).1, (msTol (msThr σ 0) (mmF σ P).2)) := (by simp [mMismatch, palM, pN, thr_1, thr_2, thr_3, thr_4, thr_5, thr_6, thr_7, thr_8, c_1, hcP] <;> decide); rw [hs]; exact ⟨rfl, hP⟩) hS dX2_mismatch_28
theorem kn_X2_declare : yX2_declare.cls ≠ "java/lang/invoke/MethodHandle" ∧ yX2_declare.cls ≠ "java/lang/invoke/VarHandle" ∧ (parseMethodDescriptor yX2_declare.desc).map (fun d => d.parameters.length) = some 3 := by decide +kernel
theorem kd_X2_declare : yX2_declare.cls = RX2 ∧ yX2_declare.cls ≠ "java/lang/invoke/MethodHandle" ∧ yX2_declare.cls ≠ "java/lang/invoke/VarHandle" ∧ (parseMethodDescriptor yX2_declare.desc).map (fun d => d.parameters.length) = some 3 := by decide +kernel
set_option maxHeartbeats 4000000 in
set_option maxRecDepth 100000 in
theorem c_X2_declare (l : Launch) (D : va_G) (cI cZ : ClassId) (q : Nat → Nat) (σ : SM) (hq : ijQ 20 q) (x1 x2 x3 : Int32) (ok : okM σ) (hoth : othM σ) (hz : ∀ P, mN σ ≤ P → mMan σ P = 0) (hg14 : ∀ P O, cjF σ P O = true → mGor σ < 14) (hc7 : ∀ r i, 7 ≤ i → i < 32 → bt (mCop σ r) i = false) : Met l yX2_declare wsX2_declare ({ frames := 2, cells := 0, slots := 0, locals := 42 }) (va_Pc [.ref (q 0), .int x1, .int x2, .int x3] (PM D cI cZ q σ)) (wQ (adQ 20 q) (fun v H1 => v = some (.int (mDeclare σ x1 x2 x3).1) ∧ va_P D vwCl (wM cI cZ q (mDeclare σ x1 x2 x3).2) H1)) 0 0 (adQ 20 q) := by
  refine openW (cc := cX2_declare) (maxL := 7) (by decide) rfl (Nat.le_of_ble_eq_true rfl) ?_
  intro p e s m args below meth c hx hb hml hts hown hpre Q RET ls hl
  have hown : s.vm.findClass RX2 = some m.cls := hown
  have hl : lv_has ls 7 [(0, .ref (q 0)), (1, .int x1), (2, .int x2), (3, .int x3)] := hl
  obtain ⟨hP, hK⟩ := hpre
  have hS : va_S (adQ 20 q) s.heap s.heap [] := va_S.rf
  have hiX2 : ∀ w ∈ wsX20, w ∈ wsX2_declare := by decide +kernel
  have hf56 := hts (.fieldLink RX2 56 "PalletGramModel" "declared" "[I") (by decide +kernel)
  have hn : mN σ ≤ 14 := ok.1
  have hhol : ∀ P, mHol σ P < 6 := ok.2.1
  have hman : ∀ P, mMan σ P ≤ 30 := ok.2.2.1
  have hgor := ok.2.2.2.1
  have hwen := ok.2.2.2.2
  refine lv_iload_n hx hb dX2_declare_0 rfl (lv_at hl 1 rfl) ?_
  refine r_callE (x := bI (inB x1 4 5)) (va_runS (As := [.int x1]) (rest := []) ⟨hx, hb, hml, hown, hts⟩ (c_X2_isTruck l x1) (va_cwS 1 hts gX2_declare_X2_isTruck rfl rfl rfl kn_X2_isTruck ⟨Nat.le_of_ble_eq_true rfl, Nat.le_of_ble_eq_true rfl⟩) (pS_T) rfl rfl hl.1 rfl (lv_room (Nat.le_of_ble_eq_true rfl)) dX2_declare_1 ⟨Nat.le_of_ble_eq_true rfl, Nat.le_of_ble_eq_true rfl⟩) ?_
  refine eqB (inB x1 4 5) (tgt := 18) hx hb rfl dX2_declare_4 (by decide) (fun c_1 => ?_) (fun c_1 => ?_)
  · skip
    refine lv_iconst (v := 0) hx hb dX2_declare_18 (by decide) ?_
    refine lv_istore (lv' := [(4, .int 0), (0, .ref (q 0)), (1, .int x1), (2, .int x2), (3, .int x3)]) hx hb dX2_declare_19 hl (by decide) rfl (fun ls hl => ?_)
    refine lv_aload_n hx hb dX2_declare_21 rfl (lv_at hl 1 rfl) ?_
    refine lv_iload hx hb dX2_declare_22 (lv_at hl 0 rfl) ?_
    refine neB false (tgt := 31) hx hb rfl dX2_declare_24 (by decide) (fun c_2 => ?_) (fun c_2 => ?_)
    · exact absurd c_2 (by decide)
    refine lv_iconst (v := 1) hx hb dX2_declare_27 (by decide) ?_
    refine lv_goto (tgt := 47) hx hb dX2_declare_28 (by decide) ?_
    refine w_call (va_runV (As := [.int 1]) (rest := []) ⟨hx, hb, hml, hown, hts⟩ (c_X2_holds l D cI cZ q σ hq 1) (cwV 1 hts gX2_declare_X2_holds rfl rfl rfl kd_X2_holds ⟨Nat.le_of_ble_eq_true rfl, Nat.le_of_ble_eq_true rfl⟩) (pV_M hP hK) rfl rfl hl.1 rfl (lv_room (Nat.le_of_ble_eq_true rfl)) dX2_declare_47 ⟨Nat.le_of_ble_eq_true rfl, Nat.le_of_ble_eq_true rfl⟩) hS (fun _ h => h) (fun v_3 H locs hv_3 _ _ hS => ?_)
    obtain ⟨rfl, hP⟩ := hv_3
    have hP : va_P D vwCl (wM cI cZ q (msThr σ 1)) H := hP
    refine neB false (tgt := 55) hx hb rfl dX2_declare_50 (by decide) (fun c_4 => ?_) (fun c_4 => ?_)
    · exact absurd c_4 (by decide)
    refine lv_iconst (v := 0) hx hb dX2_declare_53 (by decide) ?_
    exact RET _ _ _ _ _ (by have hs : mDeclare σ x1 x2 x3 = (0, (msThr σ 1)) := (by simp [mDeclare, palM, pN, thr_1, thr_2, thr_3, thr_4, thr_5, thr_6, thr_7, thr_8, c_1] <;> decide); rw [hs]; exact ⟨rfl, hP⟩) hS dX2_declare_54
  · skip
    refine lv_iload_n hx hb dX2_declare_7 rfl (lv_at hl 2 rfl) ?_
    refine r_callE (x := bI (inB x2 0 5)) (va_runS (As := [.int x2]) (rest := []) ⟨hx, hb, hml, hown, hts⟩ (c_X2_isGood l x2) (va_cwS 1 hts gX2_declare_X2_isGood rfl rfl rfl kn_X2_isGood ⟨Nat.le_of_ble_eq_true rfl, Nat.le_of_ble_eq_true rfl⟩) (pS_T) rfl rfl hl.1 rfl (lv_room (Nat.le_of_ble_eq_true rfl)) dX2_declare_8 ⟨Nat.le_of_ble_eq_true rfl, Nat.le_of_ble_eq_true rfl⟩) ?_
    refine eqB (inB x2 0 5) (tgt := 18) hx hb rfl dX2_declare_11 (by decide) (fun c_5 => ?_) (fun c_5 => ?_)
    · skip
      refine lv_iconst (v := 0) hx hb dX2_declare_18 (by decide) ?_
      refine lv_istore (lv' := [(4, .int 0), (0, .ref (q 0)), (1, .int x1), (2, .int x2), (3, .int x3)]) hx hb dX2_declare_19 hl (by decide) rfl (fun ls hl => ?_)
      refine lv_aload_n hx hb dX2_declare_21 rfl (lv_at hl 1 rfl) ?_
      refine lv_iload hx hb dX2_declare_22 (lv_at hl 0 rfl) ?_
      refine neB false (tgt := 31) hx hb rfl dX2_declare_24 (by decide) (fun c_6 => ?_) (fun c_6 => ?_)
      · exact absurd c_6 (by decide)
      refine lv_iconst (v := 1) hx hb dX2_declare_27 (by decide) ?_
      refine lv_goto (tgt := 47) hx hb dX2_declare_28 (by decide) ?_
      refine w_call (va_runV (As := [.int 1]) (rest := []) ⟨hx, hb, hml, hown, hts⟩ (c_X2_holds l D cI cZ q σ hq 1) (cwV 1 hts gX2_declare_X2_holds rfl rfl rfl kd_X2_holds ⟨Nat.le_of_ble_eq_true rfl, Nat.le_of_ble_eq_true rfl⟩) (pV_M hP hK) rfl rfl hl.1 rfl (lv_room (Nat.le_of_ble_eq_true rfl)) dX2_declare_47 ⟨Nat.le_of_ble_eq_true rfl, Nat.le_of_ble_eq_true rfl⟩) hS (fun _ h => h) (fun v_7 H locs hv_7 _ _ hS => ?_)
      obtain ⟨rfl, hP⟩ := hv_7
      have hP : va_P D vwCl (wM cI cZ q (msThr σ 1)) H := hP
      refine neB false (tgt := 55) hx hb rfl dX2_declare_50 (by decide) (fun c_8 => ?_) (fun c_8 => ?_)
      · exact absurd c_8 (by decide)
      refine lv_iconst (v := 0) hx hb dX2_declare_53 (by decide) ?_
      exact RET _ _ _ _ _ (by have hs : mDeclare σ x1 x2 x3 = (0, (msThr σ 1)) := (by simp [mDeclare, palM, pN, thr_1, thr_2, thr_3, thr_4, thr_5, thr_6, thr_7, thr_8, c_1, c_5] <;> decide); rw [hs]; exact ⟨rfl, hP⟩) hS dX2_declare_54
    · skip
      obtain ⟨P, hP8, hP9, rfl⟩ := inB_nat (lo := 4) (hi := 5) (by decide) (by decide) c_1
      have hcP : (nI P).toNatClampNeg = P := nI_clamp (by omega)
      obtain ⟨G, hG8, hG9, rfl⟩ := inB_nat (lo := 0) (hi := 5) (by decide) (by decide) c_5
      have hcG : (nI G).toNatClampNeg = G := nI_clamp (by omega)
      refine lv_iconst (v := 1) hx hb dX2_declare_14 (by decide) ?_
      refine lv_goto (tgt := 19) hx hb dX2_declare_15 (by decide) ?_
      refine lv_istore (lv' := [(4, .int 1), (0, .ref (q 0)), (1, .int (nI (P))), (2, .int (nI (G))), (3, .int x3)]) hx hb dX2_declare_19 hl (by decide) rfl (fun ls hl => ?_)
      refine lv_aload_n hx hb dX2_declare_21 rfl (lv_at hl 1 rfl) ?_
      refine lv_iload hx hb dX2_declare_22 (lv_at hl 0 rfl) ?_
      refine neB true (tgt := 31) hx hb rfl dX2_declare_24 (by decide) (fun c_9 => ?_) (fun c_9 => ?_)
      rotate_left
      · exact absurd c_9 (by decide)
      refine lv_iload_n hx hb dX2_declare_31 rfl (lv_at hl 4 rfl) ?_
      refine lv_iconst (v := 0) hx hb dX2_declare_32 (by decide) ?_
      refine lv_sipush (v := 9999) hx hb dX2_declare_33 (by decide) ?_
      refine r_callE (x := bI (inB x3 0 9999)) (va_runS (As := [.int x3, .int 0, .int 9999]) (rest := [.ref (q 0)]) ⟨hx, hb, hml, hown, hts⟩ (c_X2_isIn l x3 0 9999) (va_cwS 3 hts gX2_declare_X2_isIn rfl rfl rfl kn_X2_isIn ⟨Nat.le_of_ble_eq_true rfl, Nat.le_of_ble_eq_true rfl⟩) (pS_T) rfl rfl hl.1 rfl (lv_room (Nat.le_of_ble_eq_true rfl)) dX2_declare_36 ⟨Nat.le_of_ble_eq_true rfl, Nat.le_of_ble_eq_true rfl⟩) ?_
      refine neB (inB x3 0 9999) (tgt := 46) hx hb rfl dX2_declare_39 (by decide) (fun c_10 => ?_) (fun c_10 => ?_)
      · skip
        refine lv_iconst (v := 0) hx hb dX2_declare_46 (by decide) ?_
        refine w_call (va_runV (As := [.int 0]) (rest := []) ⟨hx, hb, hml, hown, hts⟩ (c_X2_holds l D cI cZ q σ hq 0) (cwV 1 hts gX2_declare_X2_holds rfl rfl rfl kd_X2_holds ⟨Nat.le_of_ble_eq_true rfl, Nat.le_of_ble_eq_true rfl⟩) (pV_M hP hK) rfl rfl hl.1 rfl (lv_room (Nat.le_of_ble_eq_true rfl)) dX2_declare_47 ⟨Nat.le_of_ble_eq_true rfl, Nat.le_of_ble_eq_true rfl⟩) hS (fun _ h => h) (fun v_11 H locs hv_11 _ _ hS => ?_)
        obtain ⟨rfl, hP⟩ := hv_11
        have hP : va_P D vwCl (wM cI cZ q (msThr σ 0)) H := hP
        refine neB true (tgt := 55) hx hb rfl dX2_declare_50 (by decide) (fun c_12 => ?_) (fun c_12 => ?_)
        rotate_left
        · exact absurd c_12 (by decide)
        refine lv_bipush (v := 6) hx hb dX2_declare_55 (by decide) ?_
        refine lv_iload_n hx hb dX2_declare_57 rfl (lv_at hl 2 rfl) ?_
        refine lv_iconst (v := 4) hx hb dX2_declare_58 (by decide) ?_
        refine subN P 4 hx hb rfl rfl (by omega) dX2_declare_59 ?_
        refine mulNc 6 (P - 4) hx hb rfl rfl dX2_declare_60 ?_
        refine lv_iload_n hx hb dX2_declare_61 rfl (lv_at hl 3 rfl) ?_
        refine addN ((P - 4) * 6) G hx hb rfl rfl dX2_declare_62 ?_
        refine lv_istore (lv' := [(5, .int (nI (((P - 4) * 6) + G))), (4, .int 1), (0, .ref (q 0)), (1, .int (nI (P))), (2, .int (nI (G))), (3, .int x3)]) hx hb dX2_declare_63 hl (by decide) rfl (fun ls hl => ?_)
        refine lv_aload_n hx hb dX2_declare_65 rfl (lv_at hl 2 rfl) ?_
        refine gf_2_18 hx hb hts hiX2 hown hK hP hf56 dX2_declare_66 ?_
        refine lv_iload hx hb dX2_declare_69 (lv_at hl 0 rfl) ?_
        refine mld_16 (k := (P - 4) * 6 + G) (v := ((mDec σ)) ((P - 4) * 6 + G)) hx hb hK hP rfl (by omega) rfl dX2_declare_71 ?_
        refine lv_istore (lv' := [(6, .int ((((mDec σ)) ((P - 4) * 6 + G)))), (5, .int (nI (((P - 4) * 6) + G))), (4, .int 1), (0, .ref (q 0)), (1, .int (nI (P))), (2, .int (nI (G))), (3, .int x3)]) hx hb dX2_declare_72 hl (by decide) rfl (fun ls hl => ?_)
        refine lv_aload_n hx hb dX2_declare_74 rfl (lv_at hl 3 rfl) ?_
        refine gf_2_18 hx hb hts hiX2 hown hK hP hf56 dX2_declare_75 ?_
        refine lv_iload hx hb dX2_declare_78 (lv_at hl 1 rfl) ?_
        refine lv_iload_n hx hb dX2_declare_80 rfl (lv_at hl 6 rfl) ?_
        refine mst_16 (k := (P - 4) * 6 + G) (x := x3) hx hb hK hP hq hS rfl (by omega) dX2_declare_81 (fun dec_13 e_dec_13 H locs hP hS => ?_)
        have hP : va_P D vwCl (wM cI cZ q (msDec (msThr σ 0) dec_13)) H := hP
        refine lv_iload hx hb dX2_declare_82 (lv_at hl 0 rfl) ?_
        exact RET _ _ _ _ _ (by have hs : mDeclare σ (nI P) (nI G) x3 = ((((mDec σ)) ((P - 4) * 6 + G)), (msDec (msThr σ 0) dec_13)) := (by simp [mDeclare, palM, pN, thr_1, thr_2, thr_3, thr_4, thr_5, thr_6, thr_7, thr_8, c_1, c_5, c_10, hcP, hcG, e_dec_13] <;> decide); rw [hs]; exact ⟨rfl, hP⟩) hS dX2_declare_84
      · skip
        refine lv_iconst (v := 2) hx hb dX2_declare_42 (by decide) ?_
        refine lv_goto (tgt := 47) hx hb dX2_declare_43 (by decide) ?_
        refine w_call (va_runV (As := [.int 2]) (rest := []) ⟨hx, hb, hml, hown, hts⟩ (c_X2_holds l D cI cZ q σ hq 2) (cwV 1 hts gX2_declare_X2_holds rfl rfl rfl kd_X2_holds ⟨Nat.le_of_ble_eq_true rfl, Nat.le_of_ble_eq_true rfl⟩) (pV_M hP hK) rfl rfl hl.1 rfl (lv_room (Nat.le_of_ble_eq_true rfl)) dX2_declare_47 ⟨Nat.le_of_ble_eq_true rfl, Nat.le_of_ble_eq_true rfl⟩) hS (fun _ h => h) (fun v_14 H locs hv_14 _ _ hS => ?_)
        obtain ⟨rfl, hP⟩ := hv_14
        have hP : va_P D vwCl (wM cI cZ q (msThr σ 2)) H := hP
        refine neB false (tgt := 55) hx hb rfl dX2_declare_50 (by decide) (fun c_15 => ?_) (fun c_15 => ?_)
        · exact absurd c_15 (by decide)
        refine lv_iconst (v := 0) hx hb dX2_declare_53 (by decide) ?_
        exact RET _ _ _ _ _ (by have hs : mDeclare σ (nI P) (nI G) x3 = (0, (msThr σ 2)) := (by simp [mDeclare, palM, pN, thr_1, thr_2, thr_3, thr_4, thr_5, thr_6, thr_7, thr_8, c_1, c_5, c_10, hcP, hcG] <;> decide); rw [hs]; exact ⟨rfl, hP⟩) hS dX2_declare_54
theorem kn_X2_spoil : yX2_spoil.cls ≠ "java/lang/invoke/MethodHandle" ∧ yX2_spoil.cls ≠ "java/lang/invoke/VarHandle" ∧ (parseMethodDescriptor yX2_spoil.desc).map (fun d => d.parameters.length) = some 3 := by decide +kernel
theorem kd_X2_spoil : yX2_spoil.cls = RX2 ∧ yX2_spoil.cls ≠ "java/lang/invoke/MethodHandle" ∧ yX2_spoil.cls ≠ "java/lang/invoke/VarHandle" ∧ (parseMethodDescriptor yX2_spoil.desc).map (fun d => d.parameters.length) = some 3 := by decide +kernel
set_option maxHeartbeats 4000000 in
set_option maxRecDepth 100000 in
theorem c_X2_spoil (l : Launch) (D : va_G) (cI cZ : ClassId) (q : Nat → Nat) (σ : SM) (hq : ijQ 20 q) (x1 x2 x3 : Int32) (ok : okM σ) (hoth : othM σ) (hz : ∀ P, mN σ ≤ P → mMan σ P = 0) (hg14 : ∀ P O, cjF σ P O = true → mGor σ < 14) (hc7 : ∀ r i, 7 ≤ i → i < 32 → bt (mCop σ r) i = false) : Met l yX2_spoil wsX2_spoil ({ frames := 3, cells := 0, slots := 0, locals := 65 }) (va_Pc [.ref (q 0), .int x1, .int x2, .int x3] (PM D cI cZ q σ)) (wQ (adQ 20 q) (fun v H1 => v = some (.int (mSpoil σ x1 x2 x3).1) ∧ va_P D vwCl (wM cI cZ q (mSpoil σ x1 x2 x3).2) H1)) 0 0 (adQ 20 q) := by
  refine openW (cc := cX2_spoil) (maxL := 7) (by decide) rfl (Nat.le_of_ble_eq_true rfl) ?_
  intro p e s m args below meth c hx hb hml hts hown hpre Q RET ls hl
  have hown : s.vm.findClass RX2 = some m.cls := hown
  have hl : lv_has ls 7 [(0, .ref (q 0)), (1, .int x1), (2, .int x2), (3, .int x3)] := hl
  obtain ⟨hP, hK⟩ := hpre
  have hS : va_S (adQ 20 q) s.heap s.heap [] := va_S.rf
  have hiX2 : ∀ w ∈ wsX20, w ∈ wsX2_spoil := by decide +kernel
  have hf38 := hts (.fieldLink RX2 38 "PalletGramModel" "amount" "[I") (by decide +kernel)
  have hn : mN σ ≤ 14 := ok.1
  have hhol : ∀ P, mHol σ P < 6 := ok.2.1
  have hman : ∀ P, mMan σ P ≤ 30 := ok.2.2.1
  have hgor := ok.2.2.2.1
  have hwen := ok.2.2.2.2
  refine lv_aload_n hx hb dX2_spoil_0 rfl (lv_at hl 0 rfl) ?_
  refine lv_iload_n hx hb dX2_spoil_1 rfl (lv_at hl 1 rfl) ?_
  refine lv_iload_n hx hb dX2_spoil_2 rfl (lv_at hl 2 rfl) ?_
  refine r_callE (x := bI (entB σ x1 x2)) (va_runV (As := [.int x1, .int x2]) (rest := []) ⟨hx, hb, hml, hown, hts⟩ (c_X2_isEntry l D cI cZ q σ x1 x2 ⟨hn, hhol, hman, hgor, hwen⟩) (cwV 2 hts gX2_spoil_X2_isEntry rfl rfl rfl kd_X2_isEntry ⟨Nat.le_of_ble_eq_true rfl, Nat.le_of_ble_eq_true rfl⟩) (pV_M hP hK) rfl rfl hl.1 rfl (lv_room (Nat.le_of_ble_eq_true rfl)) dX2_spoil_3 ⟨Nat.le_of_ble_eq_true rfl, Nat.le_of_ble_eq_true rfl⟩) ?_
  refine lv_istore (lv' := [(4, .int (bI (entB σ x1 x2))), (0, .ref (q 0)), (1, .int x1), (2, .int x2), (3, .int x3)]) hx hb dX2_spoil_6 hl (by decide) rfl (fun ls hl => ?_)
  refine lv_aload_n hx hb dX2_spoil_8 rfl (lv_at hl 1 rfl) ?_
  refine lv_iload hx hb dX2_spoil_9 (lv_at hl 0 rfl) ?_
  refine neB (entB σ x1 x2) (tgt := 18) hx hb rfl dX2_spoil_11 (by decide) (fun c_1 => ?_) (fun c_1 => ?_)
  · skip
    obtain ⟨P, hP9, rfl, E, hE9, rfl⟩ := ent_nat hn hman c_1
    have hcP : (nI P).toNatClampNeg = P := nI_clamp (by omega)
    have hm9 := hman P
    have hcE : (nI E).toNatClampNeg = E := nI_clamp (by omega)
    refine lv_iload_n hx hb dX2_spoil_18 rfl (lv_at hl 4 rfl) ?_
    refine lv_sipush (v := (-999)) hx hb dX2_spoil_19 (by decide) ?_
    refine lv_sipush (v := 999) hx hb dX2_spoil_22 (by decide) ?_
    refine r_callE (x := bI (inB x3 ((-999)) 999)) (va_runS (As := [.int x3, .int ((-999)), .int 999]) (rest := [.ref (q 0)]) ⟨hx, hb, hml, hown, hts⟩ (c_X2_isIn l x3 ((-999)) 999) (va_cwS 3 hts gX2_spoil_X2_isIn rfl rfl rfl kn_X2_isIn ⟨Nat.le_of_ble_eq_true rfl, Nat.le_of_ble_eq_true rfl⟩) (pS_T) rfl rfl hl.1 rfl (lv_room (Nat.le_of_ble_eq_true rfl)) dX2_spoil_25 ⟨Nat.le_of_ble_eq_true rfl, Nat.le_of_ble_eq_true rfl⟩) ?_
    refine neB (inB x3 ((-999)) 999) (tgt := 35) hx hb rfl dX2_spoil_28 (by decide) (fun c_2 => ?_) (fun c_2 => ?_)
    · skip
      refine lv_iconst (v := 0) hx hb dX2_spoil_35 (by decide) ?_
      refine w_call (va_runV (As := [.int 0]) (rest := []) ⟨hx, hb, hml, hown, hts⟩ (c_X2_holds l D cI cZ q σ hq 0) (cwV 1 hts gX2_spoil_X2_holds rfl rfl rfl kd_X2_holds ⟨Nat.le_of_ble_eq_true rfl, Nat.le_of_ble_eq_true rfl⟩) (pV_M hP hK) rfl rfl hl.1 rfl (lv_room (Nat.le_of_ble_eq_true rfl)) dX2_spoil_36 ⟨Nat.le_of_ble_eq_true rfl, Nat.le_of_ble_eq_true rfl⟩) hS (fun _ h => h) (fun v_3 H locs hv_3 _ _ hS => ?_)
      obtain ⟨rfl, hP⟩ := hv_3
      have hP : va_P D vwCl (wM cI cZ q (msThr σ 0)) H := hP
      refine neB true (tgt := 44) hx hb rfl dX2_spoil_39 (by decide) (fun c_4 => ?_) (fun c_4 => ?_)
      rotate_left
      · exact absurd c_4 (by decide)
      refine lv_bipush (v := 30) hx hb dX2_spoil_44 (by decide) ?_
      refine lv_iload_n hx hb dX2_spoil_46 rfl (lv_at hl 2 rfl) ?_
      refine mulNc 30 P hx hb rfl rfl dX2_spoil_47 ?_
      refine lv_iload_n hx hb dX2_spoil_48 rfl (lv_at hl 3 rfl) ?_
      refine addN (P * 30) E hx hb rfl rfl dX2_spoil_49 ?_
      refine lv_istore (lv' := [(5, .int (nI ((P * 30) + E))), (4, .int (bI (entB σ (nI P) (nI E)))), (0, .ref (q 0)), (1, .int (nI (P))), (2, .int (nI (E))), (3, .int x3)]) hx hb dX2_spoil_50 hl (by decide) rfl (fun ls hl => ?_)
      refine lv_aload_n hx hb dX2_spoil_52 rfl (lv_at hl 2 rfl) ?_
      refine gf_2_12 hx hb hts hiX2 hown hK hP hf38 dX2_spoil_53 ?_
      refine lv_iload hx hb dX2_spoil_56 (lv_at hl 0 rfl) ?_
      refine mld_10 (k := P * 30 + E) (v := ((mAmo σ)) (P * 30 + E)) hx hb hK hP rfl (by omega) rfl dX2_spoil_58 ?_
      refine lv_istore (lv' := [(6, .int ((((mAmo σ)) (P * 30 + E)))), (5, .int (nI ((P * 30) + E))), (4, .int (bI (entB σ (nI P) (nI E)))), (0, .ref (q 0)), (1, .int (nI (P))), (2, .int (nI (E))), (3, .int x3)]) hx hb dX2_spoil_59 hl (by decide) rfl (fun ls hl => ?_)
      refine lv_aload_n hx hb dX2_spoil_61 rfl (lv_at hl 3 rfl) ?_
      refine gf_2_12 hx hb hts hiX2 hown hK hP hf38 dX2_spoil_62 ?_
      refine lv_iload hx hb dX2_spoil_65 (lv_at hl 1 rfl) ?_
      refine lv_iload_n hx hb dX2_spoil_67 rfl (lv_at hl 6 rfl) ?_
      refine mst_10 (k := P * 30 + E) (x := x3) hx hb hK hP hq hS rfl (by omega) dX2_spoil_68 (fun amo_5 e_amo_5 H locs hP hS => ?_)
      have hP : va_P D vwCl (wM cI cZ q (msAmo (msThr σ 0) amo_5)) H := hP
      refine lv_iload hx hb dX2_spoil_69 (lv_at hl 0 rfl) ?_
      exact RET _ _ _ _ _ (by have hs : mSpoil σ (nI P) (nI E) x3 = ((((mAmo σ)) (P * 30 + E)), (msAmo (msThr σ 0) amo_5)) := (by simp [mSpoil, palM, pN, thr_1, thr_2, thr_3, thr_4, thr_5, thr_6, thr_7, thr_8, c_1, c_2, hcP, hcE, e_amo_5] <;> decide); rw [hs]; exact ⟨rfl, hP⟩) hS dX2_spoil_71
    · skip
      refine lv_iconst (v := 2) hx hb dX2_spoil_31 (by decide) ?_
      refine lv_goto (tgt := 36) hx hb dX2_spoil_32 (by decide) ?_
      refine w_call (va_runV (As := [.int 2]) (rest := []) ⟨hx, hb, hml, hown, hts⟩ (c_X2_holds l D cI cZ q σ hq 2) (cwV 1 hts gX2_spoil_X2_holds rfl rfl rfl kd_X2_holds ⟨Nat.le_of_ble_eq_true rfl, Nat.le_of_ble_eq_true rfl⟩) (pV_M hP hK) rfl rfl hl.1 rfl (lv_room (Nat.le_of_ble_eq_true rfl)) dX2_spoil_36 ⟨Nat.le_of_ble_eq_true rfl, Nat.le_of_ble_eq_true rfl⟩) hS (fun _ h => h) (fun v_6 H locs hv_6 _ _ hS => ?_)
      obtain ⟨rfl, hP⟩ := hv_6
      have hP : va_P D vwCl (wM cI cZ q (msThr σ 2)) H := hP
      refine neB false (tgt := 44) hx hb rfl dX2_spoil_39 (by decide) (fun c_7 => ?_) (fun c_7 => ?_)
      · exact absurd c_7 (by decide)
      refine lv_iconst (v := 0) hx hb dX2_spoil_42 (by decide) ?_
      exact RET _ _ _ _ _ (by have hs : mSpoil σ (nI P) (nI E) x3 = (0, (msThr σ 2)) := (by simp [mSpoil, palM, pN, thr_1, thr_2, thr_3, thr_4, thr_5, thr_6, thr_7, thr_8, c_1, c_2, hcP, hcE] <;> decide); rw [hs]; exact ⟨rfl, hP⟩) hS dX2_spoil_43
  · skip
    refine lv_iconst (v := 1) hx hb dX2_spoil_14 (by decide) ?_
    refine lv_goto (tgt := 36) hx hb dX2_spoil_15 (by decide) ?_
    refine w_call (va_runV (As := [.int 1]) (rest := []) ⟨hx, hb, hml, hown, hts⟩ (c_X2_holds l D cI cZ q σ hq 1) (cwV 1 hts gX2_spoil_X2_holds rfl rfl rfl kd_X2_holds ⟨Nat.le_of_ble_eq_true rfl, Nat.le_of_ble_eq_true rfl⟩) (pV_M hP hK) rfl rfl hl.1 rfl (lv_room (Nat.le_of_ble_eq_true rfl)) dX2_spoil_36 ⟨Nat.le_of_ble_eq_true rfl, Nat.le_of_ble_eq_true rfl⟩) hS (fun _ h => h) (fun v_8 H locs hv_8 _ _ hS => ?_)
    obtain ⟨rfl, hP⟩ := hv_8
    have hP : va_P D vwCl (wM cI cZ q (msThr σ 1)) H := hP
    refine neB false (tgt := 44) hx hb rfl dX2_spoil_39 (by decide) (fun c_9 => ?_) (fun c_9 => ?_)
    · exact absurd c_9 (by decide)
    refine lv_iconst (v := 0) hx hb dX2_spoil_42 (by decide) ?_
    exact RET _ _ _ _ _ (by have hs : mSpoil σ x1 x2 x3 = (0, (msThr σ 1)) := (by simp [mSpoil, palM, pN, thr_1, thr_2, thr_3, thr_4, thr_5, thr_6, thr_7, thr_8, c_1] <;> decide); rw [hs]; exact ⟨rfl, hP⟩) hS dX2_spoil_43
theorem kn_X2_make : yX2_make.cls ≠ "java/lang/invoke/MethodHandle" ∧ yX2_make.cls ≠ "java/lang/invoke/VarHandle" ∧ (parseMethodDescriptor yX2_make.desc).map (fun d => d.parameters.length) = some 1 := by decide +kernel
theorem kd_X2_make : yX2_make.cls = RX2 ∧ yX2_make.cls ≠ "java/lang/invoke/MethodHandle" ∧ yX2_make.cls ≠ "java/lang/invoke/VarHandle" ∧ (parseMethodDescriptor yX2_make.desc).map (fun d => d.parameters.length) = some 1 := by decide +kernel
set_option maxHeartbeats 4000000 in
set_option maxRecDepth 100000 in
theorem c_X2_make (l : Launch) (D : va_G) (cI cZ : ClassId) (q : Nat → Nat) (σ : SM) (hq : ijQ 20 q) (x1 : Int32) (ok : okM σ) (hoth : othM σ) (hz : ∀ P, mN σ ≤ P → mMan σ P = 0) (hg14 : ∀ P O, cjF σ P O = true → mGor σ < 14) (hc7 : ∀ r i, 7 ≤ i → i < 32 → bt (mCop σ r) i = false) : Met l yX2_make wsX2_make ({ frames := 2, cells := 0, slots := 0, locals := 52 }) (va_Pc [.ref (q 0), .int x1] (PM D cI cZ q σ)) (wQ (adQ 20 q) (fun v H1 => v = some (.int (mMake σ x1).1) ∧ va_P D vwCl (wM cI cZ q (mMake σ x1).2) H1)) 0 0 (adQ 20 q) := by
  refine openW (cc := cX2_make) (maxL := 4) (by decide) rfl (Nat.le_of_ble_eq_true rfl) ?_
  intro p e s m args below meth c hx hb hml hts hown hpre Q RET ls hl
  have hown : s.vm.findClass RX2 = some m.cls := hown
  have hl : lv_has ls 4 [(0, .ref (q 0)), (1, .int x1)] := hl
  obtain ⟨hP, hK⟩ := hpre
  have hS : va_S (adQ 20 q) s.heap s.heap [] := va_S.rf
  have hiX2 : ∀ w ∈ wsX20, w ∈ wsX2_make := by decide +kernel
  have hf72 := hts (.fieldLink RX2 72 "PalletGramModel" "pallets" "I") (by decide +kernel)
  have hn : mN σ ≤ 14 := ok.1
  have hhol : ∀ P, mHol σ P < 6 := ok.2.1
  have hman : ∀ P, mMan σ P ≤ 30 := ok.2.2.1
  have hgor := ok.2.2.2.1
  have hwen := ok.2.2.2.2
  refine lv_iload_n hx hb dX2_make_0 rfl (lv_at hl 1 rfl) ?_
  refine lv_iconst (v := 0) hx hb dX2_make_1 (by decide) ?_
  refine lv_iconst (v := 3) hx hb dX2_make_2 (by decide) ?_
  refine r_callE (x := bI (inB x1 0 3)) (va_runS (As := [.int x1, .int 0, .int 3]) (rest := []) ⟨hx, hb, hml, hown, hts⟩ (c_X2_isIn l x1 0 3) (va_cwS 3 hts gX2_make_X2_isIn rfl rfl rfl kn_X2_isIn ⟨Nat.le_of_ble_eq_true rfl, Nat.le_of_ble_eq_true rfl⟩) (pS_T) rfl rfl hl.1 rfl (lv_room (Nat.le_of_ble_eq_true rfl)) dX2_make_3 ⟨Nat.le_of_ble_eq_true rfl, Nat.le_of_ble_eq_true rfl⟩) ?_
  refine lv_istore_n (lv' := [(2, .int (bI (inB x1 0 3))), (0, .ref (q 0)), (1, .int x1)]) hx hb dX2_make_6 rfl hl (by decide) rfl (fun ls hl => ?_)
  refine lv_aload_n hx hb dX2_make_7 rfl (lv_at hl 1 rfl) ?_
  refine lv_iload_n hx hb dX2_make_8 rfl (lv_at hl 0 rfl) ?_
  refine neB (inB x1 0 3) (tgt := 16) hx hb rfl dX2_make_9 (by decide) (fun c_1 => ?_) (fun c_1 => ?_)
  · skip
    obtain ⟨P, hP8, hP9, rfl⟩ := inB_nat (lo := 0) (hi := 3) (by decide) (by decide) c_1
    have hcP : (nI P).toNatClampNeg = P := nI_clamp (by omega)
    refine lv_aload_n hx hb dX2_make_16 rfl (lv_at hl 1 rfl) ?_
    refine gf_2_6 hx hb hts hiX2 hown hK hP hf72 dX2_make_17 ?_
    refine lv_topE (y := nI ((mN σ))) rfl ?_
    refine lv_bipush (v := 14) hx hb dX2_make_20 (by decide) ?_
    refine neN ((mN σ)) 14 (tgt := 29) hx hb rfl rfl (by omega) (by omega) dX2_make_22 (by decide) (fun c_2 => ?_) (fun c_2 => ?_)
    · skip
      refine lv_iconst (v := 0) hx hb dX2_make_29 (by decide) ?_
      refine w_call (va_runV (As := [.int 0]) (rest := []) ⟨hx, hb, hml, hown, hts⟩ (c_X2_holds l D cI cZ q σ hq 0) (cwV 1 hts gX2_make_X2_holds rfl rfl rfl kd_X2_holds ⟨Nat.le_of_ble_eq_true rfl, Nat.le_of_ble_eq_true rfl⟩) (pV_M hP hK) rfl rfl hl.1 rfl (lv_room (Nat.le_of_ble_eq_true rfl)) dX2_make_30 ⟨Nat.le_of_ble_eq_true rfl, Nat.le_of_ble_eq_true rfl⟩) hS (fun _ h => h) (fun v_3 H locs hv_3 _ _ hS => ?_)
      obtain ⟨rfl, hP⟩ := hv_3
      have hP : va_P D vwCl (wM cI cZ q (msThr σ 0)) H := hP
      refine neB true (tgt := 38) hx hb rfl dX2_make_33 (by decide) (fun c_4 => ?_) (fun c_4 => ?_)
      rotate_left
      · exact absurd c_4 (by decide)
      have hn13 : mN σ < 14 := by omega
      refine lv_aload_n hx hb dX2_make_38 rfl (lv_at hl 1 rfl) ?_
      refine lv_iload_n hx hb dX2_make_39 rfl (lv_at hl 2 rfl) ?_
      refine w_call (va_runV (As := [.int (nI (P))]) (rest := []) ⟨hx, hb, hml, hown, hts⟩ (c_X2_makes l D cI cZ q (msThr σ 0) hq P (by omega)) (cwV 1 hts gX2_make_X2_makes rfl rfl rfl kd_X2_makes ⟨Nat.le_of_ble_eq_true rfl, Nat.le_of_ble_eq_true rfl⟩) (pV_M hP hK) rfl rfl hl.1 rfl (lv_room (Nat.le_of_ble_eq_true rfl)) dX2_make_40 ⟨Nat.le_of_ble_eq_true rfl, Nat.le_of_ble_eq_true rfl⟩) hS (fun _ h => h) (fun v_5 H locs hv_5 _ _ hS => ?_)
      obtain ⟨rfl, hP⟩ := hv_5
      have hP : va_P D vwCl (wM cI cZ q (mtF (msThr σ 0) P)) H := hP
      refine lv_istore_n (lv' := [(3, .int (nI ((mN σ)))), (2, .int (bI (inB (nI P) 0 3))), (0, .ref (q 0)), (1, .int (nI (P)))]) hx hb dX2_make_43 rfl hl (by decide) rfl (fun ls hl => ?_)
      refine lv_aload_n hx hb dX2_make_44 rfl (lv_at hl 2 rfl) ?_
      refine lv_iload_n hx hb dX2_make_45 rfl (lv_at hl 0 rfl) ?_
      refine lv_iconst (v := 0) hx hb dX2_make_46 (by decide) ?_
      refine lv_iconst (v := 0) hx hb dX2_make_47 (by decide) ?_
      refine lv_iconst (v := 0) hx hb dX2_make_48 (by decide) ?_
      refine lv_iconst (v := 0) hx hb dX2_make_49 (by decide) ?_
      refine lv_iconst (v := 0) hx hb dX2_make_50 (by decide) ?_
      refine w_call (va_runV (As := [.int (nI ((mN σ))), .int 0, .int 0, .int 0, .int 0, .int 0]) (rest := []) ⟨hx, hb, hml, hown, hts⟩ (c_X2_writes l D cI cZ q (mtF (msThr σ 0) P) hq ((mN σ)) 0 0 0 0 0 (by omega) (by omega) (hol_up hhol (by omega)) (hz_man hz (Nat.le_refl _))) (cwV 6 hts gX2_make_X2_writes rfl rfl rfl kd_X2_writes ⟨Nat.le_of_ble_eq_true rfl, Nat.le_of_ble_eq_true rfl⟩) (pV_M hP hK) rfl rfl hl.1 rfl (lv_room (Nat.le_of_ble_eq_true rfl)) dX2_make_51 ⟨Nat.le_of_ble_eq_true rfl, Nat.le_of_ble_eq_true rfl⟩) hS (fun _ h => h) (fun v_6 H locs hv_6 _ _ hS => ?_)
      obtain ⟨rfl, hP⟩ := hv_6
      obtain ⟨σ7, eσ7⟩ : ∃ z : SM, z = mwF (mtF (msThr σ 0) P) ((mN σ)) 0 0 0 0 0 := ⟨_, rfl⟩
      rw [← eσ7] at hP
      refine lv_iload_n hx hb dX2_make_54 rfl (lv_at hl 0 rfl) ?_
      exact RET _ _ _ _ _ (by have hs : mMake σ (nI P) = (nI ((mN σ)), σ7) := (by simp [mMake, palM, pN, thr_1, thr_2, thr_3, thr_4, thr_5, thr_6, thr_7, thr_8, mThr, mHol, mGoo, mMan, mHel, mGon, mN, mWen, mGor, mKin, mMak, mGod, mAmo, mOth, mIts, mWas, mPrf, mCop, mDec, mFee, mOwe, mTol, msThr, msHol, msGoo, msMan, msHel, msGon, msN, msWen, msGor, msKin, msMak, msGod, msAmo, msOth, msIts, msWas, msPrf, msCop, msDec, msFee, msOwe, msTol, bI_t, bI_f, bI_inj, mwF_goo, mwF_hel, va_up_self, c_1, c_2, hcP, eσ7] <;> decide); rw [hs]; exact ⟨rfl, hP⟩) hS dX2_make_55
    · skip
      refine lv_iconst (v := 2) hx hb dX2_make_25 (by decide) ?_
      refine lv_goto (tgt := 30) hx hb dX2_make_26 (by decide) ?_
      refine w_call (va_runV (As := [.int 2]) (rest := []) ⟨hx, hb, hml, hown, hts⟩ (c_X2_holds l D cI cZ q σ hq 2) (cwV 1 hts gX2_make_X2_holds rfl rfl rfl kd_X2_holds ⟨Nat.le_of_ble_eq_true rfl, Nat.le_of_ble_eq_true rfl⟩) (pV_M hP hK) rfl rfl hl.1 rfl (lv_room (Nat.le_of_ble_eq_true rfl)) dX2_make_30 ⟨Nat.le_of_ble_eq_true rfl, Nat.le_of_ble_eq_true rfl⟩) hS (fun _ h => h) (fun v_8 H locs hv_8 _ _ hS => ?_)
      obtain ⟨rfl, hP⟩ := hv_8
      have hP : va_P D vwCl (wM cI cZ q (msThr σ 2)) H := hP
      refine neB false (tgt := 38) hx hb rfl dX2_make_33 (by decide) (fun c_9 => ?_) (fun c_9 => ?_)
      · exact absurd c_9 (by decide)
      refine lv_iconst (v := 0) hx hb dX2_make_36 (by decide) ?_
      exact RET _ _ _ _ _ (by have hs : mMake σ (nI P) = (0, (msThr σ 2)) := (by simp [mMake, palM, pN, thr_1, thr_2, thr_3, thr_4, thr_5, thr_6, thr_7, thr_8, mThr, mHol, mGoo, mMan, mHel, mGon, mN, mWen, mGor, mKin, mMak, mGod, mAmo, mOth, mIts, mWas, mPrf, mCop, mDec, mFee, mOwe, mTol, msThr, msHol, msGoo, msMan, msHel, msGon, msN, msWen, msGor, msKin, msMak, msGod, msAmo, msOth, msIts, msWas, msPrf, msCop, msDec, msFee, msOwe, msTol, bI_t, bI_f, bI_inj, mwF_goo, mwF_hel, va_up_self, c_1, c_2, hcP] <;> decide); rw [hs]; exact ⟨rfl, hP⟩) hS dX2_make_37
  · skip
    refine lv_iconst (v := 1) hx hb dX2_make_12 (by decide) ?_
    refine lv_goto (tgt := 30) hx hb dX2_make_13 (by decide) ?_
    refine w_call (va_runV (As := [.int 1]) (rest := []) ⟨hx, hb, hml, hown, hts⟩ (c_X2_holds l D cI cZ q σ hq 1) (cwV 1 hts gX2_make_X2_holds rfl rfl rfl kd_X2_holds ⟨Nat.le_of_ble_eq_true rfl, Nat.le_of_ble_eq_true rfl⟩) (pV_M hP hK) rfl rfl hl.1 rfl (lv_room (Nat.le_of_ble_eq_true rfl)) dX2_make_30 ⟨Nat.le_of_ble_eq_true rfl, Nat.le_of_ble_eq_true rfl⟩) hS (fun _ h => h) (fun v_10 H locs hv_10 _ _ hS => ?_)
    obtain ⟨rfl, hP⟩ := hv_10
    have hP : va_P D vwCl (wM cI cZ q (msThr σ 1)) H := hP
    refine neB false (tgt := 38) hx hb rfl dX2_make_33 (by decide) (fun c_11 => ?_) (fun c_11 => ?_)
    · exact absurd c_11 (by decide)
    refine lv_iconst (v := 0) hx hb dX2_make_36 (by decide) ?_
    exact RET _ _ _ _ _ (by have hs : mMake σ x1 = (0, (msThr σ 1)) := (by simp [mMake, palM, pN, thr_1, thr_2, thr_3, thr_4, thr_5, thr_6, thr_7, thr_8, mThr, mHol, mGoo, mMan, mHel, mGon, mN, mWen, mGor, mKin, mMak, mGod, mAmo, mOth, mIts, mWas, mPrf, mCop, mDec, mFee, mOwe, mTol, msThr, msHol, msGoo, msMan, msHel, msGon, msN, msWen, msGor, msKin, msMak, msGod, msAmo, msOth, msIts, msWas, msPrf, msCop, msDec, msFee, msOwe, msTol, bI_t, bI_f, bI_inj, mwF_goo, mwF_hel, va_up_self, c_1] <;> decide); rw [hs]; exact ⟨rfl, hP⟩) hS dX2_make_37
theorem kn_X2_load : yX2_load.cls ≠ "java/lang/invoke/MethodHandle" ∧ yX2_load.cls ≠ "java/lang/invoke/VarHandle" ∧ (parseMethodDescriptor yX2_load.desc).map (fun d => d.parameters.length) = some 3 := by decide +kernel
theorem kd_X2_load : yX2_load.cls = RX2 ∧ yX2_load.cls ≠ "java/lang/invoke/MethodHandle" ∧ yX2_load.cls ≠ "java/lang/invoke/VarHandle" ∧ (parseMethodDescriptor yX2_load.desc).map (fun d => d.parameters.length) = some 3 := by decide +kernel
set_option maxHeartbeats 4000000 in
set_option maxRecDepth 100000 in
theorem c_X2_load (l : Launch) (D : va_G) (cI cZ : ClassId) (q : Nat → Nat) (σ : SM) (hq : ijQ 20 q) (x1 x2 x3 : Int32) (ok : okM σ) (hoth : othM σ) (hz : ∀ P, mN σ ≤ P → mMan σ P = 0) (hg14 : ∀ P O, cjF σ P O = true → mGor σ < 14) (hc7 : ∀ r i, 7 ≤ i → i < 32 → bt (mCop σ r) i = false) : Met l yX2_load wsX2_load ({ frames := 6, cells := 0, slots := 0, locals := 138 }) (va_Pc [.ref (q 0), .int x1, .int x2, .int x3] (PM D cI cZ q σ)) (wQ (adQ 20 q) (fun v H1 => v = some (.int (mLoad σ x1 x2 x3).1) ∧ va_P D vwCl (wM cI cZ q (mLoad σ x1 x2 x3).2) H1)) 0 0 (adQ 20 q) := by
  refine openW (cc := cX2_load) (maxL := 5) (by decide) rfl (Nat.le_of_ble_eq_true rfl) ?_
  intro p e s m args below meth c hx hb hml hts hown hpre Q RET ls hl
  have hown : s.vm.findClass RX2 = some m.cls := hown
  have hl : lv_has ls 5 [(0, .ref (q 0)), (1, .int x1), (2, .int x2), (3, .int x3)] := hl
  obtain ⟨hP, hK⟩ := hpre
  have hS : va_S (adQ 20 q) s.heap s.heap [] := va_S.rf
  have hiX2 : ∀ w ∈ wsX20, w ∈ wsX2_load := by decide +kernel
  have hf13 := hts (.fieldLink RX2 13 "PalletGramModel" "goods" "[I") (by decide +kernel)
  have hn : mN σ ≤ 14 := ok.1
  have hhol : ∀ P, mHol σ P < 6 := ok.2.1
  have hman : ∀ P, mMan σ P ≤ 30 := ok.2.2.1
  have hgor := ok.2.2.2.1
  have hwen := ok.2.2.2.2
  refine lv_aload_n hx hb dX2_load_0 rfl (lv_at hl 0 rfl) ?_
  refine lv_iload_n hx hb dX2_load_1 rfl (lv_at hl 1 rfl) ?_
  refine r_callE (x := bI (inB x1 0 (nI (mN σ) - 1))) (va_runV (As := [.int x1]) (rest := []) ⟨hx, hb, hml, hown, hts⟩ (c_X2_isPallet l D cI cZ q σ x1) (cwV 1 hts gX2_load_X2_isPallet rfl rfl rfl kd_X2_isPallet ⟨Nat.le_of_ble_eq_true rfl, Nat.le_of_ble_eq_true rfl⟩) (pV_M hP hK) rfl rfl hl.1 rfl (lv_room (Nat.le_of_ble_eq_true rfl)) dX2_load_2 ⟨Nat.le_of_ble_eq_true rfl, Nat.le_of_ble_eq_true rfl⟩) ?_
  refine eqB (inB x1 0 (nI (mN σ) - 1)) (tgt := 19) hx hb rfl dX2_load_5 (by decide) (fun c_1 => ?_) (fun c_1 => ?_)
  · skip
    refine lv_iconst (v := 0) hx hb dX2_load_19 (by decide) ?_
    refine lv_istore (lv' := [(4, .int 0), (0, .ref (q 0)), (1, .int x1), (2, .int x2), (3, .int x3)]) hx hb dX2_load_20 hl (by decide) rfl (fun ls hl => ?_)
    refine lv_aload_n hx hb dX2_load_22 rfl (lv_at hl 1 rfl) ?_
    refine lv_iload hx hb dX2_load_23 (lv_at hl 0 rfl) ?_
    refine neB false (tgt := 32) hx hb rfl dX2_load_25 (by decide) (fun c_2 => ?_) (fun c_2 => ?_)
    · exact absurd c_2 (by decide)
    refine lv_iconst (v := 1) hx hb dX2_load_28 (by decide) ?_
    refine lv_goto (tgt := 66) hx hb dX2_load_29 (by decide) ?_
    refine w_call (va_runV (As := [.int 1]) (rest := []) ⟨hx, hb, hml, hown, hts⟩ (c_X2_holds l D cI cZ q σ hq 1) (cwV 1 hts gX2_load_X2_holds rfl rfl rfl kd_X2_holds ⟨Nat.le_of_ble_eq_true rfl, Nat.le_of_ble_eq_true rfl⟩) (pV_M hP hK) rfl rfl hl.1 rfl (lv_room (Nat.le_of_ble_eq_true rfl)) dX2_load_66 ⟨Nat.le_of_ble_eq_true rfl, Nat.le_of_ble_eq_true rfl⟩) hS (fun _ h => h) (fun v_3 H locs hv_3 _ _ hS => ?_)
    obtain ⟨rfl, hP⟩ := hv_3
    have hP : va_P D vwCl (wM cI cZ q (msThr σ 1)) H := hP
    refine neB false (tgt := 74) hx hb rfl dX2_load_69 (by decide) (fun c_4 => ?_) (fun c_4 => ?_)
    · exact absurd c_4 (by decide)
    refine lv_iconst (v := 0) hx hb dX2_load_72 (by decide) ?_
    exact RET _ _ _ _ _ (by have hs : mLoad σ x1 x2 x3 = (0, (msThr σ 1)) := (by simp [mLoad, palM, pN, thr_1, thr_2, thr_3, thr_4, thr_5, thr_6, thr_7, thr_8, mThr, mHol, mGoo, mMan, mHel, mGon, mN, mWen, mGor, mKin, mMak, mGod, mAmo, mOth, mIts, mWas, mPrf, mCop, mDec, mFee, mOwe, mTol, msThr, msHol, msGoo, msMan, msHel, msGon, msN, msWen, msGor, msKin, msMak, msGod, msAmo, msOth, msIts, msWas, msPrf, msCop, msDec, msFee, msOwe, msTol, bI_t, bI_f, bI_inj, mwF_goo, mwF_hel, va_up_self, c_1] <;> decide); rw [hs]; exact ⟨rfl, hP⟩) hS dX2_load_73
  · skip
    refine lv_iload_n hx hb dX2_load_8 rfl (lv_at hl 2 rfl) ?_
    refine r_callE (x := bI (inB x2 0 5)) (va_runS (As := [.int x2]) (rest := []) ⟨hx, hb, hml, hown, hts⟩ (c_X2_isGood l x2) (va_cwS 1 hts gX2_load_X2_isGood rfl rfl rfl kn_X2_isGood ⟨Nat.le_of_ble_eq_true rfl, Nat.le_of_ble_eq_true rfl⟩) (pS_T) rfl rfl hl.1 rfl (lv_room (Nat.le_of_ble_eq_true rfl)) dX2_load_9 ⟨Nat.le_of_ble_eq_true rfl, Nat.le_of_ble_eq_true rfl⟩) ?_
    refine eqB (inB x2 0 5) (tgt := 19) hx hb rfl dX2_load_12 (by decide) (fun c_5 => ?_) (fun c_5 => ?_)
    · skip
      refine lv_iconst (v := 0) hx hb dX2_load_19 (by decide) ?_
      refine lv_istore (lv' := [(4, .int 0), (0, .ref (q 0)), (1, .int x1), (2, .int x2), (3, .int x3)]) hx hb dX2_load_20 hl (by decide) rfl (fun ls hl => ?_)
      refine lv_aload_n hx hb dX2_load_22 rfl (lv_at hl 1 rfl) ?_
      refine lv_iload hx hb dX2_load_23 (lv_at hl 0 rfl) ?_
      refine neB false (tgt := 32) hx hb rfl dX2_load_25 (by decide) (fun c_6 => ?_) (fun c_6 => ?_)
      · exact absurd c_6 (by decide)
      refine lv_iconst (v := 1) hx hb dX2_load_28 (by decide) ?_
      refine lv_goto (tgt := 66) hx hb dX2_load_29 (by decide) ?_
      refine w_call (va_runV (As := [.int 1]) (rest := []) ⟨hx, hb, hml, hown, hts⟩ (c_X2_holds l D cI cZ q σ hq 1) (cwV 1 hts gX2_load_X2_holds rfl rfl rfl kd_X2_holds ⟨Nat.le_of_ble_eq_true rfl, Nat.le_of_ble_eq_true rfl⟩) (pV_M hP hK) rfl rfl hl.1 rfl (lv_room (Nat.le_of_ble_eq_true rfl)) dX2_load_66 ⟨Nat.le_of_ble_eq_true rfl, Nat.le_of_ble_eq_true rfl⟩) hS (fun _ h => h) (fun v_7 H locs hv_7 _ _ hS => ?_)
      obtain ⟨rfl, hP⟩ := hv_7
      have hP : va_P D vwCl (wM cI cZ q (msThr σ 1)) H := hP
      refine neB false (tgt := 74) hx hb rfl dX2_load_69 (by decide) (fun c_8 => ?_) (fun c_8 => ?_)
      · exact absurd c_8 (by decide)
      refine lv_iconst (v := 0) hx hb dX2_load_72 (by decide) ?_
      exact RET _ _ _ _ _ (by have hs : mLoad σ x1 x2 x3 = (0, (msThr σ 1)) := (by simp [mLoad, palM, pN, thr_1, thr_2, thr_3, thr_4, thr_5, thr_6, thr_7, thr_8, mThr, mHol, mGoo, mMan, mHel, mGon, mN, mWen, mGor, mKin, mMak, mGod, mAmo, mOth, mIts, mWas, mPrf, mCop, mDec, mFee, mOwe, mTol, msThr, msHol, msGoo, msMan, msHel, msGon, msN, msWen, msGor, msKin, msMak, msGod, msAmo, msOth, msIts, msWas, msPrf, msCop, msDec, msFee, msOwe, msTol, bI_t, bI_f, bI_inj, mwF_goo, mwF_hel, va_up_self, c_1, c_5] <;> decide); rw [hs]; exact ⟨rfl, hP⟩) hS dX2_load_73
    · skip
      obtain ⟨P, hP9, rfl⟩ := inB_pal (by omega) c_1
      have hcP : (nI P).toNatClampNeg = P := nI_clamp (by omega)
      obtain ⟨G, hG8, hG9, rfl⟩ := inB_nat (lo := 0) (hi := 5) (by decide) (by decide) c_5
      have hcG : (nI G).toNatClampNeg = G := nI_clamp (by omega)
      refine lv_iconst (v := 1) hx hb dX2_load_15 (by decide) ?_
      refine lv_goto (tgt := 20) hx hb dX2_load_16 (by decide) ?_
      refine lv_istore (lv' := [(4, .int 1), (0, .ref (q 0)), (1, .int (nI (P))), (2, .int (nI (G))), (3, .int x3)]) hx hb dX2_load_20 hl (by decide) rfl (fun ls hl => ?_)
      refine lv_aload_n hx hb dX2_load_22 rfl (lv_at hl 1 rfl) ?_
      refine lv_iload hx hb dX2_load_23 (lv_at hl 0 rfl) ?_
      refine neB true (tgt := 32) hx hb rfl dX2_load_25 (by decide) (fun c_9 => ?_) (fun c_9 => ?_)
      rotate_left
      · exact absurd c_9 (by decide)
      refine lv_iload_n hx hb dX2_load_32 rfl (lv_at hl 4 rfl) ?_
      refine lv_bipush (v := (-99)) hx hb dX2_load_33 (by decide) ?_
      refine lv_bipush (v := 99) hx hb dX2_load_35 (by decide) ?_
      refine r_callE (x := bI (inB x3 ((-99)) 99)) (va_runS (As := [.int x3, .int ((-99)), .int 99]) (rest := [.ref (q 0)]) ⟨hx, hb, hml, hown, hts⟩ (c_X2_isIn l x3 ((-99)) 99) (va_cwS 3 hts gX2_load_X2_isIn rfl rfl rfl kn_X2_isIn ⟨Nat.le_of_ble_eq_true rfl, Nat.le_of_ble_eq_true rfl⟩) (pS_T) rfl rfl hl.1 rfl (lv_room (Nat.le_of_ble_eq_true rfl)) dX2_load_37 ⟨Nat.le_of_ble_eq_true rfl, Nat.le_of_ble_eq_true rfl⟩) ?_
      refine eqB (inB x3 ((-99)) 99) (tgt := 47) hx hb rfl dX2_load_40 (by decide) (fun c_10 => ?_) (fun c_10 => ?_)
      · skip
        refine lv_iconst (v := 2) hx hb dX2_load_47 (by decide) ?_
        refine lv_goto (tgt := 66) hx hb dX2_load_48 (by decide) ?_
        refine w_call (va_runV (As := [.int 2]) (rest := []) ⟨hx, hb, hml, hown, hts⟩ (c_X2_holds l D cI cZ q σ hq 2) (cwV 1 hts gX2_load_X2_holds rfl rfl rfl kd_X2_holds ⟨Nat.le_of_ble_eq_true rfl, Nat.le_of_ble_eq_true rfl⟩) (pV_M hP hK) rfl rfl hl.1 rfl (lv_room (Nat.le_of_ble_eq_true rfl)) dX2_load_66 ⟨Nat.le_of_ble_eq_true rfl, Nat.le_of_ble_eq_true rfl⟩) hS (fun _ h => h) (fun v_11 H locs hv_11 _ _ hS => ?_)
        obtain ⟨rfl, hP⟩ := hv_11
        have hP : va_P D vwCl (wM cI cZ q (msThr σ 2)) H := hP
        refine neB false (tgt := 74) hx hb rfl dX2_load_69 (by decide) (fun c_12 => ?_) (fun c_12 => ?_)
        · exact absurd c_12 (by decide)
        refine lv_iconst (v := 0) hx hb dX2_load_72 (by decide) ?_
        exact RET _ _ _ _ _ (by have hs : mLoad σ (nI P) (nI G) x3 = (0, (msThr σ 2)) := (by simp [mLoad, palM, pN, thr_1, thr_2, thr_3, thr_4, thr_5, thr_6, thr_7, thr_8, mThr, mHol, mGoo, mMan, mHel, mGon, mN, mWen, mGor, mKin, mMak, mGod, mAmo, mOth, mIts, mWas, mPrf, mCop, mDec, mFee, mOwe, mTol, msThr, msHol, msGoo, msMan, msHel, msGon, msN, msWen, msGor, msKin, msMak, msGod, msAmo, msOth, msIts, msWas, msPrf, msCop, msDec, msFee, msOwe, msTol, bI_t, bI_f, bI_inj, mwF_goo, mwF_hel, va_up_self, c_1, c_5, c_10, hcP, hcG] <;> decide); rw [hs]; exact ⟨rfl, hP⟩) hS dX2_load_73
      · skip
        refine lv_iload_n hx hb dX2_load_43 rfl (lv_at hl 4 rfl) ?_
        refine lv_if_ne (tgt := 51) hx hb dX2_load_44 (by decide) (fun c_13 => ?_) (fun c_13 => ?_)
        · skip
          refine lv_aload_n hx hb dX2_load_51 rfl (lv_at hl 1 rfl) ?_
          refine lv_iload_n hx hb dX2_load_52 rfl (lv_at hl 2 rfl) ?_
          refine lv_iload_n hx hb dX2_load_53 rfl (lv_at hl 3 rfl) ?_
          refine lv_iload_n hx hb dX2_load_54 rfl (lv_at hl 4 rfl) ?_
          refine r_callE (x := bI (clF σ P G x3)) (va_runV (As := [.int (nI (P)), .int (nI (G)), .int x3]) (rest := [.ref (q 0)]) ⟨hx, hb, hml, hown, hts⟩ (c_X2_canLoad l D cI cZ q σ P G x3 (by omega) (by omega) ⟨hn, hhol, hman, hgor, hwen⟩ hoth) (cwV 3 hts gX2_load_X2_canLoad rfl rfl rfl kd_X2_canLoad ⟨Nat.le_of_ble_eq_true rfl, Nat.le_of_ble_eq_true rfl⟩) (pV_M hP hK) rfl rfl hl.1 rfl (lv_room (Nat.le_of_ble_eq_true rfl)) dX2_load_55 ⟨Nat.le_of_ble_eq_true rfl, Nat.le_of_ble_eq_true rfl⟩) ?_
          refine neB (clF σ P G x3) (tgt := 65) hx hb rfl dX2_load_58 (by decide) (fun c_14 => ?_) (fun c_14 => ?_)
          · skip
            refine lv_iconst (v := 0) hx hb dX2_load_65 (by decide) ?_
            refine w_call (va_runV (As := [.int 0]) (rest := []) ⟨hx, hb, hml, hown, hts⟩ (c_X2_holds l D cI cZ q σ hq 0) (cwV 1 hts gX2_load_X2_holds rfl rfl rfl kd_X2_holds ⟨Nat.le_of_ble_eq_true rfl, Nat.le_of_ble_eq_true rfl⟩) (pV_M hP hK) rfl rfl hl.1 rfl (lv_room (Nat.le_of_ble_eq_true rfl)) dX2_load_66 ⟨Nat.le_of_ble_eq_true rfl, Nat.le_of_ble_eq_true rfl⟩) hS (fun _ h => h) (fun v_15 H locs hv_15 _ _ hS => ?_)
            obtain ⟨rfl, hP⟩ := hv_15
            have hP : va_P D vwCl (wM cI cZ q (msThr σ 0)) H := hP
            refine neB true (tgt := 74) hx hb rfl dX2_load_69 (by decide) (fun c_16 => ?_) (fun c_16 => ?_)
            rotate_left
            · exact absurd c_16 (by decide)
            have hE9 := clF_man c_14
            have hK9 := ldK_lt x3
            refine lv_aload_n hx hb dX2_load_74 rfl (lv_at hl 1 rfl) ?_
            refine gf_2_2 hx hb hts hiX2 hown hK hP hf13 dX2_load_75 ?_
            refine lv_bipush (v := 6) hx hb dX2_load_78 (by decide) ?_
            refine lv_iload_n hx hb dX2_load_80 rfl (lv_at hl 2 rfl) ?_
            refine mulNc 6 P hx hb rfl rfl dX2_load_81 ?_
            refine lv_iload_n hx hb dX2_load_82 rfl (lv_at hl 3 rfl) ?_
            refine addN (P * 6) G hx hb rfl rfl dX2_load_83 ?_
            refine lv_dup2_11 hx hb dX2_load_84 rfl rfl ?_
            refine mld_2 (k := P * 6 + G) (v := ((mGoo σ)) (P * 6 + G)) hx hb hK hP rfl (by omega) rfl dX2_load_85 ?_
            refine lv_iload_n hx hb dX2_load_86 rfl (lv_at hl 4 rfl) ?_
            refine lv_iadd hx hb dX2_load_87 ?_
            refine mst_2 (k := P * 6 + G) (x := ((((mGoo σ)) (P * 6 + G)) + x3)) hx hb hK hP hq hS rfl (by omega) dX2_load_88 (fun goo_17 e_goo_17 H locs hP hS => ?_)
            have hP : va_P D vwCl (wM cI cZ q (msGoo (msThr σ 0) goo_17)) H := hP
            refine lv_aload_n hx hb dX2_load_89 rfl (lv_at hl 1 rfl) ?_
            refine lv_iload_n hx hb dX2_load_90 rfl (lv_at hl 2 rfl) ?_
            refine cutI (x := nI (ldK x3)) (pcM := 100) (st := [.int (nI (P)), .ref (q 0)]) ?_ (fun J => ?_)
            rotate_left
            · skip
              refine lv_iload_n hx hb dX2_load_91 rfl (lv_at hl 4 rfl) ?_
              refine lv_if_le (tgt := 99) hx hb dX2_load_92 (by decide) (fun c_18 => ?_) (fun c_18 => ?_)
              · skip
                refine lv_iconst (v := 2) hx hb dX2_load_99 (by decide) ?_
                exact J _ (congrArg nI (by simp [ldK, c_18]))
              · skip
                refine lv_iconst (v := 1) hx hb dX2_load_95 (by decide) ?_
                refine lv_goto (tgt := 100) hx hb dX2_load_96 (by decide) ?_
                exact J _ (congrArg nI (by simp [ldK, c_18]))
            refine lv_iload_n hx hb dX2_load_100 rfl (lv_at hl 3 rfl) ?_
            refine cutI (x := (ldA x3)) (pcM := 111) (st := [.int (nI (G)), .int (nI (ldK x3)), .int (nI (P)), .ref (q 0)]) ?_ (fun J => ?_)
            rotate_left
            · skip
              refine lv_iload_n hx hb dX2_load_101 rfl (lv_at hl 4 rfl) ?_
              refine lv_if_le (tgt := 109) hx hb dX2_load_102 (by decide) (fun c_19 => ?_) (fun c_19 => ?_)
              · skip
                refine lv_iload_n hx hb dX2_load_109 rfl (lv_at hl 4 rfl) ?_
                refine lv_ineg hx hb dX2_load_110 ?_
                exact J _ (by simp [ldA, c_19])
              · skip
                refine lv_iload_n hx hb dX2_load_105 rfl (lv_at hl 4 rfl) ?_
                refine lv_goto (tgt := 111) hx hb dX2_load_106 (by decide) ?_
                exact J _ (by simp [ldA, c_19])
            refine lv_iconst (v := 0) hx hb dX2_load_111 (by decide) ?_
            refine lv_iconst (v := 0) hx hb dX2_load_112 (by decide) ?_
            refine w_call (va_runV (As := [.int (nI (P)), .int (nI (ldK x3)), .int (nI (G)), .int ((ldA x3)), .int 0, .int 0]) (rest := []) ⟨hx, hb, hml, hown, hts⟩ (c_X2_writes l D cI cZ q (msGoo (msThr σ 0) goo_17) hq P (ldK x3) (nI (G)) ((ldA x3)) 0 0 (by omega) (by omega) hhol (by omega)) (cwV 6 hts gX2_load_X2_writes rfl rfl rfl kd_X2_writes ⟨Nat.le_of_ble_eq_true rfl, Nat.le_of_ble_eq_true rfl⟩) (pV_M hP hK) rfl rfl hl.1 rfl (lv_room (Nat.le_of_ble_eq_true rfl)) dX2_load_113 ⟨Nat.le_of_ble_eq_true rfl, Nat.le_of_ble_eq_true rfl⟩) hS (fun _ h => h) (fun v_20 H locs hv_20 _ _ hS => ?_)
            obtain ⟨rfl, hP⟩ := hv_20
            obtain ⟨σ21, eσ21⟩ : ∃ z : SM, z = mwF (msGoo (msThr σ 0) goo_17) P (ldK x3) (nI (G)) ((ldA x3)) 0 0 := ⟨_, rfl⟩
            rw [← eσ21] at hP
            refine lv_aload_n hx hb dX2_load_116 rfl (lv_at hl 1 rfl) ?_
            refine gf_2_2 hx hb hts hiX2 hown hK hP hf13 dX2_load_117 ?_
            refine lv_bipush (v := 6) hx hb dX2_load_120 (by decide) ?_
            refine lv_iload_n hx hb dX2_load_122 rfl (lv_at hl 2 rfl) ?_
            refine mulNc 6 P hx hb rfl rfl dX2_load_123 ?_
            refine lv_iload_n hx hb dX2_load_124 rfl (lv_at hl 3 rfl) ?_
            refine addN (P * 6) G hx hb rfl rfl dX2_load_125 ?_
            refine mld_2 (k := P * 6 + G) (v := ((mGoo σ21)) (P * 6 + G)) hx hb hK hP rfl (by omega) rfl dX2_load_126 ?_
            exact RET _ _ _ _ _ (by have hs : mLoad σ (nI P) (nI G) x3 = ((((mGoo σ21)) (P * 6 + G)), σ21) := (by simp [mLoad, palM, pN, thr_1, thr_2, thr_3, thr_4, thr_5, thr_6, thr_7, thr_8, mThr, mHol, mGoo, mMan, mHel, mGon, mN, mWen, mGor, mKin, mMak, mGod, mAmo, mOth, mIts, mWas, mPrf, mCop, mDec, mFee, mOwe, mTol, msThr, msHol, msGoo, msMan, msHel, msGon, msN, msWen, msGor, msKin, msMak, msGod, msAmo, msOth, msIts, msWas, msPrf, msCop, msDec, msFee, msOwe, msTol, bI_t, bI_f, bI_inj, mwF_goo, mwF_hel, va_up_self, c_1, c_5, c_10, c_13, c_14, hcP, hcG, e_goo_17, eσ21] <;> decide); rw [hs]; exact ⟨rfl, hP⟩) hS dX2_load_127
          · skip
            refine lv_iconst (v := 3) hx hb dX2_load_61 (by decide) ?_
            refine lv_goto (tgt := 66) hx hb dX2_load_62 (by decide) ?_
            refine w_call (va_runV (As := [.int 3]) (rest := []) ⟨hx, hb, hml, hown, hts⟩ (c_X2_holds l D cI cZ q σ hq 3) (cwV 1 hts gX2_load_X2_holds rfl rfl rfl kd_X2_holds ⟨Nat.le_of_ble_eq_true rfl, Nat.le_of_ble_eq_true rfl⟩) (pV_M hP hK) rfl rfl hl.1 rfl (lv_room (Nat.le_of_ble_eq_true rfl)) dX2_load_66 ⟨Nat.le_of_ble_eq_true rfl, Nat.le_of_ble_eq_true rfl⟩) hS (fun _ h => h) (fun v_22 H locs hv_22 _ _ hS => ?_)
            obtain ⟨rfl, hP⟩ := hv_22
            have hP : va_P D vwCl (wM cI cZ q (msThr σ 3)) H := hP
            refine neB false (tgt := 74) hx hb rfl dX2_load_69 (by decide) (fun c_23 => ?_) (fun c_23 => ?_)
            · exact absurd c_23 (by decide)
            refine lv_iconst (v := 0) hx hb dX2_load_72 (by decide) ?_
            exact RET _ _ _ _ _ (by have hs : mLoad σ (nI P) (nI G) x3 = (0, (msThr σ 3)) := (by simp [mLoad, palM, pN, thr_1, thr_2, thr_3, thr_4, thr_5, thr_6, thr_7, thr_8, mThr, mHol, mGoo, mMan, mHel, mGon, mN, mWen, mGor, mKin, mMak, mGod, mAmo, mOth, mIts, mWas, mPrf, mCop, mDec, mFee, mOwe, mTol, msThr, msHol, msGoo, msMan, msHel, msGon, msN, msWen, msGor, msKin, msMak, msGod, msAmo, msOth, msIts, msWas, msPrf, msCop, msDec, msFee, msOwe, msTol, bI_t, bI_f, bI_inj, mwF_goo, mwF_hel, va_up_self, c_1, c_5, c_10, c_13, c_14, hcP, hcG] <;> decide); rw [hs]; exact ⟨rfl, hP⟩) hS dX2_load_73
        · skip
          refine lv_iconst (v := 2) hx hb dX2_load_47 (by decide) ?_
          refine lv_goto (tgt := 66) hx hb dX2_load_48 (by decide) ?_
          refine w_call (va_runV (As := [.int 2]) (rest := []) ⟨hx, hb, hml, hown, hts⟩ (c_X2_holds l D cI cZ q σ hq 2) (cwV 1 hts gX2_load_X2_holds rfl rfl rfl kd_X2_holds ⟨Nat.le_of_ble_eq_true rfl, Nat.le_of_ble_eq_true rfl⟩) (pV_M hP hK) rfl rfl hl.1 rfl (lv_room (Nat.le_of_ble_eq_true rfl)) dX2_load_66 ⟨Nat.le_of_ble_eq_true rfl, Nat.le_of_ble_eq_true rfl⟩) hS (fun _ h => h) (fun v_24 H locs hv_24 _ _ hS => ?_)
          obtain ⟨rfl, hP⟩ := hv_24
          have hP : va_P D vwCl (wM cI cZ q (msThr σ 2)) H := hP
          refine neB false (tgt := 74) hx hb rfl dX2_load_69 (by decide) (fun c_25 => ?_) (fun c_25 => ?_)
          · exact absurd c_25 (by decide)
          refine lv_iconst (v := 0) hx hb dX2_load_72 (by decide) ?_
          exact RET _ _ _ _ _ (by have hs : mLoad σ (nI P) (nI G) x3 = (0, (msThr σ 2)) := (by simp [mLoad, palM, pN, thr_1, thr_2, thr_3, thr_4, thr_5, thr_6, thr_7, thr_8, mThr, mHol, mGoo, mMan, mHel, mGon, mN, mWen, mGor, mKin, mMak, mGod, mAmo, mOth, mIts, mWas, mPrf, mCop, mDec, mFee, mOwe, mTol, msThr, msHol, msGoo, msMan, msHel, msGon, msN, msWen, msGor, msKin, msMak, msGod, msAmo, msOth, msIts, msWas, msPrf, msCop, msDec, msFee, msOwe, msTol, bI_t, bI_f, bI_inj, mwF_goo, mwF_hel, va_up_self, c_1, c_5, c_10, c_13, hcP, hcG] <;> decide); rw [hs]; exact ⟨rfl, hP⟩) hS dX2_load_73
theorem kn_X2_part : yX2_part.cls ≠ "java/lang/invoke/MethodHandle" ∧ yX2_part.cls ≠ "java/lang/invoke/VarHandle" ∧ (parseMethodDescriptor yX2_part.desc).map (fun d => d.parameters.length) = some 3 := by decide +kernel
theorem kd_X2_part : yX2_part.cls = RX2 ∧ yX2_part.cls ≠ "java/lang/invoke/MethodHandle" ∧ yX2_part.cls ≠ "java/lang/invoke/VarHandle" ∧ (parseMethodDescriptor yX2_part.desc).map (fun d => d.parameters.length) = some 3 := by decide +kernel
set_option maxHeartbeats 4000000 in
set_option maxRecDepth 100000 in
theorem c_X2_part (l : Launch) (D : va_G) (cI cZ : ClassId) (q : Nat → Nat) (σ : SM) (hq : ijQ 20 q) (x1 x2 x3 : Int32) (ok : okM σ) (hoth : othM σ) (hz : ∀ P, mN σ ≤ P → mMan σ P = 0) (hg14 : ∀ P O, cjF σ P O = true → mGor σ < 14) (hc7 : ∀ r i, 7 ≤ i → i < 32 → bt (mCop σ r) i = false) : Met l yX2_part wsX2_part ({ frames := 5, cells := 0, slots := 0, locals := 114 }) (va_Pc [.ref (q 0), .int x1, .int x2, .int x3] (PM D cI cZ q σ)) (wQ (adQ 20 q) (fun v H1 => v = some (.int (mPart σ x1 x2 x3).1) ∧ va_P D vwCl (wM cI cZ q (mPart σ x1 x2 x3).2) H1)) 0 0 (adQ 20 q) := by
  refine openW (cc := cX2_part) (maxL := 7) (by decide) rfl (Nat.le_of_ble_eq_true rfl) ?_
  intro p e s m args below meth c hx hb hml hts hown hpre Q RET ls hl
  have hown : s.vm.findClass RX2 = some m.cls := hown
  have hl : lv_has ls 7 [(0, .ref (q 0)), (1, .int x1), (2, .int x2), (3, .int x3)] := hl
  obtain ⟨hP, hK⟩ := hpre
  have hS : va_S (adQ 20 q) s.heap s.heap [] := va_S.rf
  have hiX2 : ∀ w ∈ wsX20, w ∈ wsX2_part := by decide +kernel
  have hf13 := hts (.fieldLink RX2 13 "PalletGramModel" "goods" "[I") (by decide +kernel)
  have hf72 := hts (.fieldLink RX2 72 "PalletGramModel" "pallets" "I") (by decide +kernel)
  have hf7 := hts (.fieldLink RX2 7 "PalletGramModel" "holder" "[I") (by decide +kernel)
  have hf16 := hts (.fieldLink RX2 16 "PalletGramModel" "many" "[I") (by decide +kernel)
  have hn : mN σ ≤ 14 := ok.1
  have hhol : ∀ P, mHol σ P < 6 := ok.2.1
  have hman : ∀ P, mMan σ P ≤ 30 := ok.2.2.1
  have hgor := ok.2.2.2.1
  have hwen := ok.2.2.2.2
  refine lv_aload_n hx hb dX2_part_0 rfl (lv_at hl 0 rfl) ?_
  refine lv_iload_n hx hb dX2_part_1 rfl (lv_at hl 1 rfl) ?_
  refine r_callE (x := bI (inB x1 0 (nI (mN σ) - 1))) (va_runV (As := [.int x1]) (rest := []) ⟨hx, hb, hml, hown, hts⟩ (c_X2_isPallet l D cI cZ q σ x1) (cwV 1 hts gX2_part_X2_isPallet rfl rfl rfl kd_X2_isPallet ⟨Nat.le_of_ble_eq_true rfl, Nat.le_of_ble_eq_true rfl⟩) (pV_M hP hK) rfl rfl hl.1 rfl (lv_room (Nat.le_of_ble_eq_true rfl)) dX2_part_2 ⟨Nat.le_of_ble_eq_true rfl, Nat.le_of_ble_eq_true rfl⟩) ?_
  refine eqB (inB x1 0 (nI (mN σ) - 1)) (tgt := 19) hx hb rfl dX2_part_5 (by decide) (fun c_1 => ?_) (fun c_1 => ?_)
  · skip
    refine lv_iconst (v := 0) hx hb dX2_part_19 (by decide) ?_
    refine lv_istore (lv' := [(4, .int 0), (0, .ref (q 0)), (1, .int x1), (2, .int x2), (3, .int x3)]) hx hb dX2_part_20 hl (by decide) rfl (fun ls hl => ?_)
    refine lv_iload hx hb dX2_part_22 (lv_at hl 0 rfl) ?_
    refine eqB false (tgt := 63) hx hb rfl dX2_part_24 (by decide) (fun c_2 => ?_) (fun c_2 => ?_)
    rotate_left
    · exact absurd c_2 (by decide)
    refine lv_iconst (v := 0) hx hb dX2_part_63 (by decide) ?_
    refine lv_istore (lv' := [(5, .int 0), (4, .int 0), (0, .ref (q 0)), (1, .int x1), (2, .int x2), (3, .int x3)]) hx hb dX2_part_64 hl (by decide) rfl (fun ls hl => ?_)
    refine lv_aload_n hx hb dX2_part_66 rfl (lv_at hl 2 rfl) ?_
    refine lv_iload hx hb dX2_part_67 (lv_at hl 1 rfl) ?_
    refine neB false (tgt := 76) hx hb rfl dX2_part_69 (by decide) (fun c_3 => ?_) (fun c_3 => ?_)
    · exact absurd c_3 (by decide)
    refine lv_iconst (v := 1) hx hb dX2_part_72 (by decide) ?_
    refine lv_goto (tgt := 100) hx hb dX2_part_73 (by decide) ?_
    refine w_call (va_runV (As := [.int 1]) (rest := []) ⟨hx, hb, hml, hown, hts⟩ (c_X2_holds l D cI cZ q σ hq 1) (cwV 1 hts gX2_part_X2_holds rfl rfl rfl kd_X2_holds ⟨Nat.le_of_ble_eq_true rfl, Nat.le_of_ble_eq_true rfl⟩) (pV_M hP hK) rfl rfl hl.1 rfl (lv_room (Nat.le_of_ble_eq_true rfl)) dX2_part_100 ⟨Nat.le_of_ble_eq_true rfl, Nat.le_of_ble_eq_true rfl⟩) hS (fun _ h => h) (fun v_4 H locs hv_4 _ _ hS => ?_)
    obtain ⟨rfl, hP⟩ := hv_4
    have hP : va_P D vwCl (wM cI cZ q (msThr σ 1)) H := hP
    refine neB false (tgt := 108) hx hb rfl dX2_part_103 (by decide) (fun c_5 => ?_) (fun c_5 => ?_)
    · exact absurd c_5 (by decide)
    refine lv_iconst (v := 0) hx hb dX2_part_106 (by decide) ?_
    exact RET _ _ _ _ _ (by have hs : mPart σ x1 x2 x3 = (0, (msThr σ 1)) := (by simp [mPart, palM, pN, thr_1, thr_2, thr_3, thr_4, thr_5, thr_6, thr_7, thr_8, mThr, mHol, mGoo, mMan, mHel, mGon, mN, mWen, mGor, mKin, mMak, mGod, mAmo, mOth, mIts, mWas, mPrf, mCop, mDec, mFee, mOwe, mTol, msThr, msHol, msGoo, msMan, msHel, msGon, msN, msWen, msGor, msKin, msMak, msGod, msAmo, msOth, msIts, msWas, msPrf, msCop, msDec, msFee, msOwe, msTol, bI_t, bI_f, bI_inj, mwF_goo, mwF_hel, va_up_self, c_1] <;> decide); rw [hs]; exact ⟨rfl, hP⟩) hS dX2_part_107
  · skip
    refine lv_iload_n hx hb dX2_part_8 rfl (lv_at hl 2 rfl) ?_
    refine r_callE (x := bI (inB x2 0 5)) (va_runS (As := [.int x2]) (rest := []) ⟨hx, hb, hml, hown, hts⟩ (c_X2_isGood l x2) (va_cwS 1 hts gX2_part_X2_isGood rfl rfl rfl kn_X2_isGood ⟨Nat.le_of_ble_eq_true rfl, Nat.le_of_ble_eq_true rfl⟩) (pS_T) rfl rfl hl.1 rfl (lv_room (Nat.le_of_ble_eq_true rfl)) dX2_part_9 ⟨Nat.le_of_ble_eq_true rfl, Nat.le_of_ble_eq_true rfl⟩) ?_
    refine eqB (inB x2 0 5) (tgt := 19) hx hb rfl dX2_part_12 (by decide) (fun c_6 => ?_) (fun c_6 => ?_)
    · skip
      refine lv_iconst (v := 0) hx hb dX2_part_19 (by decide) ?_
      refine lv_istore (lv' := [(4, .int 0), (0, .ref (q 0)), (1, .int x1), (2, .int x2), (3, .int x3)]) hx hb dX2_part_20 hl (by decide) rfl (fun ls hl => ?_)
      refine lv_iload hx hb dX2_part_22 (lv_at hl 0 rfl) ?_
      refine eqB false (tgt := 63) hx hb rfl dX2_part_24 (by decide) (fun c_7 => ?_) (fun c_7 => ?_)
      rotate_left
      · exact absurd c_7 (by decide)
      refine lv_iconst (v := 0) hx hb dX2_part_63 (by decide) ?_
      refine lv_istore (lv' := [(5, .int 0), (4, .int 0), (0, .ref (q 0)), (1, .int x1), (2, .int x2), (3, .int x3)]) hx hb dX2_part_64 hl (by decide) rfl (fun ls hl => ?_)
      refine lv_aload_n hx hb dX2_part_66 rfl (lv_at hl 2 rfl) ?_
      refine lv_iload hx hb dX2_part_67 (lv_at hl 1 rfl) ?_
      refine neB false (tgt := 76) hx hb rfl dX2_part_69 (by decide) (fun c_8 => ?_) (fun c_8 => ?_)
      · exact absurd c_8 (by decide)
      refine lv_iconst (v := 1) hx hb dX2_part_72 (by decide) ?_
      refine lv_goto (tgt := 100) hx hb dX2_part_73 (by decide) ?_
      refine w_call (va_runV (As := [.int 1]) (rest := []) ⟨hx, hb, hml, hown, hts⟩ (c_X2_holds l D cI cZ q σ hq 1) (cwV 1 hts gX2_part_X2_holds rfl rfl rfl kd_X2_holds ⟨Nat.le_of_ble_eq_true rfl, Nat.le_of_ble_eq_true rfl⟩) (pV_M hP hK) rfl rfl hl.1 rfl (lv_room (Nat.le_of_ble_eq_true rfl)) dX2_part_100 ⟨Nat.le_of_ble_eq_true rfl, Nat.le_of_ble_eq_true rfl⟩) hS (fun _ h => h) (fun v_9 H locs hv_9 _ _ hS => ?_)
      obtain ⟨rfl, hP⟩ := hv_9
      have hP : va_P D vwCl (wM cI cZ q (msThr σ 1)) H := hP
      refine neB false (tgt := 108) hx hb rfl dX2_part_103 (by decide) (fun c_10 => ?_) (fun c_10 => ?_)
      · exact absurd c_10 (by decide)
      refine lv_iconst (v := 0) hx hb dX2_part_106 (by decide) ?_
      exact RET _ _ _ _ _ (by have hs : mPart σ x1 x2 x3 = (0, (msThr σ 1)) := (by simp [mPart, palM, pN, thr_1, thr_2, thr_3, thr_4, thr_5, thr_6, thr_7, thr_8, mThr, mHol, mGoo, mMan, mHel, mGon, mN, mWen, mGor, mKin, mMak, mGod, mAmo, mOth, mIts, mWas, mPrf, mCop, mDec, mFee, mOwe, mTol, msThr, msHol, msGoo, msMan, msHel, msGon, msN, msWen, msGor, msKin, msMak, msGod, msAmo, msOth, msIts, msWas, msPrf, msCop, msDec, msFee, msOwe, msTol, bI_t, bI_f, bI_inj, mwF_goo, mwF_hel, va_up_self, c_1, c_6] <;> decide); rw [hs]; exact ⟨rfl, hP⟩) hS dX2_part_107
    · skip
      obtain ⟨P, hP9, rfl⟩ := inB_pal (by omega) c_1
      have hcP : (nI P).toNatClampNeg = P := nI_clamp (by omega)
      obtain ⟨G, hG8, hG9, rfl⟩ := inB_nat (lo := 0) (hi := 5) (by decide) (by decide) c_6
      have hcG : (nI G).toNatClampNeg = G := nI_clamp (by omega)
      refine lv_iconst (v := 1) hx hb dX2_part_15 (by decide) ?_
      refine lv_goto (tgt := 20) hx hb dX2_part_16 (by decide) ?_
      refine lv_istore (lv' := [(4, .int 1), (0, .ref (q 0)), (1, .int (nI (P))), (2, .int (nI (G))), (3, .int x3)]) hx hb dX2_part_20 hl (by decide) rfl (fun ls hl => ?_)
      refine lv_iload hx hb dX2_part_22 (lv_at hl 0 rfl) ?_
      refine eqB true (tgt := 63) hx hb rfl dX2_part_24 (by decide) (fun c_11 => ?_) (fun c_11 => ?_)
      · exact absurd c_11 (by decide)
      refine lv_aload_n hx hb dX2_part_27 rfl (lv_at hl 1 rfl) ?_
      refine gf_2_2 hx hb hts hiX2 hown hK hP hf13 dX2_part_28 ?_
      refine lv_bipush (v := 6) hx hb dX2_part_31 (by decide) ?_
      refine lv_iload_n hx hb dX2_part_33 rfl (lv_at hl 2 rfl) ?_
      refine mulNc 6 P hx hb rfl rfl dX2_part_34 ?_
      refine lv_iload_n hx hb dX2_part_35 rfl (lv_at hl 3 rfl) ?_
      refine addN (P * 6) G hx hb rfl rfl dX2_part_36 ?_
      refine mld_2 (k := P * 6 + G) (v := ((mGoo σ)) (P * 6 + G)) hx hb hK hP rfl (by omega) rfl dX2_part_37 ?_
      refine lv_iload_n hx hb dX2_part_38 rfl (lv_at hl 4 rfl) ?_
      refine lv_icmp_lt (tgt := 63) hx hb dX2_part_39 (by decide) (fun c_12 => ?_) (fun c_12 => ?_)
      · skip
        refine lv_iconst (v := 0) hx hb dX2_part_63 (by decide) ?_
        refine lv_istore (lv' := [(5, .int 0), (4, .int 1), (0, .ref (q 0)), (1, .int (nI (P))), (2, .int (nI (G))), (3, .int x3)]) hx hb dX2_part_64 hl (by decide) rfl (fun ls hl => ?_)
        refine lv_aload_n hx hb dX2_part_66 rfl (lv_at hl 2 rfl) ?_
        refine lv_iload hx hb dX2_part_67 (lv_at hl 1 rfl) ?_
        refine neB true (tgt := 76) hx hb rfl dX2_part_69 (by decide) (fun c_13 => ?_) (fun c_13 => ?_)
        rotate_left
        · exact absurd c_13 (by decide)
        refine lv_iload_n hx hb dX2_part_76 rfl (lv_at hl 5 rfl) ?_
        refine lv_iconst (v := 1) hx hb dX2_part_77 (by decide) ?_
        refine lv_bipush (v := 99) hx hb dX2_part_78 (by decide) ?_
        refine r_callE (x := bI (inB x3 1 99)) (va_runS (As := [.int x3, .int 1, .int 99]) (rest := [.ref (q 0)]) ⟨hx, hb, hml, hown, hts⟩ (c_X2_isIn l x3 1 99) (va_cwS 3 hts gX2_part_X2_isIn rfl rfl rfl kn_X2_isIn ⟨Nat.le_of_ble_eq_true rfl, Nat.le_of_ble_eq_true rfl⟩) (pS_T) rfl rfl hl.1 rfl (lv_room (Nat.le_of_ble_eq_true rfl)) dX2_part_80 ⟨Nat.le_of_ble_eq_true rfl, Nat.le_of_ble_eq_true rfl⟩) ?_
        refine neB (inB x3 1 99) (tgt := 90) hx hb rfl dX2_part_83 (by decide) (fun c_14 => ?_) (fun c_14 => ?_)
        · skip
          refine lv_iload hx hb dX2_part_90 (lv_at hl 0 rfl) ?_
          refine neB false (tgt := 99) hx hb rfl dX2_part_92 (by decide) (fun c_15 => ?_) (fun c_15 => ?_)
          · exact absurd c_15 (by decide)
          refine lv_iconst (v := 3) hx hb dX2_part_95 (by decide) ?_
          refine lv_goto (tgt := 100) hx hb dX2_part_96 (by decide) ?_
          refine w_call (va_runV (As := [.int 3]) (rest := []) ⟨hx, hb, hml, hown, hts⟩ (c_X2_holds l D cI cZ q σ hq 3) (cwV 1 hts gX2_part_X2_holds rfl rfl rfl kd_X2_holds ⟨Nat.le_of_ble_eq_true rfl, Nat.le_of_ble_eq_true rfl⟩) (pV_M hP hK) rfl rfl hl.1 rfl (lv_room (Nat.le_of_ble_eq_true rfl)) dX2_part_100 ⟨Nat.le_of_ble_eq_true rfl, Nat.le_of_ble_eq_true rfl⟩) hS (fun _ h => h) (fun v_16 H locs hv_16 _ _ hS => ?_)
          obtain ⟨rfl, hP⟩ := hv_16
          have hP : va_P D vwCl (wM cI cZ q (msThr σ 3)) H := hP
          refine neB false (tgt := 108) hx hb rfl dX2_part_103 (by decide) (fun c_17 => ?_) (fun c_17 => ?_)
          · exact absurd c_17 (by decide)
          refine lv_iconst (v := 0) hx hb dX2_part_106 (by decide) ?_
          exact RET _ _ _ _ _ (by have hs : mPart σ (nI P) (nI G) x3 = (0, (msThr σ 3)) := (by simp [mPart, palM, pN, thr_1, thr_2, thr_3, thr_4, thr_5, thr_6, thr_7, thr_8, mThr, mHol, mGoo, mMan, mHel, mGon, mN, mWen, mGor, mKin, mMak, mGod, mAmo, mOth, mIts, mWas, mPrf, mCop, mDec, mFee, mOwe, mTol, msThr, msHol, msGoo, msMan, msHel, msGon, msN, msWen, msGor, msKin, msMak, msGod, msAmo, msOth, msIts, msWas, msPrf, msCop, msDec, msFee, msOwe, msTol, bI_t, bI_f, bI_inj, mwF_goo, mwF_hel, va_up_self, c_1, c_6, c_12, c_14, hcP, hcG, Int32.not_le.mpr c_12] <;> decide); rw [hs]; exact ⟨rfl, hP⟩) hS dX2_part_107
        · skip
          refine lv_iconst (v := 2) hx hb dX2_part_86 (by decide) ?_
          refine lv_goto (tgt := 100) hx hb dX2_part_87 (by decide) ?_
          refine w_call (va_runV (As := [.int 2]) (rest := []) ⟨hx, hb, hml, hown, hts⟩ (c_X2_holds l D cI cZ q σ hq 2) (cwV 1 hts gX2_part_X2_holds rfl rfl rfl kd_X2_holds ⟨Nat.le_of_ble_eq_true rfl, Nat.le_of_ble_eq_true rfl⟩) (pV_M hP hK) rfl rfl hl.1 rfl (lv_room (Nat.le_of_ble_eq_true rfl)) dX2_part_100 ⟨Nat.le_of_ble_eq_true rfl, Nat.le_of_ble_eq_true rfl⟩) hS (fun _ h => h) (fun v_18 H locs hv_18 _ _ hS => ?_)
          obtain ⟨rfl, hP⟩ := hv_18
          have hP : va_P D vwCl (wM cI cZ q (msThr σ 2)) H := hP
          refine neB false (tgt := 108) hx hb rfl dX2_part_103 (by decide) (fun c_19 => ?_) (fun c_19 => ?_)
          · exact absurd c_19 (by decide)
          refine lv_iconst (v := 0) hx hb dX2_part_106 (by decide) ?_
          exact RET _ _ _ _ _ (by have hs : mPart σ (nI P) (nI G) x3 = (0, (msThr σ 2)) := (by simp [mPart, palM, pN, thr_1, thr_2, thr_3, thr_4, thr_5, thr_6, thr_7, thr_8, mThr, mHol, mGoo, mMan, mHel, mGon, mN, mWen, mGor, mKin, mMak, mGod, mAmo, mOth, mIts, mWas, mPrf, mCop, mDec, mFee, mOwe, mTol, msThr, msHol, msGoo, msMan, msHel, msGon, msN, msWen, msGor, msKin, msMak, msGod, msAmo, msOth, msIts, msWas, msPrf, msCop, msDec, msFee, msOwe, msTol, bI_t, bI_f, bI_inj, mwF_goo, mwF_hel, va_up_self, c_1, c_6, c_12, c_14, hcP, hcG, Int32.not_le.mpr c_12] <;> decide); rw [hs]; exact ⟨rfl, hP⟩) hS dX2_part_107
      · skip
        refine lv_aload_n hx hb dX2_part_42 rfl (lv_at hl 1 rfl) ?_
        refine gf_2_6 hx hb hts hiX2 hown hK hP hf72 dX2_part_43 ?_
        refine lv_topE (y := nI ((mN σ))) rfl ?_
        refine lv_bipush (v := 14) hx hb dX2_part_46 (by decide) ?_
        refine geN ((mN σ)) 14 (tgt := 63) hx hb rfl rfl (by omega) (by omega) dX2_part_48 (by decide) (fun c_20 => ?_) (fun c_20 => ?_)
        · skip
          refine lv_iconst (v := 0) hx hb dX2_part_63 (by decide) ?_
          refine lv_istore (lv' := [(5, .int 0), (4, .int 1), (0, .ref (q 0)), (1, .int (nI (P))), (2, .int (nI (G))), (3, .int x3)]) hx hb dX2_part_64 hl (by decide) rfl (fun ls hl => ?_)
          refine lv_aload_n hx hb dX2_part_66 rfl (lv_at hl 2 rfl) ?_
          refine lv_iload hx hb dX2_part_67 (lv_at hl 1 rfl) ?_
          refine neB true (tgt := 76) hx hb rfl dX2_part_69 (by decide) (fun c_21 => ?_) (fun c_21 => ?_)
          rotate_left
          · exact absurd c_21 (by decide)
          refine lv_iload_n hx hb dX2_part_76 rfl (lv_at hl 5 rfl) ?_
          refine lv_iconst (v := 1) hx hb dX2_part_77 (by decide) ?_
          refine lv_bipush (v := 99) hx hb dX2_part_78 (by decide) ?_
          refine r_callE (x := bI (inB x3 1 99)) (va_runS (As := [.int x3, .int 1, .int 99]) (rest := [.ref (q 0)]) ⟨hx, hb, hml, hown, hts⟩ (c_X2_isIn l x3 1 99) (va_cwS 3 hts gX2_part_X2_isIn rfl rfl rfl kn_X2_isIn ⟨Nat.le_of_ble_eq_true rfl, Nat.le_of_ble_eq_true rfl⟩) (pS_T) rfl rfl hl.1 rfl (lv_room (Nat.le_of_ble_eq_true rfl)) dX2_part_80 ⟨Nat.le_of_ble_eq_true rfl, Nat.le_of_ble_eq_true rfl⟩) ?_
          refine neB (inB x3 1 99) (tgt := 90) hx hb rfl dX2_part_83 (by decide) (fun c_22 => ?_) (fun c_22 => ?_)
          · skip
            refine lv_iload hx hb dX2_part_90 (lv_at hl 0 rfl) ?_
            refine neB false (tgt := 99) hx hb rfl dX2_part_92 (by decide) (fun c_23 => ?_) (fun c_23 => ?_)
            · exact absurd c_23 (by decide)
            refine lv_iconst (v := 3) hx hb dX2_part_95 (by decide) ?_
            refine lv_goto (tgt := 100) hx hb dX2_part_96 (by decide) ?_
            refine w_call (va_runV (As := [.int 3]) (rest := []) ⟨hx, hb, hml, hown, hts⟩ (c_X2_holds l D cI cZ q σ hq 3) (cwV 1 hts gX2_part_X2_holds rfl rfl rfl kd_X2_holds ⟨Nat.le_of_ble_eq_true rfl, Nat.le_of_ble_eq_true rfl⟩) (pV_M hP hK) rfl rfl hl.1 rfl (lv_room (Nat.le_of_ble_eq_true rfl)) dX2_part_100 ⟨Nat.le_of_ble_eq_true rfl, Nat.le_of_ble_eq_true rfl⟩) hS (fun _ h => h) (fun v_24 H locs hv_24 _ _ hS => ?_)
            obtain ⟨rfl, hP⟩ := hv_24
            have hP : va_P D vwCl (wM cI cZ q (msThr σ 3)) H := hP
            refine neB false (tgt := 108) hx hb rfl dX2_part_103 (by decide) (fun c_25 => ?_) (fun c_25 => ?_)
            · exact absurd c_25 (by decide)
            refine lv_iconst (v := 0) hx hb dX2_part_106 (by decide) ?_
            exact RET _ _ _ _ _ (by have hs : mPart σ (nI P) (nI G) x3 = (0, (msThr σ 3)) := (by simp [mPart, palM, pN, thr_1, thr_2, thr_3, thr_4, thr_5, thr_6, thr_7, thr_8, mThr, mHol, mGoo, mMan, mHel, mGon, mN, mWen, mGor, mKin, mMak, mGod, mAmo, mOth, mIts, mWas, mPrf, mCop, mDec, mFee, mOwe, mTol, msThr, msHol, msGoo, msMan, msHel, msGon, msN, msWen, msGor, msKin, msMak, msGod, msAmo, msOth, msIts, msWas, msPrf, msCop, msDec, msFee, msOwe, msTol, bI_t, bI_f, bI_inj, mwF_goo, mwF_hel, va_up_self, c_1, c_6, c_12, c_20, c_22, hcP, hcG, Int32.not_lt.mp c_12, Nat.not_lt.mpr c_20] <;> decide); rw [hs]; exact ⟨rfl, hP⟩) hS dX2_part_107
          · skip
            refine lv_iconst (v := 2) hx hb dX2_part_86 (by decide) ?_
            refine lv_goto (tgt := 100) hx hb dX2_part_87 (by decide) ?_
            refine w_call (va_runV (As := [.int 2]) (rest := []) ⟨hx, hb, hml, hown, hts⟩ (c_X2_holds l D cI cZ q σ hq 2) (cwV 1 hts gX2_part_X2_holds rfl rfl rfl kd_X2_holds ⟨Nat.le_of_ble_eq_true rfl, Nat.le_of_ble_eq_true rfl⟩) (pV_M hP hK) rfl rfl hl.1 rfl (lv_room (Nat.le_of_ble_eq_true rfl)) dX2_part_100 ⟨Nat.le_of_ble_eq_true rfl, Nat.le_of_ble_eq_true rfl⟩) hS (fun _ h => h) (fun v_26 H locs hv_26 _ _ hS => ?_)
            obtain ⟨rfl, hP⟩ := hv_26
            have hP : va_P D vwCl (wM cI cZ q (msThr σ 2)) H := hP
            refine neB false (tgt := 108) hx hb rfl dX2_part_103 (by decide) (fun c_27 => ?_) (fun c_27 => ?_)
            · exact absurd c_27 (by decide)
            refine lv_iconst (v := 0) hx hb dX2_part_106 (by decide) ?_
            exact RET _ _ _ _ _ (by have hs : mPart σ (nI P) (nI G) x3 = (0, (msThr σ 2)) := (by simp [mPart, palM, pN, thr_1, thr_2, thr_3, thr_4, thr_5, thr_6, thr_7, thr_8, mThr, mHol, mGoo, mMan, mHel, mGon, mN, mWen, mGor, mKin, mMak, mGod, mAmo, mOth, mIts, mWas, mPrf, mCop, mDec, mFee, mOwe, mTol, msThr, msHol, msGoo, msMan, msHel, msGon, msN, msWen, msGor, msKin, msMak, msGod, msAmo, msOth, msIts, msWas, msPrf, msCop, msDec, msFee, msOwe, msTol, bI_t, bI_f, bI_inj, mwF_goo, mwF_hel, va_up_self, c_1, c_6, c_12, c_20, c_22, hcP, hcG, Int32.not_lt.mp c_12, Nat.not_lt.mpr c_20] <;> decide); rw [hs]; exact ⟨rfl, hP⟩) hS dX2_part_107
        · skip
          refine lv_aload_n hx hb dX2_part_51 rfl (lv_at hl 1 rfl) ?_
          refine lv_iload_n hx hb dX2_part_52 rfl (lv_at hl 2 rfl) ?_
          refine r_callE (x := bI (mcF σ P)) (va_runV (As := [.int (nI (P))]) (rest := []) ⟨hx, hb, hml, hown, hts⟩ (c_X2_canWork l D cI cZ q σ P (by omega) hman hoth) (cwV 1 hts gX2_part_X2_canWork rfl rfl rfl kd_X2_canWork ⟨Nat.le_of_ble_eq_true rfl, Nat.le_of_ble_eq_true rfl⟩) (pV_M hP hK) rfl rfl hl.1 rfl (lv_room (Nat.le_of_ble_eq_true rfl)) dX2_part_53 ⟨Nat.le_of_ble_eq_true rfl, Nat.le_of_ble_eq_true rfl⟩) ?_
          refine eqB (mcF σ P) (tgt := 63) hx hb rfl dX2_part_56 (by decide) (fun c_28 => ?_) (fun c_28 => ?_)
          · skip
            refine lv_iconst (v := 0) hx hb dX2_part_63 (by decide) ?_
            refine lv_istore (lv' := [(5, .int 0), (4, .int 1), (0, .ref (q 0)), (1, .int (nI (P))), (2, .int (nI (G))), (3, .int x3)]) hx hb dX2_part_64 hl (by decide) rfl (fun ls hl => ?_)
            refine lv_aload_n hx hb dX2_part_66 rfl (lv_at hl 2 rfl) ?_
            refine lv_iload hx hb dX2_part_67 (lv_at hl 1 rfl) ?_
            refine neB true (tgt := 76) hx hb rfl dX2_part_69 (by decide) (fun c_29 => ?_) (fun c_29 => ?_)
            rotate_left
            · exact absurd c_29 (by decide)
            refine lv_iload_n hx hb dX2_part_76 rfl (lv_at hl 5 rfl) ?_
            refine lv_iconst (v := 1) hx hb dX2_part_77 (by decide) ?_
            refine lv_bipush (v := 99) hx hb dX2_part_78 (by decide) ?_
            refine r_callE (x := bI (inB x3 1 99)) (va_runS (As := [.int x3, .int 1, .int 99]) (rest := [.ref (q 0)]) ⟨hx, hb, hml, hown, hts⟩ (c_X2_isIn l x3 1 99) (va_cwS 3 hts gX2_part_X2_isIn rfl rfl rfl kn_X2_isIn ⟨Nat.le_of_ble_eq_true rfl, Nat.le_of_ble_eq_true rfl⟩) (pS_T) rfl rfl hl.1 rfl (lv_room (Nat.le_of_ble_eq_true rfl)) dX2_part_80 ⟨Nat.le_of_ble_eq_true rfl, Nat.le_of_ble_eq_true rfl⟩) ?_
            refine neB (inB x3 1 99) (tgt := 90) hx hb rfl dX2_part_83 (by decide) (fun c_30 => ?_) (fun c_30 => ?_)
            · skip
              refine lv_iload hx hb dX2_part_90 (lv_at hl 0 rfl) ?_
              refine neB false (tgt := 99) hx hb rfl dX2_part_92 (by decide) (fun c_31 => ?_) (fun c_31 => ?_)
              · exact absurd c_31 (by decide)
              refine lv_iconst (v := 3) hx hb dX2_part_95 (by decide) ?_
              refine lv_goto (tgt := 100) hx hb dX2_part_96 (by decide) ?_
              refine w_call (va_runV (As := [.int 3]) (rest := []) ⟨hx, hb, hml, hown, hts⟩ (c_X2_holds l D cI cZ q σ hq 3) (cwV 1 hts gX2_part_X2_holds rfl rfl rfl kd_X2_holds ⟨Nat.le_of_ble_eq_true rfl, Nat.le_of_ble_eq_true rfl⟩) (pV_M hP hK) rfl rfl hl.1 rfl (lv_room (Nat.le_of_ble_eq_true rfl)) dX2_part_100 ⟨Nat.le_of_ble_eq_true rfl, Nat.le_of_ble_eq_true rfl⟩) hS (fun _ h => h) (fun v_32 H locs hv_32 _ _ hS => ?_)
              obtain ⟨rfl, hP⟩ := hv_32
              have hP : va_P D vwCl (wM cI cZ q (msThr σ 3)) H := hP
              refine neB false (tgt := 108) hx hb rfl dX2_part_103 (by decide) (fun c_33 => ?_) (fun c_33 => ?_)
              · exact absurd c_33 (by decide)
              refine lv_iconst (v := 0) hx hb dX2_part_106 (by decide) ?_
              exact RET _ _ _ _ _ (by have hs : mPart σ (nI P) (nI G) x3 = (0, (msThr σ 3)) := (by simp [mPart, palM, pN, thr_1, thr_2, thr_3, thr_4, thr_5, thr_6, thr_7, thr_8, mThr, mHol, mGoo, mMan, mHel, mGon, mN, mWen, mGor, mKin, mMak, mGod, mAmo, mOth, mIts, mWas, mPrf, mCop, mDec, mFee, mOwe, mTol, msThr, msHol, msGoo, msMan, msHel, msGon, msN, msWen, msGor, msKin, msMak, msGod, msAmo, msOth, msIts, msWas, msPrf, msCop, msDec, msFee, msOwe, msTol, bI_t, bI_f, bI_inj, mwF_goo, mwF_hel, va_up_self, c_1, c_6, c_12, c_20, c_28, c_30, hcP, hcG, Int32.not_lt.mp c_12, Nat.not_le.mpr c_20] <;> decide); rw [hs]; exact ⟨rfl, hP⟩) hS dX2_part_107
            · skip
              refine lv_iconst (v := 2) hx hb dX2_part_86 (by decide) ?_
              refine lv_goto (tgt := 100) hx hb dX2_part_87 (by decide) ?_
              refine w_call (va_runV (As := [.int 2]) (rest := []) ⟨hx, hb, hml, hown, hts⟩ (c_X2_holds l D cI cZ q σ hq 2) (cwV 1 hts gX2_part_X2_holds rfl rfl rfl kd_X2_holds ⟨Nat.le_of_ble_eq_true rfl, Nat.le_of_ble_eq_true rfl⟩) (pV_M hP hK) rfl rfl hl.1 rfl (lv_room (Nat.le_of_ble_eq_true rfl)) dX2_part_100 ⟨Nat.le_of_ble_eq_true rfl, Nat.le_of_ble_eq_true rfl⟩) hS (fun _ h => h) (fun v_34 H locs hv_34 _ _ hS => ?_)
              obtain ⟨rfl, hP⟩ := hv_34
              have hP : va_P D vwCl (wM cI cZ q (msThr σ 2)) H := hP
              refine neB false (tgt := 108) hx hb rfl dX2_part_103 (by decide) (fun c_35 => ?_) (fun c_35 => ?_)
              · exact absurd c_35 (by decide)
              refine lv_iconst (v := 0) hx hb dX2_part_106 (by decide) ?_
              exact RET _ _ _ _ _ (by have hs : mPart σ (nI P) (nI G) x3 = (0, (msThr σ 2)) := (by simp [mPart, palM, pN, thr_1, thr_2, thr_3, thr_4, thr_5, thr_6, thr_7, thr_8, mThr, mHol, mGoo, mMan, mHel, mGon, mN, mWen, mGor, mKin, mMak, mGod, mAmo, mOth, mIts, mWas, mPrf, mCop, mDec, mFee, mOwe, mTol, msThr, msHol, msGoo, msMan, msHel, msGon, msN, msWen, msGor, msKin, msMak, msGod, msAmo, msOth, msIts, msWas, msPrf, msCop, msDec, msFee, msOwe, msTol, bI_t, bI_f, bI_inj, mwF_goo, mwF_hel, va_up_self, c_1, c_6, c_12, c_20, c_28, c_30, hcP, hcG, Int32.not_lt.mp c_12, Nat.not_le.mpr c_20] <;> decide); rw [hs]; exact ⟨rfl, hP⟩) hS dX2_part_107
          · skip
            refine lv_iconst (v := 1) hx hb dX2_part_59 (by decide) ?_
            refine lv_goto (tgt := 64) hx hb dX2_part_60 (by decide) ?_
            refine lv_istore (lv' := [(5, .int 1), (4, .int 1), (0, .ref (q 0)), (1, .int (nI (P))), (2, .int (nI (G))), (3, .int x3)]) hx hb dX2_part_64 hl (by decide) rfl (fun ls hl => ?_)
            refine lv_aload_n hx hb dX2_part_66 rfl (lv_at hl 2 rfl) ?_
            refine lv_iload hx hb dX2_part_67 (lv_at hl 1 rfl) ?_
            refine neB true (tgt := 76) hx hb rfl dX2_part_69 (by decide) (fun c_36 => ?_) (fun c_36 => ?_)
            rotate_left
            · exact absurd c_36 (by decide)
            refine lv_iload_n hx hb dX2_part_76 rfl (lv_at hl 5 rfl) ?_
            refine lv_iconst (v := 1) hx hb dX2_part_77 (by decide) ?_
            refine lv_bipush (v := 99) hx hb dX2_part_78 (by decide) ?_
            refine r_callE (x := bI (inB x3 1 99)) (va_runS (As := [.int x3, .int 1, .int 99]) (rest := [.ref (q 0)]) ⟨hx, hb, hml, hown, hts⟩ (c_X2_isIn l x3 1 99) (va_cwS 3 hts gX2_part_X2_isIn rfl rfl rfl kn_X2_isIn ⟨Nat.le_of_ble_eq_true rfl, Nat.le_of_ble_eq_true rfl⟩) (pS_T) rfl rfl hl.1 rfl (lv_room (Nat.le_of_ble_eq_true rfl)) dX2_part_80 ⟨Nat.le_of_ble_eq_true rfl, Nat.le_of_ble_eq_true rfl⟩) ?_
            refine neB (inB x3 1 99) (tgt := 90) hx hb rfl dX2_part_83 (by decide) (fun c_37 => ?_) (fun c_37 => ?_)
            · skip
              refine lv_iload hx hb dX2_part_90 (lv_at hl 0 rfl) ?_
              refine neB true (tgt := 99) hx hb rfl dX2_part_92 (by decide) (fun c_38 => ?_) (fun c_38 => ?_)
              rotate_left
              · exact absurd c_38 (by decide)
              refine lv_iconst (v := 0) hx hb dX2_part_99 (by decide) ?_
              refine w_call (va_runV (As := [.int 0]) (rest := []) ⟨hx, hb, hml, hown, hts⟩ (c_X2_holds l D cI cZ q σ hq 0) (cwV 1 hts gX2_part_X2_holds rfl rfl rfl kd_X2_holds ⟨Nat.le_of_ble_eq_true rfl, Nat.le_of_ble_eq_true rfl⟩) (pV_M hP hK) rfl rfl hl.1 rfl (lv_room (Nat.le_of_ble_eq_true rfl)) dX2_part_100 ⟨Nat.le_of_ble_eq_true rfl, Nat.le_of_ble_eq_true rfl⟩) hS (fun _ h => h) (fun v_39 H locs hv_39 _ _ hS => ?_)
              obtain ⟨rfl, hP⟩ := hv_39
              have hP : va_P D vwCl (wM cI cZ q (msThr σ 0)) H := hP
              refine neB true (tgt := 108) hx hb rfl dX2_part_103 (by decide) (fun c_40 => ?_) (fun c_40 => ?_)
              rotate_left
              · exact absurd c_40 (by decide)
              have hE9 := mcF_man c_28
              refine lv_aload_n hx hb dX2_part_108 rfl (lv_at hl 2 rfl) ?_
              refine lv_aload_n hx hb dX2_part_109 rfl (lv_at hl 2 rfl) ?_
              refine gf_2_1 hx hb hts hiX2 hown hK hP hf7 dX2_part_110 ?_
              refine lv_iload_n hx hb dX2_part_113 rfl (lv_at hl 3 rfl) ?_
              refine mld_1 (k := P) (v := ((mHol σ)) P) hx hb hK hP rfl (by omega) rfl dX2_part_114 ?_
              refine w_call (va_runV (As := [.int (nI (((mHol σ)) P))]) (rest := []) ⟨hx, hb, hml, hown, hts⟩ (c_X2_makes l D cI cZ q (msThr σ 0) hq (((mHol σ)) P) (by omega)) (cwV 1 hts gX2_part_X2_makes rfl rfl rfl kd_X2_makes ⟨Nat.le_of_ble_eq_true rfl, Nat.le_of_ble_eq_true rfl⟩) (pV_M hP hK) rfl rfl hl.1 rfl (lv_room (Nat.le_of_ble_eq_true rfl)) dX2_part_115 ⟨Nat.le_of_ble_eq_true rfl, Nat.le_of_ble_eq_true rfl⟩) hS (fun _ h => h) (fun v_41 H locs hv_41 _ _ hS => ?_)
              obtain ⟨rfl, hP⟩ := hv_41
              have hP : va_P D vwCl (wM cI cZ q (mtF (msThr σ 0) (((mHol σ)) P))) H := hP
              refine lv_istore (lv' := [(6, .int (nI ((mN σ)))), (5, .int 1), (4, .int 1), (0, .ref (q 0)), (1, .int (nI (P))), (2, .int (nI (G))), (3, .int x3)]) hx hb dX2_part_118 hl (by decide) rfl (fun ls hl => ?_)
              refine lv_aload_n hx hb dX2_part_120 rfl (lv_at hl 3 rfl) ?_
              refine gf_2_2 hx hb hts hiX2 hown hK hP hf13 dX2_part_121 ?_
              refine lv_bipush (v := 6) hx hb dX2_part_124 (by decide) ?_
              refine lv_iload_n hx hb dX2_part_126 rfl (lv_at hl 4 rfl) ?_
              refine mulNc 6 P hx hb rfl rfl dX2_part_127 ?_
              refine lv_iload_n hx hb dX2_part_128 rfl (lv_at hl 5 rfl) ?_
              refine addN (P * 6) G hx hb rfl rfl dX2_part_129 ?_
              refine lv_dup2_11 hx hb dX2_part_130 rfl rfl ?_
              refine mld_2 (k := P * 6 + G) (v := ((mGoo σ)) (P * 6 + G)) hx hb hK hP rfl (by omega) rfl dX2_part_131 ?_
              refine lv_iload_n hx hb dX2_part_132 rfl (lv_at hl 6 rfl) ?_
              refine lv_isub hx hb dX2_part_133 ?_
              refine mst_2 (k := P * 6 + G) (x := ((((mGoo σ)) (P * 6 + G)) - x3)) hx hb hK hP hq hS rfl (by omega) dX2_part_134 (fun goo_42 e_goo_42 H locs hP hS => ?_)
              have hP : va_P D vwCl (wM cI cZ q (msGoo (mtF (msThr σ 0) (((mHol σ)) P)) goo_42)) H := hP
              refine lv_aload_n hx hb dX2_part_135 rfl (lv_at hl 3 rfl) ?_
              refine gf_2_2 hx hb hts hiX2 hown hK hP hf13 dX2_part_136 ?_
              refine lv_bipush (v := 6) hx hb dX2_part_139 (by decide) ?_
              refine lv_iload hx hb dX2_part_141 (lv_at hl 0 rfl) ?_
              refine mulNc 6 ((mN σ)) hx hb rfl rfl dX2_part_143 ?_
              refine lv_iload_n hx hb dX2_part_144 rfl (lv_at hl 5 rfl) ?_
              refine addN (((mN σ)) * 6) G hx hb rfl rfl dX2_part_145 ?_
              refine lv_iload_n hx hb dX2_part_146 rfl (lv_at hl 6 rfl) ?_
              refine mst_2 (k := ((mN σ)) * 6 + G) (x := x3) hx hb hK hP hq hS rfl (by omega) dX2_part_147 (fun goo_43 e_goo_43 H locs hP hS => ?_)
              rw [mm_Goo] at hP
              have hP : va_P D vwCl (wM cI cZ q (msGoo (mtF (msThr σ 0) (((mHol σ)) P)) goo_43)) H := hP
              refine lv_aload_n hx hb dX2_part_148 rfl (lv_at hl 3 rfl) ?_
              refine lv_iload_n hx hb dX2_part_149 rfl (lv_at hl 4 rfl) ?_
              refine lv_iconst (v := 3) hx hb dX2_part_150 (by decide) ?_
              refine lv_iload_n hx hb dX2_part_151 rfl (lv_at hl 5 rfl) ?_
              refine lv_iload_n hx hb dX2_part_152 rfl (lv_at hl 6 rfl) ?_
              refine lv_iload hx hb dX2_part_153 (lv_at hl 0 rfl) ?_
              refine lv_iconst (v := 0) hx hb dX2_part_155 (by decide) ?_
              refine w_call (va_runV (As := [.int (nI (P)), .int 3, .int (nI (G)), .int x3, .int (nI ((mN σ))), .int 0]) (rest := []) ⟨hx, hb, hml, hown, hts⟩ (c_X2_writes l D cI cZ q (msGoo (mtF (msThr σ 0) (((mHol σ)) P)) goo_43) hq P 3 (nI (G)) x3 (nI ((mN σ))) 0 (by omega) (by omega) (hol_up hhol (hhol P)) (show mMan σ P < 30 from hE9)) (cwV 6 hts gX2_part_X2_writes rfl rfl rfl kd_X2_writes ⟨Nat.le_of_ble_eq_true rfl, Nat.le_of_ble_eq_true rfl⟩) (pV_M hP hK) rfl rfl hl.1 rfl (lv_room (Nat.le_of_ble_eq_true rfl)) dX2_part_156 ⟨Nat.le_of_ble_eq_true rfl, Nat.le_of_ble_eq_true rfl⟩) hS (fun _ h => h) (fun v_44 H locs hv_44 _ _ hS => ?_)
              obtain ⟨rfl, hP⟩ := hv_44
              obtain ⟨σ45, eσ45⟩ : ∃ z : SM, z = mwF (msGoo (mtF (msThr σ 0) (((mHol σ)) P)) goo_43) P 3 (nI (G)) x3 (nI ((mN σ))) 0 := ⟨_, rfl⟩
              rw [← eσ45] at hP
              refine lv_aload_n hx hb dX2_part_159 rfl (lv_at hl 3 rfl) ?_
              refine lv_iload hx hb dX2_part_160 (lv_at hl 0 rfl) ?_
              refine lv_iconst (v := 4) hx hb dX2_part_162 (by decide) ?_
              refine lv_iload_n hx hb dX2_part_163 rfl (lv_at hl 5 rfl) ?_
              refine lv_iload_n hx hb dX2_part_164 rfl (lv_at hl 6 rfl) ?_
              refine lv_iload_n hx hb dX2_part_165 rfl (lv_at hl 4 rfl) ?_
              have hmk : mMan σ45 P = mMan σ P + 1 := by rw [eσ45]; exact va_up_self _ _ _
              refine lv_aload_n hx hb dX2_part_166 rfl (lv_at hl 3 rfl) ?_
              refine gf_2_3 hx hb hts hiX2 hown hK hP hf16 dX2_part_167 ?_
              refine lv_iload_n hx hb dX2_part_170 rfl (lv_at hl 4 rfl) ?_
              refine mld_3 (k := P) (v := ((mMan σ45)) P) hx hb hK hP rfl (by omega) rfl dX2_part_171 ?_
              refine lv_iconst (v := 1) hx hb dX2_part_172 (by decide) ?_
              refine subN (((mMan σ45)) P) 1 hx hb rfl rfl (by omega) dX2_part_173 ?_
              refine w_call (va_runV (As := [.int (nI ((mN σ))), .int 4, .int (nI (G)), .int x3, .int (nI (P)), .int (nI ((((mMan σ45)) P) - 1))]) (rest := []) ⟨hx, hb, hml, hown, hts⟩ (c_X2_writes l D cI cZ q σ45 hq ((mN σ)) 4 (nI (G)) x3 (nI (P)) (nI ((((mMan σ45)) P) - 1)) (by omega) (by omega) (by rw [eσ45]; exact hol_up hhol (hhol P)) (by rw [eσ45]; show va_up (mMan σ) P _ (mN σ) < 30; rw [va_up_ne _ _ (by omega)]; exact hz_man hz (Nat.le_refl _))) (cwV 6 hts gX2_part_X2_writes rfl rfl rfl kd_X2_writes ⟨Nat.le_of_ble_eq_true rfl, Nat.le_of_ble_eq_true rfl⟩) (pV_M hP hK) rfl rfl hl.1 rfl (lv_room (Nat.le_of_ble_eq_true rfl)) dX2_part_174 ⟨Nat.le_of_ble_eq_true rfl, Nat.le_of_ble_eq_true rfl⟩) hS (fun _ h => h) (fun v_46 H locs hv_46 _ _ hS => ?_)
              obtain ⟨rfl, hP⟩ := hv_46
              obtain ⟨σ47, eσ47⟩ : ∃ z : SM, z = mwF σ45 ((mN σ)) 4 (nI (G)) x3 (nI (P)) (nI ((((mMan σ45)) P) - 1)) := ⟨_, rfl⟩
              rw [← eσ47] at hP
              refine lv_iload hx hb dX2_part_177 (lv_at hl 0 rfl) ?_
              exact RET _ _ _ _ _ (by have hs : mPart σ (nI P) (nI G) x3 = (nI (mN σ), mwF (mPart2 σ P G x3) (mN σ) 4 (nI G) x3 (nI P) (nI (mMan (mPart2 σ P G x3) P - 1))) := (by simp [mPart, palM, pN, c_1, c_6, c_12, c_20, c_28, c_37, hcP, hcG, Int32.not_lt.mp c_12, Nat.not_le.mpr c_20]); rw [hs]; exact ⟨rfl, by subst e_goo_42 e_goo_43 eσ45 eσ47; exact hP⟩) hS dX2_part_179
            · skip
              refine lv_iconst (v := 2) hx hb dX2_part_86 (by decide) ?_
              refine lv_goto (tgt := 100) hx hb dX2_part_87 (by decide) ?_
              refine w_call (va_runV (As := [.int 2]) (rest := []) ⟨hx, hb, hml, hown, hts⟩ (c_X2_holds l D cI cZ q σ hq 2) (cwV 1 hts gX2_part_X2_holds rfl rfl rfl kd_X2_holds ⟨Nat.le_of_ble_eq_true rfl, Nat.le_of_ble_eq_true rfl⟩) (pV_M hP hK) rfl rfl hl.1 rfl (lv_room (Nat.le_of_ble_eq_true rfl)) dX2_part_100 ⟨Nat.le_of_ble_eq_true rfl, Nat.le_of_ble_eq_true rfl⟩) hS (fun _ h => h) (fun v_48 H locs hv_48 _ _ hS => ?_)
              obtain ⟨rfl, hP⟩ := hv_48
              have hP : va_P D vwCl (wM cI cZ q (msThr σ 2)) H := hP
              refine neB false (tgt := 108) hx hb rfl dX2_part_103 (by decide) (fun c_49 => ?_) (fun c_49 => ?_)
              · exact absurd c_49 (by decide)
              refine lv_iconst (v := 0) hx hb dX2_part_106 (by decide) ?_
              exact RET _ _ _ _ _ (by have hs : mPart σ (nI P) (nI G) x3 = (0, (msThr σ 2)) := (by simp [mPart, palM, pN, thr_1, thr_2, thr_3, thr_4, thr_5, thr_6, thr_7, thr_8, mThr, mHol, mGoo, mMan, mHel, mGon, mN, mWen, mGor, mKin, mMak, mGod, mAmo, mOth, mIts, mWas, mPrf, mCop, mDec, mFee, mOwe, mTol, msThr, msHol, msGoo, msMan, msHel, msGon, msN, msWen, msGor, msKin, msMak, msGod, msAmo, msOth, msIts, msWas, msPrf, msCop, msDec, msFee, msOwe, msTol, bI_t, bI_f, bI_inj, mwF_goo, mwF_hel, va_up_self, c_1, c_6, c_12, c_20, c_28, c_37, hcP, hcG, Int32.not_lt.mp c_12, Nat.not_le.mpr c_20] <;> decide); rw [hs]; exact ⟨rfl, hP⟩) hS dX2_part_107
theorem kn_X2_join : yX2_join.cls ≠ "java/lang/invoke/MethodHandle" ∧ yX2_join.cls ≠ "java/lang/invoke/VarHandle" ∧ (parseMethodDescriptor yX2_join.desc).map (fun d => d.parameters.length) = some 2 := by decide +kernel
theorem kd_X2_join : yX2_join.cls = RX2 ∧ yX2_join.cls ≠ "java/lang/invoke/MethodHandle" ∧ yX2_join.cls ≠ "java/lang/invoke/VarHandle" ∧ (parseMethodDescriptor yX2_join.desc).map (fun d => d.parameters.length) = some 2 := by decide +kernel
set_option maxHeartbeats 4000000 in
set_option maxRecDepth 100000 in
theorem c_X2_join (l : Launch) (D : va_G) (cI cZ : ClassId) (q : Nat → Nat) (σ : SM) (hq : ijQ 20 q) (x1 x2 : Int32) (ok : okM σ) (hoth : othM σ) (hz : ∀ P, mN σ ≤ P → mMan σ P = 0) (hg14 : ∀ P O, cjF σ P O = true → mGor σ < 14) (hc7 : ∀ r i, 7 ≤ i → i < 32 → bt (mCop σ r) i = false) : Met l yX2_join wsX2_join ({ frames := 6, cells := 0, slots := 0, locals := 138 }) (va_Pc [.ref (q 0), .int x1, .int x2] (PM D cI cZ q σ)) (wQ (adQ 20 q) (fun v H1 => v = some (.int (mJoin σ x1 x2).1) ∧ va_P D vwCl (wM cI cZ q (mJoin σ x1 x2).2) H1)) 0 0 (adQ 20 q) := by
  refine openW (cc := cX2_join) (maxL := 7) (by decide) rfl (Nat.le_of_ble_eq_true rfl) ?_
  intro p e s m args below meth c hx hb hml hts hown hpre Q RET ls hl
  have hown : s.vm.findClass RX2 = some m.cls := hown
  have hl : lv_has ls 7 [(0, .ref (q 0)), (1, .int x1), (2, .int x2)] := hl
  obtain ⟨hP, hK⟩ := hpre
  have hS : va_S (adQ 20 q) s.heap s.heap [] := va_S.rf
  have hiX2 : ∀ w ∈ wsX20, w ∈ wsX2_join := by decide +kernel
  have hf16 := hts (.fieldLink RX2 16 "PalletGramModel" "many" "[I") (by decide +kernel)
  have hf23 := hts (.fieldLink RX2 23 "PalletGramModel" "isGone" "[Z") (by decide +kernel)
  have hf26 := hts (.fieldLink RX2 26 "PalletGramModel" "went" "[I") (by decide +kernel)
  have hf126 := hts (.fieldLink RX2 126 "PalletGramModel" "goers" "I") (by decide +kernel)
  have hf13 := hts (.fieldLink RX2 13 "PalletGramModel" "goods" "[I") (by decide +kernel)
  have hn : mN σ ≤ 14 := ok.1
  have hhol : ∀ P, mHol σ P < 6 := ok.2.1
  have hman : ∀ P, mMan σ P ≤ 30 := ok.2.2.1
  have hgor := ok.2.2.2.1
  have hwen := ok.2.2.2.2
  refine lv_aload_n hx hb dX2_join_0 rfl (lv_at hl 0 rfl) ?_
  refine lv_iload_n hx hb dX2_join_1 rfl (lv_at hl 1 rfl) ?_
  refine r_callE (x := bI (inB x1 0 (nI (mN σ) - 1))) (va_runV (As := [.int x1]) (rest := []) ⟨hx, hb, hml, hown, hts⟩ (c_X2_isPallet l D cI cZ q σ x1) (cwV 1 hts gX2_join_X2_isPallet rfl rfl rfl kd_X2_isPallet ⟨Nat.le_of_ble_eq_true rfl, Nat.le_of_ble_eq_true rfl⟩) (pV_M hP hK) rfl rfl hl.1 rfl (lv_room (Nat.le_of_ble_eq_true rfl)) dX2_join_2 ⟨Nat.le_of_ble_eq_true rfl, Nat.le_of_ble_eq_true rfl⟩) ?_
  refine eqB (inB x1 0 (nI (mN σ) - 1)) (tgt := 20) hx hb rfl dX2_join_5 (by decide) (fun c_1 => ?_) (fun c_1 => ?_)
  · skip
    refine lv_iconst (v := 0) hx hb dX2_join_20 (by decide) ?_
    refine lv_istore_n (lv' := [(3, .int 0), (0, .ref (q 0)), (1, .int x1), (2, .int x2)]) hx hb dX2_join_21 rfl hl (by decide) rfl (fun ls hl => ?_)
    refine lv_aload_n hx hb dX2_join_22 rfl (lv_at hl 1 rfl) ?_
    refine lv_iload_n hx hb dX2_join_23 rfl (lv_at hl 0 rfl) ?_
    refine neB false (tgt := 31) hx hb rfl dX2_join_24 (by decide) (fun c_2 => ?_) (fun c_2 => ?_)
    · exact absurd c_2 (by decide)
    refine lv_iconst (v := 1) hx hb dX2_join_27 (by decide) ?_
    refine lv_goto (tgt := 54) hx hb dX2_join_28 (by decide) ?_
    refine w_call (va_runV (As := [.int 1]) (rest := []) ⟨hx, hb, hml, hown, hts⟩ (c_X2_holds l D cI cZ q σ hq 1) (cwV 1 hts gX2_join_X2_holds rfl rfl rfl kd_X2_holds ⟨Nat.le_of_ble_eq_true rfl, Nat.le_of_ble_eq_true rfl⟩) (pV_M hP hK) rfl rfl hl.1 rfl (lv_room (Nat.le_of_ble_eq_true rfl)) dX2_join_54 ⟨Nat.le_of_ble_eq_true rfl, Nat.le_of_ble_eq_true rfl⟩) hS (fun _ h => h) (fun v_3 H locs hv_3 _ _ hS => ?_)
    obtain ⟨rfl, hP⟩ := hv_3
    have hP : va_P D vwCl (wM cI cZ q (msThr σ 1)) H := hP
    refine neB false (tgt := 62) hx hb rfl dX2_join_57 (by decide) (fun c_4 => ?_) (fun c_4 => ?_)
    · exact absurd c_4 (by decide)
    refine lv_iconst (v := 0) hx hb dX2_join_60 (by decide) ?_
    exact RET _ _ _ _ _ (by have hs : mJoin σ x1 x2 = (0, (msThr σ 1)) := (by simp [mJoin, palM, pN, thr_1, thr_2, thr_3, thr_4, thr_5, thr_6, thr_7, thr_8, mThr, mHol, mGoo, mMan, mHel, mGon, mN, mWen, mGor, mKin, mMak, mGod, mAmo, mOth, mIts, mWas, mPrf, mCop, mDec, mFee, mOwe, mTol, msThr, msHol, msGoo, msMan, msHel, msGon, msN, msWen, msGor, msKin, msMak, msGod, msAmo, msOth, msIts, msWas, msPrf, msCop, msDec, msFee, msOwe, msTol, bI_t, bI_f, bI_inj, mwF_goo, mwF_hel, va_up_self, c_1] <;> decide); rw [hs]; exact ⟨rfl, hP⟩) hS dX2_join_61
  · skip
    refine lv_aload_n hx hb dX2_join_8 rfl (lv_at hl 0 rfl) ?_
    refine lv_iload_n hx hb dX2_join_9 rfl (lv_at hl 2 rfl) ?_
    refine r_callE (x := bI (inB x2 0 (nI (mN σ) - 1))) (va_runV (As := [.int x2]) (rest := []) ⟨hx, hb, hml, hown, hts⟩ (c_X2_isPallet l D cI cZ q σ x2) (cwV 1 hts gX2_join_X2_isPallet rfl rfl rfl kd_X2_isPallet ⟨Nat.le_of_ble_eq_true rfl, Nat.le_of_ble_eq_true rfl⟩) (pV_M hP hK) rfl rfl hl.1 rfl (lv_room (Nat.le_of_ble_eq_true rfl)) dX2_join_10 ⟨Nat.le_of_ble_eq_true rfl, Nat.le_of_ble_eq_true rfl⟩) ?_
    refine eqB (inB x2 0 (nI (mN σ) - 1)) (tgt := 20) hx hb rfl dX2_join_13 (by decide) (fun c_5 => ?_) (fun c_5 => ?_)
    · skip
      refine lv_iconst (v := 0) hx hb dX2_join_20 (by decide) ?_
      refine lv_istore_n (lv' := [(3, .int 0), (0, .ref (q 0)), (1, .int x1), (2, .int x2)]) hx hb dX2_join_21 rfl hl (by decide) rfl (fun ls hl => ?_)
      refine lv_aload_n hx hb dX2_join_22 rfl (lv_at hl 1 rfl) ?_
      refine lv_iload_n hx hb dX2_join_23 rfl (lv_at hl 0 rfl) ?_
      refine neB false (tgt := 31) hx hb rfl dX2_join_24 (by decide) (fun c_6 => ?_) (fun c_6 => ?_)
      · exact absurd c_6 (by decide)
      refine lv_iconst (v := 1) hx hb dX2_join_27 (by decide) ?_
      refine lv_goto (tgt := 54) hx hb dX2_join_28 (by decide) ?_
      refine w_call (va_runV (As := [.int 1]) (rest := []) ⟨hx, hb, hml, hown, hts⟩ (c_X2_holds l D cI cZ q σ hq 1) (cwV 1 hts gX2_join_X2_holds rfl rfl rfl kd_X2_holds ⟨Nat.le_of_ble_eq_true rfl, Nat.le_of_ble_eq_true rfl⟩) (pV_M hP hK) rfl rfl hl.1 rfl (lv_room (Nat.le_of_ble_eq_true rfl)) dX2_join_54 ⟨Nat.le_of_ble_eq_true rfl, Nat.le_of_ble_eq_true rfl⟩) hS (fun _ h => h) (fun v_7 H locs hv_7 _ _ hS => ?_)
      obtain ⟨rfl, hP⟩ := hv_7
      have hP : va_P D vwCl (wM cI cZ q (msThr σ 1)) H := hP
      refine neB false (tgt := 62) hx hb rfl dX2_join_57 (by decide) (fun c_8 => ?_) (fun c_8 => ?_)
      · exact absurd c_8 (by decide)
      refine lv_iconst (v := 0) hx hb dX2_join_60 (by decide) ?_
      exact RET _ _ _ _ _ (by have hs : mJoin σ x1 x2 = (0, (msThr σ 1)) := (by simp [mJoin, palM, pN, thr_1, thr_2, thr_3, thr_4, thr_5, thr_6, thr_7, thr_8, mThr, mHol, mGoo, mMan, mHel, mGon, mN, mWen, mGor, mKin, mMak, mGod, mAmo, mOth, mIts, mWas, mPrf, mCop, mDec, mFee, mOwe, mTol, msThr, msHol, msGoo, msMan, msHel, msGon, msN, msWen, msGor, msKin, msMak, msGod, msAmo, msOth, msIts, msWas, msPrf, msCop, msDec, msFee, msOwe, msTol, bI_t, bI_f, bI_inj, mwF_goo, mwF_hel, va_up_self, c_1, c_5] <;> decide); rw [hs]; exact ⟨rfl, hP⟩) hS dX2_join_61
    · skip
      obtain ⟨P, hP9, rfl⟩ := inB_pal (by omega) c_1
      have hcP : (nI P).toNatClampNeg = P := nI_clamp (by omega)
      obtain ⟨O, hO9, rfl⟩ := inB_pal (by omega) c_5
      have hcO : (nI O).toNatClampNeg = O := nI_clamp (by omega)
      refine lv_iconst (v := 1) hx hb dX2_join_16 (by decide) ?_
      refine lv_goto (tgt := 21) hx hb dX2_join_17 (by decide) ?_
      refine lv_istore_n (lv' := [(3, .int 1), (0, .ref (q 0)), (1, .int (nI (P))), (2, .int (nI (O)))]) hx hb dX2_join_21 rfl hl (by decide) rfl (fun ls hl => ?_)
      refine lv_aload_n hx hb dX2_join_22 rfl (lv_at hl 1 rfl) ?_
      refine lv_iload_n hx hb dX2_join_23 rfl (lv_at hl 0 rfl) ?_
      refine neB true (tgt := 31) hx hb rfl dX2_join_24 (by decide) (fun c_9 => ?_) (fun c_9 => ?_)
      rotate_left
      · exact absurd c_9 (by decide)
      refine lv_iload_n hx hb dX2_join_31 rfl (lv_at hl 2 rfl) ?_
      refine lv_iload_n hx hb dX2_join_32 rfl (lv_at hl 3 rfl) ?_
      refine lv_icmp_ne (tgt := 40) hx hb dX2_join_33 (by decide) (fun c_10 => ?_) (fun c_10 => ?_)
      · skip
        refine lv_aload_n hx hb dX2_join_40 rfl (lv_at hl 1 rfl) ?_
        refine lv_iload_n hx hb dX2_join_41 rfl (lv_at hl 2 rfl) ?_
        refine lv_iload_n hx hb dX2_join_42 rfl (lv_at hl 3 rfl) ?_
        refine r_callE (x := bI (cjF σ P O)) (va_runV (As := [.int (nI (P)), .int (nI (O))]) (rest := [.ref (q 0)]) ⟨hx, hb, hml, hown, hts⟩ (c_X2_canJoin l D cI cZ q σ P O (by omega) (by omega) ⟨hn, hhol, hman, hgor, hwen⟩ hoth) (cwV 2 hts gX2_join_X2_canJoin rfl rfl rfl kd_X2_canJoin ⟨Nat.le_of_ble_eq_true rfl, Nat.le_of_ble_eq_true rfl⟩) (pV_M hP hK) rfl rfl hl.1 rfl (lv_room (Nat.le_of_ble_eq_true rfl)) dX2_join_43 ⟨Nat.le_of_ble_eq_true rfl, Nat.le_of_ble_eq_true rfl⟩) ?_
        refine neB (cjF σ P O) (tgt := 53) hx hb rfl dX2_join_46 (by decide) (fun c_11 => ?_) (fun c_11 => ?_)
        · skip
          refine lv_iconst (v := 0) hx hb dX2_join_53 (by decide) ?_
          refine w_call (va_runV (As := [.int 0]) (rest := []) ⟨hx, hb, hml, hown, hts⟩ (c_X2_holds l D cI cZ q σ hq 0) (cwV 1 hts gX2_join_X2_holds rfl rfl rfl kd_X2_holds ⟨Nat.le_of_ble_eq_true rfl, Nat.le_of_ble_eq_true rfl⟩) (pV_M hP hK) rfl rfl hl.1 rfl (lv_room (Nat.le_of_ble_eq_true rfl)) dX2_join_54 ⟨Nat.le_of_ble_eq_true rfl, Nat.le_of_ble_eq_true rfl⟩) hS (fun _ h => h) (fun v_12 H locs hv_12 _ _ hS => ?_)
          obtain ⟨rfl, hP⟩ := hv_12
          have hP : va_P D vwCl (wM cI cZ q (msThr σ 0)) H := hP
          refine neB true (tgt := 62) hx hb rfl dX2_join_57 (by decide) (fun c_13 => ?_) (fun c_13 => ?_)
          rotate_left
          · exact absurd c_13 (by decide)
          have hg9 := hg14 P O c_11
          have hE9 := cjF_man c_11
          have hPO : ¬ P = O := fun z => c_10 (by rw [z])
          have hE8 := hE9.1
          have hE7 := hE9.2
          refine lv_iconst (v := 0) hx hb dX2_join_62 (by decide) ?_
          refine lv_istore (lv' := [(4, .int 0), (3, .int 1), (0, .ref (q 0)), (1, .int (nI (P))), (2, .int (nI (O)))]) hx hb dX2_join_63 hl (by decide) rfl (fun ls hl => ?_)
          refine lv_iconst (v := 0) hx hb dX2_join_65 (by decide) ?_
          refine lv_istore (lv' := [(5, .int 0), (4, .int 0), (3, .int 1), (0, .ref (q 0)), (1, .int (nI (P))), (2, .int (nI (O)))]) hx hb dX2_join_66 hl (by decide) rfl (fun ls hl => ?_)
          refine loopH (N := 6) (k0 := 0) (fun k ls H locs => lv_has ls 7 [(0, .ref (q 0)), (1, .int (nI (P))), (2, .int (nI (O))), (3, .int 1), (4, .int ((jnS P O (mGoo σ) k).2)), (5, .int (nI (k)))] ∧ va_P D vwCl (wM cI cZ q (msGoo (msThr σ 0) (jnS P O (mGoo σ) k).1)) H ∧ va_S (adQ 20 q) s.heap H locs) (Nat.zero_le _) ⟨lv_sub hl [3, 4, 5, 2, 1, 0] rfl, hP, hS⟩ (fun k ls H locs hk_k hI ih_k => ?_)
          obtain ⟨hl, hP, hS⟩ := hI
          refine lv_iload hx hb dX2_join_68 (lv_at hl 5 rfl) ?_
          refine lv_bipush (v := 6) hx hb dX2_join_70 (by decide) ?_
          refine geN k 6 (tgt := 138) hx hb rfl rfl (by omega) (by omega) dX2_join_72 (by decide) (fun c_14 => ?_) (fun c_14 => ?_)
          · skip
            have h9 : k = 6 := by omega
            subst k
            refine lv_aload_n hx hb dX2_join_138 rfl (lv_at hl 0 rfl) ?_
            refine gf_2_3 hx hb hts hiX2 hown hK hP hf16 dX2_join_139 ?_
            refine lv_iload_n hx hb dX2_join_142 rfl (lv_at hl 1 rfl) ?_
            refine mld_3 (k := P) (v := ((mMan σ)) P) hx hb hK hP rfl (by omega) rfl dX2_join_143 ?_
            refine lv_istore (lv' := [(5, .int (nI (((mMan σ)) P))), (0, .ref (q 0)), (1, .int (nI (P))), (2, .int (nI (O))), (3, .int 1), (4, .int ((jnS P O (mGoo σ) 6).2))]) hx hb dX2_join_144 hl (by decide) rfl (fun ls hl => ?_)
            refine lv_aload_n hx hb dX2_join_146 rfl (lv_at hl 1 rfl) ?_
            refine gf_2_3 hx hb hts hiX2 hown hK hP hf16 dX2_join_147 ?_
            refine lv_iload_n hx hb dX2_join_150 rfl (lv_at hl 3 rfl) ?_
            refine mld_3 (k := O) (v := ((mMan σ)) O) hx hb hK hP rfl (by omega) rfl dX2_join_151 ?_
            refine lv_istore (lv' := [(6, .int (nI (((mMan σ)) O))), (5, .int (nI (((mMan σ)) P))), (0, .ref (q 0)), (1, .int (nI (P))), (2, .int (nI (O))), (3, .int 1), (4, .int ((jnS P O (mGoo σ) 6).2))]) hx hb dX2_join_152 hl (by decide) rfl (fun ls hl => ?_)
            refine lv_aload_n hx hb dX2_join_154 rfl (lv_at hl 2 rfl) ?_
            refine lv_iload_n hx hb dX2_join_155 rfl (lv_at hl 4 rfl) ?_
            refine lv_iconst (v := 5) hx hb dX2_join_156 (by decide) ?_
            refine lv_iconst (v := 0) hx hb dX2_join_157 (by decide) ?_
            refine lv_iconst (v := 0) hx hb dX2_join_158 (by decide) ?_
            refine lv_iload_n hx hb dX2_join_159 rfl (lv_at hl 3 rfl) ?_
            refine lv_iload hx hb dX2_join_160 (lv_at hl 1 rfl) ?_
            refine w_call (va_runV (As := [.int (nI (O)), .int 5, .int 0, .int 0, .int (nI (P)), .int (nI (((mMan σ)) P))]) (rest := []) ⟨hx, hb, hml, hown, hts⟩ (c_X2_writes l D cI cZ q (msGoo (msThr σ 0) (jnS P O (mGoo σ) 6).1) hq O 5 0 0 (nI (P)) (nI (((mMan σ)) P)) (by omega) (by omega) hhol (by omega)) (cwV 6 hts gX2_join_X2_writes rfl rfl rfl kd_X2_writes ⟨Nat.le_of_ble_eq_true rfl, Nat.le_of_ble_eq_true rfl⟩) (pV_M hP hK) rfl rfl hl.1 rfl (lv_room (Nat.le_of_ble_eq_true rfl)) dX2_join_162 ⟨Nat.le_of_ble_eq_true rfl, Nat.le_of_ble_eq_true rfl⟩) hS (fun _ h => h) (fun v_15 H locs hv_15 _ _ hS => ?_)
            obtain ⟨rfl, hP⟩ := hv_15
            obtain ⟨σ16, eσ16⟩ : ∃ z : SM, z = mwF (msGoo (msThr σ 0) (jnS P O (mGoo σ) 6).1) O 5 0 0 (nI (P)) (nI (((mMan σ)) P)) := ⟨_, rfl⟩
            rw [← eσ16] at hP
            refine lv_aload_n hx hb dX2_join_165 rfl (lv_at hl 2 rfl) ?_
            refine lv_iload_n hx hb dX2_join_166 rfl (lv_at hl 3 rfl) ?_
            refine lv_bipush (v := 6) hx hb dX2_join_167 (by decide) ?_
            refine lv_iconst (v := 0) hx hb dX2_join_169 (by decide) ?_
            refine lv_iconst (v := 0) hx hb dX2_join_170 (by decide) ?_
            refine lv_iload_n hx hb dX2_join_171 rfl (lv_at hl 4 rfl) ?_
            refine lv_iload hx hb dX2_join_172 (lv_at hl 0 rfl) ?_
            refine w_call (va_runV (As := [.int (nI (P)), .int 6, .int 0, .int 0, .int (nI (O)), .int (nI (((mMan σ)) O))]) (rest := []) ⟨hx, hb, hml, hown, hts⟩ (c_X2_writes l D cI cZ q σ16 hq P 6 0 0 (nI (O)) (nI (((mMan σ)) O)) (by omega) (by omega) (by rw [eσ16]; exact hhol) (by rw [eσ16]; show va_up (mMan σ) O _ P < 30; rw [va_up_ne _ _ hPO]; exact hE8)) (cwV 6 hts gX2_join_X2_writes rfl rfl rfl kd_X2_writes ⟨Nat.le_of_ble_eq_true rfl, Nat.le_of_ble_eq_true rfl⟩) (pV_M hP hK) rfl rfl hl.1 rfl (lv_room (Nat.le_of_ble_eq_true rfl)) dX2_join_174 ⟨Nat.le_of_ble_eq_true rfl, Nat.le_of_ble_eq_true rfl⟩) hS (fun _ h => h) (fun v_17 H locs hv_17 _ _ hS => ?_)
            obtain ⟨rfl, hP⟩ := hv_17
            obtain ⟨σ18, eσ18⟩ : ∃ z : SM, z = mwF σ16 P 6 0 0 (nI (O)) (nI (((mMan σ)) O)) := ⟨_, rfl⟩
            rw [← eσ18] at hP
            refine lv_aload_n hx hb dX2_join_177 rfl (lv_at hl 2 rfl) ?_
            refine gf_2_5 hx hb hts hiX2 hown hK hP hf23 dX2_join_178 ?_
            refine lv_iload_n hx hb dX2_join_181 rfl (lv_at hl 3 rfl) ?_
            refine lv_iconst (v := 1) hx hb dX2_join_182 (by decide) ?_
            refine mst_5 (k := P) (x := true) hx hb hK hP hq hS rfl (by omega) dX2_join_183 (fun gon_19 e_gon_19 H locs hP hS => ?_)
            have hP : va_P D vwCl (wM cI cZ q (msGon σ18 gon_19)) H := hP
            refine lv_aload_n hx hb dX2_join_184 rfl (lv_at hl 2 rfl) ?_
            have hg8 : mGor σ18 < 14 := by rw [eσ18, eσ16]; exact hg9
            refine gf_2_7 hx hb hts hiX2 hown hK hP hf26 dX2_join_185 ?_
            refine lv_aload_n hx hb dX2_join_188 rfl (lv_at hl 2 rfl) ?_
            refine gf_2_8 hx hb hts hiX2 hown hK hP hf126 dX2_join_189 ?_
            refine lv_topE (y := nI ((mGor σ18))) rfl ?_
            refine lv_iload_n hx hb dX2_join_192 rfl (lv_at hl 3 rfl) ?_
            refine mst_6 (k := (mGor σ18)) (x := P) hx hb hK hP hq hS rfl (by omega) dX2_join_193 (fun wen_20 e_wen_20 H locs hP hS => ?_)
            have hP : va_P D vwCl (wM cI cZ q (msWen (msGon σ18 gon_19) wen_20)) H := hP
            refine lv_aload_n hx hb dX2_join_194 rfl (lv_at hl 2 rfl) ?_
            refine lv_dup hx hb dX2_join_195 rfl ?_
            refine gf_2_8 hx hb hts hiX2 hown hK hP hf126 dX2_join_196 ?_
            refine lv_topE (y := nI ((mGor σ18))) rfl ?_
            refine lv_iconst (v := 1) hx hb dX2_join_199 (by decide) ?_
            refine addN ((mGor σ18)) 1 hx hb rfl rfl dX2_join_200 ?_
            refine gp_2_8 (v := ((mGor σ18)) + 1) hx hb hts hiX2 hown hK hP hq hS hf126 dX2_join_201 (fun H locs hP hS => ?_)
            have hP : va_P D vwCl (wM cI cZ q (msGor (msWen (msGon σ18 gon_19) wen_20) (((mGor σ18)) + 1))) H := hP
            refine lv_iload hx hb dX2_join_204 (lv_at hl 6 rfl) ?_
            exact RET _ _ _ _ _ (by have hs : mJoin σ (nI P) (nI O) = ((jnS P O (mGoo σ) 6).2, mJoin3 (mJoin2 σ P O) P) := (by simp [mJoin, palM, pN, c_1, c_5, c_10, c_11, c_14, hcP, hcO, Nat.not_lt.mpr c_14]); rw [hs]; exact ⟨rfl, by subst eσ16 eσ18 e_gon_19 e_wen_20; exact hP⟩) hS dX2_join_206
          · skip
            refine lv_aload_n hx hb dX2_join_75 rfl (lv_at hl 0 rfl) ?_
            refine gf_2_2 hx hb hts hiX2 hown hK hP hf13 dX2_join_76 ?_
            refine lv_bipush (v := 6) hx hb dX2_join_79 (by decide) ?_
            refine lv_iload_n hx hb dX2_join_81 rfl (lv_at hl 2 rfl) ?_
            refine mulNc 6 O hx hb rfl rfl dX2_join_82 ?_
            refine lv_iload hx hb dX2_join_83 (lv_at hl 5 rfl) ?_
            refine addN (O * 6) k hx hb rfl rfl dX2_join_85 ?_
            refine lv_dup2_11 hx hb dX2_join_86 rfl rfl ?_
            refine mld_2 (k := O * 6 + k) (v := ((jnS P O (mGoo σ) k).1) (O * 6 + k)) hx hb hK hP rfl (by omega) rfl dX2_join_87 ?_
            refine lv_aload_n hx hb dX2_join_88 rfl (lv_at hl 0 rfl) ?_
            refine gf_2_2 hx hb hts hiX2 hown hK hP hf13 dX2_join_89 ?_
            refine lv_bipush (v := 6) hx hb dX2_join_92 (by decide) ?_
            refine lv_iload_n hx hb dX2_join_94 rfl (lv_at hl 1 rfl) ?_
            refine mulNc 6 P hx hb rfl rfl dX2_join_95 ?_
            refine lv_iload hx hb dX2_join_96 (lv_at hl 5 rfl) ?_
            refine addN (P * 6) k hx hb rfl rfl dX2_join_98 ?_
            refine mld_2 (k := P * 6 + k) (v := ((jnS P O (mGoo σ) k).1) (P * 6 + k)) hx hb hK hP rfl (by omega) rfl dX2_join_99 ?_
            refine lv_iadd hx hb dX2_join_100 ?_
            refine mst_2 (k := O * 6 + k) (x := ((((jnS P O (mGoo σ) k).1) (O * 6 + k)) + (((jnS P O (mGoo σ) k).1) (P * 6 + k)))) hx hb hK hP hq hS rfl (by omega) dX2_join_101 (fun goo_21 e_goo_21 H locs hP hS => ?_)
            rw [mm_Goo] at hP
            have hP : va_P D vwCl (wM cI cZ q (msGoo (msThr σ 0) goo_21)) H := hP
            refine lv_aload_n hx hb dX2_join_102 rfl (lv_at hl 0 rfl) ?_
            refine gf_2_2 hx hb hts hiX2 hown hK hP hf13 dX2_join_103 ?_
            refine lv_bipush (v := 6) hx hb dX2_join_106 (by decide) ?_
            refine lv_iload_n hx hb dX2_join_108 rfl (lv_at hl 1 rfl) ?_
            refine mulNc 6 P hx hb rfl rfl dX2_join_109 ?_
            refine lv_iload hx hb dX2_join_110 (lv_at hl 5 rfl) ?_
            refine addN (P * 6) k hx hb rfl rfl dX2_join_112 ?_
            refine lv_iconst (v := 0) hx hb dX2_join_113 (by decide) ?_
            refine mst_2 (k := P * 6 + k) (x := 0) hx hb hK hP hq hS rfl (by omega) dX2_join_114 (fun goo_22 e_goo_22 H locs hP hS => ?_)
            rw [mm_Goo] at hP
            have hP : va_P D vwCl (wM cI cZ q (msGoo (msThr σ 0) goo_22)) H := hP
            refine lv_iload hx hb dX2_join_115 (lv_at hl 4 rfl) ?_
            refine lv_aload_n hx hb dX2_join_117 rfl (lv_at hl 0 rfl) ?_
            refine gf_2_2 hx hb hts hiX2 hown hK hP hf13 dX2_join_118 ?_
            refine lv_bipush (v := 6) hx hb dX2_join_121 (by decide) ?_
            refine lv_iload_n hx hb dX2_join_123 rfl (lv_at hl 2 rfl) ?_
            refine mulNc 6 O hx hb rfl rfl dX2_join_124 ?_
            refine lv_iload hx hb dX2_join_125 (lv_at hl 5 rfl) ?_
            refine addN (O * 6) k hx hb rfl rfl dX2_join_127 ?_
            refine mld_2 (k := O * 6 + k) (v := goo_22 (O * 6 + k)) hx hb hK hP rfl (by omega) rfl dX2_join_128 ?_
            refine lv_iadd hx hb dX2_join_129 ?_
            refine lv_istore (lv' := [(4, .int (((jnS P O (mGoo σ) k).2 + (goo_22 (O * 6 + k))))), (0, .ref (q 0)), (1, .int (nI (P))), (2, .int (nI (O))), (3, .int 1), (5, .int (nI (k)))]) hx hb dX2_join_130 hl (by decide) rfl (fun ls hl => ?_)
            refine lv_iinc (v := nI (k + 1)) (lv' := [(5, .int (nI (k + 1))), (4, .int (((jnS P O (mGoo σ) k).2 + (goo_22 (O * 6 + k))))), (0, .ref (q 0)), (1, .int (nI (P))), (2, .int (nI (O))), (3, .int 1)]) hx hb dX2_join_132 hl (k := 5) rfl (iincN (k)) (by decide) rfl (fun ls hl => ?_)
            refine lv_goto (tgt := 68) hx hb dX2_join_135 (by decide) ?_
            have hl : lv_has ls 7 [(5, .int (nI (k + 1))), (4, .int ((jnS P O (mGoo σ) (k + 1)).2)), (0, .ref (q 0)), (1, .int (nI (P))), (2, .int (nI (O))), (3, .int 1)] := by rw [← (show (((jnS P O (mGoo σ) k).2 + (goo_22 (O * 6 + k))) : Int32) = (jnS P O (mGoo σ) (k + 1)).2 from by simp [jnS, c_1, c_5, c_10, c_11, c_14, hcP, hcO, e_goo_21, e_goo_22, mThr, mHol, mGoo, mMan, mHel, mGon, mN, mWen, mGor, mKin, mMak, mGod, mAmo, mOth, mIts, mWas, mPrf, mCop, mDec, mFee, mOwe, mTol])]; exact hl
            rw [show goo_22 = (jnS P O (mGoo σ) (k + 1)).1 from by simp [jnS, c_1, c_5, c_10, c_11, c_14, hcP, hcO, e_goo_21, e_goo_22, mThr, mHol, mGoo, mMan, mHel, mGon, mN, mWen, mGor, mKin, mMak, mGod, mAmo, mOth, mIts, mWas, mPrf, mCop, mDec, mFee, mOwe, mTol]] at hP
            exact ih_k (by omega) _ _ _ ⟨lv_sub hl [2, 3, 4, 5, 1, 0] rfl, hP, hS⟩
        · skip
          refine lv_iconst (v := 3) hx hb dX2_join_49 (by decide) ?_
          refine lv_goto (tgt := 54) hx hb dX2_join_50 (by decide) ?_
          refine w_call (va_runV (As := [.int 3]) (rest := []) ⟨hx, hb, hml, hown, hts⟩ (c_X2_holds l D cI cZ q σ hq 3) (cwV 1 hts gX2_join_X2_holds rfl rfl rfl kd_X2_holds ⟨Nat.le_of_ble_eq_true rfl, Nat.le_of_ble_eq_true rfl⟩) (pV_M hP hK) rfl rfl hl.1 rfl (lv_room (Nat.le_of_ble_eq_true rfl)) dX2_join_54 ⟨Nat.le_of_ble_eq_true rfl, Nat.le_of_ble_eq_true rfl⟩) hS (fun _ h => h) (fun v_23 H locs hv_23 _ _ hS => ?_)
          obtain ⟨rfl, hP⟩ := hv_23
          have hP : va_P D vwCl (wM cI cZ q (msThr σ 3)) H := hP
          refine neB false (tgt := 62) hx hb rfl dX2_join_57 (by decide) (fun c_24 => ?_) (fun c_24 => ?_)
          · exact absurd c_24 (by decide)
          refine lv_iconst (v := 0) hx hb dX2_join_60 (by decide) ?_
          exact RET _ _ _ _ _ (by have hs : mJoin σ (nI P) (nI O) = (0, (msThr σ 3)) := (by simp [mJoin, palM, pN, thr_1, thr_2, thr_3, thr_4, thr_5, thr_6, thr_7, thr_8, mThr, mHol, mGoo, mMan, mHel, mGon, mN, mWen, mGor, mKin, mMak, mGod, mAmo, mOth, mIts, mWas, mPrf, mCop, mDec, mFee, mOwe, mTol, msThr, msHol, msGoo, msMan, msHel, msGon, msN, msWen, msGor, msKin, msMak, msGod, msAmo, msOth, msIts, msWas, msPrf, msCop, msDec, msFee, msOwe, msTol, bI_t, bI_f, bI_inj, mwF_goo, mwF_hel, va_up_self, c_1, c_5, c_10, c_11, hcP, hcO] <;> decide); rw [hs]; exact ⟨rfl, hP⟩) hS dX2_join_61
      · skip
        refine lv_iconst (v := 2) hx hb dX2_join_36 (by decide) ?_
        refine lv_goto (tgt := 54) hx hb dX2_join_37 (by decide) ?_
        refine w_call (va_runV (As := [.int 2]) (rest := []) ⟨hx, hb, hml, hown, hts⟩ (c_X2_holds l D cI cZ q σ hq 2) (cwV 1 hts gX2_join_X2_holds rfl rfl rfl kd_X2_holds ⟨Nat.le_of_ble_eq_true rfl, Nat.le_of_ble_eq_true rfl⟩) (pV_M hP hK) rfl rfl hl.1 rfl (lv_room (Nat.le_of_ble_eq_true rfl)) dX2_join_54 ⟨Nat.le_of_ble_eq_true rfl, Nat.le_of_ble_eq_true rfl⟩) hS (fun _ h => h) (fun v_25 H locs hv_25 _ _ hS => ?_)
        obtain ⟨rfl, hP⟩ := hv_25
        have hP : va_P D vwCl (wM cI cZ q (msThr σ 2)) H := hP
        refine neB false (tgt := 62) hx hb rfl dX2_join_57 (by decide) (fun c_26 => ?_) (fun c_26 => ?_)
        · exact absurd c_26 (by decide)
        refine lv_iconst (v := 0) hx hb dX2_join_60 (by decide) ?_
        exact RET _ _ _ _ _ (by have hs : mJoin σ (nI P) (nI O) = (0, (msThr σ 2)) := (by simp [mJoin, palM, pN, thr_1, thr_2, thr_3, thr_4, thr_5, thr_6, thr_7, thr_8, mThr, mHol, mGoo, mMan, mHel, mGon, mN, mWen, mGor, mKin, mMak, mGod, mAmo, mOth, mIts, mWas, mPrf, mCop, mDec, mFee, mOwe, mTol, msThr, msHol, msGoo, msMan, msHel, msGon, msN, msWen, msGor, msKin, msMak, msGod, msAmo, msOth, msIts, msWas, msPrf, msCop, msDec, msFee, msOwe, msTol, bI_t, bI_f, bI_inj, mwF_goo, mwF_hel, va_up_self, c_1, c_5, c_10, hcP, hcO] <;> decide); rw [hs]; exact ⟨rfl, hP⟩) hS dX2_join_61
theorem kn_X2_move : yX2_move.cls ≠ "java/lang/invoke/MethodHandle" ∧ yX2_move.cls ≠ "java/lang/invoke/VarHandle" ∧ (parseMethodDescriptor yX2_move.desc).map (fun d => d.parameters.length) = some 2 := by decide +kernel
theorem kd_X2_move : yX2_move.cls = RX2 ∧ yX2_move.cls ≠ "java/lang/invoke/MethodHandle" ∧ yX2_move.cls ≠ "java/lang/invoke/VarHandle" ∧ (parseMethodDescriptor yX2_move.desc).map (fun d => d.parameters.length) = some 2 := by decide +kernel
set_option maxHeartbeats 4000000 in
set_option maxRecDepth 100000 in
theorem c_X2_move (l : Launch) (D : va_G) (cI cZ : ClassId) (q : Nat → Nat) (σ : SM) (hq : ijQ 20 q) (x1 x2 : Int32) (ok : okM σ) (hoth : othM σ) (hz : ∀ P, mN σ ≤ P → mMan σ P = 0) (hg14 : ∀ P O, cjF σ P O = true → mGor σ < 14) (hc7 : ∀ r i, 7 ≤ i → i < 32 → bt (mCop σ r) i = false) : Met l yX2_move wsX2_move ({ frames := 5, cells := 0, slots := 0, locals := 114 }) (va_Pc [.ref (q 0), .int x1, .int x2] (PM D cI cZ q σ)) (wQ (adQ 20 q) (fun v H1 => v = some (.int (mMove σ x1 x2).1) ∧ va_P D vwCl (wM cI cZ q (mMove σ x1 x2).2) H1)) 0 0 (adQ 20 q) := by
  refine openW (cc := cX2_move) (maxL := 5) (by decide) rfl (Nat.le_of_ble_eq_true rfl) ?_
  intro p e s m args below meth c hx hb hml hts hown hpre Q RET ls hl
  have hown : s.vm.findClass RX2 = some m.cls := hown
  have hl : lv_has ls 5 [(0, .ref (q 0)), (1, .int x1), (2, .int x2)] := hl
  obtain ⟨hP, hK⟩ := hpre
  have hS : va_S (adQ 20 q) s.heap s.heap [] := va_S.rf
  have hiX2 : ∀ w ∈ wsX20, w ∈ wsX2_move := by decide +kernel
  have hf7 := hts (.fieldLink RX2 7 "PalletGramModel" "holder" "[I") (by decide +kernel)
  have hn : mN σ ≤ 14 := ok.1
  have hhol : ∀ P, mHol σ P < 6 := ok.2.1
  have hman : ∀ P, mMan σ P ≤ 30 := ok.2.2.1
  have hgor := ok.2.2.2.1
  have hwen := ok.2.2.2.2
  refine lv_aload_n hx hb dX2_move_0 rfl (lv_at hl 0 rfl) ?_
  refine lv_iload_n hx hb dX2_move_1 rfl (lv_at hl 1 rfl) ?_
  refine r_callE (x := bI (inB x1 0 (nI (mN σ) - 1))) (va_runV (As := [.int x1]) (rest := []) ⟨hx, hb, hml, hown, hts⟩ (c_X2_isPallet l D cI cZ q σ x1) (cwV 1 hts gX2_move_X2_isPallet rfl rfl rfl kd_X2_isPallet ⟨Nat.le_of_ble_eq_true rfl, Nat.le_of_ble_eq_true rfl⟩) (pV_M hP hK) rfl rfl hl.1 rfl (lv_room (Nat.le_of_ble_eq_true rfl)) dX2_move_2 ⟨Nat.le_of_ble_eq_true rfl, Nat.le_of_ble_eq_true rfl⟩) ?_
  refine eqB (inB x1 0 (nI (mN σ) - 1)) (tgt := 21) hx hb rfl dX2_move_5 (by decide) (fun c_1 => ?_) (fun c_1 => ?_)
  · skip
    refine lv_iconst (v := 0) hx hb dX2_move_21 (by decide) ?_
    refine lv_istore_n (lv' := [(3, .int 0), (0, .ref (q 0)), (1, .int x1), (2, .int x2)]) hx hb dX2_move_22 rfl hl (by decide) rfl (fun ls hl => ?_)
    refine lv_iload_n hx hb dX2_move_23 rfl (lv_at hl 0 rfl) ?_
    refine eqB false (tgt := 80) hx hb rfl dX2_move_24 (by decide) (fun c_2 => ?_) (fun c_2 => ?_)
    rotate_left
    · exact absurd c_2 (by decide)
    refine lv_iconst (v := 0) hx hb dX2_move_80 (by decide) ?_
    refine lv_istore (lv' := [(4, .int 0), (3, .int 0), (0, .ref (q 0)), (1, .int x1), (2, .int x2)]) hx hb dX2_move_81 hl (by decide) rfl (fun ls hl => ?_)
    refine lv_aload_n hx hb dX2_move_83 rfl (lv_at hl 2 rfl) ?_
    refine lv_iload_n hx hb dX2_move_84 rfl (lv_at hl 1 rfl) ?_
    refine neB false (tgt := 92) hx hb rfl dX2_move_85 (by decide) (fun c_3 => ?_) (fun c_3 => ?_)
    · exact absurd c_3 (by decide)
    refine lv_iconst (v := 1) hx hb dX2_move_88 (by decide) ?_
    refine lv_goto (tgt := 102) hx hb dX2_move_89 (by decide) ?_
    refine w_call (va_runV (As := [.int 1]) (rest := []) ⟨hx, hb, hml, hown, hts⟩ (c_X2_holds l D cI cZ q σ hq 1) (cwV 1 hts gX2_move_X2_holds rfl rfl rfl kd_X2_holds ⟨Nat.le_of_ble_eq_true rfl, Nat.le_of_ble_eq_true rfl⟩) (pV_M hP hK) rfl rfl hl.1 rfl (lv_room (Nat.le_of_ble_eq_true rfl)) dX2_move_102 ⟨Nat.le_of_ble_eq_true rfl, Nat.le_of_ble_eq_true rfl⟩) hS (fun _ h => h) (fun v_4 H locs hv_4 _ _ hS => ?_)
    obtain ⟨rfl, hP⟩ := hv_4
    have hP : va_P D vwCl (wM cI cZ q (msThr σ 1)) H := hP
    refine neB false (tgt := 110) hx hb rfl dX2_move_105 (by decide) (fun c_5 => ?_) (fun c_5 => ?_)
    · exact absurd c_5 (by decide)
    refine lv_iconst (v := 0) hx hb dX2_move_108 (by decide) ?_
    exact RET _ _ _ _ _ (by have hs : mMove σ x1 x2 = (0, (msThr σ 1)) := (by simp [mMove, palM, pN, thr_1, thr_2, thr_3, thr_4, thr_5, thr_6, thr_7, thr_8, mThr, mHol, mGoo, mMan, mHel, mGon, mN, mWen, mGor, mKin, mMak, mGod, mAmo, mOth, mIts, mWas, mPrf, mCop, mDec, mFee, mOwe, mTol, msThr, msHol, msGoo, msMan, msHel, msGon, msN, msWen, msGor, msKin, msMak, msGod, msAmo, msOth, msIts, msWas, msPrf, msCop, msDec, msFee, msOwe, msTol, bI_t, bI_f, bI_inj, mwF_goo, mwF_hel, va_up_self, mMove1, c_1] <;> decide); rw [hs]; exact ⟨rfl, hP⟩) hS dX2_move_109
  · skip
    refine lv_iload_n hx hb dX2_move_8 rfl (lv_at hl 2 rfl) ?_
    refine lv_iconst (v := 0) hx hb dX2_move_9 (by decide) ?_
    refine lv_iconst (v := 5) hx hb dX2_move_10 (by decide) ?_
    refine r_callE (x := bI (inB x2 0 5)) (va_runS (As := [.int x2, .int 0, .int 5]) (rest := []) ⟨hx, hb, hml, hown, hts⟩ (c_X2_isIn l x2 0 5) (va_cwS 3 hts gX2_move_X2_isIn rfl rfl rfl kn_X2_isIn ⟨Nat.le_of_ble_eq_true rfl, Nat.le_of_ble_eq_true rfl⟩) (pS_T) rfl rfl hl.1 rfl (lv_room (Nat.le_of_ble_eq_true rfl)) dX2_move_11 ⟨Nat.le_of_ble_eq_true rfl, Nat.le_of_ble_eq_true rfl⟩) ?_
    refine eqB (inB x2 0 5) (tgt := 21) hx hb rfl dX2_move_14 (by decide) (fun c_6 => ?_) (fun c_6 => ?_)
    · skip
      refine lv_iconst (v := 0) hx hb dX2_move_21 (by decide) ?_
      refine lv_istore_n (lv' := [(3, .int 0), (0, .ref (q 0)), (1, .int x1), (2, .int x2)]) hx hb dX2_move_22 rfl hl (by decide) rfl (fun ls hl => ?_)
      refine lv_iload_n hx hb dX2_move_23 rfl (lv_at hl 0 rfl) ?_
      refine eqB false (tgt := 80) hx hb rfl dX2_move_24 (by decide) (fun c_7 => ?_) (fun c_7 => ?_)
      rotate_left
      · exact absurd c_7 (by decide)
      refine lv_iconst (v := 0) hx hb dX2_move_80 (by decide) ?_
      refine lv_istore (lv' := [(4, .int 0), (3, .int 0), (0, .ref (q 0)), (1, .int x1), (2, .int x2)]) hx hb dX2_move_81 hl (by decide) rfl (fun ls hl => ?_)
      refine lv_aload_n hx hb dX2_move_83 rfl (lv_at hl 2 rfl) ?_
      refine lv_iload_n hx hb dX2_move_84 rfl (lv_at hl 1 rfl) ?_
      refine neB false (tgt := 92) hx hb rfl dX2_move_85 (by decide) (fun c_8 => ?_) (fun c_8 => ?_)
      · exact absurd c_8 (by decide)
      refine lv_iconst (v := 1) hx hb dX2_move_88 (by decide) ?_
      refine lv_goto (tgt := 102) hx hb dX2_move_89 (by decide) ?_
      refine w_call (va_runV (As := [.int 1]) (rest := []) ⟨hx, hb, hml, hown, hts⟩ (c_X2_holds l D cI cZ q σ hq 1) (cwV 1 hts gX2_move_X2_holds rfl rfl rfl kd_X2_holds ⟨Nat.le_of_ble_eq_true rfl, Nat.le_of_ble_eq_true rfl⟩) (pV_M hP hK) rfl rfl hl.1 rfl (lv_room (Nat.le_of_ble_eq_true rfl)) dX2_move_102 ⟨Nat.le_of_ble_eq_true rfl, Nat.le_of_ble_eq_true rfl⟩) hS (fun _ h => h) (fun v_9 H locs hv_9 _ _ hS => ?_)
      obtain ⟨rfl, hP⟩ := hv_9
      have hP : va_P D vwCl (wM cI cZ q (msThr σ 1)) H := hP
      refine neB false (tgt := 110) hx hb rfl dX2_move_105 (by decide) (fun c_10 => ?_) (fun c_10 => ?_)
      · exact absurd c_10 (by decide)
      refine lv_iconst (v := 0) hx hb dX2_move_108 (by decide) ?_
      exact RET _ _ _ _ _ (by have hs : mMove σ x1 x2 = (0, (msThr σ 1)) := (by simp [mMove, palM, pN, thr_1, thr_2, thr_3, thr_4, thr_5, thr_6, thr_7, thr_8, mThr, mHol, mGoo, mMan, mHel, mGon, mN, mWen, mGor, mKin, mMak, mGod, mAmo, mOth, mIts, mWas, mPrf, mCop, mDec, mFee, mOwe, mTol, msThr, msHol, msGoo, msMan, msHel, msGon, msN, msWen, msGor, msKin, msMak, msGod, msAmo, msOth, msIts, msWas, msPrf, msCop, msDec, msFee, msOwe, msTol, bI_t, bI_f, bI_inj, mwF_goo, mwF_hel, va_up_self, mMove1, c_1, c_6] <;> decide); rw [hs]; exact ⟨rfl, hP⟩) hS dX2_move_109
    · skip
      obtain ⟨P, hP9, rfl⟩ := inB_pal (by omega) c_1
      have hcP : (nI P).toNatClampNeg = P := nI_clamp (by omega)
      obtain ⟨U8, hU88, hU89, rfl⟩ := inB_nat (lo := 0) (hi := 5) (by decide) (by decide) c_6
      have hcU8 : (nI U8).toNatClampNeg = U8 := nI_clamp (by omega)
      refine lv_iconst (v := 1) hx hb dX2_move_17 (by decide) ?_
      refine lv_goto (tgt := 22) hx hb dX2_move_18 (by decide) ?_
      refine lv_istore_n (lv' := [(3, .int 1), (0, .ref (q 0)), (1, .int (nI (P))), (2, .int (nI (U8)))]) hx hb dX2_move_22 rfl hl (by decide) rfl (fun ls hl => ?_)
      refine lv_iload_n hx hb dX2_move_23 rfl (lv_at hl 0 rfl) ?_
      refine eqB true (tgt := 80) hx hb rfl dX2_move_24 (by decide) (fun c_11 => ?_) (fun c_11 => ?_)
      · exact absurd c_11 (by decide)
      have h8 := hhol P
      refine cutI (x := bI (decide ((mHol σ) P < 4))) (pcM := 42) (st := []) ?_ (fun J => ?_)
      rotate_left
      · skip
        have h8 := hhol P
        refine lv_aload_n hx hb dX2_move_27 rfl (lv_at hl 1 rfl) ?_
        refine gf_2_1 hx hb hts hiX2 hown hK hP hf7 dX2_move_28 ?_
        refine lv_iload_n hx hb dX2_move_31 rfl (lv_at hl 2 rfl) ?_
        refine mld_1 (k := P) (v := ((mHol σ)) P) hx hb hK hP rfl (by omega) rfl dX2_move_32 ?_
        refine lv_iconst (v := 4) hx hb dX2_move_33 (by decide) ?_
        refine geN (((mHol σ)) P) 4 (tgt := 41) hx hb rfl rfl (by omega) (by omega) dX2_move_34 (by decide) (fun c_12 => ?_) (fun c_12 => ?_)
        · skip
          refine lv_iconst (v := 0) hx hb dX2_move_41 (by decide) ?_
          exact J _ (congrArg bI (show (false : Bool) = decide ((mHol σ) P < 4) from by simp [c_12]))
        · skip
          refine lv_iconst (v := 1) hx hb dX2_move_37 (by decide) ?_
          refine lv_goto (tgt := 42) hx hb dX2_move_38 (by decide) ?_
          exact J _ (congrArg bI (show (true : Bool) = decide ((mHol σ) P < 4) from by simp [c_12]))
      refine cutI (x := bI (decide (U8 < 4))) (pcM := 52) (st := [.int (bI (decide ((mHol σ) P < 4)))]) ?_ (fun J => ?_)
      rotate_left
      · skip
        refine lv_iload_n hx hb dX2_move_42 rfl (lv_at hl 3 rfl) ?_
        refine lv_iconst (v := 4) hx hb dX2_move_43 (by decide) ?_
        refine geN U8 4 (tgt := 51) hx hb rfl rfl (by omega) (by omega) dX2_move_44 (by decide) (fun c_13 => ?_) (fun c_13 => ?_)
        · skip
          refine lv_iconst (v := 0) hx hb dX2_move_51 (by decide) ?_
          exact J _ (congrArg bI (show (false : Bool) = decide (U8 < 4) from by simp [c_13]))
        · skip
          refine lv_iconst (v := 1) hx hb dX2_move_47 (by decide) ?_
          refine lv_goto (tgt := 52) hx hb dX2_move_48 (by decide) ?_
          exact J _ (congrArg bI (show (true : Bool) = decide (U8 < 4) from by simp [c_13]))
      refine lv_icmp_eq (tgt := 80) hx hb dX2_move_52 (by decide) (fun c_14 => ?_) (fun c_14 => ?_)
      · skip
        have hd9 : (mHol σ P < 4 ↔ U8 < 4) := decide_eq_decide.mp (bI_inj.mp c_14)
        refine lv_iconst (v := 0) hx hb dX2_move_80 (by decide) ?_
        refine lv_istore (lv' := [(4, .int 0), (3, .int 1), (0, .ref (q 0)), (1, .int (nI (P))), (2, .int (nI (U8)))]) hx hb dX2_move_81 hl (by decide) rfl (fun ls hl => ?_)
        refine lv_aload_n hx hb dX2_move_83 rfl (lv_at hl 2 rfl) ?_
        refine lv_iload_n hx hb dX2_move_84 rfl (lv_at hl 1 rfl) ?_
        refine neB true (tgt := 92) hx hb rfl dX2_move_85 (by decide) (fun c_15 => ?_) (fun c_15 => ?_)
        rotate_left
        · exact absurd c_15 (by decide)
        refine lv_iload hx hb dX2_move_92 (lv_at hl 0 rfl) ?_
        refine neB false (tgt := 101) hx hb rfl dX2_move_94 (by decide) (fun c_16 => ?_) (fun c_16 => ?_)
        · exact absurd c_16 (by decide)
        refine lv_iconst (v := 2) hx hb dX2_move_97 (by decide) ?_
        refine lv_goto (tgt := 102) hx hb dX2_move_98 (by decide) ?_
        refine w_call (va_runV (As := [.int 2]) (rest := []) ⟨hx, hb, hml, hown, hts⟩ (c_X2_holds l D cI cZ q σ hq 2) (cwV 1 hts gX2_move_X2_holds rfl rfl rfl kd_X2_holds ⟨Nat.le_of_ble_eq_true rfl, Nat.le_of_ble_eq_true rfl⟩) (pV_M hP hK) rfl rfl hl.1 rfl (lv_room (Nat.le_of_ble_eq_true rfl)) dX2_move_102 ⟨Nat.le_of_ble_eq_true rfl, Nat.le_of_ble_eq_true rfl⟩) hS (fun _ h => h) (fun v_17 H locs hv_17 _ _ hS => ?_)
        obtain ⟨rfl, hP⟩ := hv_17
        have hP : va_P D vwCl (wM cI cZ q (msThr σ 2)) H := hP
        refine neB false (tgt := 110) hx hb rfl dX2_move_105 (by decide) (fun c_18 => ?_) (fun c_18 => ?_)
        · exact absurd c_18 (by decide)
        refine lv_iconst (v := 0) hx hb dX2_move_108 (by decide) ?_
        exact RET _ _ _ _ _ (by have hs : mMove σ (nI P) (nI U8) = (0, (msThr σ 2)) := (by simp [mMove, palM, pN, thr_1, thr_2, thr_3, thr_4, thr_5, thr_6, thr_7, thr_8, mThr, mHol, mGoo, mMan, mHel, mGon, mN, mWen, mGor, mKin, mMak, mGod, mAmo, mOth, mIts, mWas, mPrf, mCop, mDec, mFee, mOwe, mTol, msThr, msHol, msGoo, msMan, msHel, msGon, msN, msWen, msGor, msKin, msMak, msGod, msAmo, msOth, msIts, msWas, msPrf, msCop, msDec, msFee, msOwe, msTol, bI_t, bI_f, bI_inj, mwF_goo, mwF_hel, va_up_self, mMove1, c_1, c_6, c_14, hcP, hcU8, hd9] <;> decide); rw [hs]; exact ⟨rfl, hP⟩) hS dX2_move_109
      · skip
        have hd9 : ¬ (mHol σ P < 4 ↔ U8 < 4) := fun z => c_14 (bI_inj.mpr (decide_eq_decide.mpr z))
        refine lv_aload_n hx hb dX2_move_55 rfl (lv_at hl 1 rfl) ?_
        refine lv_iload_n hx hb dX2_move_56 rfl (lv_at hl 2 rfl) ?_
        refine r_callE (x := bI (mcF σ P)) (va_runV (As := [.int (nI (P))]) (rest := []) ⟨hx, hb, hml, hown, hts⟩ (c_X2_canWork l D cI cZ q σ P (by omega) hman hoth) (cwV 1 hts gX2_move_X2_canWork rfl rfl rfl kd_X2_canWork ⟨Nat.le_of_ble_eq_true rfl, Nat.le_of_ble_eq_true rfl⟩) (pV_M hP hK) rfl rfl hl.1 rfl (lv_room (Nat.le_of_ble_eq_true rfl)) dX2_move_57 ⟨Nat.le_of_ble_eq_true rfl, Nat.le_of_ble_eq_true rfl⟩) ?_
        refine eqB (mcF σ P) (tgt := 80) hx hb rfl dX2_move_60 (by decide) (fun c_19 => ?_) (fun c_19 => ?_)
        · skip
          refine lv_iconst (v := 0) hx hb dX2_move_80 (by decide) ?_
          refine lv_istore (lv' := [(4, .int 0), (3, .int 1), (0, .ref (q 0)), (1, .int (nI (P))), (2, .int (nI (U8)))]) hx hb dX2_move_81 hl (by decide) rfl (fun ls hl => ?_)
          refine lv_aload_n hx hb dX2_move_83 rfl (lv_at hl 2 rfl) ?_
          refine lv_iload_n hx hb dX2_move_84 rfl (lv_at hl 1 rfl) ?_
          refine neB true (tgt := 92) hx hb rfl dX2_move_85 (by decide) (fun c_20 => ?_) (fun c_20 => ?_)
          rotate_left
          · exact absurd c_20 (by decide)
          refine lv_iload hx hb dX2_move_92 (lv_at hl 0 rfl) ?_
          refine neB false (tgt := 101) hx hb rfl dX2_move_94 (by decide) (fun c_21 => ?_) (fun c_21 => ?_)
          · exact absurd c_21 (by decide)
          refine lv_iconst (v := 2) hx hb dX2_move_97 (by decide) ?_
          refine lv_goto (tgt := 102) hx hb dX2_move_98 (by decide) ?_
          refine w_call (va_runV (As := [.int 2]) (rest := []) ⟨hx, hb, hml, hown, hts⟩ (c_X2_holds l D cI cZ q σ hq 2) (cwV 1 hts gX2_move_X2_holds rfl rfl rfl kd_X2_holds ⟨Nat.le_of_ble_eq_true rfl, Nat.le_of_ble_eq_true rfl⟩) (pV_M hP hK) rfl rfl hl.1 rfl (lv_room (Nat.le_of_ble_eq_true rfl)) dX2_move_102 ⟨Nat.le_of_ble_eq_true rfl, Nat.le_of_ble_eq_true rfl⟩) hS (fun _ h => h) (fun v_22 H locs hv_22 _ _ hS => ?_)
          obtain ⟨rfl, hP⟩ := hv_22
          have hP : va_P D vwCl (wM cI cZ q (msThr σ 2)) H := hP
          refine neB false (tgt := 110) hx hb rfl dX2_move_105 (by decide) (fun c_23 => ?_) (fun c_23 => ?_)
          · exact absurd c_23 (by decide)
          refine lv_iconst (v := 0) hx hb dX2_move_108 (by decide) ?_
          exact RET _ _ _ _ _ (by have hs : mMove σ (nI P) (nI U8) = (0, (msThr σ 2)) := (by simp [mMove, palM, pN, thr_1, thr_2, thr_3, thr_4, thr_5, thr_6, thr_7, thr_8, mThr, mHol, mGoo, mMan, mHel, mGon, mN, mWen, mGor, mKin, mMak, mGod, mAmo, mOth, mIts, mWas, mPrf, mCop, mDec, mFee, mOwe, mTol, msThr, msHol, msGoo, msMan, msHel, msGon, msN, msWen, msGor, msKin, msMak, msGod, msAmo, msOth, msIts, msWas, msPrf, msCop, msDec, msFee, msOwe, msTol, bI_t, bI_f, bI_inj, mwF_goo, mwF_hel, va_up_self, mMove1, c_1, c_6, c_14, c_19, hcP, hcU8, hd9] <;> decide); rw [hs]; exact ⟨rfl, hP⟩) hS dX2_move_109
        · skip
          refine lv_aload_n hx hb dX2_move_63 rfl (lv_at hl 1 rfl) ?_
          refine lv_iload_n hx hb dX2_move_64 rfl (lv_at hl 3 rfl) ?_
          refine lv_aload_n hx hb dX2_move_65 rfl (lv_at hl 1 rfl) ?_
          refine lv_iload_n hx hb dX2_move_66 rfl (lv_at hl 2 rfl) ?_
          refine r_callE (x := (wS (mGoo σ) P 6)) (va_runV (As := [.int (nI (P))]) (rest := [.int (nI (U8)), .ref (q 0)]) ⟨hx, hb, hml, hown, hts⟩ (c_X2_weight l D cI cZ q σ P (by omega)) (cwV 1 hts gX2_move_X2_weight rfl rfl rfl kd_X2_weight ⟨Nat.le_of_ble_eq_true rfl, Nat.le_of_ble_eq_true rfl⟩) (pV_M hP hK) rfl rfl hl.1 rfl (lv_room (Nat.le_of_ble_eq_true rfl)) dX2_move_67 ⟨Nat.le_of_ble_eq_true rfl, Nat.le_of_ble_eq_true rfl⟩) ?_
          refine r_callE (x := bI (mrS (mHol σ) (mGoo σ) U8 ((wS (mGoo σ) P 6)) (mN σ))) (va_runV (As := [.int (nI (U8)), .int ((wS (mGoo σ) P 6))]) (rest := []) ⟨hx, hb, hml, hown, hts⟩ (c_X2_hasRoom l D cI cZ q σ U8 ((wS (mGoo σ) P 6)) ⟨hn, hhol, hman, hgor, hwen⟩ (by omega)) (cwV 2 hts gX2_move_X2_hasRoom rfl rfl rfl kd_X2_hasRoom ⟨Nat.le_of_ble_eq_true rfl, Nat.le_of_ble_eq_true rfl⟩) (pV_M hP hK) rfl rfl hl.1 rfl (lv_room (Nat.le_of_ble_eq_true rfl)) dX2_move_70 ⟨Nat.le_of_ble_eq_true rfl, Nat.le_of_ble_eq_true rfl⟩) ?_
          refine eqB (mrS (mHol σ) (mGoo σ) U8 ((wS (mGoo σ) P 6)) (mN σ)) (tgt := 80) hx hb rfl dX2_move_73 (by decide) (fun c_24 => ?_) (fun c_24 => ?_)
          · skip
            refine lv_iconst (v := 0) hx hb dX2_move_80 (by decide) ?_
            refine lv_istore (lv' := [(4, .int 0), (3, .int 1), (0, .ref (q 0)), (1, .int (nI (P))), (2, .int (nI (U8)))]) hx hb dX2_move_81 hl (by decide) rfl (fun ls hl => ?_)
            refine lv_aload_n hx hb dX2_move_83 rfl (lv_at hl 2 rfl) ?_
            refine lv_iload_n hx hb dX2_move_84 rfl (lv_at hl 1 rfl) ?_
            refine neB true (tgt := 92) hx hb rfl dX2_move_85 (by decide) (fun c_25 => ?_) (fun c_25 => ?_)
            rotate_left
            · exact absurd c_25 (by decide)
            refine lv_iload hx hb dX2_move_92 (lv_at hl 0 rfl) ?_
            refine neB false (tgt := 101) hx hb rfl dX2_move_94 (by decide) (fun c_26 => ?_) (fun c_26 => ?_)
            · exact absurd c_26 (by decide)
            refine lv_iconst (v := 2) hx hb dX2_move_97 (by decide) ?_
            refine lv_goto (tgt := 102) hx hb dX2_move_98 (by decide) ?_
            refine w_call (va_runV (As := [.int 2]) (rest := []) ⟨hx, hb, hml, hown, hts⟩ (c_X2_holds l D cI cZ q σ hq 2) (cwV 1 hts gX2_move_X2_holds rfl rfl rfl kd_X2_holds ⟨Nat.le_of_ble_eq_true rfl, Nat.le_of_ble_eq_true rfl⟩) (pV_M hP hK) rfl rfl hl.1 rfl (lv_room (Nat.le_of_ble_eq_true rfl)) dX2_move_102 ⟨Nat.le_of_ble_eq_true rfl, Nat.le_of_ble_eq_true rfl⟩) hS (fun _ h => h) (fun v_27 H locs hv_27 _ _ hS => ?_)
            obtain ⟨rfl, hP⟩ := hv_27
            have hP : va_P D vwCl (wM cI cZ q (msThr σ 2)) H := hP
            refine neB false (tgt := 110) hx hb rfl dX2_move_105 (by decide) (fun c_28 => ?_) (fun c_28 => ?_)
            · exact absurd c_28 (by decide)
            refine lv_iconst (v := 0) hx hb dX2_move_108 (by decide) ?_
            exact RET _ _ _ _ _ (by have hs : mMove σ (nI P) (nI U8) = (0, (msThr σ 2)) := (by simp [mMove, palM, pN, thr_1, thr_2, thr_3, thr_4, thr_5, thr_6, thr_7, thr_8, mThr, mHol, mGoo, mMan, mHel, mGon, mN, mWen, mGor, mKin, mMak, mGod, mAmo, mOth, mIts, mWas, mPrf, mCop, mDec, mFee, mOwe, mTol, msThr, msHol, msGoo, msMan, msHel, msGon, msN, msWen, msGor, msKin, msMak, msGod, msAmo, msOth, msIts, msWas, msPrf, msCop, msDec, msFee, msOwe, msTol, bI_t, bI_f, bI_inj, mwF_goo, mwF_hel, va_up_self, mMove1, c_1, c_6, c_14, c_19, c_24, hcP, hcU8, hd9] <;> decide); rw [hs]; exact ⟨rfl, hP⟩) hS dX2_move_109
          · skip
            refine lv_iconst (v := 1) hx hb dX2_move_76 (by decide) ?_
            refine lv_goto (tgt := 81) hx hb dX2_move_77 (by decide) ?_
            refine lv_istore (lv' := [(4, .int 1), (3, .int 1), (0, .ref (q 0)), (1, .int (nI (P))), (2, .int (nI (U8)))]) hx hb dX2_move_81 hl (by decide) rfl (fun ls hl => ?_)
            refine lv_aload_n hx hb dX2_move_83 rfl (lv_at hl 2 rfl) ?_
            refine lv_iload_n hx hb dX2_move_84 rfl (lv_at hl 1 rfl) ?_
            refine neB true (tgt := 92) hx hb rfl dX2_move_85 (by decide) (fun c_29 => ?_) (fun c_29 => ?_)
            rotate_left
            · exact absurd c_29 (by decide)
            refine lv_iload hx hb dX2_move_92 (lv_at hl 0 rfl) ?_
            refine neB true (tgt := 101) hx hb rfl dX2_move_94 (by decide) (fun c_30 => ?_) (fun c_30 => ?_)
            rotate_left
            · exact absurd c_30 (by decide)
            refine lv_iconst (v := 0) hx hb dX2_move_101 (by decide) ?_
            refine w_call (va_runV (As := [.int 0]) (rest := []) ⟨hx, hb, hml, hown, hts⟩ (c_X2_holds l D cI cZ q σ hq 0) (cwV 1 hts gX2_move_X2_holds rfl rfl rfl kd_X2_holds ⟨Nat.le_of_ble_eq_true rfl, Nat.le_of_ble_eq_true rfl⟩) (pV_M hP hK) rfl rfl hl.1 rfl (lv_room (Nat.le_of_ble_eq_true rfl)) dX2_move_102 ⟨Nat.le_of_ble_eq_true rfl, Nat.le_of_ble_eq_true rfl⟩) hS (fun _ h => h) (fun v_31 H locs hv_31 _ _ hS => ?_)
            obtain ⟨rfl, hP⟩ := hv_31
            have hP : va_P D vwCl (wM cI cZ q (msThr σ 0)) H := hP
            refine neB true (tgt := 110) hx hb rfl dX2_move_105 (by decide) (fun c_32 => ?_) (fun c_32 => ?_)
            rotate_left
            · exact absurd c_32 (by decide)
            have hE9 := mcF_man c_19
            refine lv_aload_n hx hb dX2_move_110 rfl (lv_at hl 2 rfl) ?_
            refine lv_iload_n hx hb dX2_move_111 rfl (lv_at hl 3 rfl) ?_
            refine lv_bipush (v := 7) hx hb dX2_move_112 (by decide) ?_
            refine lv_iconst (v := 0) hx hb dX2_move_114 (by decide) ?_
            refine lv_iload_n hx hb dX2_move_115 rfl (lv_at hl 4 rfl) ?_
            refine lv_iconst (v := 0) hx hb dX2_move_116 (by decide) ?_
            refine lv_iconst (v := 0) hx hb dX2_move_117 (by decide) ?_
            refine w_call (va_runV (As := [.int (nI (P)), .int 7, .int 0, .int (nI (U8)), .int 0, .int 0]) (rest := []) ⟨hx, hb, hml, hown, hts⟩ (c_X2_writes l D cI cZ q (msThr σ 0) hq P 7 0 (nI (U8)) 0 0 (by omega) (by omega) hhol (show mMan σ P < 30 from hE9)) (cwV 6 hts gX2_move_X2_writes rfl rfl rfl kd_X2_writes ⟨Nat.le_of_ble_eq_true rfl, Nat.le_of_ble_eq_true rfl⟩) (pV_M hP hK) rfl rfl hl.1 rfl (lv_room (Nat.le_of_ble_eq_true rfl)) dX2_move_118 ⟨Nat.le_of_ble_eq_true rfl, Nat.le_of_ble_eq_true rfl⟩) hS (fun _ h => h) (fun v_33 H locs hv_33 _ _ hS => ?_)
            obtain ⟨rfl, hP⟩ := hv_33
            obtain ⟨σ34, eσ34⟩ : ∃ z : SM, z = mwF (msThr σ 0) P 7 0 (nI (U8)) 0 0 := ⟨_, rfl⟩
            rw [← eσ34] at hP
            refine lv_aload_n hx hb dX2_move_121 rfl (lv_at hl 2 rfl) ?_
            refine gf_2_1 hx hb hts hiX2 hown hK hP hf7 dX2_move_122 ?_
            refine lv_iload_n hx hb dX2_move_125 rfl (lv_at hl 3 rfl) ?_
            refine lv_iload_n hx hb dX2_move_126 rfl (lv_at hl 4 rfl) ?_
            refine mst_1 (k := P) (x := U8) hx hb hK hP hq hS rfl (by omega) dX2_move_127 (fun hol_35 e_hol_35 H locs hP hS => ?_)
            have hP : va_P D vwCl (wM cI cZ q (msHol σ34 hol_35)) H := hP
            refine lv_aload_n hx hb dX2_move_128 rfl (lv_at hl 2 rfl) ?_
            refine lv_iload_n hx hb dX2_move_129 rfl (lv_at hl 3 rfl) ?_
            refine r_callE (x := (wS (mGoo σ34) P 6)) (va_runV (As := [.int (nI (P))]) (rest := []) ⟨hx, hb, hml, hown, hts⟩ (c_X2_weight l D cI cZ q (msHol σ34 hol_35) P (by omega)) (cwV 1 hts gX2_move_X2_weight rfl rfl rfl kd_X2_weight ⟨Nat.le_of_ble_eq_true rfl, Nat.le_of_ble_eq_true rfl⟩) (pV_M hP hK) rfl rfl hl.1 rfl (lv_room (Nat.le_of_ble_eq_true rfl)) dX2_move_130 ⟨Nat.le_of_ble_eq_true rfl, Nat.le_of_ble_eq_true rfl⟩) ?_
            exact RET _ _ _ _ _ (by have hs : mMove σ (nI P) (nI U8) = ((wS (mGoo σ34) P 6), (msHol σ34 hol_35)) := (by simp [mMove, palM, pN, thr_1, thr_2, thr_3, thr_4, thr_5, thr_6, thr_7, thr_8, mThr, mHol, mGoo, mMan, mHel, mGon, mN, mWen, mGor, mKin, mMak, mGod, mAmo, mOth, mIts, mWas, mPrf, mCop, mDec, mFee, mOwe, mTol, msThr, msHol, msGoo, msMan, msHel, msGon, msN, msWen, msGor, msKin, msMak, msGod, msAmo, msOth, msIts, msWas, msPrf, msCop, msDec, msFee, msOwe, msTol, bI_t, bI_f, bI_inj, mwF_goo, mwF_hel, va_up_self, mMove1, c_1, c_6, c_14, c_19, c_24, hcP, hcU8, eσ34, e_hol_35, hd9] <;> decide); rw [hs]; exact ⟨rfl, hP⟩) hS dX2_move_133
theorem kn_X2_hold : yX2_hold.cls ≠ "java/lang/invoke/MethodHandle" ∧ yX2_hold.cls ≠ "java/lang/invoke/VarHandle" ∧ (parseMethodDescriptor yX2_hold.desc).map (fun d => d.parameters.length) = some 1 := by decide +kernel
theorem kd_X2_hold : yX2_hold.cls = RX2 ∧ yX2_hold.cls ≠ "java/lang/invoke/MethodHandle" ∧ yX2_hold.cls ≠ "java/lang/invoke/VarHandle" ∧ (parseMethodDescriptor yX2_hold.desc).map (fun d => d.parameters.length) = some 1 := by decide +kernel
set_option maxHeartbeats 4000000 in
set_option maxRecDepth 100000 in
theorem c_X2_hold (l : Launch) (D : va_G) (cI cZ : ClassId) (q : Nat → Nat) (σ : SM) (hq : ijQ 20 q) (x1 : Int32) (ok : okM σ) (hoth : othM σ) (hz : ∀ P, mN σ ≤ P → mMan σ P = 0) (hg14 : ∀ P O, cjF σ P O = true → mGor σ < 14) (hc7 : ∀ r i, 7 ≤ i → i < 32 → bt (mCop σ r) i = false) : Met l yX2_hold wsX2_hold ({ frames := 2, cells := 0, slots := 0, locals := 52 }) (va_Pc [.ref (q 0), .int x1] (PM D cI cZ q σ)) (wQ (adQ 20 q) (fun v H1 => v = some (.int (bI (mHold σ x1).1)) ∧ va_P D vwCl (wM cI cZ q (mHold σ x1).2) H1)) 0 0 (adQ 20 q) := by
  refine openY (cc := cX2_hold) (maxL := 3) (by decide) rfl (Nat.le_of_ble_eq_true rfl) ?_
  intro p e s m args below meth c hx hb hml hts hown hpre Q RET ls hl
  have hown : s.vm.findClass RX2 = some m.cls := hown
  have hl : lv_has ls 3 [(0, .ref (q 0)), (1, .int x1)] := hl
  obtain ⟨hP, hK⟩ := hpre
  have hS : va_S (adQ 20 q) s.heap s.heap [] := va_S.rf
  have hiX2 : ∀ w ∈ wsX20, w ∈ wsX2_hold := by decide +kernel
  have hf23 := hts (.fieldLink RX2 23 "PalletGramModel" "isGone" "[Z") (by decide +kernel)
  have hf16 := hts (.fieldLink RX2 16 "PalletGramModel" "many" "[I") (by decide +kernel)
  have hf19 := hts (.fieldLink RX2 19 "PalletGramModel" "isHeld" "[Z") (by decide +kernel)
  have hn : mN σ ≤ 14 := ok.1
  have hhol : ∀ P, mHol σ P < 6 := ok.2.1
  have hman : ∀ P, mMan σ P ≤ 30 := ok.2.2.1
  have hgor := ok.2.2.2.1
  have hwen := ok.2.2.2.2
  refine lv_aload_n hx hb dX2_hold_0 rfl (lv_at hl 0 rfl) ?_
  refine lv_iload_n hx hb dX2_hold_1 rfl (lv_at hl 1 rfl) ?_
  refine r_callE (x := bI (inB x1 0 (nI (mN σ) - 1))) (va_runV (As := [.int x1]) (rest := []) ⟨hx, hb, hml, hown, hts⟩ (c_X2_isPallet l D cI cZ q σ x1) (cwV 1 hts gX2_hold_X2_isPallet rfl rfl rfl kd_X2_isPallet ⟨Nat.le_of_ble_eq_true rfl, Nat.le_of_ble_eq_true rfl⟩) (pV_M hP hK) rfl rfl hl.1 rfl (lv_room (Nat.le_of_ble_eq_true rfl)) dX2_hold_2 ⟨Nat.le_of_ble_eq_true rfl, Nat.le_of_ble_eq_true rfl⟩) ?_
  refine lv_istore_n (lv' := [(2, .int (bI (inB x1 0 (nI (mN σ) - 1)))), (0, .ref (q 0)), (1, .int x1)]) hx hb dX2_hold_5 rfl hl (by decide) rfl (fun ls hl => ?_)
  refine lv_aload_n hx hb dX2_hold_6 rfl (lv_at hl 1 rfl) ?_
  refine lv_iload_n hx hb dX2_hold_7 rfl (lv_at hl 0 rfl) ?_
  refine neB (inB x1 0 (nI (mN σ) - 1)) (tgt := 15) hx hb rfl dX2_hold_8 (by decide) (fun c_1 => ?_) (fun c_1 => ?_)
  · skip
    obtain ⟨P, hP9, rfl⟩ := inB_pal (by omega) c_1
    have hcP : (nI P).toNatClampNeg = P := nI_clamp (by omega)
    refine lv_aload_n hx hb dX2_hold_15 rfl (lv_at hl 1 rfl) ?_
    refine gf_2_5 hx hb hts hiX2 hown hK hP hf23 dX2_hold_16 ?_
    refine lv_iload_n hx hb dX2_hold_19 rfl (lv_at hl 2 rfl) ?_
    refine mld_5 (k := P) (v := ((mGon σ)) P) hx hb hK hP rfl (by omega) rfl dX2_hold_20 ?_
    refine neB (((mGon σ)) P) (tgt := 35) hx hb rfl dX2_hold_21 (by decide) (fun c_2 => ?_) (fun c_2 => ?_)
    · skip
      refine lv_iconst (v := 2) hx hb dX2_hold_35 (by decide) ?_
      refine lv_goto (tgt := 40) hx hb dX2_hold_36 (by decide) ?_
      refine w_call (va_runV (As := [.int 2]) (rest := []) ⟨hx, hb, hml, hown, hts⟩ (c_X2_holds l D cI cZ q σ hq 2) (cwV 1 hts gX2_hold_X2_holds rfl rfl rfl kd_X2_holds ⟨Nat.le_of_ble_eq_true rfl, Nat.le_of_ble_eq_true rfl⟩) (pV_M hP hK) rfl rfl hl.1 rfl (lv_room (Nat.le_of_ble_eq_true rfl)) dX2_hold_40 ⟨Nat.le_of_ble_eq_true rfl, Nat.le_of_ble_eq_true rfl⟩) hS (fun _ h => h) (fun v_3 H locs hv_3 _ _ hS => ?_)
      obtain ⟨rfl, hP⟩ := hv_3
      have hP : va_P D vwCl (wM cI cZ q (msThr σ 2)) H := hP
      refine neB false (tgt := 48) hx hb rfl dX2_hold_43 (by decide) (fun c_4 => ?_) (fun c_4 => ?_)
      · exact absurd c_4 (by decide)
      refine lv_iconst (v := 0) hx hb dX2_hold_46 (by decide) ?_
      exact RET (false) _ _ _ _ (by have hs : mHold σ (nI P) = (false, (msThr σ 2)) := (by simp [mHold, palM, pN, thr_1, thr_2, thr_3, thr_4, thr_5, thr_6, thr_7, thr_8, mThr, mHol, mGoo, mMan, mHel, mGon, mN, mWen, mGor, mKin, mMak, mGod, mAmo, mOth, mIts, mWas, mPrf, mCop, mDec, mFee, mOwe, mTol, msThr, msHol, msGoo, msMan, msHel, msGon, msN, msWen, msGor, msKin, msMak, msGod, msAmo, msOth, msIts, msWas, msPrf, msCop, msDec, msFee, msOwe, msTol, bI_t, bI_f, bI_inj, mwF_goo, mwF_hel, va_up_self, mHold1, c_1, c_2, hcP] <;> decide); rw [hs]; exact ⟨rfl, hP⟩) hS dX2_hold_47
    · skip
      have h9 := hman P
      refine lv_aload_n hx hb dX2_hold_24 rfl (lv_at hl 1 rfl) ?_
      refine gf_2_3 hx hb hts hiX2 hown hK hP hf16 dX2_hold_25 ?_
      refine lv_iload_n hx hb dX2_hold_28 rfl (lv_at hl 2 rfl) ?_
      refine mld_3 (k := P) (v := ((mMan σ)) P) hx hb hK hP rfl (by omega) rfl dX2_hold_29 ?_
      refine lv_bipush (v := 30) hx hb dX2_hold_30 (by decide) ?_
      refine neN (((mMan σ)) P) 30 (tgt := 39) hx hb rfl rfl (by omega) (by omega) dX2_hold_32 (by decide) (fun c_5 => ?_) (fun c_5 => ?_)
      · skip
        refine lv_iconst (v := 0) hx hb dX2_hold_39 (by decide) ?_
        refine w_call (va_runV (As := [.int 0]) (rest := []) ⟨hx, hb, hml, hown, hts⟩ (c_X2_holds l D cI cZ q σ hq 0) (cwV 1 hts gX2_hold_X2_holds rfl rfl rfl kd_X2_holds ⟨Nat.le_of_ble_eq_true rfl, Nat.le_of_ble_eq_true rfl⟩) (pV_M hP hK) rfl rfl hl.1 rfl (lv_room (Nat.le_of_ble_eq_true rfl)) dX2_hold_40 ⟨Nat.le_of_ble_eq_true rfl, Nat.le_of_ble_eq_true rfl⟩) hS (fun _ h => h) (fun v_6 H locs hv_6 _ _ hS => ?_)
        obtain ⟨rfl, hP⟩ := hv_6
        have hP : va_P D vwCl (wM cI cZ q (msThr σ 0)) H := hP
        refine neB true (tgt := 48) hx hb rfl dX2_hold_43 (by decide) (fun c_7 => ?_) (fun c_7 => ?_)
        rotate_left
        · exact absurd c_7 (by decide)
        have h9 := hman P
        have hE9 : mMan σ P < 30 := by omega
        have hK9 := hdK_lt (mHel σ P)
        refine lv_aload_n hx hb dX2_hold_48 rfl (lv_at hl 1 rfl) ?_
        refine gf_2_4 hx hb hts hiX2 hown hK hP hf19 dX2_hold_49 ?_
        refine lv_iload_n hx hb dX2_hold_52 rfl (lv_at hl 2 rfl) ?_
        refine lv_aload_n hx hb dX2_hold_53 rfl (lv_at hl 1 rfl) ?_
        refine gf_2_4 hx hb hts hiX2 hown hK hP hf19 dX2_hold_54 ?_
        refine lv_iload_n hx hb dX2_hold_57 rfl (lv_at hl 2 rfl) ?_
        refine mld_4 (k := P) (v := ((mHel σ)) P) hx hb hK hP rfl (by omega) rfl dX2_hold_58 ?_
        refine neB (((mHel σ)) P) (tgt := 66) hx hb rfl dX2_hold_59 (by decide) (fun c_8 => ?_) (fun c_8 => ?_)
        · skip
          refine lv_iconst (v := 0) hx hb dX2_hold_66 (by decide) ?_
          refine mst_4 (k := P) (x := false) hx hb hK hP hq hS rfl (by omega) dX2_hold_67 (fun hel_9 e_hel_9 H locs hP hS => ?_)
          have hP : va_P D vwCl (wM cI cZ q (msHel (msThr σ 0) hel_9)) H := hP
          refine lv_aload_n hx hb dX2_hold_68 rfl (lv_at hl 1 rfl) ?_
          refine lv_iload_n hx hb dX2_hold_69 rfl (lv_at hl 2 rfl) ?_
          refine cutI (x := nI (hdK (mHel σ P))) (pcM := 86) (st := [.int (nI (P)), .ref (q 0)]) ?_ (fun J => ?_)
          rotate_left
          · skip
            refine lv_aload_n hx hb dX2_hold_70 rfl (lv_at hl 1 rfl) ?_
            refine gf_2_4 hx hb hts hiX2 hown hK hP hf19 dX2_hold_71 ?_
            refine lv_iload_n hx hb dX2_hold_74 rfl (lv_at hl 2 rfl) ?_
            refine mld_4 (k := P) (v := hel_9 P) hx hb hK hP rfl (by omega) rfl dX2_hold_75 ?_
            refine eqB (hel_9 P) (tgt := 84) hx hb rfl dX2_hold_76 (by decide) (fun c_10 => ?_) (fun c_10 => ?_)
            · skip
              refine lv_bipush (v := 9) hx hb dX2_hold_84 (by decide) ?_
              exact J _ (congrArg nI (by first | (simp [hdK, c_8]; done) | (exfalso; revert c_10; simp [e_hel_9, va_up_self])))
            · skip
              refine lv_bipush (v := 8) hx hb dX2_hold_79 (by decide) ?_
              refine lv_goto (tgt := 86) hx hb dX2_hold_81 (by decide) ?_
              exact J _ (congrArg nI (by first | (simp [hdK, c_8]; done) | (exfalso; revert c_10; simp [e_hel_9, va_up_self])))
          refine lv_iconst (v := 0) hx hb dX2_hold_86 (by decide) ?_
          refine lv_iconst (v := 0) hx hb dX2_hold_87 (by decide) ?_
          refine lv_iconst (v := 0) hx hb dX2_hold_88 (by decide) ?_
          refine lv_iconst (v := 0) hx hb dX2_hold_89 (by decide) ?_
          refine w_call (va_runV (As := [.int (nI (P)), .int (nI (hdK (mHel σ P))), .int 0, .int 0, .int 0, .int 0]) (rest := []) ⟨hx, hb, hml, hown, hts⟩ (c_X2_writes l D cI cZ q (msHel (msThr σ 0) hel_9) hq P (hdK (mHel σ P)) 0 0 0 0 (by omega) (by omega) hhol (show mMan σ P < 30 from hE9)) (cwV 6 hts gX2_hold_X2_writes rfl rfl rfl kd_X2_writes ⟨Nat.le_of_ble_eq_true rfl, Nat.le_of_ble_eq_true rfl⟩) (pV_M hP hK) rfl rfl hl.1 rfl (lv_room (Nat.le_of_ble_eq_true rfl)) dX2_hold_90 ⟨Nat.le_of_ble_eq_true rfl, Nat.le_of_ble_eq_true rfl⟩) hS (fun _ h => h) (fun v_11 H locs hv_11 _ _ hS => ?_)
          obtain ⟨rfl, hP⟩ := hv_11
          obtain ⟨σ12, eσ12⟩ : ∃ z : SM, z = mwF (msHel (msThr σ 0) hel_9) P (hdK (mHel σ P)) 0 0 0 0 := ⟨_, rfl⟩
          rw [← eσ12] at hP
          refine lv_aload_n hx hb dX2_hold_93 rfl (lv_at hl 1 rfl) ?_
          refine gf_2_4 hx hb hts hiX2 hown hK hP hf19 dX2_hold_94 ?_
          refine lv_iload_n hx hb dX2_hold_97 rfl (lv_at hl 2 rfl) ?_
          refine mld_4 (k := P) (v := ((mHel σ12)) P) hx hb hK hP rfl (by omega) rfl dX2_hold_98 ?_
          exact RET (((mHel σ12)) P) _ _ _ _ (by have hs : mHold σ (nI P) = (((mHel σ12)) P, σ12) := (by simp [mHold, palM, pN, thr_1, thr_2, thr_3, thr_4, thr_5, thr_6, thr_7, thr_8, mThr, mHol, mGoo, mMan, mHel, mGon, mN, mWen, mGor, mKin, mMak, mGod, mAmo, mOth, mIts, mWas, mPrf, mCop, mDec, mFee, mOwe, mTol, msThr, msHol, msGoo, msMan, msHel, msGon, msN, msWen, msGor, msKin, msMak, msGod, msAmo, msOth, msIts, msWas, msPrf, msCop, msDec, msFee, msOwe, msTol, bI_t, bI_f, bI_inj, mwF_goo, mwF_hel, va_up_self, mHold1, c_1, c_2, c_5, c_8, hcP, e_hel_9, eσ12] <;> decide); rw [hs]; exact ⟨rfl, hP⟩) hS dX2_hold_99
        · skip
          refine lv_iconst (v := 1) hx hb dX2_hold_62 (by decide) ?_
          refine lv_goto (tgt := 67) hx hb dX2_hold_63 (by decide) ?_
          refine mst_4 (k := P) (x := true) hx hb hK hP hq hS rfl (by omega) dX2_hold_67 (fun hel_13 e_hel_13 H locs hP hS => ?_)
          have hP : va_P D vwCl (wM cI cZ q (msHel (msThr σ 0) hel_13)) H := hP
          refine lv_aload_n hx hb dX2_hold_68 rfl (lv_at hl 1 rfl) ?_
          refine lv_iload_n hx hb dX2_hold_69 rfl (lv_at hl 2 rfl) ?_
          refine cutI (x := nI (hdK (mHel σ P))) (pcM := 86) (st := [.int (nI (P)), .ref (q 0)]) ?_ (fun J => ?_)
          rotate_left
          · skip
            refine lv_aload_n hx hb dX2_hold_70 rfl (lv_at hl 1 rfl) ?_
            refine gf_2_4 hx hb hts hiX2 hown hK hP hf19 dX2_hold_71 ?_
            refine lv_iload_n hx hb dX2_hold_74 rfl (lv_at hl 2 rfl) ?_
            refine mld_4 (k := P) (v := hel_13 P) hx hb hK hP rfl (by omega) rfl dX2_hold_75 ?_
            refine eqB (hel_13 P) (tgt := 84) hx hb rfl dX2_hold_76 (by decide) (fun c_14 => ?_) (fun c_14 => ?_)
            · skip
              refine lv_bipush (v := 9) hx hb dX2_hold_84 (by decide) ?_
              exact J _ (congrArg nI (by first | (simp [hdK, c_8]; done) | (exfalso; revert c_14; simp [e_hel_13, va_up_self])))
            · skip
              refine lv_bipush (v := 8) hx hb dX2_hold_79 (by decide) ?_
              refine lv_goto (tgt := 86) hx hb dX2_hold_81 (by decide) ?_
              exact J _ (congrArg nI (by first | (simp [hdK, c_8]; done) | (exfalso; revert c_14; simp [e_hel_13, va_up_self])))
          refine lv_iconst (v := 0) hx hb dX2_hold_86 (by decide) ?_
          refine lv_iconst (v := 0) hx hb dX2_hold_87 (by decide) ?_
          refine lv_iconst (v := 0) hx hb dX2_hold_88 (by decide) ?_
          refine lv_iconst (v := 0) hx hb dX2_hold_89 (by decide) ?_
          refine w_call (va_runV (As := [.int (nI (P)), .int (nI (hdK (mHel σ P))), .int 0, .int 0, .int 0, .int 0]) (rest := []) ⟨hx, hb, hml, hown, hts⟩ (c_X2_writes l D cI cZ q (msHel (msThr σ 0) hel_13) hq P (hdK (mHel σ P)) 0 0 0 0 (by omega) (by omega) hhol (show mMan σ P < 30 from hE9)) (cwV 6 hts gX2_hold_X2_writes rfl rfl rfl kd_X2_writes ⟨Nat.le_of_ble_eq_true rfl, Nat.le_of_ble_eq_true rfl⟩) (pV_M hP hK) rfl rfl hl.1 rfl (lv_room (Nat.le_of_ble_eq_true rfl)) dX2_hold_90 ⟨Nat.le_of_ble_eq_true rfl, Nat.le_of_ble_eq_true rfl⟩) hS (fun _ h => h) (fun v_15 H locs hv_15 _ _ hS => ?_)
          obtain ⟨rfl, hP⟩ := hv_15
          obtain ⟨σ16, eσ16⟩ : ∃ z : SM, z = mwF (msHel (msThr σ 0) hel_13) P (hdK (mHel σ P)) 0 0 0 0 := ⟨_, rfl⟩
          rw [← eσ16] at hP
          refine lv_aload_n hx hb dX2_hold_93 rfl (lv_at hl 1 rfl) ?_
          refine gf_2_4 hx hb hts hiX2 hown hK hP hf19 dX2_hold_94 ?_
          refine lv_iload_n hx hb dX2_hold_97 rfl (lv_at hl 2 rfl) ?_
          refine mld_4 (k := P) (v := ((mHel σ16)) P) hx hb hK hP rfl (by omega) rfl dX2_hold_98 ?_
          exact RET (((mHel σ16)) P) _ _ _ _ (by have hs : mHold σ (nI P) = (((mHel σ16)) P, σ16) := (by simp [mHold, palM, pN, thr_1, thr_2, thr_3, thr_4, thr_5, thr_6, thr_7, thr_8, mThr, mHol, mGoo, mMan, mHel, mGon, mN, mWen, mGor, mKin, mMak, mGod, mAmo, mOth, mIts, mWas, mPrf, mCop, mDec, mFee, mOwe, mTol, msThr, msHol, msGoo, msMan, msHel, msGon, msN, msWen, msGor, msKin, msMak, msGod, msAmo, msOth, msIts, msWas, msPrf, msCop, msDec, msFee, msOwe, msTol, bI_t, bI_f, bI_inj, mwF_goo, mwF_hel, va_up_self, mHold1, c_1, c_2, c_5, c_8, hcP, e_hel_13, eσ16] <;> decide); rw [hs]; exact ⟨rfl, hP⟩) hS dX2_hold_99
      · skip
        refine lv_iconst (v := 2) hx hb dX2_hold_35 (by decide) ?_
        refine lv_goto (tgt := 40) hx hb dX2_hold_36 (by decide) ?_
        refine w_call (va_runV (As := [.int 2]) (rest := []) ⟨hx, hb, hml, hown, hts⟩ (c_X2_holds l D cI cZ q σ hq 2) (cwV 1 hts gX2_hold_X2_holds rfl rfl rfl kd_X2_holds ⟨Nat.le_of_ble_eq_true rfl, Nat.le_of_ble_eq_true rfl⟩) (pV_M hP hK) rfl rfl hl.1 rfl (lv_room (Nat.le_of_ble_eq_true rfl)) dX2_hold_40 ⟨Nat.le_of_ble_eq_true rfl, Nat.le_of_ble_eq_true rfl⟩) hS (fun _ h => h) (fun v_17 H locs hv_17 _ _ hS => ?_)
        obtain ⟨rfl, hP⟩ := hv_17
        have hP : va_P D vwCl (wM cI cZ q (msThr σ 2)) H := hP
        refine neB false (tgt := 48) hx hb rfl dX2_hold_43 (by decide) (fun c_18 => ?_) (fun c_18 => ?_)
        · exact absurd c_18 (by decide)
        refine lv_iconst (v := 0) hx hb dX2_hold_46 (by decide) ?_
        exact RET (false) _ _ _ _ (by have hs : mHold σ (nI P) = (false, (msThr σ 2)) := (by simp [mHold, palM, pN, thr_1, thr_2, thr_3, thr_4, thr_5, thr_6, thr_7, thr_8, mThr, mHol, mGoo, mMan, mHel, mGon, mN, mWen, mGor, mKin, mMak, mGod, mAmo, mOth, mIts, mWas, mPrf, mCop, mDec, mFee, mOwe, mTol, msThr, msHol, msGoo, msMan, msHel, msGon, msN, msWen, msGor, msKin, msMak, msGod, msAmo, msOth, msIts, msWas, msPrf, msCop, msDec, msFee, msOwe, msTol, bI_t, bI_f, bI_inj, mwF_goo, mwF_hel, va_up_self, mHold1, c_1, c_2, c_5, hcP] <;> decide); rw [hs]; exact ⟨rfl, hP⟩) hS dX2_hold_47
  · skip
    refine lv_iconst (v := 1) hx hb dX2_hold_11 (by decide) ?_
    refine lv_goto (tgt := 40) hx hb dX2_hold_12 (by decide) ?_
    refine w_call (va_runV (As := [.int 1]) (rest := []) ⟨hx, hb, hml, hown, hts⟩ (c_X2_holds l D cI cZ q σ hq 1) (cwV 1 hts gX2_hold_X2_holds rfl rfl rfl kd_X2_holds ⟨Nat.le_of_ble_eq_true rfl, Nat.le_of_ble_eq_true rfl⟩) (pV_M hP hK) rfl rfl hl.1 rfl (lv_room (Nat.le_of_ble_eq_true rfl)) dX2_hold_40 ⟨Nat.le_of_ble_eq_true rfl, Nat.le_of_ble_eq_true rfl⟩) hS (fun _ h => h) (fun v_19 H locs hv_19 _ _ hS => ?_)
    obtain ⟨rfl, hP⟩ := hv_19
    have hP : va_P D vwCl (wM cI cZ q (msThr σ 1)) H := hP
    refine neB false (tgt := 48) hx hb rfl dX2_hold_43 (by decide) (fun c_20 => ?_) (fun c_20 => ?_)
    · exact absurd c_20 (by decide)
    refine lv_iconst (v := 0) hx hb dX2_hold_46 (by decide) ?_
    exact RET (false) _ _ _ _ (by have hs : mHold σ x1 = (false, (msThr σ 1)) := (by simp [mHold, palM, pN, thr_1, thr_2, thr_3, thr_4, thr_5, thr_6, thr_7, thr_8, mThr, mHol, mGoo, mMan, mHel, mGon, mN, mWen, mGor, mKin, mMak, mGod, mAmo, mOth, mIts, mWas, mPrf, mCop, mDec, mFee, mOwe, mTol, msThr, msHol, msGoo, msMan, msHel, msGon, msN, msWen, msGor, msKin, msMak, msGod, msAmo, msOth, msIts, msWas, msPrf, msCop, msDec, msFee, msOwe, msTol, bI_t, bI_f, bI_inj, mwF_goo, mwF_hel, va_up_self, mHold1, c_1] <;> decide); rw [hs]; exact ⟨rfl, hP⟩) hS dX2_hold_47
theorem kn_X2_lose : yX2_lose.cls ≠ "java/lang/invoke/MethodHandle" ∧ yX2_lose.cls ≠ "java/lang/invoke/VarHandle" ∧ (parseMethodDescriptor yX2_lose.desc).map (fun d => d.parameters.length) = some 1 := by decide +kernel
theorem kd_X2_lose : yX2_lose.cls = RX2 ∧ yX2_lose.cls ≠ "java/lang/invoke/MethodHandle" ∧ yX2_lose.cls ≠ "java/lang/invoke/VarHandle" ∧ (parseMethodDescriptor yX2_lose.desc).map (fun d => d.parameters.length) = some 1 := by decide +kernel
set_option maxHeartbeats 4000000 in
set_option maxRecDepth 100000 in
theorem c_X2_lose (l : Launch) (D : va_G) (cI cZ : ClassId) (q : Nat → Nat) (σ : SM) (hq : ijQ 20 q) (x1 : Int32) (ok : okM σ) (hoth : othM σ) (hz : ∀ P, mN σ ≤ P → mMan σ P = 0) (hg14 : ∀ P O, cjF σ P O = true → mGor σ < 14) (hc7 : ∀ r i, 7 ≤ i → i < 32 → bt (mCop σ r) i = false) : Met l yX2_lose wsX2_lose ({ frames := 1, cells := 0, slots := 0, locals := 22 }) (va_Pc [.ref (q 0), .int x1] (PM D cI cZ q σ)) (wQ (adQ 20 q) (fun v H1 => v = some (.int (mLose σ x1).1) ∧ va_P D vwCl (wM cI cZ q (mLose σ x1).2) H1)) 0 0 (adQ 20 q) := by
  refine openW (cc := cX2_lose) (maxL := 4) (by decide) rfl (Nat.le_of_ble_eq_true rfl) ?_
  intro p e s m args below meth c hx hb hml hts hown hpre Q RET ls hl
  have hown : s.vm.findClass RX2 = some m.cls := hown
  have hl : lv_has ls 4 [(0, .ref (q 0)), (1, .int x1)] := hl
  obtain ⟨hP, hK⟩ := hpre
  have hS : va_S (adQ 20 q) s.heap s.heap [] := va_S.rf
  have hiX2 : ∀ w ∈ wsX20, w ∈ wsX2_lose := by decide +kernel
  have hf72 := hts (.fieldLink RX2 72 "PalletGramModel" "pallets" "I") (by decide +kernel)
  have hf53 := hts (.fieldLink RX2 53 "PalletGramModel" "copies" "[I") (by decide +kernel)
  have hn : mN σ ≤ 14 := ok.1
  have hhol : ∀ P, mHol σ P < 6 := ok.2.1
  have hman : ∀ P, mMan σ P ≤ 30 := ok.2.2.1
  have hgor := ok.2.2.2.1
  have hwen := ok.2.2.2.2
  refine lv_aload_n hx hb dX2_lose_0 rfl (lv_at hl 0 rfl) ?_
  refine lv_iload_n hx hb dX2_lose_1 rfl (lv_at hl 1 rfl) ?_
  refine lv_iconst (v := 0) hx hb dX2_lose_2 (by decide) ?_
  refine lv_bipush (v := 6) hx hb dX2_lose_3 (by decide) ?_
  refine r_callE (x := bI (inB x1 0 6)) (va_runS (As := [.int x1, .int 0, .int 6]) (rest := [.ref (q 0)]) ⟨hx, hb, hml, hown, hts⟩ (c_X2_isIn l x1 0 6) (va_cwS 3 hts gX2_lose_X2_isIn rfl rfl rfl kn_X2_isIn ⟨Nat.le_of_ble_eq_true rfl, Nat.le_of_ble_eq_true rfl⟩) (pS_T) rfl rfl hl.1 rfl (lv_room (Nat.le_of_ble_eq_true rfl)) dX2_lose_5 ⟨Nat.le_of_ble_eq_true rfl, Nat.le_of_ble_eq_true rfl⟩) ?_
  refine eqB (inB x1 0 6) (tgt := 15) hx hb rfl dX2_lose_8 (by decide) (fun c_1 => ?_) (fun c_1 => ?_)
  · skip
    refine lv_iconst (v := 1) hx hb dX2_lose_15 (by decide) ?_
    refine w_call (va_runV (As := [.int 1]) (rest := []) ⟨hx, hb, hml, hown, hts⟩ (c_X2_holds l D cI cZ q σ hq 1) (cwV 1 hts gX2_lose_X2_holds rfl rfl rfl kd_X2_holds ⟨Nat.le_of_ble_eq_true rfl, Nat.le_of_ble_eq_true rfl⟩) (pV_M hP hK) rfl rfl hl.1 rfl (lv_room (Nat.le_of_ble_eq_true rfl)) dX2_lose_16 ⟨Nat.le_of_ble_eq_true rfl, Nat.le_of_ble_eq_true rfl⟩) hS (fun _ h => h) (fun v_2 H locs hv_2 _ _ hS => ?_)
    obtain ⟨rfl, hP⟩ := hv_2
    have hP : va_P D vwCl (wM cI cZ q (msThr σ 1)) H := hP
    refine neB false (tgt := 24) hx hb rfl dX2_lose_19 (by decide) (fun c_3 => ?_) (fun c_3 => ?_)
    · exact absurd c_3 (by decide)
    refine lv_iconst (v := 0) hx hb dX2_lose_22 (by decide) ?_
    exact RET _ _ _ _ _ (by have hs : mLose σ x1 = (0, (msThr σ 1)) := (by simp [mLose, palM, pN, thr_1, thr_2, thr_3, thr_4, thr_5, thr_6, thr_7, thr_8, mThr, mHol, mGoo, mMan, mHel, mGon, mN, mWen, mGor, mKin, mMak, mGod, mAmo, mOth, mIts, mWas, mPrf, mCop, mDec, mFee, mOwe, mTol, msThr, msHol, msGoo, msMan, msHel, msGon, msN, msWen, msGor, msKin, msMak, msGod, msAmo, msOth, msIts, msWas, msPrf, msCop, msDec, msFee, msOwe, msTol, bI_t, bI_f, bI_inj, mwF_goo, mwF_hel, va_up_self, c_1] <;> decide); rw [hs]; exact ⟨rfl, hP⟩) hS dX2_lose_23
  · skip
    obtain ⟨W, hW8, hW9, rfl⟩ := inB_nat (lo := 0) (hi := 6) (by decide) (by decide) c_1
    have hcW : (nI W).toNatClampNeg = W := nI_clamp (by omega)
    refine lv_iconst (v := 0) hx hb dX2_lose_11 (by decide) ?_
    refine lv_goto (tgt := 16) hx hb dX2_lose_12 (by decide) ?_
    refine w_call (va_runV (As := [.int 0]) (rest := []) ⟨hx, hb, hml, hown, hts⟩ (c_X2_holds l D cI cZ q σ hq 0) (cwV 1 hts gX2_lose_X2_holds rfl rfl rfl kd_X2_holds ⟨Nat.le_of_ble_eq_true rfl, Nat.le_of_ble_eq_true rfl⟩) (pV_M hP hK) rfl rfl hl.1 rfl (lv_room (Nat.le_of_ble_eq_true rfl)) dX2_lose_16 ⟨Nat.le_of_ble_eq_true rfl, Nat.le_of_ble_eq_true rfl⟩) hS (fun _ h => h) (fun v_4 H locs hv_4 _ _ hS => ?_)
    obtain ⟨rfl, hP⟩ := hv_4
    have hP : va_P D vwCl (wM cI cZ q (msThr σ 0)) H := hP
    refine neB true (tgt := 24) hx hb rfl dX2_lose_19 (by decide) (fun c_5 => ?_) (fun c_5 => ?_)
    rotate_left
    · exact absurd c_5 (by decide)
    refine lv_iconst (v := 0) hx hb dX2_lose_24 (by decide) ?_
    refine lv_istore_n (lv' := [(2, .int 0), (0, .ref (q 0)), (1, .int (nI (W)))]) hx hb dX2_lose_25 rfl hl (by decide) rfl (fun ls hl => ?_)
    refine lv_iconst (v := 0) hx hb dX2_lose_26 (by decide) ?_
    refine lv_istore_n (lv' := [(3, .int 0), (2, .int 0), (0, .ref (q 0)), (1, .int (nI (W)))]) hx hb dX2_lose_27 rfl hl (by decide) rfl (fun ls hl => ?_)
    refine loopH (N := mN σ * 30) (k0 := 0) (fun k ls H locs => lv_has ls 4 [(0, .ref (q 0)), (1, .int (nI (W))), (2, .int ((lsS (nI W) (mCop σ) k).2)), (3, .int (nI (k)))] ∧ va_P D vwCl (wM cI cZ q (msCop (msThr σ 0) (lsS (nI W) (mCop σ) k).1)) H ∧ va_S (adQ 20 q) s.heap H locs) (Nat.zero_le _) ⟨lv_sub hl [2, 3, 1, 0] rfl, hP, hS⟩ (fun k ls H locs hk_k hI ih_k => ?_)
    obtain ⟨hl, hP, hS⟩ := hI
    refine lv_iload_n hx hb dX2_lose_28 rfl (lv_at hl 3 rfl) ?_
    refine lv_bipush (v := 30) hx hb dX2_lose_29 (by decide) ?_
    refine lv_aload_n hx hb dX2_lose_31 rfl (lv_at hl 0 rfl) ?_
    refine gf_2_6 hx hb hts hiX2 hown hK hP hf72 dX2_lose_32 ?_
    refine lv_topE (y := nI ((mN σ))) rfl ?_
    refine mulNc 30 ((mN σ)) hx hb rfl rfl dX2_lose_35 ?_
    refine geN k (((mN σ)) * 30) (tgt := 72) hx hb rfl rfl (by omega) (by omega) dX2_lose_36 (by decide) (fun c_6 => ?_) (fun c_6 => ?_)
    · skip
      have h9 : k = mN σ * 30 := by omega
      subst k
      refine lv_iload_n hx hb dX2_lose_72 rfl (lv_at hl 2 rfl) ?_
      exact RET _ _ _ _ _ (by have hs : mLose σ (nI W) = ((lsS (nI W) (mCop σ) (mN σ * 30)).2, (msCop (msThr σ 0) (lsS (nI W) (mCop σ) (mN σ * 30)).1)) := (by simp [mLose, palM, pN, thr_1, thr_2, thr_3, thr_4, thr_5, thr_6, thr_7, thr_8, mThr, mHol, mGoo, mMan, mHel, mGon, mN, mWen, mGor, mKin, mMak, mGod, mAmo, mOth, mIts, mWas, mPrf, mCop, mDec, mFee, mOwe, mTol, msThr, msHol, msGoo, msMan, msHel, msGon, msN, msWen, msGor, msKin, msMak, msGod, msAmo, msOth, msIts, msWas, msPrf, msCop, msDec, msFee, msOwe, msTol, bI_t, bI_f, bI_inj, mwF_goo, mwF_hel, va_up_self, c_1, c_6, hcW, Nat.not_lt.mpr c_6] <;> decide); rw [hs]; exact ⟨rfl, hP⟩) hS dX2_lose_73
    · skip
      refine lv_iload_n hx hb dX2_lose_39 rfl (lv_at hl 2 rfl) ?_
      refine lv_aload_n hx hb dX2_lose_40 rfl (lv_at hl 0 rfl) ?_
      refine gf_2_17 hx hb hts hiX2 hown hK hP hf53 dX2_lose_41 ?_
      refine lv_iload_n hx hb dX2_lose_44 rfl (lv_at hl 3 rfl) ?_
      refine mld_15 (k := k) (v := ((lsS (nI W) (mCop σ) k).1) k) hx hb hK hP rfl (by omega) rfl dX2_lose_45 ?_
      refine lv_iload_n hx hb dX2_lose_46 rfl (lv_at hl 1 rfl) ?_
      refine lv_ishr hx hb dX2_lose_47 ?_
      refine lv_iconst (v := 1) hx hb dX2_lose_48 (by decide) ?_
      refine lv_iand hx hb dX2_lose_49 ?_
      refine lv_iadd hx hb dX2_lose_50 ?_
      refine lv_istore_n (lv' := [(2, .int (((lsS (nI W) (mCop σ) k).2 + (((((lsS (nI W) (mCop σ) k).1) k) >>> (nI (W) &&& 31)) &&& 1)))), (0, .ref (q 0)), (1, .int (nI (W))), (3, .int (nI (k)))]) hx hb dX2_lose_51 rfl hl (by decide) rfl (fun ls hl => ?_)
      refine lv_aload_n hx hb dX2_lose_52 rfl (lv_at hl 1 rfl) ?_
      refine gf_2_17 hx hb hts hiX2 hown hK hP hf53 dX2_lose_53 ?_
      refine lv_iload_n hx hb dX2_lose_56 rfl (lv_at hl 3 rfl) ?_
      refine lv_dup2_11 hx hb dX2_lose_57 rfl rfl ?_
      refine mld_15 (k := k) (v := ((lsS (nI W) (mCop σ) k).1) k) hx hb hK hP rfl (by omega) rfl dX2_lose_58 ?_
      refine lv_iconst (v := 1) hx hb dX2_lose_59 (by decide) ?_
      refine lv_iload_n hx hb dX2_lose_60 rfl (lv_at hl 2 rfl) ?_
      refine lv_ishl hx hb dX2_lose_61 ?_
      refine lv_iconst (v := (-1)) hx hb dX2_lose_62 (by decide) ?_
      refine lv_ixor hx hb dX2_lose_63 ?_
      refine lv_iand hx hb dX2_lose_64 ?_
      refine mst_15 (k := k) (x := ((((lsS (nI W) (mCop σ) k).1) k) &&& ((1 <<< (nI (W) &&& 31)) ^^^ (-1)))) hx hb hK hP hq hS rfl (by omega) dX2_lose_65 (fun cop_7 e_cop_7 H locs hP hS => ?_)
      rw [mm_Cop] at hP
      have hP : va_P D vwCl (wM cI cZ q (msCop (msThr σ 0) cop_7)) H := hP
      refine lv_iinc (v := nI (k + 1)) (lv' := [(3, .int (nI (k + 1))), (2, .int (((lsS (nI W) (mCop σ) k).2 + (((((lsS (nI W) (mCop σ) k).1) k) >>> (nI (W) &&& 31)) &&& 1)))), (0, .ref (q 0)), (1, .int (nI (W)))]) hx hb dX2_lose_66 hl (k := 3) rfl (iincN (k)) (by decide) rfl (fun ls hl => ?_)
      refine lv_goto (tgt := 28) hx hb dX2_lose_69 (by decide) ?_
      rw [show cop_7 = (lsS (nI W) (mCop σ) (k + 1)).1 from by simp [lsS, c_1, c_6, hcW, e_cop_7, mThr, mHol, mGoo, mMan, mHel, mGon, mN, mWen, mGor, mKin, mMak, mGod, mAmo, mOth, mIts, mWas, mPrf, mCop, mDec, mFee, mOwe, mTol]] at hP
      exact ih_k (by omega) _ _ _ ⟨lv_sub hl [2, 3, 1, 0] rfl, hP, hS⟩
theorem kn_X2_repair : yX2_repair.cls ≠ "java/lang/invoke/MethodHandle" ∧ yX2_repair.cls ≠ "java/lang/invoke/VarHandle" ∧ (parseMethodDescriptor yX2_repair.desc).map (fun d => d.parameters.length) = some 2 := by decide +kernel
theorem kd_X2_repair : yX2_repair.cls = RX2 ∧ yX2_repair.cls ≠ "java/lang/invoke/MethodHandle" ∧ yX2_repair.cls ≠ "java/lang/invoke/VarHandle" ∧ (parseMethodDescriptor yX2_repair.desc).map (fun d => d.parameters.length) = some 2 := by decide +kernel
set_option maxHeartbeats 4000000 in
set_option maxRecDepth 100000 in
theorem c_X2_repair (l : Launch) (D : va_G) (cI cZ : ClassId) (q : Nat → Nat) (σ : SM) (hq : ijQ 20 q) (x1 x2 : Int32) (ok : okM σ) (hoth : othM σ) (hz : ∀ P, mN σ ≤ P → mMan σ P = 0) (hg14 : ∀ P O, cjF σ P O = true → mGor σ < 14) (hc7 : ∀ r i, 7 ≤ i → i < 32 → bt (mCop σ r) i = false) : Met l yX2_repair wsX2_repair ({ frames := 3, cells := 0, slots := 0, locals := 65 }) (va_Pc [.ref (q 0), .int x1, .int x2] (PM D cI cZ q σ)) (wQ (adQ 20 q) (fun v H1 => v = some (.int (mRepair σ x1 x2).1) ∧ va_P D vwCl (wM cI cZ q (mRepair σ x1 x2).2) H1)) 0 0 (adQ 20 q) := by
  refine openW (cc := cX2_repair) (maxL := 6) (by decide) rfl (Nat.le_of_ble_eq_true rfl) ?_
  intro p e s m args below meth c hx hb hml hts hown hpre Q RET ls hl
  have hown : s.vm.findClass RX2 = some m.cls := hown
  have hl : lv_has ls 6 [(0, .ref (q 0)), (1, .int x1), (2, .int x2)] := hl
  obtain ⟨hP, hK⟩ := hpre
  have hS : va_S (adQ 20 q) s.heap s.heap [] := va_S.rf
  have hiX2 : ∀ w ∈ wsX20, w ∈ wsX2_repair := by decide +kernel
  have hf53 := hts (.fieldLink RX2 53 "PalletGramModel" "copies" "[I") (by decide +kernel)
  have hf38 := hts (.fieldLink RX2 38 "PalletGramModel" "amount" "[I") (by decide +kernel)
  have hf47 := hts (.fieldLink RX2 47 "PalletGramModel" "was" "[I") (by decide +kernel)
  have hf62 := hts (.fieldLink RX2 62 "PalletGramModel" "owed" "[I") (by decide +kernel)
  have hf7 := hts (.fieldLink RX2 7 "PalletGramModel" "holder" "[I") (by decide +kernel)
  have hn : mN σ ≤ 14 := ok.1
  have hhol : ∀ P, mHol σ P < 6 := ok.2.1
  have hman : ∀ P, mMan σ P ≤ 30 := ok.2.2.1
  have hgor := ok.2.2.2.1
  have hwen := ok.2.2.2.2
  refine lv_aload_n hx hb dX2_repair_0 rfl (lv_at hl 0 rfl) ?_
  refine lv_iload_n hx hb dX2_repair_1 rfl (lv_at hl 1 rfl) ?_
  refine lv_iload_n hx hb dX2_repair_2 rfl (lv_at hl 2 rfl) ?_
  refine r_callE (x := bI (entB σ x1 x2)) (va_runV (As := [.int x1, .int x2]) (rest := []) ⟨hx, hb, hml, hown, hts⟩ (c_X2_isEntry l D cI cZ q σ x1 x2 ⟨hn, hhol, hman, hgor, hwen⟩) (cwV 2 hts gX2_repair_X2_isEntry rfl rfl rfl kd_X2_isEntry ⟨Nat.le_of_ble_eq_true rfl, Nat.le_of_ble_eq_true rfl⟩) (pV_M hP hK) rfl rfl hl.1 rfl (lv_room (Nat.le_of_ble_eq_true rfl)) dX2_repair_3 ⟨Nat.le_of_ble_eq_true rfl, Nat.le_of_ble_eq_true rfl⟩) ?_
  refine lv_istore_n (lv' := [(3, .int (bI (entB σ x1 x2))), (0, .ref (q 0)), (1, .int x1), (2, .int x2)]) hx hb dX2_repair_6 rfl hl (by decide) rfl (fun ls hl => ?_)
  refine lv_iload_n hx hb dX2_repair_7 rfl (lv_at hl 0 rfl) ?_
  refine eqB (entB σ x1 x2) (tgt := 20) hx hb rfl dX2_repair_8 (by decide) (fun c_1 => ?_) (fun c_1 => ?_)
  · skip
    refine lv_iconst (v := 0) hx hb dX2_repair_20 (by decide) ?_
    refine lv_istore (lv' := [(4, .int 0), (3, .int (bI (entB σ x1 x2))), (0, .ref (q 0)), (1, .int x1), (2, .int x2)]) hx hb dX2_repair_21 hl (by decide) rfl (fun ls hl => ?_)
    refine lv_aload_n hx hb dX2_repair_23 rfl (lv_at hl 2 rfl) ?_
    refine lv_iload_n hx hb dX2_repair_24 rfl (lv_at hl 1 rfl) ?_
    refine neB (entB σ x1 x2) (tgt := 32) hx hb rfl dX2_repair_25 (by decide) (fun c_2 => ?_) (fun c_2 => ?_)
    · exact absurd (c_1.symm.trans c_2) (by decide)
    refine lv_iconst (v := 1) hx hb dX2_repair_28 (by decide) ?_
    refine lv_goto (tgt := 56) hx hb dX2_repair_29 (by decide) ?_
    refine w_call (va_runV (As := [.int 1]) (rest := []) ⟨hx, hb, hml, hown, hts⟩ (c_X2_holds l D cI cZ q σ hq 1) (cwV 1 hts gX2_repair_X2_holds rfl rfl rfl kd_X2_holds ⟨Nat.le_of_ble_eq_true rfl, Nat.le_of_ble_eq_true rfl⟩) (pV_M hP hK) rfl rfl hl.1 rfl (lv_room (Nat.le_of_ble_eq_true rfl)) dX2_repair_56 ⟨Nat.le_of_ble_eq_true rfl, Nat.le_of_ble_eq_true rfl⟩) hS (fun _ h => h) (fun v_3 H locs hv_3 _ _ hS => ?_)
    obtain ⟨rfl, hP⟩ := hv_3
    have hP : va_P D vwCl (wM cI cZ q (msThr σ 1)) H := hP
    refine neB false (tgt := 64) hx hb rfl dX2_repair_59 (by decide) (fun c_4 => ?_) (fun c_4 => ?_)
    · exact absurd c_4 (by decide)
    refine lv_iconst (v := 0) hx hb dX2_repair_62 (by decide) ?_
    exact RET _ _ _ _ _ (by have hs : mRepair σ x1 x2 = (0, (msThr σ 1)) := (by simp [mRepair, palM, pN, thr_1, thr_2, thr_3, thr_4, thr_5, thr_6, thr_7, thr_8, mThr, mHol, mGoo, mMan, mHel, mGon, mN, mWen, mGor, mKin, mMak, mGod, mAmo, mOth, mIts, mWas, mPrf, mCop, mDec, mFee, mOwe, mTol, msThr, msHol, msGoo, msMan, msHel, msGon, msN, msWen, msGor, msKin, msMak, msGod, msAmo, msOth, msIts, msWas, msPrf, msCop, msDec, msFee, msOwe, msTol, bI_t, bI_f, bI_inj, mwF_goo, mwF_hel, va_up_self, mRep1, c_1] <;> decide); rw [hs]; exact ⟨rfl, hP⟩) hS dX2_repair_63
  · skip
    obtain ⟨P, hP9, rfl, E, hE9, rfl⟩ := ent_nat hn hman c_1
    have hcP : (nI P).toNatClampNeg = P := nI_clamp (by omega)
    have hm9 := hman P
    have hcE : (nI E).toNatClampNeg = E := nI_clamp (by omega)
    refine lv_bipush (v := 30) hx hb dX2_repair_11 (by decide) ?_
    refine lv_iload_n hx hb dX2_repair_13 rfl (lv_at hl 2 rfl) ?_
    refine mulNc 30 P hx hb rfl rfl dX2_repair_14 ?_
    refine lv_iload_n hx hb dX2_repair_15 rfl (lv_at hl 3 rfl) ?_
    refine addN (P * 30) E hx hb rfl rfl dX2_repair_16 ?_
    refine lv_goto (tgt := 21) hx hb dX2_repair_17 (by decide) ?_
    refine lv_istore (lv' := [(4, .int (nI ((P * 30) + E))), (3, .int (bI (entB σ (nI P) (nI E)))), (0, .ref (q 0)), (1, .int (nI (P))), (2, .int (nI (E)))]) hx hb dX2_repair_21 hl (by decide) rfl (fun ls hl => ?_)
    refine lv_aload_n hx hb dX2_repair_23 rfl (lv_at hl 2 rfl) ?_
    refine lv_iload_n hx hb dX2_repair_24 rfl (lv_at hl 1 rfl) ?_
    refine neB (entB σ (nI P) (nI E)) (tgt := 32) hx hb rfl dX2_repair_25 (by decide) (fun c_5 => ?_) (fun c_5 => ?_)
    rotate_left
    · exact absurd (c_1.symm.trans c_5) (by decide)
    refine lv_aload_n hx hb dX2_repair_32 rfl (lv_at hl 2 rfl) ?_
    refine lv_iload_n hx hb dX2_repair_33 rfl (lv_at hl 3 rfl) ?_
    refine lv_iload_n hx hb dX2_repair_34 rfl (lv_at hl 4 rfl) ?_
    refine r_callE (x := bI (mbB σ P E)) (va_runV (As := [.int (nI (P)), .int (nI (E))]) (rest := [.ref (q 0)]) ⟨hx, hb, hml, hown, hts⟩ (c_X2_isBroken l D cI cZ q σ P E (by omega) (by omega)) (cwV 2 hts gX2_repair_X2_isBroken rfl rfl rfl kd_X2_isBroken ⟨Nat.le_of_ble_eq_true rfl, Nat.le_of_ble_eq_true rfl⟩) (pV_M hP hK) rfl rfl hl.1 rfl (lv_room (Nat.le_of_ble_eq_true rfl)) dX2_repair_35 ⟨Nat.le_of_ble_eq_true rfl, Nat.le_of_ble_eq_true rfl⟩) ?_
    refine eqB (mbB σ P E) (tgt := 51) hx hb rfl dX2_repair_38 (by decide) (fun c_6 => ?_) (fun c_6 => ?_)
    · skip
      refine lv_iconst (v := 2) hx hb dX2_repair_51 (by decide) ?_
      refine lv_goto (tgt := 56) hx hb dX2_repair_52 (by decide) ?_
      refine w_call (va_runV (As := [.int 2]) (rest := []) ⟨hx, hb, hml, hown, hts⟩ (c_X2_holds l D cI cZ q σ hq 2) (cwV 1 hts gX2_repair_X2_holds rfl rfl rfl kd_X2_holds ⟨Nat.le_of_ble_eq_true rfl, Nat.le_of_ble_eq_true rfl⟩) (pV_M hP hK) rfl rfl hl.1 rfl (lv_room (Nat.le_of_ble_eq_true rfl)) dX2_repair_56 ⟨Nat.le_of_ble_eq_true rfl, Nat.le_of_ble_eq_true rfl⟩) hS (fun _ h => h) (fun v_7 H locs hv_7 _ _ hS => ?_)
      obtain ⟨rfl, hP⟩ := hv_7
      have hP : va_P D vwCl (wM cI cZ q (msThr σ 2)) H := hP
      refine neB false (tgt := 64) hx hb rfl dX2_repair_59 (by decide) (fun c_8 => ?_) (fun c_8 => ?_)
      · exact absurd c_8 (by decide)
      refine lv_iconst (v := 0) hx hb dX2_repair_62 (by decide) ?_
      exact RET _ _ _ _ _ (by have hs : mRepair σ (nI P) (nI E) = (0, (msThr σ 2)) := (by simp [mRepair, palM, pN, thr_1, thr_2, thr_3, thr_4, thr_5, thr_6, thr_7, thr_8, mThr, mHol, mGoo, mMan, mHel, mGon, mN, mWen, mGor, mKin, mMak, mGod, mAmo, mOth, mIts, mWas, mPrf, mCop, mDec, mFee, mOwe, mTol, msThr, msHol, msGoo, msMan, msHel, msGon, msN, msWen, msGor, msKin, msMak, msGod, msAmo, msOth, msIts, msWas, msPrf, msCop, msDec, msFee, msOwe, msTol, bI_t, bI_f, bI_inj, mwF_goo, mwF_hel, va_up_self, mRep1, c_1, c_6, hcP, hcE] <;> decide); rw [hs]; exact ⟨rfl, hP⟩) hS dX2_repair_63
    · skip
      refine lv_aload_n hx hb dX2_repair_41 rfl (lv_at hl 2 rfl) ?_
      refine gf_2_17 hx hb hts hiX2 hown hK hP hf53 dX2_repair_42 ?_
      refine lv_iload hx hb dX2_repair_45 (lv_at hl 0 rfl) ?_
      refine mld_15 (k := P * 30 + E) (v := ((mCop σ)) (P * 30 + E)) hx hb hK hP rfl (by omega) rfl dX2_repair_47 ?_
      refine lv_if_ne (tgt := 55) hx hb dX2_repair_48 (by decide) (fun c_9 => ?_) (fun c_9 => ?_)
      · skip
        refine lv_iconst (v := 0) hx hb dX2_repair_55 (by decide) ?_
        refine w_call (va_runV (As := [.int 0]) (rest := []) ⟨hx, hb, hml, hown, hts⟩ (c_X2_holds l D cI cZ q σ hq 0) (cwV 1 hts gX2_repair_X2_holds rfl rfl rfl kd_X2_holds ⟨Nat.le_of_ble_eq_true rfl, Nat.le_of_ble_eq_true rfl⟩) (pV_M hP hK) rfl rfl hl.1 rfl (lv_room (Nat.le_of_ble_eq_true rfl)) dX2_repair_56 ⟨Nat.le_of_ble_eq_true rfl, Nat.le_of_ble_eq_true rfl⟩) hS (fun _ h => h) (fun v_10 H locs hv_10 _ _ hS => ?_)
        obtain ⟨rfl, hP⟩ := hv_10
        have hP : va_P D vwCl (wM cI cZ q (msThr σ 0)) H := hP
        refine neB true (tgt := 64) hx hb rfl dX2_repair_59 (by decide) (fun c_11 => ?_) (fun c_11 => ?_)
        rotate_left
        · exact absurd c_11 (by decide)
        have h8 := hhol P
        refine lv_aload_n hx hb dX2_repair_64 rfl (lv_at hl 2 rfl) ?_
        refine gf_2_12 hx hb hts hiX2 hown hK hP hf38 dX2_repair_65 ?_
        refine lv_iload hx hb dX2_repair_68 (lv_at hl 0 rfl) ?_
        refine lv_aload_n hx hb dX2_repair_70 rfl (lv_at hl 2 rfl) ?_
        refine gf_2_15 hx hb hts hiX2 hown hK hP hf47 dX2_repair_71 ?_
        refine lv_iload hx hb dX2_repair_74 (lv_at hl 0 rfl) ?_
        refine mld_13 (k := P * 30 + E) (v := ((mWas σ)) (P * 30 + E)) hx hb hK hP rfl (by omega) rfl dX2_repair_76 ?_
        refine mst_10 (k := P * 30 + E) (x := (((mWas σ)) (P * 30 + E))) hx hb hK hP hq hS rfl (by omega) dX2_repair_77 (fun amo_12 e_amo_12 H locs hP hS => ?_)
        have hP : va_P D vwCl (wM cI cZ q (msAmo (msThr σ 0) amo_12)) H := hP
        refine lv_aload_n hx hb dX2_repair_78 rfl (lv_at hl 2 rfl) ?_
        refine gf_2_20 hx hb hts hiX2 hown hK hP hf62 dX2_repair_79 ?_
        refine lv_aload_n hx hb dX2_repair_82 rfl (lv_at hl 2 rfl) ?_
        refine gf_2_1 hx hb hts hiX2 hown hK hP hf7 dX2_repair_83 ?_
        refine lv_iload_n hx hb dX2_repair_86 rfl (lv_at hl 3 rfl) ?_
        refine mld_1 (k := P) (v := ((mHol σ)) P) hx hb hK hP rfl (by omega) rfl dX2_repair_87 ?_
        refine lv_dup2_11 hx hb dX2_repair_88 rfl rfl ?_
        refine mld_18 (k := ((mHol σ)) P) (v := ((mOwe σ)) (((mHol σ)) P)) hx hb hK hP rfl (by omega) rfl dX2_repair_89 ?_
        refine lv_iconst (v := 5) hx hb dX2_repair_90 (by decide) ?_
        refine lv_iadd hx hb dX2_repair_91 ?_
        refine mst_18 (k := ((mHol σ)) P) (x := ((((mOwe σ)) (((mHol σ)) P)) + 5)) hx hb hK hP hq hS rfl (by omega) dX2_repair_92 (fun owe_13 e_owe_13 H locs hP hS => ?_)
        have hP : va_P D vwCl (wM cI cZ q (msOwe (msAmo (msThr σ 0) amo_12) owe_13)) H := hP
        have hnz := c_9
        refine lv_iconst (v := 0) hx hb dX2_repair_93 (by decide) ?_
        refine lv_istore (lv' := [(5, .int 0), (4, .int (nI ((P * 30) + E))), (3, .int (bI (entB σ (nI P) (nI E)))), (0, .ref (q 0)), (1, .int (nI (P))), (2, .int (nI (E)))]) hx hb dX2_repair_94 hl (by decide) rfl (fun ls hl => ?_)
        refine loopW (N := 7) (k0 := 0) (fun k ls => lv_has ls 6 [(0, .ref (q 0)), (1, .int (nI (P))), (2, .int (nI (E))), (3, .int (bI (entB σ (nI P) (nI E)))), (4, .int (nI ((P * 30) + E))), (5, .int (nI (k)))] ∧ (fstF (fun k => isB (mCop σ (P * 30 + E)) (nI k)) (7 - k) k = loF (mCop σ (P * 30 + E)))) (Nat.zero_le _) ⟨lv_sub hl [3, 4, 5, 2, 1, 0] rfl, rfl⟩ (fun k ls hk_k hI ih_k => ?_)
        obtain ⟨hl, hi⟩ := hI
        refine lv_aload_n hx hb dX2_repair_96 rfl (lv_at hl 0 rfl) ?_
        have hk7 : k < 7 := lo_lt (loF_ne hnz (hc7 (P * 30 + E))) hi hk_k
        refine gf_2_17 hx hb hts hiX2 hown hK hP hf53 dX2_repair_97 ?_
        refine lv_iload hx hb dX2_repair_100 (lv_at hl 4 rfl) ?_
        refine mld_15 (k := P * 30 + E) (v := ((mCop σ)) (P * 30 + E)) hx hb hK hP rfl (by omega) rfl dX2_repair_102 ?_
        refine lv_iload hx hb dX2_repair_103 (lv_at hl 5 rfl) ?_
        refine lv_ishr hx hb dX2_repair_105 ?_
        refine lv_iconst (v := 1) hx hb dX2_repair_106 (by decide) ?_
        refine lv_iand hx hb dX2_repair_107 ?_
        refine lv_if_ne (tgt := 117) hx hb dX2_repair_108 (by decide) (fun c_14 => ?_) (fun c_14 => ?_)
        · skip
          have hx9 : loF (mCop σ (P * 30 + E)) = nI k := ((fstF_yes (by omega) (decide_eq_true c_14)).symm.trans hi).symm
          refine lv_iload hx hb dX2_repair_117 (lv_at hl 5 rfl) ?_
          exact RET _ _ _ _ _ (by have hs : mRepair σ (nI P) (nI E) = (nI (k), (msOwe (msAmo (msThr σ 0) amo_12) owe_13)) := (by simp [mRepair, palM, pN, thr_1, thr_2, thr_3, thr_4, thr_5, thr_6, thr_7, thr_8, mThr, mHol, mGoo, mMan, mHel, mGon, mN, mWen, mGor, mKin, mMak, mGod, mAmo, mOth, mIts, mWas, mPrf, mCop, mDec, mFee, mOwe, mTol, msThr, msHol, msGoo, msMan, msHel, msGon, msN, msWen, msGor, msKin, msMak, msGod, msAmo, msOth, msIts, msWas, msPrf, msCop, msDec, msFee, msOwe, msTol, bI_t, bI_f, bI_inj, mwF_goo, mwF_hel, va_up_self, mRep1, c_1, c_6, c_9, c_14, hcP, hcE, e_amo_12, e_owe_13, hx9] <;> decide); rw [hs]; exact ⟨rfl, hP⟩) hS dX2_repair_119
        · skip
          refine lv_iinc (v := nI (k + 1)) (lv' := [(5, .int (nI (k + 1))), (0, .ref (q 0)), (1, .int (nI (P))), (2, .int (nI (E))), (3, .int (bI (entB σ (nI P) (nI E)))), (4, .int (nI ((P * 30) + E)))]) hx hb dX2_repair_111 hl (k := 5) rfl (iincN (k)) (by decide) rfl (fun ls hl => ?_)
          refine lv_goto (tgt := 96) hx hb dX2_repair_114 (by decide) ?_
          exact ih_k (by omega) _ ⟨lv_sub hl [1, 2, 3, 4, 5, 0] rfl, (fstF_no (by omega) (decide_eq_false (fun z => z c_14))).symm.trans hi⟩
      · skip
        refine lv_iconst (v := 2) hx hb dX2_repair_51 (by decide) ?_
        refine lv_goto (tgt := 56) hx hb dX2_repair_52 (by decide) ?_
        refine w_call (va_runV (As := [.int 2]) (rest := []) ⟨hx, hb, hml, hown, hts⟩ (c_X2_holds l D cI cZ q σ hq 2) (cwV 1 hts gX2_repair_X2_holds rfl rfl rfl kd_X2_holds ⟨Nat.le_of_ble_eq_true rfl, Nat.le_of_ble_eq_true rfl⟩) (pV_M hP hK) rfl rfl hl.1 rfl (lv_room (Nat.le_of_ble_eq_true rfl)) dX2_repair_56 ⟨Nat.le_of_ble_eq_true rfl, Nat.le_of_ble_eq_true rfl⟩) hS (fun _ h => h) (fun v_15 H locs hv_15 _ _ hS => ?_)
        obtain ⟨rfl, hP⟩ := hv_15
        have hP : va_P D vwCl (wM cI cZ q (msThr σ 2)) H := hP
        refine neB false (tgt := 64) hx hb rfl dX2_repair_59 (by decide) (fun c_16 => ?_) (fun c_16 => ?_)
        · exact absurd c_16 (by decide)
        refine lv_iconst (v := 0) hx hb dX2_repair_62 (by decide) ?_
        exact RET _ _ _ _ _ (by have hs : mRepair σ (nI P) (nI E) = (0, (msThr σ 2)) := (by simp [mRepair, palM, pN, thr_1, thr_2, thr_3, thr_4, thr_5, thr_6, thr_7, thr_8, mThr, mHol, mGoo, mMan, mHel, mGon, mN, mWen, mGor, mKin, mMak, mGod, mAmo, mOth, mIts, mWas, mPrf, mCop, mDec, mFee, mOwe, mTol, msThr, msHol, msGoo, msMan, msHel, msGon, msN, msWen, msGor, msKin, msMak, msGod, msAmo, msOth, msIts, msWas, msPrf, msCop, msDec, msFee, msOwe, msTol, bI_t, bI_f, bI_inj, mwF_goo, mwF_hel, va_up_self, mRep1, c_1, c_6, c_9, hcP, hcE] <;> decide); rw [hs]; exact ⟨rfl, hP⟩) hS dX2_repair_63
theorem kn_X2_pallet : yX2_pallet.cls ≠ "java/lang/invoke/MethodHandle" ∧ yX2_pallet.cls ≠ "java/lang/invoke/VarHandle" ∧ (parseMethodDescriptor yX2_pallet.desc).map (fun d => d.parameters.length) = some 2 := by decide +kernel
theorem kd_X2_pallet : yX2_pallet.cls = RX2 ∧ yX2_pallet.cls ≠ "java/lang/invoke/MethodHandle" ∧ yX2_pallet.cls ≠ "java/lang/invoke/VarHandle" ∧ (parseMethodDescriptor yX2_pallet.desc).map (fun d => d.parameters.length) = some 2 := by decide +kernel
set_option maxHeartbeats 4000000 in
set_option maxRecDepth 100000 in
theorem c_X2_pallet (l : Launch) (D : va_G) (cI cZ : ClassId) (q : Nat → Nat) (σ : SM) (hq : ijQ 20 q) (x1 x2 : Int32) (ok : okM σ) (hoth : othM σ) (hz : ∀ P, mN σ ≤ P → mMan σ P = 0) (hg14 : ∀ P O, cjF σ P O = true → mGor σ < 14) (hc7 : ∀ r i, 7 ≤ i → i < 32 → bt (mCop σ r) i = false) : Met l yX2_pallet wsX2_pallet ({ frames := 2, cells := 0, slots := 0, locals := 43 }) (va_Pc [.ref (q 0), .int x1, .int x2] (PM D cI cZ q σ)) (wQ (adQ 20 q) (fun v H1 => v = some (.int (mPallet σ x1 x2).1) ∧ va_P D vwCl (wM cI cZ q (mPallet σ x1 x2).2) H1)) 0 0 (adQ 20 q) := by
  refine openW (cc := cX2_pallet) (maxL := 4) (by decide) rfl (Nat.le_of_ble_eq_true rfl) ?_
  intro p e s m args below meth c hx hb hml hts hown hpre Q RET ls hl
  have hown : s.vm.findClass RX2 = some m.cls := hown
  have hl : lv_has ls 4 [(0, .ref (q 0)), (1, .int x1), (2, .int x2)] := hl
  obtain ⟨hP, hK⟩ := hpre
  have hS : va_S (adQ 20 q) s.heap s.heap [] := va_S.rf
  have hiX2 : ∀ w ∈ wsX20, w ∈ wsX2_pallet := by decide +kernel
  have hf23 := hts (.fieldLink RX2 23 "PalletGramModel" "isGone" "[Z") (by decide +kernel)
  have hf19 := hts (.fieldLink RX2 19 "PalletGramModel" "isHeld" "[Z") (by decide +kernel)
  have hf16 := hts (.fieldLink RX2 16 "PalletGramModel" "many" "[I") (by decide +kernel)
  have hf7 := hts (.fieldLink RX2 7 "PalletGramModel" "holder" "[I") (by decide +kernel)
  have hn : mN σ ≤ 14 := ok.1
  have hhol : ∀ P, mHol σ P < 6 := ok.2.1
  have hman : ∀ P, mMan σ P ≤ 30 := ok.2.2.1
  have hgor := ok.2.2.2.1
  have hwen := ok.2.2.2.2
  refine lv_aload_n hx hb dX2_pallet_0 rfl (lv_at hl 0 rfl) ?_
  refine lv_iload_n hx hb dX2_pallet_1 rfl (lv_at hl 1 rfl) ?_
  refine r_callE (x := bI (inB x1 0 (nI (mN σ) - 1))) (va_runV (As := [.int x1]) (rest := []) ⟨hx, hb, hml, hown, hts⟩ (c_X2_isPallet l D cI cZ q σ x1) (cwV 1 hts gX2_pallet_X2_isPallet rfl rfl rfl kd_X2_isPallet ⟨Nat.le_of_ble_eq_true rfl, Nat.le_of_ble_eq_true rfl⟩) (pV_M hP hK) rfl rfl hl.1 rfl (lv_room (Nat.le_of_ble_eq_true rfl)) dX2_pallet_2 ⟨Nat.le_of_ble_eq_true rfl, Nat.le_of_ble_eq_true rfl⟩) ?_
  refine lv_istore_n (lv' := [(3, .int (bI (inB x1 0 (nI (mN σ) - 1)))), (0, .ref (q 0)), (1, .int x1), (2, .int x2)]) hx hb dX2_pallet_5 rfl hl (by decide) rfl (fun ls hl => ?_)
  refine lv_aload_n hx hb dX2_pallet_6 rfl (lv_at hl 1 rfl) ?_
  refine lv_iload_n hx hb dX2_pallet_7 rfl (lv_at hl 0 rfl) ?_
  refine neB (inB x1 0 (nI (mN σ) - 1)) (tgt := 15) hx hb rfl dX2_pallet_8 (by decide) (fun c_1 => ?_) (fun c_1 => ?_)
  · skip
    obtain ⟨P, hP9, rfl⟩ := inB_pal (by omega) c_1
    have hcP : (nI P).toNatClampNeg = P := nI_clamp (by omega)
    refine lv_iload_n hx hb dX2_pallet_15 rfl (lv_at hl 3 rfl) ?_
    refine lv_iconst (v := 0) hx hb dX2_pallet_16 (by decide) ?_
    refine lv_iconst (v := 4) hx hb dX2_pallet_17 (by decide) ?_
    refine r_callE (x := bI (inB x2 0 4)) (va_runS (As := [.int x2, .int 0, .int 4]) (rest := [.ref (q 0)]) ⟨hx, hb, hml, hown, hts⟩ (c_X2_isIn l x2 0 4) (va_cwS 3 hts gX2_pallet_X2_isIn rfl rfl rfl kn_X2_isIn ⟨Nat.le_of_ble_eq_true rfl, Nat.le_of_ble_eq_true rfl⟩) (pS_T) rfl rfl hl.1 rfl (lv_room (Nat.le_of_ble_eq_true rfl)) dX2_pallet_18 ⟨Nat.le_of_ble_eq_true rfl, Nat.le_of_ble_eq_true rfl⟩) ?_
    refine neB (inB x2 0 4) (tgt := 28) hx hb rfl dX2_pallet_21 (by decide) (fun c_2 => ?_) (fun c_2 => ?_)
    · skip
      refine lv_iconst (v := 0) hx hb dX2_pallet_28 (by decide) ?_
      refine w_call (va_runV (As := [.int 0]) (rest := []) ⟨hx, hb, hml, hown, hts⟩ (c_X2_holds l D cI cZ q σ hq 0) (cwV 1 hts gX2_pallet_X2_holds rfl rfl rfl kd_X2_holds ⟨Nat.le_of_ble_eq_true rfl, Nat.le_of_ble_eq_true rfl⟩) (pV_M hP hK) rfl rfl hl.1 rfl (lv_room (Nat.le_of_ble_eq_true rfl)) dX2_pallet_29 ⟨Nat.le_of_ble_eq_true rfl, Nat.le_of_ble_eq_true rfl⟩) hS (fun _ h => h) (fun v_3 H locs hv_3 _ _ hS => ?_)
      obtain ⟨rfl, hP⟩ := hv_3
      have hP : va_P D vwCl (wM cI cZ q (msThr σ 0)) H := hP
      refine neB true (tgt := 37) hx hb rfl dX2_pallet_32 (by decide) (fun c_4 => ?_) (fun c_4 => ?_)
      rotate_left
      · exact absurd c_4 (by decide)
      refine lv_iload_n hx hb dX2_pallet_37 rfl (lv_at hl 3 rfl) ?_
      refine lv_if_ne (tgt := 50) hx hb dX2_pallet_38 (by decide) (fun c_5 => ?_) (fun c_5 => ?_)
      · skip
        refine lv_iload_n hx hb dX2_pallet_50 rfl (lv_at hl 3 rfl) ?_
        refine lv_iconst (v := 1) hx hb dX2_pallet_51 (by decide) ?_
        refine lv_icmp_ne (tgt := 64) hx hb dX2_pallet_52 (by decide) (fun c_6 => ?_) (fun c_6 => ?_)
        · skip
          refine lv_iload_n hx hb dX2_pallet_64 rfl (lv_at hl 3 rfl) ?_
          refine lv_iconst (v := 2) hx hb dX2_pallet_65 (by decide) ?_
          refine lv_icmp_ne (tgt := 77) hx hb dX2_pallet_66 (by decide) (fun c_7 => ?_) (fun c_7 => ?_)
          · skip
            refine lv_iload_n hx hb dX2_pallet_77 rfl (lv_at hl 3 rfl) ?_
            refine lv_iconst (v := 3) hx hb dX2_pallet_78 (by decide) ?_
            refine lv_icmp_ne (tgt := 94) hx hb dX2_pallet_79 (by decide) (fun c_8 => ?_) (fun c_8 => ?_)
            · skip
              refine lv_aload_n hx hb dX2_pallet_94 rfl (lv_at hl 1 rfl) ?_
              refine gf_2_5 hx hb hts hiX2 hown hK hP hf23 dX2_pallet_95 ?_
              refine lv_iload_n hx hb dX2_pallet_98 rfl (lv_at hl 2 rfl) ?_
              refine mld_5 (k := P) (v := ((mGon σ)) P) hx hb hK hP rfl (by omega) rfl dX2_pallet_99 ?_
              refine eqB (((mGon σ)) P) (tgt := 107) hx hb rfl dX2_pallet_100 (by decide) (fun c_9 => ?_) (fun c_9 => ?_)
              · skip
                refine lv_iconst (v := 0) hx hb dX2_pallet_107 (by decide) ?_
                exact RET _ _ _ _ _ (by have hs : mPallet σ (nI P) x2 = (0, (msThr σ 0)) := (by simp [mPallet, palM, pN, thr_1, thr_2, thr_3, thr_4, thr_5, thr_6, thr_7, thr_8, mThr, mHol, mGoo, mMan, mHel, mGon, mN, mWen, mGor, mKin, mMak, mGod, mAmo, mOth, mIts, mWas, mPrf, mCop, mDec, mFee, mOwe, mTol, msThr, msHol, msGoo, msMan, msHel, msGon, msN, msWen, msGor, msKin, msMak, msGod, msAmo, msOth, msIts, msWas, msPrf, msCop, msDec, msFee, msOwe, msTol, bI_t, bI_f, bI_inj, mwF_goo, mwF_hel, va_up_self, c_1, c_2, c_5, c_6, c_7, c_8, c_9, hcP] <;> decide); rw [hs]; exact ⟨rfl, hP⟩) hS dX2_pallet_108
              · skip
                refine lv_iconst (v := 1) hx hb dX2_pallet_103 (by decide) ?_
                refine lv_goto (tgt := 108) hx hb dX2_pallet_104 (by decide) ?_
                exact RET _ _ _ _ _ (by have hs : mPallet σ (nI P) x2 = (1, (msThr σ 0)) := (by simp [mPallet, palM, pN, thr_1, thr_2, thr_3, thr_4, thr_5, thr_6, thr_7, thr_8, mThr, mHol, mGoo, mMan, mHel, mGon, mN, mWen, mGor, mKin, mMak, mGod, mAmo, mOth, mIts, mWas, mPrf, mCop, mDec, mFee, mOwe, mTol, msThr, msHol, msGoo, msMan, msHel, msGon, msN, msWen, msGor, msKin, msMak, msGod, msAmo, msOth, msIts, msWas, msPrf, msCop, msDec, msFee, msOwe, msTol, bI_t, bI_f, bI_inj, mwF_goo, mwF_hel, va_up_self, c_1, c_2, c_5, c_6, c_7, c_8, c_9, hcP] <;> decide); rw [hs]; exact ⟨rfl, hP⟩) hS dX2_pallet_108
            · skip
              refine lv_aload_n hx hb dX2_pallet_82 rfl (lv_at hl 1 rfl) ?_
              refine gf_2_4 hx hb hts hiX2 hown hK hP hf19 dX2_pallet_83 ?_
              refine lv_iload_n hx hb dX2_pallet_86 rfl (lv_at hl 2 rfl) ?_
              refine mld_4 (k := P) (v := ((mHel σ)) P) hx hb hK hP rfl (by omega) rfl dX2_pallet_87 ?_
              refine eqB (((mHel σ)) P) (tgt := 107) hx hb rfl dX2_pallet_88 (by decide) (fun c_10 => ?_) (fun c_10 => ?_)
              · skip
                refine lv_iconst (v := 0) hx hb dX2_pallet_107 (by decide) ?_
                exact RET _ _ _ _ _ (by have hs : mPallet σ (nI P) x2 = (0, (msThr σ 0)) := (by simp [mPallet, palM, pN, thr_1, thr_2, thr_3, thr_4, thr_5, thr_6, thr_7, thr_8, mThr, mHol, mGoo, mMan, mHel, mGon, mN, mWen, mGor, mKin, mMak, mGod, mAmo, mOth, mIts, mWas, mPrf, mCop, mDec, mFee, mOwe, mTol, msThr, msHol, msGoo, msMan, msHel, msGon, msN, msWen, msGor, msKin, msMak, msGod, msAmo, msOth, msIts, msWas, msPrf, msCop, msDec, msFee, msOwe, msTol, bI_t, bI_f, bI_inj, mwF_goo, mwF_hel, va_up_self, c_1, c_2, c_5, c_6, c_7, c_8, c_10, hcP] <;> decide); rw [hs]; exact ⟨rfl, hP⟩) hS dX2_pallet_108
              · skip
                refine lv_goto (tgt := 103) hx hb dX2_pallet_91 (by decide) ?_
                refine lv_iconst (v := 1) hx hb dX2_pallet_103 (by decide) ?_
                refine lv_goto (tgt := 108) hx hb dX2_pallet_104 (by decide) ?_
                exact RET _ _ _ _ _ (by have hs : mPallet σ (nI P) x2 = (1, (msThr σ 0)) := (by simp [mPallet, palM, pN, thr_1, thr_2, thr_3, thr_4, thr_5, thr_6, thr_7, thr_8, mThr, mHol, mGoo, mMan, mHel, mGon, mN, mWen, mGor, mKin, mMak, mGod, mAmo, mOth, mIts, mWas, mPrf, mCop, mDec, mFee, mOwe, mTol, msThr, msHol, msGoo, msMan, msHel, msGon, msN, msWen, msGor, msKin, msMak, msGod, msAmo, msOth, msIts, msWas, msPrf, msCop, msDec, msFee, msOwe, msTol, bI_t, bI_f, bI_inj, mwF_goo, mwF_hel, va_up_self, c_1, c_2, c_5, c_6, c_7, c_8, c_10, hcP] <;> decide); rw [hs]; exact ⟨rfl, hP⟩) hS dX2_pallet_108
          · skip
            refine lv_aload_n hx hb dX2_pallet_69 rfl (lv_at hl 1 rfl) ?_
            refine lv_iload_n hx hb dX2_pallet_70 rfl (lv_at hl 2 rfl) ?_
            refine r_callE (x := (wS (mGoo σ) P 6)) (va_runV (As := [.int (nI (P))]) (rest := []) ⟨hx, hb, hml, hown, hts⟩ (c_X2_weight l D cI cZ q (msThr σ 0) P (by omega)) (cwV 1 hts gX2_pallet_X2_weight rfl rfl rfl kd_X2_weight ⟨Nat.le_of_ble_eq_true rfl, Nat.le_of_ble_eq_true rfl⟩) (pV_M hP hK) rfl rfl hl.1 rfl (lv_room (Nat.le_of_ble_eq_true rfl)) dX2_pallet_71 ⟨Nat.le_of_ble_eq_true rfl, Nat.le_of_ble_eq_true rfl⟩) ?_
            refine lv_goto (tgt := 108) hx hb dX2_pallet_74 (by decide) ?_
            exact RET _ _ _ _ _ (by have hs : mPallet σ (nI P) x2 = ((wS (mGoo σ) P 6), (msThr σ 0)) := (by simp [mPallet, palM, pN, thr_1, thr_2, thr_3, thr_4, thr_5, thr_6, thr_7, thr_8, mThr, mHol, mGoo, mMan, mHel, mGon, mN, mWen, mGor, mKin, mMak, mGod, mAmo, mOth, mIts, mWas, mPrf, mCop, mDec, mFee, mOwe, mTol, msThr, msHol, msGoo, msMan, msHel, msGon, msN, msWen, msGor, msKin, msMak, msGod, msAmo, msOth, msIts, msWas, msPrf, msCop, msDec, msFee, msOwe, msTol, bI_t, bI_f, bI_inj, mwF_goo, mwF_hel, va_up_self, c_1, c_2, c_5, c_6, c_7, hcP] <;> decide); rw [hs]; exact ⟨rfl, hP⟩) hS dX2_pallet_108
        · skip
          refine lv_aload_n hx hb dX2_pallet_55 rfl (lv_at hl 1 rfl) ?_
          refine gf_2_3 hx hb hts hiX2 hown hK hP hf16 dX2_pallet_56 ?_
          refine lv_iload_n hx hb dX2_pallet_59 rfl (lv_at hl 2 rfl) ?_
          refine mld_3 (k := P) (v := ((mMan σ)) P) hx hb hK hP rfl (by omega) rfl dX2_pallet_60 ?_
          refine lv_goto (tgt := 108) hx hb dX2_pallet_61 (by decide) ?_
          exact RET _ _ _ _ _ (by have hs : mPallet σ (nI P) x2 = (nI (((mMan σ)) P), (msThr σ 0)) := (by simp [mPallet, palM, pN, thr_1, thr_2, thr_3, thr_4, thr_5, thr_6, thr_7, thr_8, mThr, mHol, mGoo, mMan, mHel, mGon, mN, mWen, mGor, mKin, mMak, mGod, mAmo, mOth, mIts, mWas, mPrf, mCop, mDec, mFee, mOwe, mTol, msThr, msHol, msGoo, msMan, msHel, msGon, msN, msWen, msGor, msKin, msMak, msGod, msAmo, msOth, msIts, msWas, msPrf, msCop, msDec, msFee, msOwe, msTol, bI_t, bI_f, bI_inj, mwF_goo, mwF_hel, va_up_self, c_1, c_2, c_5, c_6, hcP] <;> decide); rw [hs]; exact ⟨rfl, hP⟩) hS dX2_pallet_108
      · skip
        refine lv_aload_n hx hb dX2_pallet_41 rfl (lv_at hl 1 rfl) ?_
        refine gf_2_1 hx hb hts hiX2 hown hK hP hf7 dX2_pallet_42 ?_
        refine lv_iload_n hx hb dX2_pallet_45 rfl (lv_at hl 2 rfl) ?_
        refine mld_1 (k := P) (v := ((mHol σ)) P) hx hb hK hP rfl (by omega) rfl dX2_pallet_46 ?_
        refine lv_goto (tgt := 108) hx hb dX2_pallet_47 (by decide) ?_
        exact RET _ _ _ _ _ (by have hs : mPallet σ (nI P) x2 = (nI (((mHol σ)) P), (msThr σ 0)) := (by simp [mPallet, palM, pN, thr_1, thr_2, thr_3, thr_4, thr_5, thr_6, thr_7, thr_8, mThr, mHol, mGoo, mMan, mHel, mGon, mN, mWen, mGor, mKin, mMak, mGod, mAmo, mOth, mIts, mWas, mPrf, mCop, mDec, mFee, mOwe, mTol, msThr, msHol, msGoo, msMan, msHel, msGon, msN, msWen, msGor, msKin, msMak, msGod, msAmo, msOth, msIts, msWas, msPrf, msCop, msDec, msFee, msOwe, msTol, bI_t, bI_f, bI_inj, mwF_goo, mwF_hel, va_up_self, c_1, c_2, c_5, hcP] <;> decide); rw [hs]; exact ⟨rfl, hP⟩) hS dX2_pallet_108
    · skip
      refine lv_iconst (v := 2) hx hb dX2_pallet_24 (by decide) ?_
      refine lv_goto (tgt := 29) hx hb dX2_pallet_25 (by decide) ?_
      refine w_call (va_runV (As := [.int 2]) (rest := []) ⟨hx, hb, hml, hown, hts⟩ (c_X2_holds l D cI cZ q σ hq 2) (cwV 1 hts gX2_pallet_X2_holds rfl rfl rfl kd_X2_holds ⟨Nat.le_of_ble_eq_true rfl, Nat.le_of_ble_eq_true rfl⟩) (pV_M hP hK) rfl rfl hl.1 rfl (lv_room (Nat.le_of_ble_eq_true rfl)) dX2_pallet_29 ⟨Nat.le_of_ble_eq_true rfl, Nat.le_of_ble_eq_true rfl⟩) hS (fun _ h => h) (fun v_11 H locs hv_11 _ _ hS => ?_)
      obtain ⟨rfl, hP⟩ := hv_11
      have hP : va_P D vwCl (wM cI cZ q (msThr σ 2)) H := hP
      refine neB false (tgt := 37) hx hb rfl dX2_pallet_32 (by decide) (fun c_12 => ?_) (fun c_12 => ?_)
      · exact absurd c_12 (by decide)
      refine lv_iconst (v := 0) hx hb dX2_pallet_35 (by decide) ?_
      exact RET _ _ _ _ _ (by have hs : mPallet σ (nI P) x2 = (0, (msThr σ 2)) := (by simp [mPallet, palM, pN, thr_1, thr_2, thr_3, thr_4, thr_5, thr_6, thr_7, thr_8, mThr, mHol, mGoo, mMan, mHel, mGon, mN, mWen, mGor, mKin, mMak, mGod, mAmo, mOth, mIts, mWas, mPrf, mCop, mDec, mFee, mOwe, mTol, msThr, msHol, msGoo, msMan, msHel, msGon, msN, msWen, msGor, msKin, msMak, msGod, msAmo, msOth, msIts, msWas, msPrf, msCop, msDec, msFee, msOwe, msTol, bI_t, bI_f, bI_inj, mwF_goo, mwF_hel, va_up_self, c_1, c_2, hcP] <;> decide); rw [hs]; exact ⟨rfl, hP⟩) hS dX2_pallet_36
  · skip
    refine lv_iconst (v := 1) hx hb dX2_pallet_11 (by decide) ?_
    refine lv_goto (tgt := 29) hx hb dX2_pallet_12 (by decide) ?_
    refine w_call (va_runV (As := [.int 1]) (rest := []) ⟨hx, hb, hml, hown, hts⟩ (c_X2_holds l D cI cZ q σ hq 1) (cwV 1 hts gX2_pallet_X2_holds rfl rfl rfl kd_X2_holds ⟨Nat.le_of_ble_eq_true rfl, Nat.le_of_ble_eq_true rfl⟩) (pV_M hP hK) rfl rfl hl.1 rfl (lv_room (Nat.le_of_ble_eq_true rfl)) dX2_pallet_29 ⟨Nat.le_of_ble_eq_true rfl, Nat.le_of_ble_eq_true rfl⟩) hS (fun _ h => h) (fun v_13 H locs hv_13 _ _ hS => ?_)
    obtain ⟨rfl, hP⟩ := hv_13
    have hP : va_P D vwCl (wM cI cZ q (msThr σ 1)) H := hP
    refine neB false (tgt := 37) hx hb rfl dX2_pallet_32 (by decide) (fun c_14 => ?_) (fun c_14 => ?_)
    · exact absurd c_14 (by decide)
    refine lv_iconst (v := 0) hx hb dX2_pallet_35 (by decide) ?_
    exact RET _ _ _ _ _ (by have hs : mPallet σ x1 x2 = (0, (msThr σ 1)) := (by simp [mPallet, palM, pN, thr_1, thr_2, thr_3, thr_4, thr_5, thr_6, thr_7, thr_8, mThr, mHol, mGoo, mMan, mHel, mGon, mN, mWen, mGor, mKin, mMak, mGod, mAmo, mOth, mIts, mWas, mPrf, mCop, mDec, mFee, mOwe, mTol, msThr, msHol, msGoo, msMan, msHel, msGon, msN, msWen, msGor, msKin, msMak, msGod, msAmo, msOth, msIts, msWas, msPrf, msCop, msDec, msFee, msOwe, msTol, bI_t, bI_f, bI_inj, mwF_goo, mwF_hel, va_up_self, c_1] <;> decide); rw [hs]; exact ⟨rfl, hP⟩) hS dX2_pallet_36
theorem kn_X2_entry : yX2_entry.cls ≠ "java/lang/invoke/MethodHandle" ∧ yX2_entry.cls ≠ "java/lang/invoke/VarHandle" ∧ (parseMethodDescriptor yX2_entry.desc).map (fun d => d.parameters.length) = some 3 := by decide +kernel
theorem kd_X2_entry : yX2_entry.cls = RX2 ∧ yX2_entry.cls ≠ "java/lang/invoke/MethodHandle" ∧ yX2_entry.cls ≠ "java/lang/invoke/VarHandle" ∧ (parseMethodDescriptor yX2_entry.desc).map (fun d => d.parameters.length) = some 3 := by decide +kernel
set_option maxHeartbeats 4000000 in
set_option maxRecDepth 100000 in
theorem c_X2_entry (l : Launch) (D : va_G) (cI cZ : ClassId) (q : Nat → Nat) (σ : SM) (hq : ijQ 20 q) (x1 x2 x3 : Int32) (ok : okM σ) (hoth : othM σ) (hz : ∀ P, mN σ ≤ P → mMan σ P = 0) (hg14 : ∀ P O, cjF σ P O = true → mGor σ < 14) (hc7 : ∀ r i, 7 ≤ i → i < 32 → bt (mCop σ r) i = false) : Met l yX2_entry wsX2_entry ({ frames := 3, cells := 0, slots := 0, locals := 65 }) (va_Pc [.ref (q 0), .int x1, .int x2, .int x3] (PM D cI cZ q σ)) (wQ (adQ 20 q) (fun v H1 => v = some (.int (mEntry σ x1 x2 x3).1) ∧ va_P D vwCl (wM cI cZ q (mEntry σ x1 x2 x3).2) H1)) 0 0 (adQ 20 q) := by
  refine openW (cc := cX2_entry) (maxL := 6) (by decide) rfl (Nat.le_of_ble_eq_true rfl) ?_
  intro p e s m args below meth c hx hb hml hts hown hpre Q RET ls hl
  have hown : s.vm.findClass RX2 = some m.cls := hown
  have hl : lv_has ls 6 [(0, .ref (q 0)), (1, .int x1), (2, .int x2), (3, .int x3)] := hl
  obtain ⟨hP, hK⟩ := hpre
  have hS : va_S (adQ 20 q) s.heap s.heap [] := va_S.rf
  have hiX2 : ∀ w ∈ wsX20, w ∈ wsX2_entry := by decide +kernel
  have hf29 := hts (.fieldLink RX2 29 "PalletGramModel" "kind" "[I") (by decide +kernel)
  have hf32 := hts (.fieldLink RX2 32 "PalletGramModel" "maker" "[I") (by decide +kernel)
  have hf35 := hts (.fieldLink RX2 35 "PalletGramModel" "good" "[I") (by decide +kernel)
  have hf38 := hts (.fieldLink RX2 38 "PalletGramModel" "amount" "[I") (by decide +kernel)
  have hf41 := hts (.fieldLink RX2 41 "PalletGramModel" "other" "[I") (by decide +kernel)
  have hf44 := hts (.fieldLink RX2 44 "PalletGramModel" "its" "[I") (by decide +kernel)
  have hf50 := hts (.fieldLink RX2 50 "PalletGramModel" "proof" "[I") (by decide +kernel)
  have hf53 := hts (.fieldLink RX2 53 "PalletGramModel" "copies" "[I") (by decide +kernel)
  have hn : mN σ ≤ 14 := ok.1
  have hhol : ∀ P, mHol σ P < 6 := ok.2.1
  have hman : ∀ P, mMan σ P ≤ 30 := ok.2.2.1
  have hgor := ok.2.2.2.1
  have hwen := ok.2.2.2.2
  refine lv_aload_n hx hb dX2_entry_0 rfl (lv_at hl 0 rfl) ?_
  refine lv_iload_n hx hb dX2_entry_1 rfl (lv_at hl 1 rfl) ?_
  refine lv_iload_n hx hb dX2_entry_2 rfl (lv_at hl 2 rfl) ?_
  refine r_callE (x := bI (entB σ x1 x2)) (va_runV (As := [.int x1, .int x2]) (rest := []) ⟨hx, hb, hml, hown, hts⟩ (c_X2_isEntry l D cI cZ q σ x1 x2 ⟨hn, hhol, hman, hgor, hwen⟩) (cwV 2 hts gX2_entry_X2_isEntry rfl rfl rfl kd_X2_isEntry ⟨Nat.le_of_ble_eq_true rfl, Nat.le_of_ble_eq_true rfl⟩) (pV_M hP hK) rfl rfl hl.1 rfl (lv_room (Nat.le_of_ble_eq_true rfl)) dX2_entry_3 ⟨Nat.le_of_ble_eq_true rfl, Nat.le_of_ble_eq_true rfl⟩) ?_
  refine lv_istore (lv' := [(4, .int (bI (entB σ x1 x2))), (0, .ref (q 0)), (1, .int x1), (2, .int x2), (3, .int x3)]) hx hb dX2_entry_6 hl (by decide) rfl (fun ls hl => ?_)
  refine lv_aload_n hx hb dX2_entry_8 rfl (lv_at hl 1 rfl) ?_
  refine lv_iload hx hb dX2_entry_9 (lv_at hl 0 rfl) ?_
  refine neB (entB σ x1 x2) (tgt := 18) hx hb rfl dX2_entry_11 (by decide) (fun c_1 => ?_) (fun c_1 => ?_)
  · skip
    obtain ⟨P, hP9, rfl, E, hE9, rfl⟩ := ent_nat hn hman c_1
    have hcP : (nI P).toNatClampNeg = P := nI_clamp (by omega)
    have hm9 := hman P
    have hcE : (nI E).toNatClampNeg = E := nI_clamp (by omega)
    refine lv_iload_n hx hb dX2_entry_18 rfl (lv_at hl 4 rfl) ?_
    refine lv_iconst (v := 0) hx hb dX2_entry_19 (by decide) ?_
    refine lv_bipush (v := 7) hx hb dX2_entry_20 (by decide) ?_
    refine r_callE (x := bI (inB x3 0 7)) (va_runS (As := [.int x3, .int 0, .int 7]) (rest := [.ref (q 0)]) ⟨hx, hb, hml, hown, hts⟩ (c_X2_isIn l x3 0 7) (va_cwS 3 hts gX2_entry_X2_isIn rfl rfl rfl kn_X2_isIn ⟨Nat.le_of_ble_eq_true rfl, Nat.le_of_ble_eq_true rfl⟩) (pS_T) rfl rfl hl.1 rfl (lv_room (Nat.le_of_ble_eq_true rfl)) dX2_entry_22 ⟨Nat.le_of_ble_eq_true rfl, Nat.le_of_ble_eq_true rfl⟩) ?_
    refine neB (inB x3 0 7) (tgt := 32) hx hb rfl dX2_entry_25 (by decide) (fun c_2 => ?_) (fun c_2 => ?_)
    · skip
      refine lv_iconst (v := 0) hx hb dX2_entry_32 (by decide) ?_
      refine w_call (va_runV (As := [.int 0]) (rest := []) ⟨hx, hb, hml, hown, hts⟩ (c_X2_holds l D cI cZ q σ hq 0) (cwV 1 hts gX2_entry_X2_holds rfl rfl rfl kd_X2_holds ⟨Nat.le_of_ble_eq_true rfl, Nat.le_of_ble_eq_true rfl⟩) (pV_M hP hK) rfl rfl hl.1 rfl (lv_room (Nat.le_of_ble_eq_true rfl)) dX2_entry_33 ⟨Nat.le_of_ble_eq_true rfl, Nat.le_of_ble_eq_true rfl⟩) hS (fun _ h => h) (fun v_3 H locs hv_3 _ _ hS => ?_)
      obtain ⟨rfl, hP⟩ := hv_3
      have hP : va_P D vwCl (wM cI cZ q (msThr σ 0)) H := hP
      refine neB true (tgt := 41) hx hb rfl dX2_entry_36 (by decide) (fun c_4 => ?_) (fun c_4 => ?_)
      rotate_left
      · exact absurd c_4 (by decide)
      obtain ⟨W, hW8, hW9, rfl⟩ := inB_nat (lo := 0) (hi := 7) (by decide) (by decide) c_2
      have hcW : (nI W).toNatClampNeg = W := nI_clamp (by omega)
      refine lv_bipush (v := 30) hx hb dX2_entry_41 (by decide) ?_
      refine lv_iload_n hx hb dX2_entry_43 rfl (lv_at hl 2 rfl) ?_
      refine mulNc 30 P hx hb rfl rfl dX2_entry_44 ?_
      refine lv_iload_n hx hb dX2_entry_45 rfl (lv_at hl 3 rfl) ?_
      refine addN (P * 30) E hx hb rfl rfl dX2_entry_46 ?_
      refine lv_istore (lv' := [(5, .int (nI ((P * 30) + E))), (4, .int (bI (entB σ (nI P) (nI E)))), (0, .ref (q 0)), (1, .int (nI (P))), (2, .int (nI (E))), (3, .int (nI (W)))]) hx hb dX2_entry_47 hl (by decide) rfl (fun ls hl => ?_)
      refine lv_iload_n hx hb dX2_entry_49 rfl (lv_at hl 5 rfl) ?_
      have hw9 : W = 0 ∨ W = 1 ∨ W = 2 ∨ W = 3 ∨ W = 4 ∨ W = 5 ∨ W = 6 ∨ W = 7 := by omega
      rcases hw9 with rfl | rfl | rfl | rfl | rfl | rfl | rfl | rfl
      · skip
        refine lv_tableIn (tgt := 92) hx hb dX2_entry_50 (by decide) (by decide) rfl (by decide) ?_
        refine lv_aload_n hx hb dX2_entry_92 rfl (lv_at hl 2 rfl) ?_
        refine gf_2_9 hx hb hts hiX2 hown hK hP hf29 dX2_entry_93 ?_
        refine lv_iload hx hb dX2_entry_96 (lv_at hl 0 rfl) ?_
        refine mld_7 (k := P * 30 + E) (v := ((mKin σ)) (P * 30 + E)) hx hb hK hP rfl (by omega) rfl dX2_entry_98 ?_
        exact RET _ _ _ _ _ (by have hs : mEntry σ (nI P) (nI E) (nI 0) = ((((mKin σ)) (P * 30 + E)), (msThr σ 0)) := (by simp [mEntry, palM, pN, thr_1, thr_2, thr_3, thr_4, thr_5, thr_6, thr_7, thr_8, mThr, mHol, mGoo, mMan, mHel, mGon, mN, mWen, mGor, mKin, mMak, mGod, mAmo, mOth, mIts, mWas, mPrf, mCop, mDec, mFee, mOwe, mTol, msThr, msHol, msGoo, msMan, msHel, msGon, msN, msWen, msGor, msKin, msMak, msGod, msAmo, msOth, msIts, msWas, msPrf, msCop, msDec, msFee, msOwe, msTol, bI_t, bI_f, bI_inj, mwF_goo, mwF_hel, va_up_self, nI_l0, nI_l1, nI_l2, nI_l3, nI_l4, nI_l5, nI_l6, nI_l7, c_1, c_2, hcP, hcE] <;> decide); rw [hs]; exact ⟨rfl, hP⟩) hS dX2_entry_99
      · skip
        refine lv_tableIn (tgt := 100) hx hb dX2_entry_50 (by decide) (by decide) rfl (by decide) ?_
        refine lv_aload_n hx hb dX2_entry_100 rfl (lv_at hl 2 rfl) ?_
        refine gf_2_10 hx hb hts hiX2 hown hK hP hf32 dX2_entry_101 ?_
        refine lv_iload hx hb dX2_entry_104 (lv_at hl 0 rfl) ?_
        refine mld_8 (k := P * 30 + E) (v := ((mMak σ)) (P * 30 + E)) hx hb hK hP rfl (by omega) rfl dX2_entry_106 ?_
        exact RET _ _ _ _ _ (by have hs : mEntry σ (nI P) (nI E) (nI 1) = ((((mMak σ)) (P * 30 + E)), (msThr σ 0)) := (by simp [mEntry, palM, pN, thr_1, thr_2, thr_3, thr_4, thr_5, thr_6, thr_7, thr_8, mThr, mHol, mGoo, mMan, mHel, mGon, mN, mWen, mGor, mKin, mMak, mGod, mAmo, mOth, mIts, mWas, mPrf, mCop, mDec, mFee, mOwe, mTol, msThr, msHol, msGoo, msMan, msHel, msGon, msN, msWen, msGor, msKin, msMak, msGod, msAmo, msOth, msIts, msWas, msPrf, msCop, msDec, msFee, msOwe, msTol, bI_t, bI_f, bI_inj, mwF_goo, mwF_hel, va_up_self, nI_l0, nI_l1, nI_l2, nI_l3, nI_l4, nI_l5, nI_l6, nI_l7, c_1, c_2, hcP, hcE] <;> decide); rw [hs]; exact ⟨rfl, hP⟩) hS dX2_entry_107
      · skip
        refine lv_tableIn (tgt := 108) hx hb dX2_entry_50 (by decide) (by decide) rfl (by decide) ?_
        refine lv_aload_n hx hb dX2_entry_108 rfl (lv_at hl 2 rfl) ?_
        refine gf_2_11 hx hb hts hiX2 hown hK hP hf35 dX2_entry_109 ?_
        refine lv_iload hx hb dX2_entry_112 (lv_at hl 0 rfl) ?_
        refine mld_9 (k := P * 30 + E) (v := ((mGod σ)) (P * 30 + E)) hx hb hK hP rfl (by omega) rfl dX2_entry_114 ?_
        exact RET _ _ _ _ _ (by have hs : mEntry σ (nI P) (nI E) (nI 2) = ((((mGod σ)) (P * 30 + E)), (msThr σ 0)) := (by simp [mEntry, palM, pN, thr_1, thr_2, thr_3, thr_4, thr_5, thr_6, thr_7, thr_8, mThr, mHol, mGoo, mMan, mHel, mGon, mN, mWen, mGor, mKin, mMak, mGod, mAmo, mOth, mIts, mWas, mPrf, mCop, mDec, mFee, mOwe, mTol, msThr, msHol, msGoo, msMan, msHel, msGon, msN, msWen, msGor, msKin, msMak, msGod, msAmo, msOth, msIts, msWas, msPrf, msCop, msDec, msFee, msOwe, msTol, bI_t, bI_f, bI_inj, mwF_goo, mwF_hel, va_up_self, nI_l0, nI_l1, nI_l2, nI_l3, nI_l4, nI_l5, nI_l6, nI_l7, c_1, c_2, hcP, hcE] <;> decide); rw [hs]; exact ⟨rfl, hP⟩) hS dX2_entry_115
      · skip
        refine lv_tableIn (tgt := 116) hx hb dX2_entry_50 (by decide) (by decide) rfl (by decide) ?_
        refine lv_aload_n hx hb dX2_entry_116 rfl (lv_at hl 2 rfl) ?_
        refine gf_2_12 hx hb hts hiX2 hown hK hP hf38 dX2_entry_117 ?_
        refine lv_iload hx hb dX2_entry_120 (lv_at hl 0 rfl) ?_
        refine mld_10 (k := P * 30 + E) (v := ((mAmo σ)) (P * 30 + E)) hx hb hK hP rfl (by omega) rfl dX2_entry_122 ?_
        exact RET _ _ _ _ _ (by have hs : mEntry σ (nI P) (nI E) (nI 3) = ((((mAmo σ)) (P * 30 + E)), (msThr σ 0)) := (by simp [mEntry, palM, pN, thr_1, thr_2, thr_3, thr_4, thr_5, thr_6, thr_7, thr_8, mThr, mHol, mGoo, mMan, mHel, mGon, mN, mWen, mGor, mKin, mMak, mGod, mAmo, mOth, mIts, mWas, mPrf, mCop, mDec, mFee, mOwe, mTol, msThr, msHol, msGoo, msMan, msHel, msGon, msN, msWen, msGor, msKin, msMak, msGod, msAmo, msOth, msIts, msWas, msPrf, msCop, msDec, msFee, msOwe, msTol, bI_t, bI_f, bI_inj, mwF_goo, mwF_hel, va_up_self, nI_l0, nI_l1, nI_l2, nI_l3, nI_l4, nI_l5, nI_l6, nI_l7, c_1, c_2, hcP, hcE] <;> decide); rw [hs]; exact ⟨rfl, hP⟩) hS dX2_entry_123
      · skip
        refine lv_tableIn (tgt := 124) hx hb dX2_entry_50 (by decide) (by decide) rfl (by decide) ?_
        refine lv_aload_n hx hb dX2_entry_124 rfl (lv_at hl 2 rfl) ?_
        refine gf_2_13 hx hb hts hiX2 hown hK hP hf41 dX2_entry_125 ?_
        refine lv_iload hx hb dX2_entry_128 (lv_at hl 0 rfl) ?_
        refine mld_11 (k := P * 30 + E) (v := ((mOth σ)) (P * 30 + E)) hx hb hK hP rfl (by omega) rfl dX2_entry_130 ?_
        exact RET _ _ _ _ _ (by have hs : mEntry σ (nI P) (nI E) (nI 4) = ((((mOth σ)) (P * 30 + E)), (msThr σ 0)) := (by simp [mEntry, palM, pN, thr_1, thr_2, thr_3, thr_4, thr_5, thr_6, thr_7, thr_8, mThr, mHol, mGoo, mMan, mHel, mGon, mN, mWen, mGor, mKin, mMak, mGod, mAmo, mOth, mIts, mWas, mPrf, mCop, mDec, mFee, mOwe, mTol, msThr, msHol, msGoo, msMan, msHel, msGon, msN, msWen, msGor, msKin, msMak, msGod, msAmo, msOth, msIts, msWas, msPrf, msCop, msDec, msFee, msOwe, msTol, bI_t, bI_f, bI_inj, mwF_goo, mwF_hel, va_up_self, nI_l0, nI_l1, nI_l2, nI_l3, nI_l4, nI_l5, nI_l6, nI_l7, c_1, c_2, hcP, hcE] <;> decide); rw [hs]; exact ⟨rfl, hP⟩) hS dX2_entry_131
      · skip
        refine lv_tableIn (tgt := 132) hx hb dX2_entry_50 (by decide) (by decide) rfl (by decide) ?_
        refine lv_aload_n hx hb dX2_entry_132 rfl (lv_at hl 2 rfl) ?_
        refine gf_2_14 hx hb hts hiX2 hown hK hP hf44 dX2_entry_133 ?_
        refine lv_iload hx hb dX2_entry_136 (lv_at hl 0 rfl) ?_
        refine mld_12 (k := P * 30 + E) (v := ((mIts σ)) (P * 30 + E)) hx hb hK hP rfl (by omega) rfl dX2_entry_138 ?_
        exact RET _ _ _ _ _ (by have hs : mEntry σ (nI P) (nI E) (nI 5) = ((((mIts σ)) (P * 30 + E)), (msThr σ 0)) := (by simp [mEntry, palM, pN, thr_1, thr_2, thr_3, thr_4, thr_5, thr_6, thr_7, thr_8, mThr, mHol, mGoo, mMan, mHel, mGon, mN, mWen, mGor, mKin, mMak, mGod, mAmo, mOth, mIts, mWas, mPrf, mCop, mDec, mFee, mOwe, mTol, msThr, msHol, msGoo, msMan, msHel, msGon, msN, msWen, msGor, msKin, msMak, msGod, msAmo, msOth, msIts, msWas, msPrf, msCop, msDec, msFee, msOwe, msTol, bI_t, bI_f, bI_inj, mwF_goo, mwF_hel, va_up_self, nI_l0, nI_l1, nI_l2, nI_l3, nI_l4, nI_l5, nI_l6, nI_l7, c_1, c_2, hcP, hcE] <;> decide); rw [hs]; exact ⟨rfl, hP⟩) hS dX2_entry_139
      · skip
        refine lv_tableIn (tgt := 140) hx hb dX2_entry_50 (by decide) (by decide) rfl (by decide) ?_
        refine lv_aload_n hx hb dX2_entry_140 rfl (lv_at hl 2 rfl) ?_
        refine gf_2_16 hx hb hts hiX2 hown hK hP hf50 dX2_entry_141 ?_
        refine lv_iload hx hb dX2_entry_144 (lv_at hl 0 rfl) ?_
        refine mld_14 (k := P * 30 + E) (v := ((mPrf σ)) (P * 30 + E)) hx hb hK hP rfl (by omega) rfl dX2_entry_146 ?_
        exact RET _ _ _ _ _ (by have hs : mEntry σ (nI P) (nI E) (nI 6) = ((((mPrf σ)) (P * 30 + E)), (msThr σ 0)) := (by simp [mEntry, palM, pN, thr_1, thr_2, thr_3, thr_4, thr_5, thr_6, thr_7, thr_8, mThr, mHol, mGoo, mMan, mHel, mGon, mN, mWen, mGor, mKin, mMak, mGod, mAmo, mOth, mIts, mWas, mPrf, mCop, mDec, mFee, mOwe, mTol, msThr, msHol, msGoo, msMan, msHel, msGon, msN, msWen, msGor, msKin, msMak, msGod, msAmo, msOth, msIts, msWas, msPrf, msCop, msDec, msFee, msOwe, msTol, bI_t, bI_f, bI_inj, mwF_goo, mwF_hel, va_up_self, nI_l0, nI_l1, nI_l2, nI_l3, nI_l4, nI_l5, nI_l6, nI_l7, c_1, c_2, hcP, hcE] <;> decide); rw [hs]; exact ⟨rfl, hP⟩) hS dX2_entry_147
      · skip
        refine lv_tableOut (tgt := 148) hx hb dX2_entry_50 (by decide) (by decide) ?_
        refine lv_aload_n hx hb dX2_entry_148 rfl (lv_at hl 2 rfl) ?_
        refine gf_2_17 hx hb hts hiX2 hown hK hP hf53 dX2_entry_149 ?_
        refine lv_iload hx hb dX2_entry_152 (lv_at hl 0 rfl) ?_
        refine mld_15 (k := P * 30 + E) (v := ((mCop σ)) (P * 30 + E)) hx hb hK hP rfl (by omega) rfl dX2_entry_154 ?_
        exact RET _ _ _ _ _ (by have hs : mEntry σ (nI P) (nI E) (nI 7) = ((((mCop σ)) (P * 30 + E)), (msThr σ 0)) := (by simp [mEntry, palM, pN, thr_1, thr_2, thr_3, thr_4, thr_5, thr_6, thr_7, thr_8, mThr, mHol, mGoo, mMan, mHel, mGon, mN, mWen, mGor, mKin, mMak, mGod, mAmo, mOth, mIts, mWas, mPrf, mCop, mDec, mFee, mOwe, mTol, msThr, msHol, msGoo, msMan, msHel, msGon, msN, msWen, msGor, msKin, msMak, msGod, msAmo, msOth, msIts, msWas, msPrf, msCop, msDec, msFee, msOwe, msTol, bI_t, bI_f, bI_inj, mwF_goo, mwF_hel, va_up_self, nI_l0, nI_l1, nI_l2, nI_l3, nI_l4, nI_l5, nI_l6, nI_l7, c_1, c_2, hcP, hcE] <;> decide); rw [hs]; exact ⟨rfl, hP⟩) hS dX2_entry_155
    · skip
      refine lv_iconst (v := 2) hx hb dX2_entry_28 (by decide) ?_
      refine lv_goto (tgt := 33) hx hb dX2_entry_29 (by decide) ?_
      refine w_call (va_runV (As := [.int 2]) (rest := []) ⟨hx, hb, hml, hown, hts⟩ (c_X2_holds l D cI cZ q σ hq 2) (cwV 1 hts gX2_entry_X2_holds rfl rfl rfl kd_X2_holds ⟨Nat.le_of_ble_eq_true rfl, Nat.le_of_ble_eq_true rfl⟩) (pV_M hP hK) rfl rfl hl.1 rfl (lv_room (Nat.le_of_ble_eq_true rfl)) dX2_entry_33 ⟨Nat.le_of_ble_eq_true rfl, Nat.le_of_ble_eq_true rfl⟩) hS (fun _ h => h) (fun v_5 H locs hv_5 _ _ hS => ?_)
      obtain ⟨rfl, hP⟩ := hv_5
      have hP : va_P D vwCl (wM cI cZ q (msThr σ 2)) H := hP
      refine neB false (tgt := 41) hx hb rfl dX2_entry_36 (by decide) (fun c_6 => ?_) (fun c_6 => ?_)
      · exact absurd c_6 (by decide)
      refine lv_iconst (v := 0) hx hb dX2_entry_39 (by decide) ?_
      exact RET _ _ _ _ _ (by have hs : mEntry σ (nI P) (nI E) x3 = (0, (msThr σ 2)) := (by simp [mEntry, palM, pN, thr_1, thr_2, thr_3, thr_4, thr_5, thr_6, thr_7, thr_8, mThr, mHol, mGoo, mMan, mHel, mGon, mN, mWen, mGor, mKin, mMak, mGod, mAmo, mOth, mIts, mWas, mPrf, mCop, mDec, mFee, mOwe, mTol, msThr, msHol, msGoo, msMan, msHel, msGon, msN, msWen, msGor, msKin, msMak, msGod, msAmo, msOth, msIts, msWas, msPrf, msCop, msDec, msFee, msOwe, msTol, bI_t, bI_f, bI_inj, mwF_goo, mwF_hel, va_up_self, nI_l0, nI_l1, nI_l2, nI_l3, nI_l4, nI_l5, nI_l6, nI_l7, c_1, c_2, hcP, hcE] <;> decide); rw [hs]; exact ⟨rfl, hP⟩) hS dX2_entry_40
  · skip
    refine lv_iconst (v := 1) hx hb dX2_entry_14 (by decide) ?_
    refine lv_goto (tgt := 33) hx hb dX2_entry_15 (by decide) ?_
    refine w_call (va_runV (As := [.int 1]) (rest := []) ⟨hx, hb, hml, hown, hts⟩ (c_X2_holds l D cI cZ q σ hq 1) (cwV 1 hts gX2_entry_X2_holds rfl rfl rfl kd_X2_holds ⟨Nat.le_of_ble_eq_true rfl, Nat.le_of_ble_eq_true rfl⟩) (pV_M hP hK) rfl rfl hl.1 rfl (lv_room (Nat.le_of_ble_eq_true rfl)) dX2_entry_33 ⟨Nat.le_of_ble_eq_true rfl, Nat.le_of_ble_eq_true rfl⟩) hS (fun _ h => h) (fun v_7 H locs hv_7 _ _ hS => ?_)
    obtain ⟨rfl, hP⟩ := hv_7
    have hP : va_P D vwCl (wM cI cZ q (msThr σ 1)) H := hP
    refine neB false (tgt := 41) hx hb rfl dX2_entry_36 (by decide) (fun c_8 => ?_) (fun c_8 => ?_)
    · exact absurd c_8 (by decide)
    refine lv_iconst (v := 0) hx hb dX2_entry_39 (by decide) ?_
    exact RET _ _ _ _ _ (by have hs : mEntry σ x1 x2 x3 = (0, (msThr σ 1)) := (by simp [mEntry, palM, pN, thr_1, thr_2, thr_3, thr_4, thr_5, thr_6, thr_7, thr_8, mThr, mHol, mGoo, mMan, mHel, mGon, mN, mWen, mGor, mKin, mMak, mGod, mAmo, mOth, mIts, mWas, mPrf, mCop, mDec, mFee, mOwe, mTol, msThr, msHol, msGoo, msMan, msHel, msGon, msN, msWen, msGor, msKin, msMak, msGod, msAmo, msOth, msIts, msWas, msPrf, msCop, msDec, msFee, msOwe, msTol, bI_t, bI_f, bI_inj, mwF_goo, mwF_hel, va_up_self, nI_l0, nI_l1, nI_l2, nI_l3, nI_l4, nI_l5, nI_l6, nI_l7, c_1] <;> decide); rw [hs]; exact ⟨rfl, hP⟩) hS dX2_entry_40
