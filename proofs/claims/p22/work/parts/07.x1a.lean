theorem kn_X1_isWithin : yX1_isWithin.cls ≠ "java/lang/invoke/MethodHandle" ∧ yX1_isWithin.cls ≠ "java/lang/invoke/VarHandle" ∧ (parseMethodDescriptor yX1_isWithin.desc).map (fun d => d.parameters.length) = some 3 := by decide +kernel
theorem kd_X1_isWithin : yX1_isWithin.cls = RX1 ∧ yX1_isWithin.cls ≠ "java/lang/invoke/MethodHandle" ∧ yX1_isWithin.cls ≠ "java/lang/invoke/VarHandle" ∧ (parseMethodDescriptor yX1_isWithin.desc).map (fun d => d.parameters.length) = some 3 := by decide +kernel
set_option maxHeartbeats 4000000 in
set_option maxRecDepth 100000 in
theorem c_X1_isWithin (l : Launch)  (x lo hi : Int32) : Met l yX1_isWithin wsX1_isWithin ({ frames := 0, cells := 0, slots := 0, locals := 0 }) (va_Pc [.int x, .int lo, .int hi] (PT)) (rQ (fun r => r = bI (inB x lo hi))) 0 0 noF := by
  refine openZ (cc := cX1_isWithin) (maxL := 3) (by decide) rfl (Nat.le_of_ble_eq_true rfl) ?_
  intro p e s m args below meth c hx hb hml hts hown hpre Q RET ls hl
  have hown : s.vm.findClass RX1 = some m.cls := hown
  have hl : lv_has ls 3 [(0, .int x), (1, .int lo), (2, .int hi)] := hl
  refine lv_iload_n hx hb dX1_isWithin_0 rfl (lv_at hl 0 rfl) ?_
  refine lv_iload_n hx hb dX1_isWithin_1 rfl (lv_at hl 1 rfl) ?_
  refine lv_icmp_lt (tgt := 14) hx hb dX1_isWithin_2 (by decide) (fun c_1 => ?_) (fun c_1 => ?_)
  · skip
    refine lv_iconst (v := 0) hx hb dX1_isWithin_14 (by decide) ?_
    exact RET (false) _ _ (congrArg bI (by simp [inB, c_1])) dX1_isWithin_15
  · skip
    refine lv_iload_n hx hb dX1_isWithin_5 rfl (lv_at hl 0 rfl) ?_
    refine lv_iload_n hx hb dX1_isWithin_6 rfl (lv_at hl 2 rfl) ?_
    refine lv_icmp_gt (tgt := 14) hx hb dX1_isWithin_7 (by decide) (fun c_2 => ?_) (fun c_2 => ?_)
    · skip
      refine lv_iconst (v := 0) hx hb dX1_isWithin_14 (by decide) ?_
      exact RET (false) _ _ (congrArg bI (by simp [inB, c_1, c_2])) dX1_isWithin_15
    · skip
      refine lv_iconst (v := 1) hx hb dX1_isWithin_10 (by decide) ?_
      refine lv_goto (tgt := 15) hx hb dX1_isWithin_11 (by decide) ?_
      exact RET (true) _ _ (congrArg bI (by simp [inB, c_1, c_2])) dX1_isWithin_15
theorem kn_X1_isGood : yX1_isGood.cls ≠ "java/lang/invoke/MethodHandle" ∧ yX1_isGood.cls ≠ "java/lang/invoke/VarHandle" ∧ (parseMethodDescriptor yX1_isGood.desc).map (fun d => d.parameters.length) = some 1 := by decide +kernel
theorem kd_X1_isGood : yX1_isGood.cls = RX1 ∧ yX1_isGood.cls ≠ "java/lang/invoke/MethodHandle" ∧ yX1_isGood.cls ≠ "java/lang/invoke/VarHandle" ∧ (parseMethodDescriptor yX1_isGood.desc).map (fun d => d.parameters.length) = some 1 := by decide +kernel
set_option maxHeartbeats 4000000 in
set_option maxRecDepth 100000 in
theorem c_X1_isGood (l : Launch)  (x : Int32) : Met l yX1_isGood wsX1_isGood ({ frames := 0, cells := 0, slots := 0, locals := 0 }) (va_Pc [.int x] (PT)) (rQ (fun r => r = bI (rngB 0 6 x))) 0 0 noF := by
  refine openZ (cc := cX1_isGood) (maxL := 1) (by decide) rfl (Nat.le_of_ble_eq_true rfl) ?_
  intro p e s m args below meth c hx hb hml hts hown hpre Q RET ls hl
  have hown : s.vm.findClass RX1 = some m.cls := hown
  have hl : lv_has ls 1 [(0, .int x)] := hl
  refine lv_iload_n hx hb dX1_isGood_0 rfl (lv_at hl 0 rfl) ?_
  refine lv_if_lt (tgt := 14) hx hb dX1_isGood_1 (by decide) (fun c_1 => ?_) (fun c_1 => ?_)
  · skip
    refine lv_iconst (v := 0) hx hb dX1_isGood_14 (by decide) ?_
    exact RET (false) _ _ (congrArg bI (by simp [rngB, c_1])) dX1_isGood_15
  · skip
    refine lv_iload_n hx hb dX1_isGood_4 rfl (lv_at hl 0 rfl) ?_
    refine lv_bipush (v := 6) hx hb dX1_isGood_5 (by decide) ?_
    refine lv_icmp_ge (tgt := 14) hx hb dX1_isGood_7 (by decide) (fun c_2 => ?_) (fun c_2 => ?_)
    · skip
      refine lv_iconst (v := 0) hx hb dX1_isGood_14 (by decide) ?_
      exact RET (false) _ _ (congrArg bI (by simp [rngB, c_1, c_2])) dX1_isGood_15
    · skip
      refine lv_iconst (v := 1) hx hb dX1_isGood_10 (by decide) ?_
      refine lv_goto (tgt := 15) hx hb dX1_isGood_11 (by decide) ?_
      exact RET (true) _ _ (congrArg bI (by simp [rngB, c_1, c_2])) dX1_isGood_15
theorem c_X1_isGood_N (l : Launch) (a : Nat) (ha : a < 2 ^ 31) : Met l yX1_isGood wsX1_isGood ({ frames := 0, cells := 0, slots := 0, locals := 0 }) (va_Pc [.int (nI a)] (PT)) (rQ (fun r => r = bI (decide (a < 6)))) 0 0 noF := by
  have h := c_X1_isGood l (nI a)
  rw [show (6 : Int32) = nI 6 from rfl, rngN0 ha (by decide : 6 < 2 ^ 31)] at h
  exact h
theorem kn_X1_isDock : yX1_isDock.cls ≠ "java/lang/invoke/MethodHandle" ∧ yX1_isDock.cls ≠ "java/lang/invoke/VarHandle" ∧ (parseMethodDescriptor yX1_isDock.desc).map (fun d => d.parameters.length) = some 1 := by decide +kernel
theorem kd_X1_isDock : yX1_isDock.cls = RX1 ∧ yX1_isDock.cls ≠ "java/lang/invoke/MethodHandle" ∧ yX1_isDock.cls ≠ "java/lang/invoke/VarHandle" ∧ (parseMethodDescriptor yX1_isDock.desc).map (fun d => d.parameters.length) = some 1 := by decide +kernel
set_option maxHeartbeats 4000000 in
set_option maxRecDepth 100000 in
theorem c_X1_isDock (l : Launch)  (x : Int32) : Met l yX1_isDock wsX1_isDock ({ frames := 0, cells := 0, slots := 0, locals := 0 }) (va_Pc [.int x] (PT)) (rQ (fun r => r = bI (rngB 0 4 x))) 0 0 noF := by
  refine openZ (cc := cX1_isDock) (maxL := 1) (by decide) rfl (Nat.le_of_ble_eq_true rfl) ?_
  intro p e s m args below meth c hx hb hml hts hown hpre Q RET ls hl
  have hown : s.vm.findClass RX1 = some m.cls := hown
  have hl : lv_has ls 1 [(0, .int x)] := hl
  refine lv_iload_n hx hb dX1_isDock_0 rfl (lv_at hl 0 rfl) ?_
  refine lv_if_lt (tgt := 13) hx hb dX1_isDock_1 (by decide) (fun c_1 => ?_) (fun c_1 => ?_)
  · skip
    refine lv_iconst (v := 0) hx hb dX1_isDock_13 (by decide) ?_
    exact RET (false) _ _ (congrArg bI (by simp [rngB, c_1])) dX1_isDock_14
  · skip
    refine lv_iload_n hx hb dX1_isDock_4 rfl (lv_at hl 0 rfl) ?_
    refine lv_iconst (v := 4) hx hb dX1_isDock_5 (by decide) ?_
    refine lv_icmp_ge (tgt := 13) hx hb dX1_isDock_6 (by decide) (fun c_2 => ?_) (fun c_2 => ?_)
    · skip
      refine lv_iconst (v := 0) hx hb dX1_isDock_13 (by decide) ?_
      exact RET (false) _ _ (congrArg bI (by simp [rngB, c_1, c_2])) dX1_isDock_14
    · skip
      refine lv_iconst (v := 1) hx hb dX1_isDock_9 (by decide) ?_
      refine lv_goto (tgt := 14) hx hb dX1_isDock_10 (by decide) ?_
      exact RET (true) _ _ (congrArg bI (by simp [rngB, c_1, c_2])) dX1_isDock_14
theorem c_X1_isDock_N (l : Launch) (a : Nat) (ha : a < 2 ^ 31) : Met l yX1_isDock wsX1_isDock ({ frames := 0, cells := 0, slots := 0, locals := 0 }) (va_Pc [.int (nI a)] (PT)) (rQ (fun r => r = bI (decide (a < 4)))) 0 0 noF := by
  have h := c_X1_isDock l (nI a)
  rw [show (4 : Int32) = nI 4 from rfl, rngN0 ha (by decide : 4 < 2 ^ 31)] at h
  exact h
theorem kn_X1_isTruck : yX1_isTruck.cls ≠ "java/lang/invoke/MethodHandle" ∧ yX1_isTruck.cls ≠ "java/lang/invoke/VarHandle" ∧ (parseMethodDescriptor yX1_isTruck.desc).map (fun d => d.parameters.length) = some 1 := by decide +kernel
theorem kd_X1_isTruck : yX1_isTruck.cls = RX1 ∧ yX1_isTruck.cls ≠ "java/lang/invoke/MethodHandle" ∧ yX1_isTruck.cls ≠ "java/lang/invoke/VarHandle" ∧ (parseMethodDescriptor yX1_isTruck.desc).map (fun d => d.parameters.length) = some 1 := by decide +kernel
set_option maxHeartbeats 4000000 in
set_option maxRecDepth 100000 in
theorem c_X1_isTruck (l : Launch)  (x : Int32) : Met l yX1_isTruck wsX1_isTruck ({ frames := 0, cells := 0, slots := 0, locals := 0 }) (va_Pc [.int x] (PT)) (rQ (fun r => r = bI (rngB 4 6 x))) 0 0 noF := by
  refine openZ (cc := cX1_isTruck) (maxL := 1) (by decide) rfl (Nat.le_of_ble_eq_true rfl) ?_
  intro p e s m args below meth c hx hb hml hts hown hpre Q RET ls hl
  have hown : s.vm.findClass RX1 = some m.cls := hown
  have hl : lv_has ls 1 [(0, .int x)] := hl
  refine lv_iload_n hx hb dX1_isTruck_0 rfl (lv_at hl 0 rfl) ?_
  refine lv_iconst (v := 4) hx hb dX1_isTruck_1 (by decide) ?_
  refine lv_icmp_lt (tgt := 15) hx hb dX1_isTruck_2 (by decide) (fun c_1 => ?_) (fun c_1 => ?_)
  · skip
    refine lv_iconst (v := 0) hx hb dX1_isTruck_15 (by decide) ?_
    exact RET (false) _ _ (congrArg bI (by simp [rngB, c_1])) dX1_isTruck_16
  · skip
    refine lv_iload_n hx hb dX1_isTruck_5 rfl (lv_at hl 0 rfl) ?_
    refine lv_bipush (v := 6) hx hb dX1_isTruck_6 (by decide) ?_
    refine lv_icmp_ge (tgt := 15) hx hb dX1_isTruck_8 (by decide) (fun c_2 => ?_) (fun c_2 => ?_)
    · skip
      refine lv_iconst (v := 0) hx hb dX1_isTruck_15 (by decide) ?_
      exact RET (false) _ _ (congrArg bI (by simp [rngB, c_1, c_2])) dX1_isTruck_16
    · skip
      refine lv_iconst (v := 1) hx hb dX1_isTruck_11 (by decide) ?_
      refine lv_goto (tgt := 16) hx hb dX1_isTruck_12 (by decide) ?_
      exact RET (true) _ _ (congrArg bI (by simp [rngB, c_1, c_2])) dX1_isTruck_16
theorem kn_X1_isHolder : yX1_isHolder.cls ≠ "java/lang/invoke/MethodHandle" ∧ yX1_isHolder.cls ≠ "java/lang/invoke/VarHandle" ∧ (parseMethodDescriptor yX1_isHolder.desc).map (fun d => d.parameters.length) = some 1 := by decide +kernel
theorem kd_X1_isHolder : yX1_isHolder.cls = RX1 ∧ yX1_isHolder.cls ≠ "java/lang/invoke/MethodHandle" ∧ yX1_isHolder.cls ≠ "java/lang/invoke/VarHandle" ∧ (parseMethodDescriptor yX1_isHolder.desc).map (fun d => d.parameters.length) = some 1 := by decide +kernel
set_option maxHeartbeats 4000000 in
set_option maxRecDepth 100000 in
theorem c_X1_isHolder (l : Launch)  (x : Int32) : Met l yX1_isHolder wsX1_isHolder ({ frames := 0, cells := 0, slots := 0, locals := 0 }) (va_Pc [.int x] (PT)) (rQ (fun r => r = bI (rngB 0 6 x))) 0 0 noF := by
  refine openZ (cc := cX1_isHolder) (maxL := 1) (by decide) rfl (Nat.le_of_ble_eq_true rfl) ?_
  intro p e s m args below meth c hx hb hml hts hown hpre Q RET ls hl
  have hown : s.vm.findClass RX1 = some m.cls := hown
  have hl : lv_has ls 1 [(0, .int x)] := hl
  refine lv_iload_n hx hb dX1_isHolder_0 rfl (lv_at hl 0 rfl) ?_
  refine lv_if_lt (tgt := 14) hx hb dX1_isHolder_1 (by decide) (fun c_1 => ?_) (fun c_1 => ?_)
  · skip
    refine lv_iconst (v := 0) hx hb dX1_isHolder_14 (by decide) ?_
    exact RET (false) _ _ (congrArg bI (by simp [rngB, c_1])) dX1_isHolder_15
  · skip
    refine lv_iload_n hx hb dX1_isHolder_4 rfl (lv_at hl 0 rfl) ?_
    refine lv_bipush (v := 6) hx hb dX1_isHolder_5 (by decide) ?_
    refine lv_icmp_ge (tgt := 14) hx hb dX1_isHolder_7 (by decide) (fun c_2 => ?_) (fun c_2 => ?_)
    · skip
      refine lv_iconst (v := 0) hx hb dX1_isHolder_14 (by decide) ?_
      exact RET (false) _ _ (congrArg bI (by simp [rngB, c_1, c_2])) dX1_isHolder_15
    · skip
      refine lv_iconst (v := 1) hx hb dX1_isHolder_10 (by decide) ?_
      refine lv_goto (tgt := 15) hx hb dX1_isHolder_11 (by decide) ?_
      exact RET (true) _ _ (congrArg bI (by simp [rngB, c_1, c_2])) dX1_isHolder_15
theorem c_X1_isHolder_N (l : Launch) (a : Nat) (ha : a < 2 ^ 31) : Met l yX1_isHolder wsX1_isHolder ({ frames := 0, cells := 0, slots := 0, locals := 0 }) (va_Pc [.int (nI a)] (PT)) (rQ (fun r => r = bI (decide (a < 6)))) 0 0 noF := by
  have h := c_X1_isHolder l (nI a)
  rw [show (6 : Int32) = nI 6 from rfl, rngN0 ha (by decide : 6 < 2 ^ 31)] at h
  exact h
theorem kn_X1_isOwer : yX1_isOwer.cls ≠ "java/lang/invoke/MethodHandle" ∧ yX1_isOwer.cls ≠ "java/lang/invoke/VarHandle" ∧ (parseMethodDescriptor yX1_isOwer.desc).map (fun d => d.parameters.length) = some 1 := by decide +kernel
theorem kd_X1_isOwer : yX1_isOwer.cls = RX1 ∧ yX1_isOwer.cls ≠ "java/lang/invoke/MethodHandle" ∧ yX1_isOwer.cls ≠ "java/lang/invoke/VarHandle" ∧ (parseMethodDescriptor yX1_isOwer.desc).map (fun d => d.parameters.length) = some 1 := by decide +kernel
set_option maxHeartbeats 4000000 in
set_option maxRecDepth 100000 in
theorem c_X1_isOwer (l : Launch)  (x : Int32) : Met l yX1_isOwer wsX1_isOwer ({ frames := 0, cells := 0, slots := 0, locals := 0 }) (va_Pc [.int x] (PT)) (rQ (fun r => r = bI (rngB 0 7 x))) 0 0 noF := by
  refine openZ (cc := cX1_isOwer) (maxL := 1) (by decide) rfl (Nat.le_of_ble_eq_true rfl) ?_
  intro p e s m args below meth c hx hb hml hts hown hpre Q RET ls hl
  have hown : s.vm.findClass RX1 = some m.cls := hown
  have hl : lv_has ls 1 [(0, .int x)] := hl
  refine lv_iload_n hx hb dX1_isOwer_0 rfl (lv_at hl 0 rfl) ?_
  refine lv_if_lt (tgt := 14) hx hb dX1_isOwer_1 (by decide) (fun c_1 => ?_) (fun c_1 => ?_)
  · skip
    refine lv_iconst (v := 0) hx hb dX1_isOwer_14 (by decide) ?_
    exact RET (false) _ _ (congrArg bI (by simp [rngB, c_1])) dX1_isOwer_15
  · skip
    refine lv_iload_n hx hb dX1_isOwer_4 rfl (lv_at hl 0 rfl) ?_
    refine lv_bipush (v := 7) hx hb dX1_isOwer_5 (by decide) ?_
    refine lv_icmp_ge (tgt := 14) hx hb dX1_isOwer_7 (by decide) (fun c_2 => ?_) (fun c_2 => ?_)
    · skip
      refine lv_iconst (v := 0) hx hb dX1_isOwer_14 (by decide) ?_
      exact RET (false) _ _ (congrArg bI (by simp [rngB, c_1, c_2])) dX1_isOwer_15
    · skip
      refine lv_iconst (v := 1) hx hb dX1_isOwer_10 (by decide) ?_
      refine lv_goto (tgt := 15) hx hb dX1_isOwer_11 (by decide) ?_
      exact RET (true) _ _ (congrArg bI (by simp [rngB, c_1, c_2])) dX1_isOwer_15
theorem c_X1_isOwer_N (l : Launch) (a : Nat) (ha : a < 2 ^ 31) : Met l yX1_isOwer wsX1_isOwer ({ frames := 0, cells := 0, slots := 0, locals := 0 }) (va_Pc [.int (nI a)] (PT)) (rQ (fun r => r = bI (decide (a < 7)))) 0 0 noF := by
  have h := c_X1_isOwer l (nI a)
  rw [show (7 : Int32) = nI 7 from rfl, rngN0 ha (by decide : 7 < 2 ^ 31)] at h
  exact h
theorem kn_X1_weightOfOne : yX1_weightOfOne.cls ≠ "java/lang/invoke/MethodHandle" ∧ yX1_weightOfOne.cls ≠ "java/lang/invoke/VarHandle" ∧ (parseMethodDescriptor yX1_weightOfOne.desc).map (fun d => d.parameters.length) = some 1 := by decide +kernel
theorem kd_X1_weightOfOne : yX1_weightOfOne.cls = RX1 ∧ yX1_weightOfOne.cls ≠ "java/lang/invoke/MethodHandle" ∧ yX1_weightOfOne.cls ≠ "java/lang/invoke/VarHandle" ∧ (parseMethodDescriptor yX1_weightOfOne.desc).map (fun d => d.parameters.length) = some 1 := by decide +kernel
set_option maxHeartbeats 4000000 in
set_option maxRecDepth 100000 in
theorem c_X1_weightOfOne (l : Launch)  (x : Int32) : Met l yX1_weightOfOne wsX1_weightOfOne ({ frames := 0, cells := 0, slots := 0, locals := 0 }) (va_Pc [.int x] (PT)) (rQ (fun r => r = x + 1)) 0 0 noF := by
  refine openR (cc := cX1_weightOfOne) (maxL := 1) (by decide) rfl (Nat.le_of_ble_eq_true rfl) ?_
  intro p e s m args below meth c hx hb hml hts hown hpre Q RET ls hl
  have hown : s.vm.findClass RX1 = some m.cls := hown
  have hl : lv_has ls 1 [(0, .int x)] := hl
  refine lv_iload_n hx hb dX1_weightOfOne_0 rfl (lv_at hl 0 rfl) ?_
  refine lv_iconst (v := 1) hx hb dX1_weightOfOne_1 (by decide) ?_
  refine lv_iadd hx hb dX1_weightOfOne_2 ?_
  exact RET _ _ _ (rfl) dX1_weightOfOne_3
theorem kn_X1_lowestOf : yX1_lowestOf.cls ≠ "java/lang/invoke/MethodHandle" ∧ yX1_lowestOf.cls ≠ "java/lang/invoke/VarHandle" ∧ (parseMethodDescriptor yX1_lowestOf.desc).map (fun d => d.parameters.length) = some 1 := by decide +kernel
theorem kd_X1_lowestOf : yX1_lowestOf.cls = RX1 ∧ yX1_lowestOf.cls ≠ "java/lang/invoke/MethodHandle" ∧ yX1_lowestOf.cls ≠ "java/lang/invoke/VarHandle" ∧ (parseMethodDescriptor yX1_lowestOf.desc).map (fun d => d.parameters.length) = some 1 := by decide +kernel
set_option maxHeartbeats 4000000 in
set_option maxRecDepth 100000 in
theorem c_X1_lowestOf (l : Launch)  (set : Int32) : Met l yX1_lowestOf wsX1_lowestOf ({ frames := 1, cells := 0, slots := 0, locals := 21 }) (va_Pc [.int set] (PT)) (rQ (fun r => r = loF set)) 0 0 noF := by
  refine openR (cc := cX1_lowestOf) (maxL := 2) (by decide) rfl (Nat.le_of_ble_eq_true rfl) ?_
  intro p e s m args below meth c hx hb hml hts hown hpre Q RET ls hl
  have hown : s.vm.findClass RX1 = some m.cls := hown
  have hl : lv_has ls 2 [(0, .int set)] := hl
  refine lv_iconst (v := 0) hx hb dX1_lowestOf_0 (by decide) ?_
  refine lv_istore_n (lv' := [(1, .int 0), (0, .int set)]) hx hb dX1_lowestOf_1 rfl hl (by decide) rfl (fun ls hl => ?_)
  refine loopW (N := 7) (k0 := 0) (fun k ls => lv_has ls 2 [(0, .int set), (1, .int (nI (k)))] ∧ (fstF (fun k => isB set (nI k)) (7 - k) k = loF set)) (Nat.zero_le _) ⟨lv_sub hl [1, 0] rfl, rfl⟩ (fun k ls hk_k hI ih_k => ?_)
  obtain ⟨hl, hi⟩ := hI
  refine lv_iload_n hx hb dX1_lowestOf_2 rfl (lv_at hl 1 rfl) ?_
  refine lv_bipush (v := 7) hx hb dX1_lowestOf_3 (by decide) ?_
  refine geN k 7 (tgt := 24) hx hb rfl rfl (by omega) (by omega) dX1_lowestOf_5 (by decide) (fun c_1 => ?_) (fun c_1 => ?_)
  · skip
    refine lv_iconst (v := (-1)) hx hb dX1_lowestOf_24 (by decide) ?_
    exact RET _ _ _ ((fstF_end (by omega)).symm.trans hi) dX1_lowestOf_25
  · skip
    refine lv_iload_n hx hb dX1_lowestOf_8 rfl (lv_at hl 0 rfl) ?_
    refine lv_iload_n hx hb dX1_lowestOf_9 rfl (lv_at hl 1 rfl) ?_
    refine r_callE (x := bI (isB set (nI (k)))) (va_runS (As := [.int set, .int (nI (k))]) (rest := []) ⟨hx, hb, hml, hown, hts⟩ (c_X1_isIn l set (nI (k))) (va_cwS 2 hts gX1_lowestOf_X1_isIn rfl rfl rfl kn_X1_isIn ⟨Nat.le_of_ble_eq_true rfl, Nat.le_of_ble_eq_true rfl⟩) (pS_T) rfl rfl hl.1 rfl (lv_room (Nat.le_of_ble_eq_true rfl)) dX1_lowestOf_10 ⟨Nat.le_of_ble_eq_true rfl, Nat.le_of_ble_eq_true rfl⟩) ?_
    refine eqB (isB set (nI (k))) (tgt := 18) hx hb rfl dX1_lowestOf_13 (by decide) (fun c_2 => ?_) (fun c_2 => ?_)
    · skip
      refine lv_iinc (v := nI (k + 1)) (lv' := [(1, .int (nI (k + 1))), (0, .int set)]) hx hb dX1_lowestOf_18 hl (k := 1) rfl (iincN (k)) (by decide) rfl (fun ls hl => ?_)
      refine lv_goto (tgt := 2) hx hb dX1_lowestOf_21 (by decide) ?_
      exact ih_k (by omega) _ ⟨lv_sub hl [1, 0] rfl, (fstF_no (by omega) c_2).symm.trans hi⟩
    · skip
      refine lv_iload_n hx hb dX1_lowestOf_16 rfl (lv_at hl 1 rfl) ?_
      exact RET _ _ _ ((fstF_yes (by omega) c_2).symm.trans hi) dX1_lowestOf_17
theorem kn_X1_isPallet : yX1_isPallet.cls ≠ "java/lang/invoke/MethodHandle" ∧ yX1_isPallet.cls ≠ "java/lang/invoke/VarHandle" ∧ (parseMethodDescriptor yX1_isPallet.desc).map (fun d => d.parameters.length) = some 1 := by decide +kernel
theorem kd_X1_isPallet : yX1_isPallet.cls = RX1 ∧ yX1_isPallet.cls ≠ "java/lang/invoke/MethodHandle" ∧ yX1_isPallet.cls ≠ "java/lang/invoke/VarHandle" ∧ (parseMethodDescriptor yX1_isPallet.desc).map (fun d => d.parameters.length) = some 1 := by decide +kernel
set_option maxHeartbeats 4000000 in
set_option maxRecDepth 100000 in
theorem c_X1_isPallet (l : Launch) (D : va_G) (cI : ClassId) (q : Nat → Nat) (σ : SG) (x : Int32) : Met l yX1_isPallet wsX1_isPallet ({ frames := 0, cells := 0, slots := 0, locals := 0 }) (va_Pc [.ref (q 0), .int x] (PG D cI q σ)) (rQ (fun r => r = bI (rngB 0 (nI (gN σ)) x))) 0 0 noF := by
  refine openZ (cc := cX1_isPallet) (maxL := 2) (by decide) rfl (Nat.le_of_ble_eq_true rfl) ?_
  intro p e s m args below meth c hx hb hml hts hown hpre Q RET ls hl
  have hown : s.vm.findClass RX1 = some m.cls := hown
  have hl : lv_has ls 2 [(0, .ref (q 0)), (1, .int x)] := hl
  obtain ⟨hP, hK, hE⟩ := hpre
  have hiX1 : ∀ w ∈ wsX10, w ∈ wsX1_isPallet := by decide +kernel
  have hf40 := hts (.fieldLink RX1 40 "PalletGram" "pallets" "I") (by decide +kernel)
  obtain ⟨hol, goo, dec, fee, deb, len, num, prf, cop, mad, n⟩ := σ
  refine lv_iload_n hx hb dX1_isPallet_0 rfl (lv_at hl 1 rfl) ?_
  refine lv_if_lt (tgt := 16) hx hb dX1_isPallet_1 (by decide) (fun c_1 => ?_) (fun c_1 => ?_)
  · skip
    refine lv_iconst (v := 0) hx hb dX1_isPallet_16 (by decide) ?_
    exact RET (false) _ _ (congrArg bI (by simp [rngB, c_1, gHol, gGoo, gDec, gFee, gDeb, gLen, gNum, gPrf, gCop, gMad, gN])) dX1_isPallet_17
  · skip
    refine lv_iload_n hx hb dX1_isPallet_4 rfl (lv_at hl 1 rfl) ?_
    refine lv_aload_n hx hb dX1_isPallet_5 rfl (lv_at hl 0 rfl) ?_
    refine gf_1_6 hx hb hts hiX1 hown hK hP hf40 dX1_isPallet_6 ?_
    refine lv_topE (y := nI (n)) rfl ?_
    refine lv_icmp_ge (tgt := 16) hx hb dX1_isPallet_9 (by decide) (fun c_2 => ?_) (fun c_2 => ?_)
    · skip
      refine lv_iconst (v := 0) hx hb dX1_isPallet_16 (by decide) ?_
      exact RET (false) _ _ (congrArg bI (by simp [rngB, c_1, c_2, gHol, gGoo, gDec, gFee, gDeb, gLen, gNum, gPrf, gCop, gMad, gN])) dX1_isPallet_17
    · skip
      refine lv_iconst (v := 1) hx hb dX1_isPallet_12 (by decide) ?_
      refine lv_goto (tgt := 17) hx hb dX1_isPallet_13 (by decide) ?_
      exact RET (true) _ _ (congrArg bI (by simp [rngB, c_1, c_2, gHol, gGoo, gDec, gFee, gDeb, gLen, gNum, gPrf, gCop, gMad, gN])) dX1_isPallet_17
theorem kn_X1_weightOf : yX1_weightOf.cls ≠ "java/lang/invoke/MethodHandle" ∧ yX1_weightOf.cls ≠ "java/lang/invoke/VarHandle" ∧ (parseMethodDescriptor yX1_weightOf.desc).map (fun d => d.parameters.length) = some 1 := by decide +kernel
theorem kd_X1_weightOf : yX1_weightOf.cls = RX1 ∧ yX1_weightOf.cls ≠ "java/lang/invoke/MethodHandle" ∧ yX1_weightOf.cls ≠ "java/lang/invoke/VarHandle" ∧ (parseMethodDescriptor yX1_weightOf.desc).map (fun d => d.parameters.length) = some 1 := by decide +kernel
set_option maxHeartbeats 4000000 in
set_option maxRecDepth 100000 in
theorem c_X1_weightOf (l : Launch) (D : va_G) (cI : ClassId) (q : Nat → Nat) (σ : SG) (P : Nat) (hP14 : P < 14) : Met l yX1_weightOf wsX1_weightOf ({ frames := 1, cells := 0, slots := 0, locals := 20 }) (va_Pc [.ref (q 0), .int (nI (P))] (PG D cI q σ)) (rQ (fun r => r = wS (gGoo σ) P 6)) 0 0 noF := by
  refine openR (cc := cX1_weightOf) (maxL := 4) (by decide) rfl (Nat.le_of_ble_eq_true rfl) ?_
  intro p e s m args below meth c hx hb hml hts hown hpre Q RET ls hl
  have hown : s.vm.findClass RX1 = some m.cls := hown
  have hl : lv_has ls 4 [(0, .ref (q 0)), (1, .int (nI (P)))] := hl
  obtain ⟨hP, hK, hE⟩ := hpre
  have hiX1 : ∀ w ∈ wsX10, w ∈ wsX1_weightOf := by decide +kernel
  have hf20 := hts (.fieldLink RX1 20 "PalletGram" "goods" "[I") (by decide +kernel)
  obtain ⟨hol, goo, dec, fee, deb, len, num, prf, cop, mad, n⟩ := σ
  refine lv_iconst (v := 0) hx hb dX1_weightOf_0 (by decide) ?_
  refine lv_istore_n (lv' := [(2, .int 0), (0, .ref (q 0)), (1, .int (nI (P)))]) hx hb dX1_weightOf_1 rfl hl (by decide) rfl (fun ls hl => ?_)
  refine lv_iconst (v := 0) hx hb dX1_weightOf_2 (by decide) ?_
  refine lv_istore_n (lv' := [(3, .int 0), (2, .int 0), (0, .ref (q 0)), (1, .int (nI (P)))]) hx hb dX1_weightOf_3 rfl hl (by decide) rfl (fun ls hl => ?_)
  refine loopW (N := 6) (k0 := 0) (fun k ls => lv_has ls 4 [(0, .ref (q 0)), (1, .int (nI (P))), (2, .int ((wS goo P k))), (3, .int (nI (k)))]) (Nat.zero_le _) (lv_sub hl [2, 3, 1, 0] rfl) (fun k ls hk_k hI ih_k => ?_)
  have hl := hI
  refine lv_iload_n hx hb dX1_weightOf_4 rfl (lv_at hl 3 rfl) ?_
  refine lv_bipush (v := 6) hx hb dX1_weightOf_5 (by decide) ?_
  refine geN k 6 (tgt := 35) hx hb rfl rfl (by omega) (by omega) dX1_weightOf_7 (by decide) (fun c_1 => ?_) (fun c_1 => ?_)
  · skip
    refine lv_iload_n hx hb dX1_weightOf_35 rfl (lv_at hl 2 rfl) ?_
    exact RET _ _ _ (by rw [show k = 6 by omega]) dX1_weightOf_36
  · skip
    refine lv_iload_n hx hb dX1_weightOf_10 rfl (lv_at hl 2 rfl) ?_
    refine lv_aload_n hx hb dX1_weightOf_11 rfl (lv_at hl 0 rfl) ?_
    refine gf_1_2 hx hb hts hiX1 hown hK hP hf20 dX1_weightOf_12 ?_
    refine lv_iload_n hx hb dX1_weightOf_15 rfl (lv_at hl 1 rfl) ?_
    refine lv_bipush (v := 6) hx hb dX1_weightOf_16 (by decide) ?_
    refine mulN P 6 hx hb rfl rfl dX1_weightOf_18 ?_
    refine lv_iload_n hx hb dX1_weightOf_19 rfl (lv_at hl 3 rfl) ?_
    refine addN (P * 6) k hx hb rfl rfl dX1_weightOf_20 ?_
    refine gld_3 (k := P * 6 + k) (v := goo (P * 6 + k)) hx hb hK hP rfl (by omega) rfl dX1_weightOf_21 ?_
    refine lv_iload_n hx hb dX1_weightOf_22 rfl (lv_at hl 3 rfl) ?_
    refine r_callE (x := (nI (k) + 1)) (va_runS (As := [.int (nI (k))]) (rest := [.int ((goo (P * 6 + k))), .int ((wS goo P k))]) ⟨hx, hb, hml, hown, hts⟩ (c_X1_weightOfOne l (nI (k))) (va_cwS 1 hts gX1_weightOf_X1_weightOfOne rfl rfl rfl kn_X1_weightOfOne ⟨Nat.le_of_ble_eq_true rfl, Nat.le_of_ble_eq_true rfl⟩) (pS_T) rfl rfl hl.1 rfl (lv_room (Nat.le_of_ble_eq_true rfl)) dX1_weightOf_23 ⟨Nat.le_of_ble_eq_true rfl, Nat.le_of_ble_eq_true rfl⟩) ?_
    refine lv_imul hx hb dX1_weightOf_26 ?_
    refine lv_iadd hx hb dX1_weightOf_27 ?_
    refine lv_istore_n (lv' := [(2, .int (((wS goo P k) + ((goo (P * 6 + k)) * (nI (k) + 1))))), (0, .ref (q 0)), (1, .int (nI (P))), (3, .int (nI (k)))]) hx hb dX1_weightOf_28 rfl hl (by decide) rfl (fun ls hl => ?_)
    refine lv_iinc (v := nI (k + 1)) (lv' := [(3, .int (nI (k + 1))), (2, .int (((wS goo P k) + ((goo (P * 6 + k)) * (nI (k) + 1))))), (0, .ref (q 0)), (1, .int (nI (P)))]) hx hb dX1_weightOf_29 hl (k := 3) rfl (iincN (k)) (by decide) rfl (fun ls hl => ?_)
    refine lv_goto (tgt := 4) hx hb dX1_weightOf_32 (by decide) ?_
    exact ih_k (by omega) _ (lv_sub hl [2, 3, 1, 0] rfl)
theorem kn_X1_hasRoom : yX1_hasRoom.cls ≠ "java/lang/invoke/MethodHandle" ∧ yX1_hasRoom.cls ≠ "java/lang/invoke/VarHandle" ∧ (parseMethodDescriptor yX1_hasRoom.desc).map (fun d => d.parameters.length) = some 2 := by decide +kernel
theorem kd_X1_hasRoom : yX1_hasRoom.cls = RX1 ∧ yX1_hasRoom.cls ≠ "java/lang/invoke/MethodHandle" ∧ yX1_hasRoom.cls ≠ "java/lang/invoke/VarHandle" ∧ (parseMethodDescriptor yX1_hasRoom.desc).map (fun d => d.parameters.length) = some 2 := by decide +kernel
set_option maxHeartbeats 4000000 in
set_option maxRecDepth 100000 in
theorem c_X1_hasRoom (l : Launch) (D : va_G) (cI : ClassId) (q : Nat → Nat) (σ : SG) (hd : Nat) (more : Int32) (ok : okG σ) (hhd : hd < 6) : Met l yX1_hasRoom wsX1_hasRoom ({ frames := 2, cells := 0, slots := 0, locals := 43 }) (va_Pc [.ref (q 0), .int (nI (hd)), .int more] (PG D cI q σ)) (rQ (fun r => r = bI (hrF (gHol σ) (gGoo σ) (gN σ) hd more))) 0 0 noF := by
  refine openZ (cc := cX1_hasRoom) (maxL := 5) (by decide) rfl (Nat.le_of_ble_eq_true rfl) ?_
  intro p e s m args below meth c hx hb hml hts hown hpre Q RET ls hl
  have hown : s.vm.findClass RX1 = some m.cls := hown
  have hl : lv_has ls 5 [(0, .ref (q 0)), (1, .int (nI (hd))), (2, .int more)] := hl
  obtain ⟨hP, hK, hE⟩ := hpre
  have hiX1 : ∀ w ∈ wsX10, w ∈ wsX1_hasRoom := by decide +kernel
  have hf40 := hts (.fieldLink RX1 40 "PalletGram" "pallets" "I") (by decide +kernel)
  have hf16 := hts (.fieldLink RX1 16 "PalletGram" "holders" "[I") (by decide +kernel)
  obtain ⟨hol, goo, dec, fee, deb, len, num, prf, cop, mad, n⟩ := σ
  obtain ⟨hn, hhol, hlen⟩ := ok
  have hn : n ≤ 14 := hn
  have hhol : ∀ P, hol P < 6 := hhol
  have hlen : ∀ P, len P ≤ 30 := hlen
  refine lv_iload_n hx hb dX1_hasRoom_0 rfl (lv_at hl 1 rfl) ?_
  refine r_callE (x := bI (decide (hd < 4))) (va_runS (As := [.int (nI (hd))]) (rest := []) ⟨hx, hb, hml, hown, hts⟩ (c_X1_isDock_N l hd (by omega)) (va_cwS 1 hts gX1_hasRoom_X1_isDock rfl rfl rfl kn_X1_isDock ⟨Nat.le_of_ble_eq_true rfl, Nat.le_of_ble_eq_true rfl⟩) (pS_T) rfl rfl hl.1 rfl (lv_room (Nat.le_of_ble_eq_true rfl)) dX1_hasRoom_1 ⟨Nat.le_of_ble_eq_true rfl, Nat.le_of_ble_eq_true rfl⟩) ?_
  refine eqB (decide (hd < 4)) (tgt := 9) hx hb rfl dX1_hasRoom_4 (by decide) (fun c_1 => ?_) (fun c_1 => ?_)
  · skip
    have c_1 := of_decide_eq_false c_1
    refine lv_iload_n hx hb dX1_hasRoom_9 rfl (lv_at hl 2 rfl) ?_
    refine lv_istore_n (lv' := [(3, .int more), (0, .ref (q 0)), (1, .int (nI (hd))), (2, .int more)]) hx hb dX1_hasRoom_10 rfl hl (by decide) rfl (fun ls hl => ?_)
    refine lv_iconst (v := 0) hx hb dX1_hasRoom_11 (by decide) ?_
    refine lv_istore (lv' := [(4, .int 0), (3, .int more), (0, .ref (q 0)), (1, .int (nI (hd))), (2, .int more)]) hx hb dX1_hasRoom_12 hl (by decide) rfl (fun ls hl => ?_)
    refine loopW (N := n) (k0 := 0) (fun k ls => lv_has ls 5 [(0, .ref (q 0)), (1, .int (nI (hd))), (2, .int more), (3, .int ((rS hol goo hd more k))), (4, .int (nI (k)))]) (Nat.zero_le _) (lv_sub hl [2, 3, 4, 1, 0] rfl) (fun k ls hk_k hI ih_k => ?_)
    have hl := hI
    refine lv_iload hx hb dX1_hasRoom_14 (lv_at hl 4 rfl) ?_
    refine lv_aload_n hx hb dX1_hasRoom_16 rfl (lv_at hl 0 rfl) ?_
    refine gf_1_6 hx hb hts hiX1 hown hK hP hf40 dX1_hasRoom_17 ?_
    refine lv_topE (y := nI (n)) rfl ?_
    refine geN k n (tgt := 49) hx hb rfl rfl (by omega) (by omega) dX1_hasRoom_20 (by decide) (fun c_2 => ?_) (fun c_2 => ?_)
    · skip
      refine lv_iload_n hx hb dX1_hasRoom_49 rfl (lv_at hl 3 rfl) ?_
      refine lv_sipush (v := 200) hx hb dX1_hasRoom_50 (by decide) ?_
      refine lv_icmp_gt (tgt := 60) hx hb dX1_hasRoom_53 (by decide) (fun c_3 => ?_) (fun c_3 => ?_)
      · skip
        refine lv_iconst (v := 0) hx hb dX1_hasRoom_60 (by decide) ?_
        exact RET (false) _ _ (congrArg bI (by rw [show k = n by omega] at c_3; simp [hrF, c_1, c_2, c_3, gHol, gGoo, gDec, gFee, gDeb, gLen, gNum, gPrf, gCop, gMad, gN])) dX1_hasRoom_61
      · skip
        refine lv_iconst (v := 1) hx hb dX1_hasRoom_56 (by decide) ?_
        refine lv_goto (tgt := 61) hx hb dX1_hasRoom_57 (by decide) ?_
        exact RET (true) _ _ (congrArg bI (by rw [show k = n by omega] at c_3; simp [hrF, c_1, c_2, c_3, gHol, gGoo, gDec, gFee, gDeb, gLen, gNum, gPrf, gCop, gMad, gN])) dX1_hasRoom_61
    · skip
      have h8 := hhol k
      refine lv_aload_n hx hb dX1_hasRoom_23 rfl (lv_at hl 0 rfl) ?_
      refine gf_1_1 hx hb hts hiX1 hown hK hP hf16 dX1_hasRoom_24 ?_
      refine lv_iload hx hb dX1_hasRoom_27 (lv_at hl 4 rfl) ?_
      refine gld_2 (k := k) (v := hol k) hx hb hK hP rfl (by omega) rfl dX1_hasRoom_29 ?_
      refine lv_iload_n hx hb dX1_hasRoom_30 rfl (lv_at hl 1 rfl) ?_
      refine neN (hol k) hd (tgt := 43) hx hb rfl rfl (by omega) (by omega) dX1_hasRoom_31 (by decide) (fun c_4 => ?_) (fun c_4 => ?_)
      · skip
        refine lv_iinc (v := nI (k + 1)) (lv' := [(4, .int (nI (k + 1))), (0, .ref (q 0)), (1, .int (nI (hd))), (2, .int more), (3, .int ((rS hol goo hd more k)))]) hx hb dX1_hasRoom_43 hl (k := 4) rfl (iincN (k)) (by decide) rfl (fun ls hl => ?_)
        refine lv_goto (tgt := 14) hx hb dX1_hasRoom_46 (by decide) ?_
        have hl : lv_has ls 5 [(4, .int (nI (k + 1))), (0, .ref (q 0)), (1, .int (nI (hd))), (2, .int more), (3, .int ((rS hol goo hd more (k + 1))))] := by rw [← (show ((rS hol goo hd more k) : Int32) = (rS hol goo hd more (k + 1)) from by simp [rS, c_1, c_2, c_4, gHol, gGoo, gDec, gFee, gDeb, gLen, gNum, gPrf, gCop, gMad, gN])]; exact hl
        exact ih_k (by omega) _ (lv_sub hl [1, 2, 3, 4, 0] rfl)
      · skip
        refine lv_iload_n hx hb dX1_hasRoom_34 rfl (lv_at hl 3 rfl) ?_
        refine lv_aload_n hx hb dX1_hasRoom_35 rfl (lv_at hl 0 rfl) ?_
        refine lv_iload hx hb dX1_hasRoom_36 (lv_at hl 4 rfl) ?_
        refine r_callE (x := (wS goo k 6)) (va_runV (As := [.int (nI (k))]) (rest := [.int ((rS hol goo hd more k))]) ⟨hx, hb, hml, hown, hts⟩ (c_X1_weightOf l D cI q (hol, goo, dec, fee, deb, len, num, prf, cop, mad, n) k (by omega)) (cwV 1 hts gX1_hasRoom_X1_weightOf rfl rfl rfl kd_X1_weightOf ⟨Nat.le_of_ble_eq_true rfl, Nat.le_of_ble_eq_true rfl⟩) (pV_G0 hP hK hE) rfl rfl hl.1 rfl (lv_room (Nat.le_of_ble_eq_true rfl)) dX1_hasRoom_38 ⟨Nat.le_of_ble_eq_true rfl, Nat.le_of_ble_eq_true rfl⟩) ?_
        refine lv_iadd hx hb dX1_hasRoom_41 ?_
        refine lv_istore_n (lv' := [(3, .int (((rS hol goo hd more k) + (wS goo k 6)))), (0, .ref (q 0)), (1, .int (nI (hd))), (2, .int more), (4, .int (nI (k)))]) hx hb dX1_hasRoom_42 rfl hl (by decide) rfl (fun ls hl => ?_)
        refine lv_iinc (v := nI (k + 1)) (lv' := [(4, .int (nI (k + 1))), (3, .int (((rS hol goo hd more k) + (wS goo k 6)))), (0, .ref (q 0)), (1, .int (nI (hd))), (2, .int more)]) hx hb dX1_hasRoom_43 hl (k := 4) rfl (iincN (k)) (by decide) rfl (fun ls hl => ?_)
        refine lv_goto (tgt := 14) hx hb dX1_hasRoom_46 (by decide) ?_
        have hl : lv_has ls 5 [(4, .int (nI (k + 1))), (3, .int ((rS hol goo hd more (k + 1)))), (0, .ref (q 0)), (1, .int (nI (hd))), (2, .int more)] := by rw [← (show (((rS hol goo hd more k) + (wS goo k 6)) : Int32) = (rS hol goo hd more (k + 1)) from by simp [rS, c_1, c_2, c_4, gHol, gGoo, gDec, gFee, gDeb, gLen, gNum, gPrf, gCop, gMad, gN])]; exact hl
        exact ih_k (by omega) _ (lv_sub hl [2, 3, 4, 1, 0] rfl)
  · skip
    have c_1 := of_decide_eq_true c_1
    refine lv_iconst (v := 1) hx hb dX1_hasRoom_7 (by decide) ?_
    exact RET (true) _ _ (congrArg bI (by simp [hrF, c_1, gHol, gGoo, gDec, gFee, gDeb, gLen, gNum, gPrf, gCop, gMad, gN])) dX1_hasRoom_8
theorem kn_X1_isHeld : yX1_isHeld.cls ≠ "java/lang/invoke/MethodHandle" ∧ yX1_isHeld.cls ≠ "java/lang/invoke/VarHandle" ∧ (parseMethodDescriptor yX1_isHeld.desc).map (fun d => d.parameters.length) = some 1 := by decide +kernel
theorem kd_X1_isHeld : yX1_isHeld.cls = RX1 ∧ yX1_isHeld.cls ≠ "java/lang/invoke/MethodHandle" ∧ yX1_isHeld.cls ≠ "java/lang/invoke/VarHandle" ∧ (parseMethodDescriptor yX1_isHeld.desc).map (fun d => d.parameters.length) = some 1 := by decide +kernel
set_option maxHeartbeats 4000000 in
set_option maxRecDepth 100000 in
theorem c_X1_isHeld (l : Launch) (D : va_G) (cI : ClassId) (q : Nat → Nat) (σ : SG) (P : Nat) (hP14 : P < 14) (hlen : ∀ P, gLen σ P ≤ 30) : Met l yX1_isHeld wsX1_isHeld ({ frames := 3, cells := 0, slots := 0, locals := 66 }) (va_Pc [.ref (q 0), .int (nI (P))] (PG D cI q σ)) (rQ (fun r => r = bI (decide (lkF (gLen σ) (gNum σ) P = 8)))) 0 0 noF := by
  refine openZ (cc := cX1_isHeld) (maxL := 2) (by decide) rfl (Nat.le_of_ble_eq_true rfl) ?_
  intro p e s m args below meth c hx hb hml hts hown hpre Q RET ls hl
  have hown : s.vm.findClass RX1 = some m.cls := hown
  have hl : lv_has ls 2 [(0, .ref (q 0)), (1, .int (nI (P)))] := hl
  obtain ⟨hP, hK, hE⟩ := hpre
  have hiX1 : ∀ w ∈ wsX10, w ∈ wsX1_isHeld := by decide +kernel
  have hf10 := hts (.fieldLink RX1 10 "PalletGram" "chains" "LPalletGram$Chains;") (by decide +kernel)
  obtain ⟨hol, goo, dec, fee, deb, len, num, prf, cop, mad, n⟩ := σ
  have hlen : ∀ P, len P ≤ 30 := hlen
  refine lv_aload_n hx hb dX1_isHeld_0 rfl (lv_at hl 0 rfl) ?_
  refine gf_1_0 hx hb hts hiX1 hown hK hP hf10 dX1_isHeld_1 ?_
  refine lv_iload_n hx hb dX1_isHeld_4 rfl (lv_at hl 1 rfl) ?_
  refine r_callE (x := (lkF len num P)) (va_runV (As := [.int (nI (P))]) (rest := []) ⟨hx, hb, hml, hown, hts⟩ (c_X0_lastKind l D cI q (hol, goo, dec, fee, deb, len, num, prf, cop, mad, n) P (by omega) hlen) (cwV 1 hts gX1_isHeld_X0_lastKind rfl rfl rfl kd_X0_lastKind ⟨Nat.le_of_ble_eq_true rfl, Nat.le_of_ble_eq_true rfl⟩) (pV_G1 hP hK hE) rfl rfl hl.1 rfl (lv_room (Nat.le_of_ble_eq_true rfl)) dX1_isHeld_5 ⟨Nat.le_of_ble_eq_true rfl, Nat.le_of_ble_eq_true rfl⟩) ?_
  refine lv_bipush (v := 8) hx hb dX1_isHeld_8 (by decide) ?_
  refine lv_icmp_ne (tgt := 17) hx hb dX1_isHeld_10 (by decide) (fun c_1 => ?_) (fun c_1 => ?_)
  · skip
    refine lv_iconst (v := 0) hx hb dX1_isHeld_17 (by decide) ?_
    exact RET (false) _ _ (congrArg bI (by simp [c_1, gHol, gGoo, gDec, gFee, gDeb, gLen, gNum, gPrf, gCop, gMad, gN])) dX1_isHeld_18
  · skip
    refine lv_iconst (v := 1) hx hb dX1_isHeld_13 (by decide) ?_
    refine lv_goto (tgt := 18) hx hb dX1_isHeld_14 (by decide) ?_
    exact RET (true) _ _ (congrArg bI (by simp [c_1, gHol, gGoo, gDec, gFee, gDeb, gLen, gNum, gPrf, gCop, gMad, gN])) dX1_isHeld_18
theorem kn_X1_isGone : yX1_isGone.cls ≠ "java/lang/invoke/MethodHandle" ∧ yX1_isGone.cls ≠ "java/lang/invoke/VarHandle" ∧ (parseMethodDescriptor yX1_isGone.desc).map (fun d => d.parameters.length) = some 1 := by decide +kernel
theorem kd_X1_isGone : yX1_isGone.cls = RX1 ∧ yX1_isGone.cls ≠ "java/lang/invoke/MethodHandle" ∧ yX1_isGone.cls ≠ "java/lang/invoke/VarHandle" ∧ (parseMethodDescriptor yX1_isGone.desc).map (fun d => d.parameters.length) = some 1 := by decide +kernel
set_option maxHeartbeats 4000000 in
set_option maxRecDepth 100000 in
theorem c_X1_isGone (l : Launch) (D : va_G) (cI : ClassId) (q : Nat → Nat) (σ : SG) (P : Nat) (hP14 : P < 14) (hlen : ∀ P, gLen σ P ≤ 30) : Met l yX1_isGone wsX1_isGone ({ frames := 3, cells := 0, slots := 0, locals := 66 }) (va_Pc [.ref (q 0), .int (nI (P))] (PG D cI q σ)) (rQ (fun r => r = bI (decide (lkF (gLen σ) (gNum σ) P = 6)))) 0 0 noF := by
  refine openZ (cc := cX1_isGone) (maxL := 2) (by decide) rfl (Nat.le_of_ble_eq_true rfl) ?_
  intro p e s m args below meth c hx hb hml hts hown hpre Q RET ls hl
  have hown : s.vm.findClass RX1 = some m.cls := hown
  have hl : lv_has ls 2 [(0, .ref (q 0)), (1, .int (nI (P)))] := hl
  obtain ⟨hP, hK, hE⟩ := hpre
  have hiX1 : ∀ w ∈ wsX10, w ∈ wsX1_isGone := by decide +kernel
  have hf10 := hts (.fieldLink RX1 10 "PalletGram" "chains" "LPalletGram$Chains;") (by decide +kernel)
  obtain ⟨hol, goo, dec, fee, deb, len, num, prf, cop, mad, n⟩ := σ
  have hlen : ∀ P, len P ≤ 30 := hlen
  refine lv_aload_n hx hb dX1_isGone_0 rfl (lv_at hl 0 rfl) ?_
  refine gf_1_0 hx hb hts hiX1 hown hK hP hf10 dX1_isGone_1 ?_
  refine lv_iload_n hx hb dX1_isGone_4 rfl (lv_at hl 1 rfl) ?_
  refine r_callE (x := (lkF len num P)) (va_runV (As := [.int (nI (P))]) (rest := []) ⟨hx, hb, hml, hown, hts⟩ (c_X0_lastKind l D cI q (hol, goo, dec, fee, deb, len, num, prf, cop, mad, n) P (by omega) hlen) (cwV 1 hts gX1_isGone_X0_lastKind rfl rfl rfl kd_X0_lastKind ⟨Nat.le_of_ble_eq_true rfl, Nat.le_of_ble_eq_true rfl⟩) (pV_G1 hP hK hE) rfl rfl hl.1 rfl (lv_room (Nat.le_of_ble_eq_true rfl)) dX1_isGone_5 ⟨Nat.le_of_ble_eq_true rfl, Nat.le_of_ble_eq_true rfl⟩) ?_
  refine lv_bipush (v := 6) hx hb dX1_isGone_8 (by decide) ?_
  refine lv_icmp_ne (tgt := 17) hx hb dX1_isGone_10 (by decide) (fun c_1 => ?_) (fun c_1 => ?_)
  · skip
    refine lv_iconst (v := 0) hx hb dX1_isGone_17 (by decide) ?_
    exact RET (false) _ _ (congrArg bI (by simp [c_1, gHol, gGoo, gDec, gFee, gDeb, gLen, gNum, gPrf, gCop, gMad, gN])) dX1_isGone_18
  · skip
    refine lv_iconst (v := 1) hx hb dX1_isGone_13 (by decide) ?_
    refine lv_goto (tgt := 18) hx hb dX1_isGone_14 (by decide) ?_
    exact RET (true) _ _ (congrArg bI (by simp [c_1, gHol, gGoo, gDec, gFee, gDeb, gLen, gNum, gPrf, gCop, gMad, gN])) dX1_isGone_18
theorem kn_X1_allAreUnbroken : yX1_allAreUnbroken.cls ≠ "java/lang/invoke/MethodHandle" ∧ yX1_allAreUnbroken.cls ≠ "java/lang/invoke/VarHandle" ∧ (parseMethodDescriptor yX1_allAreUnbroken.desc).map (fun d => d.parameters.length) = some 1 := by decide +kernel
theorem kd_X1_allAreUnbroken : yX1_allAreUnbroken.cls = RX1 ∧ yX1_allAreUnbroken.cls ≠ "java/lang/invoke/MethodHandle" ∧ yX1_allAreUnbroken.cls ≠ "java/lang/invoke/VarHandle" ∧ (parseMethodDescriptor yX1_allAreUnbroken.desc).map (fun d => d.parameters.length) = some 1 := by decide +kernel
set_option maxHeartbeats 4000000 in
set_option maxRecDepth 100000 in
theorem c_X1_allAreUnbroken (l : Launch) (D : va_G) (cI : ClassId) (q : Nat → Nat) (σ : SG) (P : Nat) (hP14 : P < 14) (ok : okG σ) : Met l yX1_allAreUnbroken wsX1_allAreUnbroken ({ frames := 4, cells := 0, slots := 0, locals := 95 }) (va_Pc [.ref (q 0), .int (nI (P))] (PG D cI q σ)) (rQ (fun r => r = bI (auF (gN σ) (gLen σ) (gPrf σ) (gNum σ) P))) 0 0 noF := by
  refine openZ (cc := cX1_allAreUnbroken) (maxL := 4) (by decide) rfl (Nat.le_of_ble_eq_true rfl) ?_
  intro p e s m args below meth c hx hb hml hts hown hpre Q RET ls hl
  have hown : s.vm.findClass RX1 = some m.cls := hown
  have hl : lv_has ls 4 [(0, .ref (q 0)), (1, .int (nI (P)))] := hl
  obtain ⟨hP, hK, hE⟩ := hpre
  have hiX1 : ∀ w ∈ wsX10, w ∈ wsX1_allAreUnbroken := by decide +kernel
  have hf10 := hts (.fieldLink RX1 10 "PalletGram" "chains" "LPalletGram$Chains;") (by decide +kernel)
  have hf40 := hts (.fieldLink RX1 40 "PalletGram" "pallets" "I") (by decide +kernel)
  obtain ⟨hol, goo, dec, fee, deb, len, num, prf, cop, mad, n⟩ := σ
  obtain ⟨hn, hhol, hlen⟩ := ok
  have hn : n ≤ 14 := hn
  have hhol : ∀ P, hol P < 6 := hhol
  have hlen : ∀ P, len P ≤ 30 := hlen
  refine lv_aload_n hx hb dX1_allAreUnbroken_0 rfl (lv_at hl 0 rfl) ?_
  refine gf_1_0 hx hb hts hiX1 hown hK hP hf10 dX1_allAreUnbroken_1 ?_
  refine lv_iload_n hx hb dX1_allAreUnbroken_4 rfl (lv_at hl 1 rfl) ?_
  refine lv_iconst (v := 1) hx hb dX1_allAreUnbroken_5 (by decide) ?_
  refine r_callE (x := (rchF len num P true)) (va_runV (As := [.int (nI (P)), .int 1]) (rest := []) ⟨hx, hb, hml, hown, hts⟩ (c_X0_reach l D cI q (hol, goo, dec, fee, deb, len, num, prf, cop, mad, n) P true (by omega) hlen) (cwV 2 hts gX1_allAreUnbroken_X0_reach rfl rfl rfl kd_X0_reach ⟨Nat.le_of_ble_eq_true rfl, Nat.le_of_ble_eq_true rfl⟩) (pV_G1 hP hK hE) rfl rfl hl.1 rfl (lv_room (Nat.le_of_ble_eq_true rfl)) dX1_allAreUnbroken_6 ⟨Nat.le_of_ble_eq_true rfl, Nat.le_of_ble_eq_true rfl⟩) ?_
  refine lv_istore_n (lv' := [(2, .int ((rchF len num P true))), (0, .ref (q 0)), (1, .int (nI (P)))]) hx hb dX1_allAreUnbroken_9 rfl hl (by decide) rfl (fun ls hl => ?_)
  refine lv_iconst (v := 0) hx hb dX1_allAreUnbroken_10 (by decide) ?_
  refine lv_istore_n (lv' := [(3, .int 0), (2, .int ((rchF len num P true))), (0, .ref (q 0)), (1, .int (nI (P)))]) hx hb dX1_allAreUnbroken_11 rfl hl (by decide) rfl (fun ls hl => ?_)
  refine loopW (N := n) (k0 := 0) (fun k ls => lv_has ls 4 [(0, .ref (q 0)), (1, .int (nI (P))), (2, .int ((rchF len num P true))), (3, .int (nI (k)))] ∧ (allF (fun k => !(isB (rchF len num P true) (nI k) && decide (¬ fbF len prf num k = -1))) (n - k) k = auF n len prf num P)) (Nat.zero_le _) ⟨lv_sub hl [2, 3, 1, 0] rfl, rfl⟩ (fun k ls hk_k hI ih_k => ?_)
  obtain ⟨hl, hi⟩ := hI
  refine lv_iload_n hx hb dX1_allAreUnbroken_12 rfl (lv_at hl 3 rfl) ?_
  refine lv_aload_n hx hb dX1_allAreUnbroken_13 rfl (lv_at hl 0 rfl) ?_
  refine gf_1_6 hx hb hts hiX1 hown hK hP hf40 dX1_allAreUnbroken_14 ?_
  refine lv_topE (y := nI (n)) rfl ?_
  refine geN k n (tgt := 48) hx hb rfl rfl (by omega) (by omega) dX1_allAreUnbroken_17 (by decide) (fun c_1 => ?_) (fun c_1 => ?_)
  · skip
    refine lv_iconst (v := 1) hx hb dX1_allAreUnbroken_48 (by decide) ?_
    exact RET (true) _ _ (congrArg bI ((allF_end (by omega)).symm.trans hi)) dX1_allAreUnbroken_49
  · skip
    refine lv_iload_n hx hb dX1_allAreUnbroken_20 rfl (lv_at hl 2 rfl) ?_
    refine lv_iload_n hx hb dX1_allAreUnbroken_21 rfl (lv_at hl 3 rfl) ?_
    refine r_callE (x := bI (isB ((rchF len num P true)) (nI (k)))) (va_runS (As := [.int ((rchF len num P true)), .int (nI (k))]) (rest := []) ⟨hx, hb, hml, hown, hts⟩ (c_X1_isIn l ((rchF len num P true)) (nI (k))) (va_cwS 2 hts gX1_allAreUnbroken_X1_isIn rfl rfl rfl kn_X1_isIn ⟨Nat.le_of_ble_eq_true rfl, Nat.le_of_ble_eq_true rfl⟩) (pS_T) rfl rfl hl.1 rfl (lv_room (Nat.le_of_ble_eq_true rfl)) dX1_allAreUnbroken_22 ⟨Nat.le_of_ble_eq_true rfl, Nat.le_of_ble_eq_true rfl⟩) ?_
    refine eqB (isB ((rchF len num P true)) (nI (k))) (tgt := 42) hx hb rfl dX1_allAreUnbroken_25 (by decide) (fun c_2 => ?_) (fun c_2 => ?_)
    · skip
      refine lv_iinc (v := nI (k + 1)) (lv' := [(3, .int (nI (k + 1))), (0, .ref (q 0)), (1, .int (nI (P))), (2, .int ((rchF len num P true)))]) hx hb dX1_allAreUnbroken_42 hl (k := 3) rfl (iincN (k)) (by decide) rfl (fun ls hl => ?_)
      refine lv_goto (tgt := 12) hx hb dX1_allAreUnbroken_45 (by decide) ?_
      exact ih_k (by omega) _ ⟨lv_sub hl [1, 2, 3, 0] rfl, (allF_yes (by omega) (by simp [c_1, c_2, gHol, gGoo, gDec, gFee, gDeb, gLen, gNum, gPrf, gCop, gMad, gN])).symm.trans hi⟩
    · skip
      refine lv_aload_n hx hb dX1_allAreUnbroken_28 rfl (lv_at hl 0 rfl) ?_
      refine gf_1_0 hx hb hts hiX1 hown hK hP hf10 dX1_allAreUnbroken_29 ?_
      refine lv_iload_n hx hb dX1_allAreUnbroken_32 rfl (lv_at hl 3 rfl) ?_
      refine r_callE (x := (fbF len prf num k)) (va_runV (As := [.int (nI (k))]) (rest := []) ⟨hx, hb, hml, hown, hts⟩ (c_X0_firstBroken l D cI q (hol, goo, dec, fee, deb, len, num, prf, cop, mad, n) k (by omega) hlen) (cwV 1 hts gX1_allAreUnbroken_X0_firstBroken rfl rfl rfl kd_X0_firstBroken ⟨Nat.le_of_ble_eq_true rfl, Nat.le_of_ble_eq_true rfl⟩) (pV_G1 hP hK hE) rfl rfl hl.1 rfl (lv_room (Nat.le_of_ble_eq_true rfl)) dX1_allAreUnbroken_33 ⟨Nat.le_of_ble_eq_true rfl, Nat.le_of_ble_eq_true rfl⟩) ?_
      refine lv_iconst (v := (-1)) hx hb dX1_allAreUnbroken_36 (by decide) ?_
      refine lv_icmp_eq (tgt := 42) hx hb dX1_allAreUnbroken_37 (by decide) (fun c_3 => ?_) (fun c_3 => ?_)
      · skip
        refine lv_iinc (v := nI (k + 1)) (lv' := [(3, .int (nI (k + 1))), (0, .ref (q 0)), (1, .int (nI (P))), (2, .int ((rchF len num P true)))]) hx hb dX1_allAreUnbroken_42 hl (k := 3) rfl (iincN (k)) (by decide) rfl (fun ls hl => ?_)
        refine lv_goto (tgt := 12) hx hb dX1_allAreUnbroken_45 (by decide) ?_
        exact ih_k (by omega) _ ⟨lv_sub hl [1, 2, 3, 0] rfl, (allF_yes (by omega) (by simp [c_1, c_2, c_3, gHol, gGoo, gDec, gFee, gDeb, gLen, gNum, gPrf, gCop, gMad, gN])).symm.trans hi⟩
      · skip
        refine lv_iconst (v := 0) hx hb dX1_allAreUnbroken_40 (by decide) ?_
        exact RET (false) _ _ (congrArg bI ((allF_no (by omega) (by simp [c_1, c_2, c_3, gHol, gGoo, gDec, gFee, gDeb, gLen, gNum, gPrf, gCop, gMad, gN])).symm.trans hi)) dX1_allAreUnbroken_41
theorem kn_X1_isWorkable : yX1_isWorkable.cls ≠ "java/lang/invoke/MethodHandle" ∧ yX1_isWorkable.cls ≠ "java/lang/invoke/VarHandle" ∧ (parseMethodDescriptor yX1_isWorkable.desc).map (fun d => d.parameters.length) = some 1 := by decide +kernel
theorem kd_X1_isWorkable : yX1_isWorkable.cls = RX1 ∧ yX1_isWorkable.cls ≠ "java/lang/invoke/MethodHandle" ∧ yX1_isWorkable.cls ≠ "java/lang/invoke/VarHandle" ∧ (parseMethodDescriptor yX1_isWorkable.desc).map (fun d => d.parameters.length) = some 1 := by decide +kernel
set_option maxHeartbeats 4000000 in
set_option maxRecDepth 100000 in
theorem c_X1_isWorkable (l : Launch) (D : va_G) (cI : ClassId) (q : Nat → Nat) (σ : SG) (P : Nat) (hP14 : P < 14) (ok : okG σ) : Met l yX1_isWorkable wsX1_isWorkable ({ frames := 5, cells := 0, slots := 0, locals := 118 }) (va_Pc [.ref (q 0), .int (nI (P))] (PG D cI q σ)) (rQ (fun r => r = bI (wkF (gN σ) (gLen σ) (gPrf σ) (gNum σ) P))) 0 0 noF := by
  refine openZ (cc := cX1_isWorkable) (maxL := 2) (by decide) rfl (Nat.le_of_ble_eq_true rfl) ?_
  intro p e s m args below meth c hx hb hml hts hown hpre Q RET ls hl
  have hown : s.vm.findClass RX1 = some m.cls := hown
  have hl : lv_has ls 2 [(0, .ref (q 0)), (1, .int (nI (P)))] := hl
  obtain ⟨hP, hK, hE⟩ := hpre
  have hiX1 : ∀ w ∈ wsX10, w ∈ wsX1_isWorkable := by decide +kernel
  have hf10 := hts (.fieldLink RX1 10 "PalletGram" "chains" "LPalletGram$Chains;") (by decide +kernel)
  obtain ⟨hol, goo, dec, fee, deb, len, num, prf, cop, mad, n⟩ := σ
  obtain ⟨hn, hhol, hlen⟩ := ok
  have hn : n ≤ 14 := hn
  have hhol : ∀ P, hol P < 6 := hhol
  have hlen : ∀ P, len P ≤ 30 := hlen
  refine lv_aload_n hx hb dX1_isWorkable_0 rfl (lv_at hl 0 rfl) ?_
  refine lv_iload_n hx hb dX1_isWorkable_1 rfl (lv_at hl 1 rfl) ?_
  refine r_callE (x := bI (decide (lkF len num P = 8))) (va_runV (As := [.int (nI (P))]) (rest := []) ⟨hx, hb, hml, hown, hts⟩ (c_X1_isHeld l D cI q (hol, goo, dec, fee, deb, len, num, prf, cop, mad, n) P (by omega) hlen) (cwV 1 hts gX1_isWorkable_X1_isHeld rfl rfl rfl kd_X1_isHeld ⟨Nat.le_of_ble_eq_true rfl, Nat.le_of_ble_eq_true rfl⟩) (pV_G0 hP hK hE) rfl rfl hl.1 rfl (lv_room (Nat.le_of_ble_eq_true rfl)) dX1_isWorkable_2 ⟨Nat.le_of_ble_eq_true rfl, Nat.le_of_ble_eq_true rfl⟩) ?_
  refine neB (decide (lkF len num P = 8)) (tgt := 39) hx hb rfl dX1_isWorkable_5 (by decide) (fun c_1 => ?_) (fun c_1 => ?_)
  · skip
    have c_1 := of_decide_eq_true c_1
    refine lv_iconst (v := 0) hx hb dX1_isWorkable_39 (by decide) ?_
    exact RET (false) _ _ (congrArg bI (by simp [wkF, c_1, gHol, gGoo, gDec, gFee, gDeb, gLen, gNum, gPrf, gCop, gMad, gN])) dX1_isWorkable_40
  · skip
    have c_1 := of_decide_eq_false c_1
    refine lv_aload_n hx hb dX1_isWorkable_8 rfl (lv_at hl 0 rfl) ?_
    refine lv_iload_n hx hb dX1_isWorkable_9 rfl (lv_at hl 1 rfl) ?_
    refine r_callE (x := bI (decide (lkF len num P = 6))) (va_runV (As := [.int (nI (P))]) (rest := []) ⟨hx, hb, hml, hown, hts⟩ (c_X1_isGone l D cI q (hol, goo, dec, fee, deb, len, num, prf, cop, mad, n) P (by omega) hlen) (cwV 1 hts gX1_isWorkable_X1_isGone rfl rfl rfl kd_X1_isGone ⟨Nat.le_of_ble_eq_true rfl, Nat.le_of_ble_eq_true rfl⟩) (pV_G0 hP hK hE) rfl rfl hl.1 rfl (lv_room (Nat.le_of_ble_eq_true rfl)) dX1_isWorkable_10 ⟨Nat.le_of_ble_eq_true rfl, Nat.le_of_ble_eq_true rfl⟩) ?_
    refine neB (decide (lkF len num P = 6)) (tgt := 39) hx hb rfl dX1_isWorkable_13 (by decide) (fun c_2 => ?_) (fun c_2 => ?_)
    · skip
      have c_2 := of_decide_eq_true c_2
      refine lv_iconst (v := 0) hx hb dX1_isWorkable_39 (by decide) ?_
      exact RET (false) _ _ (congrArg bI (by simp [wkF, c_1, c_2, gHol, gGoo, gDec, gFee, gDeb, gLen, gNum, gPrf, gCop, gMad, gN])) dX1_isWorkable_40
    · skip
      have c_2 := of_decide_eq_false c_2
      refine lv_aload_n hx hb dX1_isWorkable_16 rfl (lv_at hl 0 rfl) ?_
      refine gf_1_0 hx hb hts hiX1 hown hK hP hf10 dX1_isWorkable_17 ?_
      refine lv_iload_n hx hb dX1_isWorkable_20 rfl (lv_at hl 1 rfl) ?_
      refine r_callE (x := bI (decide (len P < 30))) (va_runV (As := [.int (nI (P))]) (rest := []) ⟨hx, hb, hml, hown, hts⟩ (c_X0_hasRoom l D cI q (hol, goo, dec, fee, deb, len, num, prf, cop, mad, n) P (by omega) hlen) (cwV 1 hts gX1_isWorkable_X0_hasRoom rfl rfl rfl kd_X0_hasRoom ⟨Nat.le_of_ble_eq_true rfl, Nat.le_of_ble_eq_true rfl⟩) (pV_G1 hP hK hE) rfl rfl hl.1 rfl (lv_room (Nat.le_of_ble_eq_true rfl)) dX1_isWorkable_21 ⟨Nat.le_of_ble_eq_true rfl, Nat.le_of_ble_eq_true rfl⟩) ?_
      refine eqB (decide (len P < 30)) (tgt := 39) hx hb rfl dX1_isWorkable_24 (by decide) (fun c_3 => ?_) (fun c_3 => ?_)
      · skip
        have c_3 := of_decide_eq_false c_3
        refine lv_iconst (v := 0) hx hb dX1_isWorkable_39 (by decide) ?_
        exact RET (false) _ _ (congrArg bI (by simp [wkF, c_1, c_2, c_3, gHol, gGoo, gDec, gFee, gDeb, gLen, gNum, gPrf, gCop, gMad, gN])) dX1_isWorkable_40
      · skip
        have c_3 := of_decide_eq_true c_3
        refine lv_aload_n hx hb dX1_isWorkable_27 rfl (lv_at hl 0 rfl) ?_
        refine lv_iload_n hx hb dX1_isWorkable_28 rfl (lv_at hl 1 rfl) ?_
        refine r_callE (x := bI (auF n len prf num P)) (va_runV (As := [.int (nI (P))]) (rest := []) ⟨hx, hb, hml, hown, hts⟩ (c_X1_allAreUnbroken l D cI q (hol, goo, dec, fee, deb, len, num, prf, cop, mad, n) P (by omega) ⟨hn, hhol, hlen⟩) (cwV 1 hts gX1_isWorkable_X1_allAreUnbroken rfl rfl rfl kd_X1_allAreUnbroken ⟨Nat.le_of_ble_eq_true rfl, Nat.le_of_ble_eq_true rfl⟩) (pV_G0 hP hK hE) rfl rfl hl.1 rfl (lv_room (Nat.le_of_ble_eq_true rfl)) dX1_isWorkable_29 ⟨Nat.le_of_ble_eq_true rfl, Nat.le_of_ble_eq_true rfl⟩) ?_
        refine eqB (auF n len prf num P) (tgt := 39) hx hb rfl dX1_isWorkable_32 (by decide) (fun c_4 => ?_) (fun c_4 => ?_)
        · skip
          refine lv_iconst (v := 0) hx hb dX1_isWorkable_39 (by decide) ?_
          exact RET (false) _ _ (congrArg bI (by simp [wkF, c_1, c_2, c_3, c_4, gHol, gGoo, gDec, gFee, gDeb, gLen, gNum, gPrf, gCop, gMad, gN])) dX1_isWorkable_40
        · skip
          refine lv_iconst (v := 1) hx hb dX1_isWorkable_35 (by decide) ?_
          refine lv_goto (tgt := 40) hx hb dX1_isWorkable_36 (by decide) ?_
          exact RET (true) _ _ (congrArg bI (by simp [wkF, c_1, c_2, c_3, c_4, gHol, gGoo, gDec, gFee, gDeb, gLen, gNum, gPrf, gCop, gMad, gN])) dX1_isWorkable_40
theorem kn_X1_canComeTogether : yX1_canComeTogether.cls ≠ "java/lang/invoke/MethodHandle" ∧ yX1_canComeTogether.cls ≠ "java/lang/invoke/VarHandle" ∧ (parseMethodDescriptor yX1_canComeTogether.desc).map (fun d => d.parameters.length) = some 2 := by decide +kernel
theorem kd_X1_canComeTogether : yX1_canComeTogether.cls = RX1 ∧ yX1_canComeTogether.cls ≠ "java/lang/invoke/MethodHandle" ∧ yX1_canComeTogether.cls ≠ "java/lang/invoke/VarHandle" ∧ (parseMethodDescriptor yX1_canComeTogether.desc).map (fun d => d.parameters.length) = some 2 := by decide +kernel
set_option maxHeartbeats 4000000 in
set_option maxRecDepth 100000 in
theorem c_X1_canComeTogether (l : Launch) (D : va_G) (cI : ClassId) (q : Nat → Nat) (σ : SG) (P O : Nat) (hP14 : P < 14) (hO14 : O < 14) : Met l yX1_canComeTogether wsX1_canComeTogether ({ frames := 0, cells := 0, slots := 0, locals := 0 }) (va_Pc [.ref (q 0), .int (nI (P)), .int (nI (O))] (PG D cI q σ)) (rQ (fun r => r = bI (ctF (gGoo σ) P O))) 0 0 noF := by
  refine openZ (cc := cX1_canComeTogether) (maxL := 4) (by decide) rfl (Nat.le_of_ble_eq_true rfl) ?_
  intro p e s m args below meth c hx hb hml hts hown hpre Q RET ls hl
  have hown : s.vm.findClass RX1 = some m.cls := hown
  have hl : lv_has ls 4 [(0, .ref (q 0)), (1, .int (nI (P))), (2, .int (nI (O)))] := hl
  obtain ⟨hP, hK, hE⟩ := hpre
  have hiX1 : ∀ w ∈ wsX10, w ∈ wsX1_canComeTogether := by decide +kernel
  have hf20 := hts (.fieldLink RX1 20 "PalletGram" "goods" "[I") (by decide +kernel)
  obtain ⟨hol, goo, dec, fee, deb, len, num, prf, cop, mad, n⟩ := σ
  refine lv_iconst (v := 0) hx hb dX1_canComeTogether_0 (by decide) ?_
  refine lv_istore_n (lv' := [(3, .int 0), (0, .ref (q 0)), (1, .int (nI (P))), (2, .int (nI (O)))]) hx hb dX1_canComeTogether_1 rfl hl (by decide) rfl (fun ls hl => ?_)
  refine loopW (N := 6) (k0 := 0) (fun k ls => lv_has ls 4 [(0, .ref (q 0)), (1, .int (nI (P))), (2, .int (nI (O))), (3, .int (nI (k)))] ∧ (allF (fun g => decide (¬ 999 < goo (P * 6 + g) + goo (O * 6 + g))) (6 - k) k = ctF goo P O)) (Nat.zero_le _) ⟨lv_sub hl [1, 2, 3, 0] rfl, rfl⟩ (fun k ls hk_k hI ih_k => ?_)
  obtain ⟨hl, hi⟩ := hI
  refine lv_iload_n hx hb dX1_canComeTogether_2 rfl (lv_at hl 3 rfl) ?_
  refine lv_bipush (v := 6) hx hb dX1_canComeTogether_3 (by decide) ?_
  refine geN k 6 (tgt := 45) hx hb rfl rfl (by omega) (by omega) dX1_canComeTogether_5 (by decide) (fun c_1 => ?_) (fun c_1 => ?_)
  · skip
    refine lv_iconst (v := 1) hx hb dX1_canComeTogether_45 (by decide) ?_
    exact RET (true) _ _ (congrArg bI ((allF_end (by omega)).symm.trans hi)) dX1_canComeTogether_46
  · skip
    refine lv_aload_n hx hb dX1_canComeTogether_8 rfl (lv_at hl 0 rfl) ?_
    refine gf_1_2 hx hb hts hiX1 hown hK hP hf20 dX1_canComeTogether_9 ?_
    refine lv_iload_n hx hb dX1_canComeTogether_12 rfl (lv_at hl 1 rfl) ?_
    refine lv_bipush (v := 6) hx hb dX1_canComeTogether_13 (by decide) ?_
    refine mulN P 6 hx hb rfl rfl dX1_canComeTogether_15 ?_
    refine lv_iload_n hx hb dX1_canComeTogether_16 rfl (lv_at hl 3 rfl) ?_
    refine addN (P * 6) k hx hb rfl rfl dX1_canComeTogether_17 ?_
    refine gld_3 (k := P * 6 + k) (v := goo (P * 6 + k)) hx hb hK hP rfl (by omega) rfl dX1_canComeTogether_18 ?_
    refine lv_aload_n hx hb dX1_canComeTogether_19 rfl (lv_at hl 0 rfl) ?_
    refine gf_1_2 hx hb hts hiX1 hown hK hP hf20 dX1_canComeTogether_20 ?_
    refine lv_iload_n hx hb dX1_canComeTogether_23 rfl (lv_at hl 2 rfl) ?_
    refine lv_bipush (v := 6) hx hb dX1_canComeTogether_24 (by decide) ?_
    refine mulN O 6 hx hb rfl rfl dX1_canComeTogether_26 ?_
    refine lv_iload_n hx hb dX1_canComeTogether_27 rfl (lv_at hl 3 rfl) ?_
    refine addN (O * 6) k hx hb rfl rfl dX1_canComeTogether_28 ?_
    refine gld_3 (k := O * 6 + k) (v := goo (O * 6 + k)) hx hb hK hP rfl (by omega) rfl dX1_canComeTogether_29 ?_
    refine lv_iadd hx hb dX1_canComeTogether_30 ?_
    refine lv_sipush (v := 999) hx hb dX1_canComeTogether_31 (by decide) ?_
    refine lv_icmp_le (tgt := 39) hx hb dX1_canComeTogether_34 (by decide) (fun c_2 => ?_) (fun c_2 => ?_)
    · skip
      refine lv_iinc (v := nI (k + 1)) (lv' := [(3, .int (nI (k + 1))), (0, .ref (q 0)), (1, .int (nI (P))), (2, .int (nI (O)))]) hx hb dX1_canComeTogether_39 hl (k := 3) rfl (iincN (k)) (by decide) rfl (fun ls hl => ?_)
      refine lv_goto (tgt := 2) hx hb dX1_canComeTogether_42 (by decide) ?_
      exact ih_k (by omega) _ ⟨lv_sub hl [1, 2, 3, 0] rfl, (allF_yes (by omega) (decide_eq_true (Int32.not_lt.mpr c_2))).symm.trans hi⟩
    · skip
      refine lv_iconst (v := 0) hx hb dX1_canComeTogether_37 (by decide) ?_
      exact RET (false) _ _ (congrArg bI ((allF_no (by omega) (decide_eq_false (fun z => z (Int32.not_le.mp c_2)))).symm.trans hi)) dX1_canComeTogether_38
theorem kn_X1_toldByPapers : yX1_toldByPapers.cls ≠ "java/lang/invoke/MethodHandle" ∧ yX1_toldByPapers.cls ≠ "java/lang/invoke/VarHandle" ∧ (parseMethodDescriptor yX1_toldByPapers.desc).map (fun d => d.parameters.length) = some 2 := by decide +kernel
theorem kd_X1_toldByPapers : yX1_toldByPapers.cls = RX1 ∧ yX1_toldByPapers.cls ≠ "java/lang/invoke/MethodHandle" ∧ yX1_toldByPapers.cls ≠ "java/lang/invoke/VarHandle" ∧ (parseMethodDescriptor yX1_toldByPapers.desc).map (fun d => d.parameters.length) = some 2 := by decide +kernel
set_option maxHeartbeats 4000000 in
set_option maxRecDepth 100000 in
theorem c_X1_toldByPapers (l : Launch) (D : va_G) (cI : ClassId) (q : Nat → Nat) (σ : SG) (P : Nat) (g : Int32) (hP14 : P < 14) (ok : okG σ) : Met l yX1_toldByPapers wsX1_toldByPapers ({ frames := 4, cells := 0, slots := 0, locals := 95 }) (va_Pc [.ref (q 0), .int (nI (P)), .int g] (PG D cI q σ)) (rQ (fun r => r = tbF (gN σ) (gLen σ) (gNum σ) P g)) 0 0 noF := by
  refine openR (cc := cX1_toldByPapers) (maxL := 6) (by decide) rfl (Nat.le_of_ble_eq_true rfl) ?_
  intro p e s m args below meth c hx hb hml hts hown hpre Q RET ls hl
  have hown : s.vm.findClass RX1 = some m.cls := hown
  have hl : lv_has ls 6 [(0, .ref (q 0)), (1, .int (nI (P))), (2, .int g)] := hl
  obtain ⟨hP, hK, hE⟩ := hpre
  have hiX1 : ∀ w ∈ wsX10, w ∈ wsX1_toldByPapers := by decide +kernel
  have hf10 := hts (.fieldLink RX1 10 "PalletGram" "chains" "LPalletGram$Chains;") (by decide +kernel)
  have hf40 := hts (.fieldLink RX1 40 "PalletGram" "pallets" "I") (by decide +kernel)
  obtain ⟨hol, goo, dec, fee, deb, len, num, prf, cop, mad, n⟩ := σ
  obtain ⟨hn, hhol, hlen⟩ := ok
  have hn : n ≤ 14 := hn
  have hhol : ∀ P, hol P < 6 := hhol
  have hlen : ∀ P, len P ≤ 30 := hlen
  refine lv_aload_n hx hb dX1_toldByPapers_0 rfl (lv_at hl 0 rfl) ?_
  refine lv_iload_n hx hb dX1_toldByPapers_1 rfl (lv_at hl 1 rfl) ?_
  refine r_callE (x := bI (decide (lkF len num P = 6))) (va_runV (As := [.int (nI (P))]) (rest := []) ⟨hx, hb, hml, hown, hts⟩ (c_X1_isGone l D cI q (hol, goo, dec, fee, deb, len, num, prf, cop, mad, n) P (by omega) hlen) (cwV 1 hts gX1_toldByPapers_X1_isGone rfl rfl rfl kd_X1_isGone ⟨Nat.le_of_ble_eq_true rfl, Nat.le_of_ble_eq_true rfl⟩) (pV_G0 hP hK hE) rfl rfl hl.1 rfl (lv_room (Nat.le_of_ble_eq_true rfl)) dX1_toldByPapers_2 ⟨Nat.le_of_ble_eq_true rfl, Nat.le_of_ble_eq_true rfl⟩) ?_
  refine eqB (decide (lkF len num P = 6)) (tgt := 10) hx hb rfl dX1_toldByPapers_5 (by decide) (fun c_1 => ?_) (fun c_1 => ?_)
  · skip
    have c_1 := of_decide_eq_false c_1
    refine lv_aload_n hx hb dX1_toldByPapers_10 rfl (lv_at hl 0 rfl) ?_
    refine gf_1_0 hx hb hts hiX1 hown hK hP hf10 dX1_toldByPapers_11 ?_
    refine lv_iload_n hx hb dX1_toldByPapers_14 rfl (lv_at hl 1 rfl) ?_
    refine lv_iconst (v := 0) hx hb dX1_toldByPapers_15 (by decide) ?_
    refine r_callE (x := (rchF len num P false)) (va_runV (As := [.int (nI (P)), .int 0]) (rest := []) ⟨hx, hb, hml, hown, hts⟩ (c_X0_reach l D cI q (hol, goo, dec, fee, deb, len, num, prf, cop, mad, n) P false (by omega) hlen) (cwV 2 hts gX1_toldByPapers_X0_reach rfl rfl rfl kd_X0_reach ⟨Nat.le_of_ble_eq_true rfl, Nat.le_of_ble_eq_true rfl⟩) (pV_G1 hP hK hE) rfl rfl hl.1 rfl (lv_room (Nat.le_of_ble_eq_true rfl)) dX1_toldByPapers_16 ⟨Nat.le_of_ble_eq_true rfl, Nat.le_of_ble_eq_true rfl⟩) ?_
    refine lv_istore_n (lv' := [(3, .int ((rchF len num P false))), (0, .ref (q 0)), (1, .int (nI (P))), (2, .int g)]) hx hb dX1_toldByPapers_19 rfl hl (by decide) rfl (fun ls hl => ?_)
    refine lv_iconst (v := 0) hx hb dX1_toldByPapers_20 (by decide) ?_
    refine lv_istore (lv' := [(4, .int 0), (3, .int ((rchF len num P false))), (0, .ref (q 0)), (1, .int (nI (P))), (2, .int g)]) hx hb dX1_toldByPapers_21 hl (by decide) rfl (fun ls hl => ?_)
    refine lv_iconst (v := 0) hx hb dX1_toldByPapers_23 (by decide) ?_
    refine lv_istore (lv' := [(5, .int 0), (4, .int 0), (3, .int ((rchF len num P false))), (0, .ref (q 0)), (1, .int (nI (P))), (2, .int g)]) hx hb dX1_toldByPapers_24 hl (by decide) rfl (fun ls hl => ?_)
    refine loopW (N := n) (k0 := 0) (fun k ls => lv_has ls 6 [(0, .ref (q 0)), (1, .int (nI (P))), (2, .int g), (3, .int ((rchF len num P false))), (4, .int ((tbS len num P g k))), (5, .int (nI (k)))]) (Nat.zero_le _) (lv_sub hl [3, 4, 5, 2, 1, 0] rfl) (fun k ls hk_k hI ih_k => ?_)
    have hl := hI
    refine lv_iload hx hb dX1_toldByPapers_26 (lv_at hl 5 rfl) ?_
    refine lv_aload_n hx hb dX1_toldByPapers_28 rfl (lv_at hl 0 rfl) ?_
    refine gf_1_6 hx hb hts hiX1 hown hK hP hf40 dX1_toldByPapers_29 ?_
    refine lv_topE (y := nI (n)) rfl ?_
    refine geN k n (tgt := 65) hx hb rfl rfl (by omega) (by omega) dX1_toldByPapers_32 (by decide) (fun c_2 => ?_) (fun c_2 => ?_)
    · skip
      refine lv_iload hx hb dX1_toldByPapers_65 (lv_at hl 4 rfl) ?_
      exact RET _ _ _ ((fun (h9 : k = n) => by subst h9; simp [tbF, c_1, c_2, gHol, gGoo, gDec, gFee, gDeb, gLen, gNum, gPrf, gCop, gMad, gN]) (by omega)) dX1_toldByPapers_67
    · skip
      refine lv_iload_n hx hb dX1_toldByPapers_35 rfl (lv_at hl 3 rfl) ?_
      refine lv_iload hx hb dX1_toldByPapers_36 (lv_at hl 5 rfl) ?_
      refine r_callE (x := bI (isB ((rchF len num P false)) (nI (k)))) (va_runS (As := [.int ((rchF len num P false)), .int (nI (k))]) (rest := []) ⟨hx, hb, hml, hown, hts⟩ (c_X1_isIn l ((rchF len num P false)) (nI (k))) (va_cwS 2 hts gX1_toldByPapers_X1_isIn rfl rfl rfl kn_X1_isIn ⟨Nat.le_of_ble_eq_true rfl, Nat.le_of_ble_eq_true rfl⟩) (pS_T) rfl rfl hl.1 rfl (lv_room (Nat.le_of_ble_eq_true rfl)) dX1_toldByPapers_38 ⟨Nat.le_of_ble_eq_true rfl, Nat.le_of_ble_eq_true rfl⟩) ?_
      refine eqB (isB ((rchF len num P false)) (nI (k))) (tgt := 59) hx hb rfl dX1_toldByPapers_41 (by decide) (fun c_3 => ?_) (fun c_3 => ?_)
      · skip
        refine lv_iinc (v := nI (k + 1)) (lv' := [(5, .int (nI (k + 1))), (0, .ref (q 0)), (1, .int (nI (P))), (2, .int g), (3, .int ((rchF len num P false))), (4, .int ((tbS len num P g k)))]) hx hb dX1_toldByPapers_59 hl (k := 5) rfl (iincN (k)) (by decide) rfl (fun ls hl => ?_)
        refine lv_goto (tgt := 26) hx hb dX1_toldByPapers_62 (by decide) ?_
        have hl : lv_has ls 6 [(5, .int (nI (k + 1))), (0, .ref (q 0)), (1, .int (nI (P))), (2, .int g), (3, .int ((rchF len num P false))), (4, .int ((tbS len num P g (k + 1))))] := by rw [← (show ((tbS len num P g k) : Int32) = (tbS len num P g (k + 1)) from by simp [tbS, c_1, c_2, c_3, gHol, gGoo, gDec, gFee, gDeb, gLen, gNum, gPrf, gCop, gMad, gN])]; exact hl
        exact ih_k (by omega) _ (lv_sub hl [1, 2, 3, 4, 5, 0] rfl)
      · skip
        refine lv_iload hx hb dX1_toldByPapers_44 (lv_at hl 4 rfl) ?_
        refine lv_aload_n hx hb dX1_toldByPapers_46 rfl (lv_at hl 0 rfl) ?_
        refine gf_1_0 hx hb hts hiX1 hown hK hP hf10 dX1_toldByPapers_47 ?_
        refine lv_iload hx hb dX1_toldByPapers_50 (lv_at hl 5 rfl) ?_
        refine lv_iload_n hx hb dX1_toldByPapers_52 rfl (lv_at hl 2 rfl) ?_
        refine r_callE (x := (owS num k g (len k))) (va_runV (As := [.int (nI (k)), .int g]) (rest := [.int ((tbS len num P g k))]) ⟨hx, hb, hml, hown, hts⟩ (c_X0_toldByOwnEntries l D cI q (hol, goo, dec, fee, deb, len, num, prf, cop, mad, n) k g (by omega) hlen) (cwV 2 hts gX1_toldByPapers_X0_toldByOwnEntries rfl rfl rfl kd_X0_toldByOwnEntries ⟨Nat.le_of_ble_eq_true rfl, Nat.le_of_ble_eq_true rfl⟩) (pV_G1 hP hK hE) rfl rfl hl.1 rfl (lv_room (Nat.le_of_ble_eq_true rfl)) dX1_toldByPapers_53 ⟨Nat.le_of_ble_eq_true rfl, Nat.le_of_ble_eq_true rfl⟩) ?_
        refine lv_iadd hx hb dX1_toldByPapers_56 ?_
        refine lv_istore (lv' := [(4, .int (((tbS len num P g k) + (owS num k g (len k))))), (0, .ref (q 0)), (1, .int (nI (P))), (2, .int g), (3, .int ((rchF len num P false))), (5, .int (nI (k)))]) hx hb dX1_toldByPapers_57 hl (by decide) rfl (fun ls hl => ?_)
        refine lv_iinc (v := nI (k + 1)) (lv' := [(5, .int (nI (k + 1))), (4, .int (((tbS len num P g k) + (owS num k g (len k))))), (0, .ref (q 0)), (1, .int (nI (P))), (2, .int g), (3, .int ((rchF len num P false)))]) hx hb dX1_toldByPapers_59 hl (k := 5) rfl (iincN (k)) (by decide) rfl (fun ls hl => ?_)
        refine lv_goto (tgt := 26) hx hb dX1_toldByPapers_62 (by decide) ?_
        have hl : lv_has ls 6 [(5, .int (nI (k + 1))), (4, .int ((tbS len num P g (k + 1)))), (0, .ref (q 0)), (1, .int (nI (P))), (2, .int g), (3, .int ((rchF len num P false)))] := by rw [← (show (((tbS len num P g k) + (owS num k g (len k))) : Int32) = (tbS len num P g (k + 1)) from by simp [tbS, c_1, c_2, c_3, gHol, gGoo, gDec, gFee, gDeb, gLen, gNum, gPrf, gCop, gMad, gN])]; exact hl
        exact ih_k (by omega) _ (lv_sub hl [2, 3, 4, 5, 1, 0] rfl)
  · skip
    have c_1 := of_decide_eq_true c_1
    refine lv_iconst (v := 0) hx hb dX1_toldByPapers_8 (by decide) ?_
    exact RET _ _ _ (by simp [tbF, c_1, gHol, gGoo, gDec, gFee, gDeb, gLen, gNum, gPrf, gCop, gMad, gN]) dX1_toldByPapers_9
theorem kn_X1_toldOfTruck : yX1_toldOfTruck.cls ≠ "java/lang/invoke/MethodHandle" ∧ yX1_toldOfTruck.cls ≠ "java/lang/invoke/VarHandle" ∧ (parseMethodDescriptor yX1_toldOfTruck.desc).map (fun d => d.parameters.length) = some 2 := by decide +kernel
theorem kd_X1_toldOfTruck : yX1_toldOfTruck.cls = RX1 ∧ yX1_toldOfTruck.cls ≠ "java/lang/invoke/MethodHandle" ∧ yX1_toldOfTruck.cls ≠ "java/lang/invoke/VarHandle" ∧ (parseMethodDescriptor yX1_toldOfTruck.desc).map (fun d => d.parameters.length) = some 2 := by decide +kernel
set_option maxHeartbeats 4000000 in
set_option maxRecDepth 100000 in
theorem c_X1_toldOfTruck (l : Launch) (D : va_G) (cI : ClassId) (q : Nat → Nat) (σ : SG) (t : Nat) (g : Int32) (ht6 : t < 6) (ok : okG σ) : Met l yX1_toldOfTruck wsX1_toldOfTruck ({ frames := 5, cells := 0, slots := 0, locals := 120 }) (va_Pc [.ref (q 0), .int (nI (t)), .int g] (PG D cI q σ)) (rQ (fun r => r = ttS (gN σ) (gHol σ) (gLen σ) (gNum σ) t g (gN σ))) 0 0 noF := by
  refine openR (cc := cX1_toldOfTruck) (maxL := 5) (by decide) rfl (Nat.le_of_ble_eq_true rfl) ?_
  intro p e s m args below meth c hx hb hml hts hown hpre Q RET ls hl
  have hown : s.vm.findClass RX1 = some m.cls := hown
  have hl : lv_has ls 5 [(0, .ref (q 0)), (1, .int (nI (t))), (2, .int g)] := hl
  obtain ⟨hP, hK, hE⟩ := hpre
  have hiX1 : ∀ w ∈ wsX10, w ∈ wsX1_toldOfTruck := by decide +kernel
  have hf40 := hts (.fieldLink RX1 40 "PalletGram" "pallets" "I") (by decide +kernel)
  have hf16 := hts (.fieldLink RX1 16 "PalletGram" "holders" "[I") (by decide +kernel)
  obtain ⟨hol, goo, dec, fee, deb, len, num, prf, cop, mad, n⟩ := σ
  obtain ⟨hn, hhol, hlen⟩ := ok
  have hn : n ≤ 14 := hn
  have hhol : ∀ P, hol P < 6 := hhol
  have hlen : ∀ P, len P ≤ 30 := hlen
  refine lv_iconst (v := 0) hx hb dX1_toldOfTruck_0 (by decide) ?_
  refine lv_istore_n (lv' := [(3, .int 0), (0, .ref (q 0)), (1, .int (nI (t))), (2, .int g)]) hx hb dX1_toldOfTruck_1 rfl hl (by decide) rfl (fun ls hl => ?_)
  refine lv_iconst (v := 0) hx hb dX1_toldOfTruck_2 (by decide) ?_
  refine lv_istore (lv' := [(4, .int 0), (3, .int 0), (0, .ref (q 0)), (1, .int (nI (t))), (2, .int g)]) hx hb dX1_toldOfTruck_3 hl (by decide) rfl (fun ls hl => ?_)
  refine loopW (N := n) (k0 := 0) (fun k ls => lv_has ls 5 [(0, .ref (q 0)), (1, .int (nI (t))), (2, .int g), (3, .int ((ttS n hol len num t g k))), (4, .int (nI (k)))]) (Nat.zero_le _) (lv_sub hl [2, 3, 4, 1, 0] rfl) (fun k ls hk_k hI ih_k => ?_)
  have hl := hI
  refine lv_iload hx hb dX1_toldOfTruck_5 (lv_at hl 4 rfl) ?_
  refine lv_aload_n hx hb dX1_toldOfTruck_7 rfl (lv_at hl 0 rfl) ?_
  refine gf_1_6 hx hb hts hiX1 hown hK hP hf40 dX1_toldOfTruck_8 ?_
  refine lv_topE (y := nI (n)) rfl ?_
  refine geN k n (tgt := 41) hx hb rfl rfl (by omega) (by omega) dX1_toldOfTruck_11 (by decide) (fun c_1 => ?_) (fun c_1 => ?_)
  · skip
    refine lv_iload_n hx hb dX1_toldOfTruck_41 rfl (lv_at hl 3 rfl) ?_
    exact RET _ _ _ (by rw [show k = n by omega]) dX1_toldOfTruck_42
  · skip
    have h8 := hhol k
    refine lv_aload_n hx hb dX1_toldOfTruck_14 rfl (lv_at hl 0 rfl) ?_
    refine gf_1_1 hx hb hts hiX1 hown hK hP hf16 dX1_toldOfTruck_15 ?_
    refine lv_iload hx hb dX1_toldOfTruck_18 (lv_at hl 4 rfl) ?_
    refine gld_2 (k := k) (v := hol k) hx hb hK hP rfl (by omega) rfl dX1_toldOfTruck_20 ?_
    refine lv_iload_n hx hb dX1_toldOfTruck_21 rfl (lv_at hl 1 rfl) ?_
    refine neN (hol k) t (tgt := 35) hx hb rfl rfl (by omega) (by omega) dX1_toldOfTruck_22 (by decide) (fun c_2 => ?_) (fun c_2 => ?_)
    · skip
      refine lv_iinc (v := nI (k + 1)) (lv' := [(4, .int (nI (k + 1))), (0, .ref (q 0)), (1, .int (nI (t))), (2, .int g), (3, .int ((ttS n hol len num t g k)))]) hx hb dX1_toldOfTruck_35 hl (k := 4) rfl (iincN (k)) (by decide) rfl (fun ls hl => ?_)
      refine lv_goto (tgt := 5) hx hb dX1_toldOfTruck_38 (by decide) ?_
      have hl : lv_has ls 5 [(4, .int (nI (k + 1))), (0, .ref (q 0)), (1, .int (nI (t))), (2, .int g), (3, .int ((ttS n hol len num t g (k + 1))))] := by rw [← (show ((ttS n hol len num t g k) : Int32) = (ttS n hol len num t g (k + 1)) from by simp [ttS, c_1, c_2, gHol, gGoo, gDec, gFee, gDeb, gLen, gNum, gPrf, gCop, gMad, gN])]; exact hl
      exact ih_k (by omega) _ (lv_sub hl [1, 2, 3, 4, 0] rfl)
    · skip
      refine lv_iload_n hx hb dX1_toldOfTruck_25 rfl (lv_at hl 3 rfl) ?_
      refine lv_aload_n hx hb dX1_toldOfTruck_26 rfl (lv_at hl 0 rfl) ?_
      refine lv_iload hx hb dX1_toldOfTruck_27 (lv_at hl 4 rfl) ?_
      refine lv_iload_n hx hb dX1_toldOfTruck_29 rfl (lv_at hl 2 rfl) ?_
      refine r_callE (x := (tbF n len num k g)) (va_runV (As := [.int (nI (k)), .int g]) (rest := [.int ((ttS n hol len num t g k))]) ⟨hx, hb, hml, hown, hts⟩ (c_X1_toldByPapers l D cI q (hol, goo, dec, fee, deb, len, num, prf, cop, mad, n) k g (by omega) ⟨hn, hhol, hlen⟩) (cwV 2 hts gX1_toldOfTruck_X1_toldByPapers rfl rfl rfl kd_X1_toldByPapers ⟨Nat.le_of_ble_eq_true rfl, Nat.le_of_ble_eq_true rfl⟩) (pV_G0 hP hK hE) rfl rfl hl.1 rfl (lv_room (Nat.le_of_ble_eq_true rfl)) dX1_toldOfTruck_30 ⟨Nat.le_of_ble_eq_true rfl, Nat.le_of_ble_eq_true rfl⟩) ?_
      refine lv_iadd hx hb dX1_toldOfTruck_33 ?_
      refine lv_istore_n (lv' := [(3, .int (((ttS n hol len num t g k) + (tbF n len num k g)))), (0, .ref (q 0)), (1, .int (nI (t))), (2, .int g), (4, .int (nI (k)))]) hx hb dX1_toldOfTruck_34 rfl hl (by decide) rfl (fun ls hl => ?_)
      refine lv_iinc (v := nI (k + 1)) (lv' := [(4, .int (nI (k + 1))), (3, .int (((ttS n hol len num t g k) + (tbF n len num k g)))), (0, .ref (q 0)), (1, .int (nI (t))), (2, .int g)]) hx hb dX1_toldOfTruck_35 hl (k := 4) rfl (iincN (k)) (by decide) rfl (fun ls hl => ?_)
      refine lv_goto (tgt := 5) hx hb dX1_toldOfTruck_38 (by decide) ?_
      have hl : lv_has ls 5 [(4, .int (nI (k + 1))), (3, .int ((ttS n hol len num t g (k + 1)))), (0, .ref (q 0)), (1, .int (nI (t))), (2, .int g)] := by rw [← (show (((ttS n hol len num t g k) + (tbF n len num k g)) : Int32) = (ttS n hol len num t g (k + 1)) from by simp [ttS, c_1, c_2, gHol, gGoo, gDec, gFee, gDeb, gLen, gNum, gPrf, gCop, gMad, gN])]; exact hl
      exact ih_k (by omega) _ (lv_sub hl [2, 3, 4, 1, 0] rfl)
theorem kn_X1_stand : yX1_stand.cls ≠ "java/lang/invoke/MethodHandle" ∧ yX1_stand.cls ≠ "java/lang/invoke/VarHandle" ∧ (parseMethodDescriptor yX1_stand.desc).map (fun d => d.parameters.length) = some 1 := by decide +kernel
theorem kd_X1_stand : yX1_stand.cls = RX1 ∧ yX1_stand.cls ≠ "java/lang/invoke/MethodHandle" ∧ yX1_stand.cls ≠ "java/lang/invoke/VarHandle" ∧ (parseMethodDescriptor yX1_stand.desc).map (fun d => d.parameters.length) = some 1 := by decide +kernel
set_option maxHeartbeats 4000000 in
set_option maxRecDepth 100000 in
theorem c_X1_stand (l : Launch) (D : va_G) (cI : ClassId) (q : Nat → Nat) (σ : SG) (hq : ijQ 12 q) (hd : Nat) (hn14 : gN σ < 14) : Met l yX1_stand wsX1_stand ({ frames := 0, cells := 0, slots := 0, locals := 0 }) (va_Pc [.ref (q 0), .int (nI (hd))] (PG D cI q σ)) (wQ (adQ 12 q) (fun v H1 => v = some (.int (nI (gN σ))) ∧ va_P D vwCl (wG cI q (stF σ hd)) H1)) 0 0 (adQ 12 q) := by
  refine openW (cc := cX1_stand) (maxL := 3) (by decide) rfl (Nat.le_of_ble_eq_true rfl) ?_
  intro p e s m args below meth c hx hb hml hts hown hpre Q RET ls hl
  have hown : s.vm.findClass RX1 = some m.cls := hown
  have hl : lv_has ls 3 [(0, .ref (q 0)), (1, .int (nI (hd)))] := hl
  obtain ⟨hP, hK, hE⟩ := hpre
  have hS : va_S (adQ 12 q) s.heap s.heap [] := va_S.rf
  have hiX1 : ∀ w ∈ wsX10, w ∈ wsX1_stand := by decide +kernel
  have hf40 := hts (.fieldLink RX1 40 "PalletGram" "pallets" "I") (by decide +kernel)
  have hf16 := hts (.fieldLink RX1 16 "PalletGram" "holders" "[I") (by decide +kernel)
  obtain ⟨hol, goo, dec, fee, deb, len, num, prf, cop, mad, n⟩ := σ
  have hn14 : n < 14 := hn14
  refine lv_aload_n hx hb dX1_stand_0 rfl (lv_at hl 0 rfl) ?_
  refine gf_1_6 hx hb hts hiX1 hown hK hP hf40 dX1_stand_1 ?_
  refine lv_topE (y := nI (n)) rfl ?_
  refine lv_istore_n (lv' := [(2, .int (nI (n))), (0, .ref (q 0)), (1, .int (nI (hd)))]) hx hb dX1_stand_4 rfl hl (by decide) rfl (fun ls hl => ?_)
  refine lv_aload_n hx hb dX1_stand_5 rfl (lv_at hl 1 rfl) ?_
  refine gf_1_1 hx hb hts hiX1 hown hK hP hf16 dX1_stand_6 ?_
  refine lv_iload_n hx hb dX1_stand_9 rfl (lv_at hl 0 rfl) ?_
  refine lv_iload_n hx hb dX1_stand_10 rfl (lv_at hl 2 rfl) ?_
  refine gst_2 (k := n) (x := hd) hx hb hK hP hq hS rfl (by omega) dX1_stand_11 (fun hol_1 e_hol_1 H locs hP hS => ?_)
  have hP : va_P D vwCl (wG cI q (hol_1, goo, dec, fee, deb, len, num, prf, cop, mad, n)) H := hP
  refine lv_aload_n hx hb dX1_stand_12 rfl (lv_at hl 1 rfl) ?_
  refine lv_dup hx hb dX1_stand_13 rfl ?_
  refine gf_1_6 hx hb hts hiX1 hown hK hP hf40 dX1_stand_14 ?_
  refine lv_topE (y := nI (n)) rfl ?_
  refine lv_iconst (v := 1) hx hb dX1_stand_17 (by decide) ?_
  refine addN n 1 hx hb rfl rfl dX1_stand_18 ?_
  refine gp_1_6 (v := n + 1) hx hb hts hiX1 hown hK hP hq hS hf40 dX1_stand_19 (fun H locs hP hS => ?_)
  have hP : va_P D vwCl (wG cI q (hol_1, goo, dec, fee, deb, len, num, prf, cop, mad, (n + 1))) H := hP
  refine lv_iload_n hx hb dX1_stand_22 rfl (lv_at hl 0 rfl) ?_
  exact RET _ _ _ _ _ (⟨rfl, by subst e_hol_1; exact hP⟩) hS dX1_stand_23
theorem kn_X1_write : yX1_write.cls ≠ "java/lang/invoke/MethodHandle" ∧ yX1_write.cls ≠ "java/lang/invoke/VarHandle" ∧ (parseMethodDescriptor yX1_write.desc).map (fun d => d.parameters.length) = some 6 := by decide +kernel
theorem kd_X1_write : yX1_write.cls = RX1 ∧ yX1_write.cls ≠ "java/lang/invoke/MethodHandle" ∧ yX1_write.cls ≠ "java/lang/invoke/VarHandle" ∧ (parseMethodDescriptor yX1_write.desc).map (fun d => d.parameters.length) = some 6 := by decide +kernel
set_option maxHeartbeats 4000000 in
set_option maxRecDepth 100000 in
theorem c_X1_write (l : Launch) (D : va_G) (cI : ClassId) (q : Nat → Nat) (σ : SG) (hq : ijQ 12 q) (P kd : Nat) (g a o oe : Int32) (hP14 : P < 14) (hkd : kd < 10) (ok : okG σ) (hE9 : gLen σ P < 30) : Met l yX1_write wsX1_write ({ frames := 3, cells := 0, slots := 0, locals := 75 }) (va_Pc [.ref (q 0), .int (nI (P)), .int (nI (kd)), .int g, .int a, .int o, .int oe] (PG D cI q σ)) (wQ (adQ 12 q) (fun v H1 => v = none ∧ va_P D vwCl (wG cI q (wrF σ P kd g a o oe)) H1)) 0 0 (adQ 12 q) := by
  refine openV (cc := cX1_write) (maxL := 8) (by decide) rfl (Nat.le_of_ble_eq_true rfl) ?_
  intro p e s m args below meth c hx hb hml hts hown hpre Q RET ls hl
  have hown : s.vm.findClass RX1 = some m.cls := hown
  have hl : lv_has ls 8 [(0, .ref (q 0)), (1, .int (nI (P))), (2, .int (nI (kd))), (3, .int g), (4, .int a), (5, .int o), (6, .int oe)] := hl
  obtain ⟨hP, hK, hE⟩ := hpre
  have hS : va_S (adQ 12 q) s.heap s.heap [] := va_S.rf
  have hiX1 : ∀ w ∈ wsX10, w ∈ wsX1_write := by decide +kernel
  have hf16 := hts (.fieldLink RX1 16 "PalletGram" "holders" "[I") (by decide +kernel)
  have hf10 := hts (.fieldLink RX1 10 "PalletGram" "chains" "LPalletGram$Chains;") (by decide +kernel)
  have hf29 := hts (.fieldLink RX1 29 "PalletGram" "debts" "[I") (by decide +kernel)
  have hf26 := hts (.fieldLink RX1 26 "PalletGram" "fees" "[I") (by decide +kernel)
  obtain ⟨hol, goo, dec, fee, deb, len, num, prf, cop, mad, n⟩ := σ
  obtain ⟨hn, hhol, hlen⟩ := ok
  have hn : n ≤ 14 := hn
  have hhol : ∀ P, hol P < 6 := hhol
  have hlen : ∀ P, len P ≤ 30 := hlen
  have hE9 : len P < 30 := hE9
  have hm7 : mkF kd (hol P) < 7 := mkF_lt (hhol P)
  refine cutI (x := nI (mkF kd (hol P))) (pcM := 23) (st := []) ?_ (fun J => ?_)
  rotate_left
  · skip
    refine lv_iload_n hx hb dX1_write_0 rfl (lv_at hl 2 rfl) ?_
    refine lv_bipush (v := 8) hx hb dX1_write_1 (by decide) ?_
    refine eqN kd 8 (tgt := 12) hx hb rfl rfl (by omega) (by omega) dX1_write_3 (by decide) (fun c_1 => ?_) (fun c_1 => ?_)
    · skip
      refine lv_bipush (v := 6) hx hb dX1_write_12 (by decide) ?_
      refine lv_goto (tgt := 23) hx hb dX1_write_14 (by decide) ?_
      exact J _ (congrArg nI (by simp [mkF, c_1]))
    · skip
      refine lv_iload_n hx hb dX1_write_6 rfl (lv_at hl 2 rfl) ?_
      refine lv_bipush (v := 9) hx hb dX1_write_7 (by decide) ?_
      refine neN kd 9 (tgt := 17) hx hb rfl rfl (by omega) (by omega) dX1_write_9 (by decide) (fun c_2 => ?_) (fun c_2 => ?_)
      · skip
        refine lv_aload_n hx hb dX1_write_17 rfl (lv_at hl 0 rfl) ?_
        refine gf_1_1 hx hb hts hiX1 hown hK hP hf16 dX1_write_18 ?_
        refine lv_iload_n hx hb dX1_write_21 rfl (lv_at hl 1 rfl) ?_
        refine gld_2 (k := P) (v := hol P) hx hb hK hP rfl (by omega) rfl dX1_write_22 ?_
        exact J _ (congrArg nI (by simp [mkF, c_1, c_2]))
      · skip
        refine lv_bipush (v := 6) hx hb dX1_write_12 (by decide) ?_
        refine lv_goto (tgt := 23) hx hb dX1_write_14 (by decide) ?_
        exact J _ (congrArg nI (by simp [mkF, c_1, c_2]))
  refine lv_istore (lv' := [(7, .int (nI (mkF kd (hol P)))), (0, .ref (q 0)), (1, .int (nI (P))), (2, .int (nI (kd))), (3, .int g), (4, .int a), (5, .int o), (6, .int oe)]) hx hb dX1_write_23 hl (by decide) rfl (fun ls hl => ?_)
  refine lv_aload_n hx hb dX1_write_25 rfl (lv_at hl 1 rfl) ?_
  refine gf_1_0 hx hb hts hiX1 hown hK hP hf10 dX1_write_26 ?_
  refine lv_iload_n hx hb dX1_write_29 rfl (lv_at hl 2 rfl) ?_
  refine lv_iload_n hx hb dX1_write_30 rfl (lv_at hl 3 rfl) ?_
  refine lv_iload hx hb dX1_write_31 (lv_at hl 0 rfl) ?_
  refine lv_iload_n hx hb dX1_write_33 rfl (lv_at hl 4 rfl) ?_
  refine lv_iload hx hb dX1_write_34 (lv_at hl 5 rfl) ?_
  refine lv_iload hx hb dX1_write_36 (lv_at hl 6 rfl) ?_
  refine lv_iload hx hb dX1_write_38 (lv_at hl 7 rfl) ?_
  refine w_call (va_runV (As := [.int (nI (P)), .int (nI (kd)), .int (nI (mkF kd (hol P))), .int g, .int a, .int o, .int oe]) (rest := []) ⟨hx, hb, hml, hown, hts⟩ (c_X0_add l D cI q (hol, goo, dec, fee, deb, len, num, prf, cop, mad, n) hq P kd (mkF kd (hol P)) g a o oe (by omega) (by omega)) (cwV 7 hts gX1_write_X0_add rfl rfl rfl kd_X0_add ⟨Nat.le_of_ble_eq_true rfl, Nat.le_of_ble_eq_true rfl⟩) (pV_G1 hP hK hE) rfl rfl hl.1 rfl (lv_room (Nat.le_of_ble_eq_true rfl)) dX1_write_40 ⟨Nat.le_of_ble_eq_true rfl, Nat.le_of_ble_eq_true rfl⟩) hS (fun _ h => h) (fun v_3 H locs hv_3 _ _ hS => ?_)
  obtain ⟨rfl, hP⟩ := hv_3
  have hP : va_P D vwCl (wG cI q (hol, goo, dec, fee, deb, (gLen (adF (hol, goo, dec, fee, deb, len, num, prf, cop, mad, n) P kd (mkF kd (hol P)) g a o oe)), (gNum (adF (hol, goo, dec, fee, deb, len, num, prf, cop, mad, n) P kd (mkF kd (hol P)) g a o oe)), (gPrf (adF (hol, goo, dec, fee, deb, len, num, prf, cop, mad, n) P kd (mkF kd (hol P)) g a o oe)), (gCop (adF (hol, goo, dec, fee, deb, len, num, prf, cop, mad, n) P kd (mkF kd (hol P)) g a o oe)), (gMad (adF (hol, goo, dec, fee, deb, len, num, prf, cop, mad, n) P kd (mkF kd (hol P)) g a o oe)), n)) H := hP
  refine lv_aload_n hx hb dX1_write_43 rfl (lv_at hl 1 rfl) ?_
  refine gf_1_5 hx hb hts hiX1 hown hK hP hf29 dX1_write_44 ?_
  refine lv_iload hx hb dX1_write_47 (lv_at hl 0 rfl) ?_
  refine lv_dup2_11 hx hb dX1_write_49 rfl rfl ?_
  refine gld_6 (k := mkF kd (hol P)) (v := deb (mkF kd (hol P))) hx hb hK hP rfl (by omega) rfl dX1_write_50 ?_
  refine lv_aload_n hx hb dX1_write_51 rfl (lv_at hl 1 rfl) ?_
  refine gf_1_4 hx hb hts hiX1 hown hK hP hf26 dX1_write_52 ?_
  refine lv_iload_n hx hb dX1_write_55 rfl (lv_at hl 3 rfl) ?_
  refine gld_5 (k := kd) (v := fee kd) hx hb hK hP rfl (by omega) rfl dX1_write_56 ?_
  refine lv_iadd hx hb dX1_write_57 ?_
  refine gst_6 (k := mkF kd (hol P)) (x := ((deb (mkF kd (hol P))) + (fee kd))) hx hb hK hP hq hS rfl (by omega) dX1_write_58 (fun deb_4 e_deb_4 H locs hP hS => ?_)
  have hP : va_P D vwCl (wG cI q (hol, goo, dec, fee, deb_4, (gLen (adF (hol, goo, dec, fee, deb, len, num, prf, cop, mad, n) P kd (mkF kd (hol P)) g a o oe)), (gNum (adF (hol, goo, dec, fee, deb, len, num, prf, cop, mad, n) P kd (mkF kd (hol P)) g a o oe)), (gPrf (adF (hol, goo, dec, fee, deb, len, num, prf, cop, mad, n) P kd (mkF kd (hol P)) g a o oe)), (gCop (adF (hol, goo, dec, fee, deb, len, num, prf, cop, mad, n) P kd (mkF kd (hol P)) g a o oe)), (gMad (adF (hol, goo, dec, fee, deb, len, num, prf, cop, mad, n) P kd (mkF kd (hol P)) g a o oe)), n)) H := hP
  exact RET _ _ _ _ (⟨rfl, by subst e_deb_4; exact hP⟩) hS dX1_write_59
