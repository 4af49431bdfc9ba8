theorem oF0 {o : Nat → Int64} {x : Int32} : oF o 0 x = vp_updL o 0 x.toInt64 := rfl
theorem tI0 : (bI false).toInt64 = 0 := by decide
theorem tI1 : (bI true).toInt64 = 1 := by decide
theorem cMake_ex {σ : SG} {x1 : Int32} (h : (cMake σ x1).1 ≠ 0) : ((cMake σ x1).1 = 1 ∨ (cMake σ x1).1 = 3) ∧ (cMake σ x1).2.2 = σ := by
  revert h; unfold cMake; (repeat' split) <;> simp
set_option maxHeartbeats 4000000 in
set_option maxRecDepth 100000 in
theorem c_L_make (l : Launch) (hf : l.stackTraces = false) (D : va_G) (cI cJ : ClassId) (q : Nat → Nat) (hq : ijQ 13 q) (σ : SG) (ok : okG σ) (hz : ∀ P, gN σ ≤ P → gLen σ P = 0) (x1 : Int32) (o : Nat → Int64) : Met l yL_make wsL_make ({ frames := 8, cells := 1, slots := 6, locals := 124 }) (va_Pc [.ref (q 0), .int x1, .ref (q 12)] (PL D cI cJ q σ o)) (wQ (adQ 13 q) (fun v H1 => v = some (.int (nI (kB (cMake σ x1).1))) ∧ va_P D vwCl (wL cI cJ q (cMake σ x1).2.2 (oF o (cMake σ x1).1 (cMake σ x1).2.1)) H1)) 1 6 (adQ 13 q) := by
  refine openL (cc := cL_make) (maxL := 4) (by decide) rfl (Nat.le_of_ble_eq_true rfl) ?_
  intro p e s m args below meth c hx hb hml hts hown htab hpre Q RET ls hl
  obtain ⟨hP, hK, hE, hX, hN⟩ := hpre
  have hown : s.vm.findClass RL = some m.cls := hown
  have hl : lv_has ls 4 [(0, .ref (q 0)), (1, .int x1), (2, .ref (q 12))] := hl
  have hS : va_S (adQ 13 q) s.heap s.heap [] := va_S.rf
  refine lv_aload_n hx hb dL_make_0 rfl (lv_at hl 2 rfl) ?_
  refine lv_iconst (v := 0) hx hb dL_make_1 (by decide) ?_
  refine lv_aload_n hx hb dL_make_2 rfl (lv_at hl 0 rfl) ?_
  refine lv_iload_n hx hb dL_make_3 rfl (lv_at hl 1 rfl) ?_
  refine y_call (vx_runV (As := [.int x1]) (rest := [.int 0, .ref (q 12)]) ⟨hx, hb, hml, hown, hts⟩ (c_X1_make l hf D cI q σ (ij12 hq) x1 ok hz) (cwV 1 hts gL_make_X1_make rfl rfl rfl kd_X1_make ⟨Nat.le_of_ble_eq_true rfl, Nat.le_of_ble_eq_true rfl⟩) (pV_X hP hK hE hX) rfl rfl hl.1 rfl (lv_room (Nat.le_of_ble_eq_true rfl)) dL_make_4 ⟨Nat.le_of_ble_eq_true rfl, Nat.le_of_ble_eq_true rfl⟩) hS (fun _ h => ad12 h) (fun E9 ce q9 H1 l1 hψ hz9 hk9 hS hce hcv hcl => ?_) (fun v H1 l1 hv hz9 hk9 hS => ?_)
  · obtain ⟨hc0, rfl⟩ := hψ
    obtain ⟨hcs, hst⟩ := cMake_ex hc0
    have hP1 := wL_keep hP hk9
    rcases hcs with h1 | h1
    · skip
      rw [h1] at hcl
      refine vx_catch (E := E1) (name := "java/lang/IndexOutOfBoundsException") hown [] ⟨0, 9, 12, 13⟩ [⟨0, 9, 15, 15⟩] (by rw [htab]; rfl) (fun _ h => nomatch h) (by decide) (by decide) (hts (.classLink RL 13 "java/lang/IndexOutOfBoundsException") (by decide +kernel)) (va_Nw.use rfl hX.1.2.2.2.1) hce hcv hcl ?_
      refine lv_astore_n (lv' := [(3, .ref q9), (0, .ref (q 0)), (1, .int x1), (2, .ref (q 12))]) hx hb dL_make_12 rfl hl (by decide) rfl (fun ls hl => ?_)
      refine lv_iconst (v := 1) hx hb dL_make_13 (by decide) ?_
      exact RET _ _ _ _ _ ⟨by rw [h1]; rfl, by rw [hst, h1]; exact hP1⟩ hS dL_make_14
    · skip
      rw [h1] at hcl
      refine vx_catch (E := E3) (name := "java/lang/IllegalStateException") hown [⟨0, 9, 12, 13⟩] ⟨0, 9, 15, 15⟩ [] (by rw [htab]; rfl) (List.forall_mem_cons.mpr ⟨Or.inr ⟨by decide, _, hts (.classLink RL 13 "java/lang/IndexOutOfBoundsException") (by decide +kernel), hN.2.1⟩, fun _ h => nomatch h⟩) (by decide) (by decide) (hts (.classLink RL 15 "java/lang/IllegalStateException") (by decide +kernel)) (va_Nw.use rfl hX.1.2.2.2.2.2) hce hcv hcl ?_
      refine lv_astore_n (lv' := [(3, .ref q9), (0, .ref (q 0)), (1, .int x1), (2, .ref (q 12))]) hx hb dL_make_15 rfl hl (by decide) rfl (fun ls hl => ?_)
      refine lv_iconst (v := 2) hx hb dL_make_16 (by decide) ?_
      exact RET _ _ _ _ _ ⟨by rw [h1]; rfl, by rw [hst, h1]; exact hP1⟩ hS dL_make_17
  · obtain ⟨h0, rfl, hP1⟩ := hv
    have hP := wL_call hq hP hP1 hk9
    refine lv_i2l (v := (cMake σ x1).2.1.toInt64) hx hb dL_make_7 rfl ?_
    refine lst_12 hx hb hK hP hq hS dL_make_8 (fun H l1 hP hS => ?_)
    refine lv_goto (tgt := 18) hx hb dL_make_9 (by decide) ?_
    refine lv_iconst (v := 0) hx hb dL_make_18 (by decide) ?_
    exact RET _ _ _ _ _ ⟨by rw [h0]; rfl, by rw [h0]; exact hP⟩ hS dL_make_19
theorem kn_L_make : yL_make.cls ≠ "java/lang/invoke/MethodHandle" ∧ yL_make.cls ≠ "java/lang/invoke/VarHandle" ∧ (parseMethodDescriptor yL_make.desc).map (fun d => d.parameters.length) = some 3 := by decide +kernel
theorem cLoad_ex {σ : SG} {x1 x2 x3 : Int32} (h : (cLoad σ x1 x2 x3).1 ≠ 0) : ((cLoad σ x1 x2 x3).1 = 1 ∨ (cLoad σ x1 x2 x3).1 = 2 ∨ (cLoad σ x1 x2 x3).1 = 3) ∧ (cLoad σ x1 x2 x3).2.2 = σ := by
  revert h; unfold cLoad; (repeat' split) <;> simp
set_option maxHeartbeats 4000000 in
set_option maxRecDepth 100000 in
theorem c_L_load (l : Launch) (hf : l.stackTraces = false) (D : va_G) (cI cJ : ClassId) (q : Nat → Nat) (hq : ijQ 13 q) (σ : SG) (ok : okG σ) (hz : ∀ P, gN σ ≤ P → gLen σ P = 0) (x1 x2 x3 : Int32) (o : Nat → Int64) : Met l yL_load wsL_load ({ frames := 8, cells := 1, slots := 6, locals := 163 }) (va_Pc [.ref (q 0), .int x1, .int x2, .int x3, .ref (q 12)] (PL D cI cJ q σ o)) (wQ (adQ 13 q) (fun v H1 => v = some (.int (nI (cLoad σ x1 x2 x3).1)) ∧ va_P D vwCl (wL cI cJ q (cLoad σ x1 x2 x3).2.2 (oF o (cLoad σ x1 x2 x3).1 (cLoad σ x1 x2 x3).2.1)) H1)) 1 6 (adQ 13 q) := by
  refine openL (cc := cL_load) (maxL := 6) (by decide) rfl (Nat.le_of_ble_eq_true rfl) ?_
  intro p e s m args below meth c hx hb hml hts hown htab hpre Q RET ls hl
  obtain ⟨hP, hK, hE, hX, hN⟩ := hpre
  have hown : s.vm.findClass RL = some m.cls := hown
  have hl : lv_has ls 6 [(0, .ref (q 0)), (1, .int x1), (2, .int x2), (3, .int x3), (4, .ref (q 12))] := hl
  have hS : va_S (adQ 13 q) s.heap s.heap [] := va_S.rf
  refine lv_aload hx hb dL_load_0 (lv_at hl 4 rfl) ?_
  refine lv_iconst (v := 0) hx hb dL_load_2 (by decide) ?_
  refine lv_aload_n hx hb dL_load_3 rfl (lv_at hl 0 rfl) ?_
  refine lv_iload_n hx hb dL_load_4 rfl (lv_at hl 1 rfl) ?_
  refine lv_iload_n hx hb dL_load_5 rfl (lv_at hl 2 rfl) ?_
  refine lv_iload_n hx hb dL_load_6 rfl (lv_at hl 3 rfl) ?_
  refine y_call (vx_runV (As := [.int x1, .int x2, .int x3]) (rest := [.int 0, .ref (q 12)]) ⟨hx, hb, hml, hown, hts⟩ (c_X1_load l hf D cI q σ (ij12 hq) x1 x2 x3 ok hz) (cwV 3 hts gL_load_X1_load rfl rfl rfl kd_X1_load ⟨Nat.le_of_ble_eq_true rfl, Nat.le_of_ble_eq_true rfl⟩) (pV_X hP hK hE hX) rfl rfl hl.1 rfl (lv_room (Nat.le_of_ble_eq_true rfl)) dL_load_7 ⟨Nat.le_of_ble_eq_true rfl, Nat.le_of_ble_eq_true rfl⟩) hS (fun _ h => ad12 h) (fun E9 ce q9 H1 l1 hψ hz9 hk9 hS hce hcv hcl => ?_) (fun v H1 l1 hv hz9 hk9 hS => ?_)
  · obtain ⟨hc0, rfl⟩ := hψ
    obtain ⟨hcs, hst⟩ := cLoad_ex hc0
    have hP1 := wL_keep hP hk9
    rcases hcs with h1 | h1 | h1
    · skip
      rw [h1] at hcl
      refine vx_catch (E := E1) (name := "java/lang/IndexOutOfBoundsException") hown [] ⟨0, 12, 15, 13⟩ [⟨0, 12, 19, 21⟩, ⟨0, 12, 23, 15⟩] (by rw [htab]; rfl) (fun _ h => nomatch h) (by decide) (by decide) (hts (.classLink RL 13 "java/lang/IndexOutOfBoundsException") (by decide +kernel)) (va_Nw.use rfl hX.1.2.2.2.1) hce hcv hcl ?_
      refine lv_astore (lv' := [(5, .ref q9), (0, .ref (q 0)), (1, .int x1), (2, .int x2), (3, .int x3), (4, .ref (q 12))]) hx hb dL_load_15 hl (by decide) rfl (fun ls hl => ?_)
      refine lv_iconst (v := 1) hx hb dL_load_17 (by decide) ?_
      exact RET _ _ _ _ _ ⟨by rw [h1]; rfl, by rw [hst, h1]; exact hP1⟩ hS dL_load_18
    · skip
      rw [h1] at hcl
      refine vx_catch (E := E2) (name := "java/lang/IllegalArgumentException") hown [⟨0, 12, 15, 13⟩] ⟨0, 12, 19, 21⟩ [⟨0, 12, 23, 15⟩] (by rw [htab]; rfl) (List.forall_mem_cons.mpr ⟨Or.inr ⟨by decide, _, hts (.classLink RL 13 "java/lang/IndexOutOfBoundsException") (by decide +kernel), hN.1⟩, fun _ h => nomatch h⟩) (by decide) (by decide) (hts (.classLink RL 21 "java/lang/IllegalArgumentException") (by decide +kernel)) (va_Nw.use rfl hX.1.2.2.2.2.1) hce hcv hcl ?_
      refine lv_astore (lv' := [(5, .ref q9), (0, .ref (q 0)), (1, .int x1), (2, .int x2), (3, .int x3), (4, .ref (q 12))]) hx hb dL_load_19 hl (by decide) rfl (fun ls hl => ?_)
      refine lv_iconst (v := 2) hx hb dL_load_21 (by decide) ?_
      exact RET _ _ _ _ _ ⟨by rw [h1]; rfl, by rw [hst, h1]; exact hP1⟩ hS dL_load_22
    · skip
      rw [h1] at hcl
      refine vx_catch (E := E3) (name := "java/lang/IllegalStateException") hown [⟨0, 12, 15, 13⟩, ⟨0, 12, 19, 21⟩] ⟨0, 12, 23, 15⟩ [] (by rw [htab]; rfl) (List.forall_mem_cons.mpr ⟨Or.inr ⟨by decide, _, hts (.classLink RL 13 "java/lang/IndexOutOfBoundsException") (by decide +kernel), hN.2.1⟩, List.forall_mem_cons.mpr ⟨Or.inr ⟨by decide, _, hts (.classLink RL 21 "java/lang/IllegalArgumentException") (by decide +kernel), hN.2.2⟩, fun _ h => nomatch h⟩⟩) (by decide) (by decide) (hts (.classLink RL 15 "java/lang/IllegalStateException") (by decide +kernel)) (va_Nw.use rfl hX.1.2.2.2.2.2) hce hcv hcl ?_
      refine lv_astore (lv' := [(5, .ref q9), (0, .ref (q 0)), (1, .int x1), (2, .int x2), (3, .int x3), (4, .ref (q 12))]) hx hb dL_load_23 hl (by decide) rfl (fun ls hl => ?_)
      refine lv_iconst (v := 3) hx hb dL_load_25 (by decide) ?_
      exact RET _ _ _ _ _ ⟨by rw [h1]; rfl, by rw [hst, h1]; exact hP1⟩ hS dL_load_26
  · obtain ⟨h0, rfl, hP1⟩ := hv
    have hP := wL_call hq hP hP1 hk9
    refine lv_i2l (v := (cLoad σ x1 x2 x3).2.1.toInt64) hx hb dL_load_10 rfl ?_
    refine lst_12 hx hb hK hP hq hS dL_load_11 (fun H l1 hP hS => ?_)
    refine lv_goto (tgt := 27) hx hb dL_load_12 (by decide) ?_
    refine lv_iconst (v := 0) hx hb dL_load_27 (by decide) ?_
    exact RET _ _ _ _ _ ⟨by rw [h0]; rfl, by rw [h0]; exact hP⟩ hS dL_load_28
theorem kn_L_load : yL_load.cls ≠ "java/lang/invoke/MethodHandle" ∧ yL_load.cls ≠ "java/lang/invoke/VarHandle" ∧ (parseMethodDescriptor yL_load.desc).map (fun d => d.parameters.length) = some 5 := by decide +kernel
theorem cPart_ex {σ : SG} {x1 x2 x3 : Int32} (h : (cPart σ x1 x2 x3).1 ≠ 0) : ((cPart σ x1 x2 x3).1 = 1 ∨ (cPart σ x1 x2 x3).1 = 2 ∨ (cPart σ x1 x2 x3).1 = 3) ∧ (cPart σ x1 x2 x3).2.2 = σ := by
  revert h; unfold cPart; (repeat' split) <;> simp
set_option maxHeartbeats 4000000 in
set_option maxRecDepth 100000 in
theorem c_L_part (l : Launch) (hf : l.stackTraces = false) (D : va_G) (cI cJ : ClassId) (q : Nat → Nat) (hq : ijQ 13 q) (σ : SG) (ok : okG σ) (hz : ∀ P, gN σ ≤ P → gLen σ P = 0) (x1 x2 x3 : Int32) (o : Nat → Int64) : Met l yL_part wsL_part ({ frames := 8, cells := 1, slots := 6, locals := 164 }) (va_Pc [.ref (q 0), .int x1, .int x2, .int x3, .ref (q 12)] (PL D cI cJ q σ o)) (wQ (adQ 13 q) (fun v H1 => v = some (.int (nI (cPart σ x1 x2 x3).1)) ∧ va_P D vwCl (wL cI cJ q (cPart σ x1 x2 x3).2.2 (oF o (cPart σ x1 x2 x3).1 (cPart σ x1 x2 x3).2.1)) H1)) 1 6 (adQ 13 q) := by
  refine openL (cc := cL_part) (maxL := 6) (by decide) rfl (Nat.le_of_ble_eq_true rfl) ?_
  intro p e s m args below meth c hx hb hml hts hown htab hpre Q RET ls hl
  obtain ⟨hP, hK, hE, hX, hN⟩ := hpre
  have hown : s.vm.findClass RL = some m.cls := hown
  have hl : lv_has ls 6 [(0, .ref (q 0)), (1, .int x1), (2, .int x2), (3, .int x3), (4, .ref (q 12))] := hl
  have hS : va_S (adQ 13 q) s.heap s.heap [] := va_S.rf
  refine lv_aload hx hb dL_part_0 (lv_at hl 4 rfl) ?_
  refine lv_iconst (v := 0) hx hb dL_part_2 (by decide) ?_
  refine lv_aload_n hx hb dL_part_3 rfl (lv_at hl 0 rfl) ?_
  refine lv_iload_n hx hb dL_part_4 rfl (lv_at hl 1 rfl) ?_
  refine lv_iload_n hx hb dL_part_5 rfl (lv_at hl 2 rfl) ?_
  refine lv_iload_n hx hb dL_part_6 rfl (lv_at hl 3 rfl) ?_
  refine y_call (vx_runV (As := [.int x1, .int x2, .int x3]) (rest := [.int 0, .ref (q 12)]) ⟨hx, hb, hml, hown, hts⟩ (c_X1_part l hf D cI q σ (ij12 hq) x1 x2 x3 ok hz) (cwV 3 hts gL_part_X1_part rfl rfl rfl kd_X1_part ⟨Nat.le_of_ble_eq_true rfl, Nat.le_of_ble_eq_true rfl⟩) (pV_X hP hK hE hX) rfl rfl hl.1 rfl (lv_room (Nat.le_of_ble_eq_true rfl)) dL_part_7 ⟨Nat.le_of_ble_eq_true rfl, Nat.le_of_ble_eq_true rfl⟩) hS (fun _ h => ad12 h) (fun E9 ce q9 H1 l1 hψ hz9 hk9 hS hce hcv hcl => ?_) (fun v H1 l1 hv hz9 hk9 hS => ?_)
  · obtain ⟨hc0, rfl⟩ := hψ
    obtain ⟨hcs, hst⟩ := cPart_ex hc0
    have hP1 := wL_keep hP hk9
    rcases hcs with h1 | h1 | h1
    · skip
      rw [h1] at hcl
      refine vx_catch (E := E1) (name := "java/lang/IndexOutOfBoundsException") hown [] ⟨0, 12, 15, 13⟩ [⟨0, 12, 19, 21⟩, ⟨0, 12, 23, 15⟩] (by rw [htab]; rfl) (fun _ h => nomatch h) (by decide) (by decide) (hts (.classLink RL 13 "java/lang/IndexOutOfBoundsException") (by decide +kernel)) (va_Nw.use rfl hX.1.2.2.2.1) hce hcv hcl ?_
      refine lv_astore (lv' := [(5, .ref q9), (0, .ref (q 0)), (1, .int x1), (2, .int x2), (3, .int x3), (4, .ref (q 12))]) hx hb dL_part_15 hl (by decide) rfl (fun ls hl => ?_)
      refine lv_iconst (v := 1) hx hb dL_part_17 (by decide) ?_
      exact RET _ _ _ _ _ ⟨by rw [h1]; rfl, by rw [hst, h1]; exact hP1⟩ hS dL_part_18
    · skip
      rw [h1] at hcl
      refine vx_catch (E := E2) (name := "java/lang/IllegalArgumentException") hown [⟨0, 12, 15, 13⟩] ⟨0, 12, 19, 21⟩ [⟨0, 12, 23, 15⟩] (by rw [htab]; rfl) (List.forall_mem_cons.mpr ⟨Or.inr ⟨by decide, _, hts (.classLink RL 13 "java/lang/IndexOutOfBoundsException") (by decide +kernel), hN.1⟩, fun _ h => nomatch h⟩) (by decide) (by decide) (hts (.classLink RL 21 "java/lang/IllegalArgumentException") (by decide +kernel)) (va_Nw.use rfl hX.1.2.2.2.2.1) hce hcv hcl ?_
      refine lv_astore (lv' := [(5, .ref q9), (0, .ref (q 0)), (1, .int x1), (2, .int x2), (3, .int x3), (4, .ref (q 12))]) hx hb dL_part_19 hl (by decide) rfl (fun ls hl => ?_)
      refine lv_iconst (v := 2) hx hb dL_part_21 (by decide) ?_
      exact RET _ _ _ _ _ ⟨by rw [h1]; rfl, by rw [hst, h1]; exact hP1⟩ hS dL_part_22
    · skip
      rw [h1] at hcl
      refine vx_catch (E := E3) (name := "java/lang/IllegalStateException") hown [⟨0, 12, 15, 13⟩, ⟨0, 12, 19, 21⟩] ⟨0, 12, 23, 15⟩ [] (by rw [htab]; rfl) (List.forall_mem_cons.mpr ⟨Or.inr ⟨by decide, _, hts (.classLink RL 13 "java/lang/IndexOutOfBoundsException") (by decide +kernel), hN.2.1⟩, List.forall_mem_cons.mpr ⟨Or.inr ⟨by decide, _, hts (.classLink RL 21 "java/lang/IllegalArgumentException") (by decide +kernel), hN.2.2⟩, fun _ h => nomatch h⟩⟩) (by decide) (by decide) (hts (.classLink RL 15 "java/lang/IllegalStateException") (by decide +kernel)) (va_Nw.use rfl hX.1.2.2.2.2.2) hce hcv hcl ?_
      refine lv_astore (lv' := [(5, .ref q9), (0, .ref (q 0)), (1, .int x1), (2, .int x2), (3, .int x3), (4, .ref (q 12))]) hx hb dL_part_23 hl (by decide) rfl (fun ls hl => ?_)
      refine lv_iconst (v := 3) hx hb dL_part_25 (by decide) ?_
      exact RET _ _ _ _ _ ⟨by rw [h1]; rfl, by rw [hst, h1]; exact hP1⟩ hS dL_part_26
  · obtain ⟨h0, rfl, hP1⟩ := hv
    have hP := wL_call hq hP hP1 hk9
    refine lv_i2l (v := (cPart σ x1 x2 x3).2.1.toInt64) hx hb dL_part_10 rfl ?_
    refine lst_12 hx hb hK hP hq hS dL_part_11 (fun H l1 hP hS => ?_)
    refine lv_goto (tgt := 27) hx hb dL_part_12 (by decide) ?_
    refine lv_iconst (v := 0) hx hb dL_part_27 (by decide) ?_
    exact RET _ _ _ _ _ ⟨by rw [h0]; rfl, by rw [h0]; exact hP⟩ hS dL_part_28
theorem kn_L_part : yL_part.cls ≠ "java/lang/invoke/MethodHandle" ∧ yL_part.cls ≠ "java/lang/invoke/VarHandle" ∧ (parseMethodDescriptor yL_part.desc).map (fun d => d.parameters.length) = some 5 := by decide +kernel
theorem cJoin_ex {σ : SG} {x1 x2 : Int32} (h : (cJoin σ x1 x2).1 ≠ 0) : ((cJoin σ x1 x2).1 = 1 ∨ (cJoin σ x1 x2).1 = 2 ∨ (cJoin σ x1 x2).1 = 3) ∧ (cJoin σ x1 x2).2.2 = σ := by
  revert h; unfold cJoin; (repeat' split) <;> simp
set_option maxHeartbeats 4000000 in
set_option maxRecDepth 100000 in
theorem c_L_join (l : Launch) (hf : l.stackTraces = false) (D : va_G) (cI cJ : ClassId) (q : Nat → Nat) (hq : ijQ 13 q) (σ : SG) (ok : okG σ) (hz : ∀ P, gN σ ≤ P → gLen σ P = 0) (x1 x2 : Int32) (o : Nat → Int64) : Met l yL_join wsL_join ({ frames := 8, cells := 1, slots := 6, locals := 164 }) (va_Pc [.ref (q 0), .int x1, .int x2, .ref (q 12)] (PL D cI cJ q σ o)) (wQ (adQ 13 q) (fun v H1 => v = some (.int (nI (cJoin σ x1 x2).1)) ∧ va_P D vwCl (wL cI cJ q (cJoin σ x1 x2).2.2 (oF o (cJoin σ x1 x2).1 (cJoin σ x1 x2).2.1)) H1)) 1 6 (adQ 13 q) := by
  refine openL (cc := cL_join) (maxL := 5) (by decide) rfl (Nat.le_of_ble_eq_true rfl) ?_
  intro p e s m args below meth c hx hb hml hts hown htab hpre Q RET ls hl
  obtain ⟨hP, hK, hE, hX, hN⟩ := hpre
  have hown : s.vm.findClass RL = some m.cls := hown
  have hl : lv_has ls 5 [(0, .ref (q 0)), (1, .int x1), (2, .int x2), (3, .ref (q 12))] := hl
  have hS : va_S (adQ 13 q) s.heap s.heap [] := va_S.rf
  refine lv_aload_n hx hb dL_join_0 rfl (lv_at hl 3 rfl) ?_
  refine lv_iconst (v := 0) hx hb dL_join_1 (by decide) ?_
  refine lv_aload_n hx hb dL_join_2 rfl (lv_at hl 0 rfl) ?_
  refine lv_iload_n hx hb dL_join_3 rfl (lv_at hl 1 rfl) ?_
  refine lv_iload_n hx hb dL_join_4 rfl (lv_at hl 2 rfl) ?_
  refine y_call (vx_runV (As := [.int x1, .int x2]) (rest := [.int 0, .ref (q 12)]) ⟨hx, hb, hml, hown, hts⟩ (c_X1_join l hf D cI q σ (ij12 hq) x1 x2 ok hz) (cwV 2 hts gL_join_X1_join rfl rfl rfl kd_X1_join ⟨Nat.le_of_ble_eq_true rfl, Nat.le_of_ble_eq_true rfl⟩) (pV_X hP hK hE hX) rfl rfl hl.1 rfl (lv_room (Nat.le_of_ble_eq_true rfl)) dL_join_5 ⟨Nat.le_of_ble_eq_true rfl, Nat.le_of_ble_eq_true rfl⟩) hS (fun _ h => ad12 h) (fun E9 ce q9 H1 l1 hψ hz9 hk9 hS hce hcv hcl => ?_) (fun v H1 l1 hv hz9 hk9 hS => ?_)
  · obtain ⟨hc0, rfl⟩ := hψ
    obtain ⟨hcs, hst⟩ := cJoin_ex hc0
    have hP1 := wL_keep hP hk9
    rcases hcs with h1 | h1 | h1
    · skip
      rw [h1] at hcl
      refine vx_catch (E := E1) (name := "java/lang/IndexOutOfBoundsException") hown [] ⟨0, 10, 13, 13⟩ [⟨0, 10, 17, 21⟩, ⟨0, 10, 21, 15⟩] (by rw [htab]; rfl) (fun _ h => nomatch h) (by decide) (by decide) (hts (.classLink RL 13 "java/lang/IndexOutOfBoundsException") (by decide +kernel)) (va_Nw.use rfl hX.1.2.2.2.1) hce hcv hcl ?_
      refine lv_astore (lv' := [(4, .ref q9), (0, .ref (q 0)), (1, .int x1), (2, .int x2), (3, .ref (q 12))]) hx hb dL_join_13 hl (by decide) rfl (fun ls hl => ?_)
      refine lv_iconst (v := 1) hx hb dL_join_15 (by decide) ?_
      exact RET _ _ _ _ _ ⟨by rw [h1]; rfl, by rw [hst, h1]; exact hP1⟩ hS dL_join_16
    · skip
      rw [h1] at hcl
      refine vx_catch (E := E2) (name := "java/lang/IllegalArgumentException") hown [⟨0, 10, 13, 13⟩] ⟨0, 10, 17, 21⟩ [⟨0, 10, 21, 15⟩] (by rw [htab]; rfl) (List.forall_mem_cons.mpr ⟨Or.inr ⟨by decide, _, hts (.classLink RL 13 "java/lang/IndexOutOfBoundsException") (by decide +kernel), hN.1⟩, fun _ h => nomatch h⟩) (by decide) (by decide) (hts (.classLink RL 21 "java/lang/IllegalArgumentException") (by decide +kernel)) (va_Nw.use rfl hX.1.2.2.2.2.1) hce hcv hcl ?_
      refine lv_astore (lv' := [(4, .ref q9), (0, .ref (q 0)), (1, .int x1), (2, .int x2), (3, .ref (q 12))]) hx hb dL_join_17 hl (by decide) rfl (fun ls hl => ?_)
      refine lv_iconst (v := 2) hx hb dL_join_19 (by decide) ?_
      exact RET _ _ _ _ _ ⟨by rw [h1]; rfl, by rw [hst, h1]; exact hP1⟩ hS dL_join_20
    · skip
      rw [h1] at hcl
      refine vx_catch (E := E3) (name := "java/lang/IllegalStateException") hown [⟨0, 10, 13, 13⟩, ⟨0, 10, 17, 21⟩] ⟨0, 10, 21, 15⟩ [] (by rw [htab]; rfl) (List.forall_mem_cons.mpr ⟨Or.inr ⟨by decide, _, hts (.classLink RL 13 "java/lang/IndexOutOfBoundsException") (by decide +kernel), hN.2.1⟩, List.forall_mem_cons.mpr ⟨Or.inr ⟨by decide, _, hts (.classLink RL 21 "java/lang/IllegalArgumentException") (by decide +kernel), hN.2.2⟩, fun _ h => nomatch h⟩⟩) (by decide) (by decide) (hts (.classLink RL 15 "java/lang/IllegalStateException") (by decide +kernel)) (va_Nw.use rfl hX.1.2.2.2.2.2) hce hcv hcl ?_
      refine lv_astore (lv' := [(4, .ref q9), (0, .ref (q 0)), (1, .int x1), (2, .int x2), (3, .ref (q 12))]) hx hb dL_join_21 hl (by decide) rfl (fun ls hl => ?_)
      refine lv_iconst (v := 3) hx hb dL_join_23 (by decide) ?_
      exact RET _ _ _ _ _ ⟨by rw [h1]; rfl, by rw [hst, h1]; exact hP1⟩ hS dL_join_24
  · obtain ⟨h0, rfl, hP1⟩ := hv
    have hP := wL_call hq hP hP1 hk9
    refine lv_i2l (v := (cJoin σ x1 x2).2.1.toInt64) hx hb dL_join_8 rfl ?_
    refine lst_12 hx hb hK hP hq hS dL_join_9 (fun H l1 hP hS => ?_)
    refine lv_goto (tgt := 25) hx hb dL_join_10 (by decide) ?_
    refine lv_iconst (v := 0) hx hb dL_join_25 (by decide) ?_
    exact RET _ _ _ _ _ ⟨by rw [h0]; rfl, by rw [h0]; exact hP⟩ hS dL_join_26
theorem kn_L_join : yL_join.cls ≠ "java/lang/invoke/MethodHandle" ∧ yL_join.cls ≠ "java/lang/invoke/VarHandle" ∧ (parseMethodDescriptor yL_join.desc).map (fun d => d.parameters.length) = some 4 := by decide +kernel
theorem cMove_ex {σ : SG} {x1 x2 : Int32} (h : (cMove σ x1 x2).1 ≠ 0) : ((cMove σ x1 x2).1 = 1 ∨ (cMove σ x1 x2).1 = 3) ∧ (cMove σ x1 x2).2.2 = σ := by
  revert h; unfold cMove; (repeat' split) <;> simp
set_option maxHeartbeats 4000000 in
set_option maxRecDepth 100000 in
theorem c_L_move (l : Launch) (hf : l.stackTraces = false) (D : va_G) (cI cJ : ClassId) (q : Nat → Nat) (hq : ijQ 13 q) (σ : SG) (ok : okG σ) (hz : ∀ P, gN σ ≤ P → gLen σ P = 0) (x1 x2 : Int32) (o : Nat → Int64) : Met l yL_move wsL_move ({ frames := 8, cells := 1, slots := 6, locals := 162 }) (va_Pc [.ref (q 0), .int x1, .int x2, .ref (q 12)] (PL D cI cJ q σ o)) (wQ (adQ 13 q) (fun v H1 => v = some (.int (nI (kB (cMove σ x1 x2).1))) ∧ va_P D vwCl (wL cI cJ q (cMove σ x1 x2).2.2 (oF o (cMove σ x1 x2).1 (cMove σ x1 x2).2.1)) H1)) 1 6 (adQ 13 q) := by
  refine openL (cc := cL_move) (maxL := 5) (by decide) rfl (Nat.le_of_ble_eq_true rfl) ?_
  intro p e s m args below meth c hx hb hml hts hown htab hpre Q RET ls hl
  obtain ⟨hP, hK, hE, hX, hN⟩ := hpre
  have hown : s.vm.findClass RL = some m.cls := hown
  have hl : lv_has ls 5 [(0, .ref (q 0)), (1, .int x1), (2, .int x2), (3, .ref (q 12))] := hl
  have hS : va_S (adQ 13 q) s.heap s.heap [] := va_S.rf
  refine lv_aload_n hx hb dL_move_0 rfl (lv_at hl 3 rfl) ?_
  refine lv_iconst (v := 0) hx hb dL_move_1 (by decide) ?_
  refine lv_aload_n hx hb dL_move_2 rfl (lv_at hl 0 rfl) ?_
  refine lv_iload_n hx hb dL_move_3 rfl (lv_at hl 1 rfl) ?_
  refine lv_iload_n hx hb dL_move_4 rfl (lv_at hl 2 rfl) ?_
  refine y_call (vx_runV (As := [.int x1, .int x2]) (rest := [.int 0, .ref (q 12)]) ⟨hx, hb, hml, hown, hts⟩ (c_X1_move l hf D cI q σ (ij12 hq) x1 x2 ok hz) (cwV 2 hts gL_move_X1_move rfl rfl rfl kd_X1_move ⟨Nat.le_of_ble_eq_true rfl, Nat.le_of_ble_eq_true rfl⟩) (pV_X hP hK hE hX) rfl rfl hl.1 rfl (lv_room (Nat.le_of_ble_eq_true rfl)) dL_move_5 ⟨Nat.le_of_ble_eq_true rfl, Nat.le_of_ble_eq_true rfl⟩) hS (fun _ h => ad12 h) (fun E9 ce q9 H1 l1 hψ hz9 hk9 hS hce hcv hcl => ?_) (fun v H1 l1 hv hz9 hk9 hS => ?_)
  · obtain ⟨hc0, rfl⟩ := hψ
    obtain ⟨hcs, hst⟩ := cMove_ex hc0
    have hP1 := wL_keep hP hk9
    rcases hcs with h1 | h1
    · skip
      rw [h1] at hcl
      refine vx_catch (E := E1) (name := "java/lang/IndexOutOfBoundsException") hown [] ⟨0, 10, 13, 13⟩ [⟨0, 10, 17, 15⟩] (by rw [htab]; rfl) (fun _ h => nomatch h) (by decide) (by decide) (hts (.classLink RL 13 "java/lang/IndexOutOfBoundsException") (by decide +kernel)) (va_Nw.use rfl hX.1.2.2.2.1) hce hcv hcl ?_
      refine lv_astore (lv' := [(4, .ref q9), (0, .ref (q 0)), (1, .int x1), (2, .int x2), (3, .ref (q 12))]) hx hb dL_move_13 hl (by decide) rfl (fun ls hl => ?_)
      refine lv_iconst (v := 1) hx hb dL_move_15 (by decide) ?_
      exact RET _ _ _ _ _ ⟨by rw [h1]; rfl, by rw [hst, h1]; exact hP1⟩ hS dL_move_16
    · skip
      rw [h1] at hcl
      refine vx_catch (E := E3) (name := "java/lang/IllegalStateException") hown [⟨0, 10, 13, 13⟩] ⟨0, 10, 17, 15⟩ [] (by rw [htab]; rfl) (List.forall_mem_cons.mpr ⟨Or.inr ⟨by decide, _, hts (.classLink RL 13 "java/lang/IndexOutOfBoundsException") (by decide +kernel), hN.2.1⟩, fun _ h => nomatch h⟩) (by decide) (by decide) (hts (.classLink RL 15 "java/lang/IllegalStateException") (by decide +kernel)) (va_Nw.use rfl hX.1.2.2.2.2.2) hce hcv hcl ?_
      refine lv_astore (lv' := [(4, .ref q9), (0, .ref (q 0)), (1, .int x1), (2, .int x2), (3, .ref (q 12))]) hx hb dL_move_17 hl (by decide) rfl (fun ls hl => ?_)
      refine lv_iconst (v := 2) hx hb dL_move_19 (by decide) ?_
      exact RET _ _ _ _ _ ⟨by rw [h1]; rfl, by rw [hst, h1]; exact hP1⟩ hS dL_move_20
  · obtain ⟨h0, rfl, hP1⟩ := hv
    have hP := wL_call hq hP hP1 hk9
    refine lv_i2l (v := (cMove σ x1 x2).2.1.toInt64) hx hb dL_move_8 rfl ?_
    refine lst_12 hx hb hK hP hq hS dL_move_9 (fun H l1 hP hS => ?_)
    refine lv_goto (tgt := 21) hx hb dL_move_10 (by decide) ?_
    refine lv_iconst (v := 0) hx hb dL_move_21 (by decide) ?_
    exact RET _ _ _ _ _ ⟨by rw [h0]; rfl, by rw [h0]; exact hP⟩ hS dL_move_22
theorem kn_L_move : yL_move.cls ≠ "java/lang/invoke/MethodHandle" ∧ yL_move.cls ≠ "java/lang/invoke/VarHandle" ∧ (parseMethodDescriptor yL_move.desc).map (fun d => d.parameters.length) = some 4 := by decide +kernel
theorem cHold_ex {σ : SG} {x1 : Int32} (h : (cHold σ x1).1 ≠ 0) : ((cHold σ x1).1 = 1 ∨ (cHold σ x1).1 = 3) ∧ (cHold σ x1).2.2 = σ := by
  revert h; unfold cHold; (repeat' split) <;> simp
set_option maxHeartbeats 4000000 in
set_option maxRecDepth 100000 in
theorem c_L_hold (l : Launch) (hf : l.stackTraces = false) (D : va_G) (cI cJ : ClassId) (q : Nat → Nat) (hq : ijQ 13 q) (σ : SG) (ok : okG σ) (hz : ∀ P, gN σ ≤ P → gLen σ P = 0) (x1 : Int32) (o : Nat → Int64) : Met l yL_hold wsL_hold ({ frames := 8, cells := 1, slots := 6, locals := 124 }) (va_Pc [.ref (q 0), .int x1, .ref (q 12)] (PL D cI cJ q σ o)) (wQ (adQ 13 q) (fun v H1 => v = some (.int (nI (kB (cHold σ x1).1))) ∧ va_P D vwCl (wL cI cJ q (cHold σ x1).2.2 (oF o (cHold σ x1).1 (bI (cHold σ x1).2.1))) H1)) 1 6 (adQ 13 q) := by
  refine openL (cc := cL_hold) (maxL := 4) (by decide) rfl (Nat.le_of_ble_eq_true rfl) ?_
  intro p e s m args below meth c hx hb hml hts hown htab hpre Q RET ls hl
  obtain ⟨hP, hK, hE, hX, hN⟩ := hpre
  have hown : s.vm.findClass RL = some m.cls := hown
  have hl : lv_has ls 4 [(0, .ref (q 0)), (1, .int x1), (2, .ref (q 12))] := hl
  have hS : va_S (adQ 13 q) s.heap s.heap [] := va_S.rf
  refine lv_aload_n hx hb dL_hold_0 rfl (lv_at hl 2 rfl) ?_
  refine lv_iconst (v := 0) hx hb dL_hold_1 (by decide) ?_
  refine lv_aload_n hx hb dL_hold_2 rfl (lv_at hl 0 rfl) ?_
  refine lv_iload_n hx hb dL_hold_3 rfl (lv_at hl 1 rfl) ?_
  refine y_call (vx_runV (As := [.int x1]) (rest := [.int 0, .ref (q 12)]) ⟨hx, hb, hml, hown, hts⟩ (c_X1_hold l hf D cI q σ (ij12 hq) x1 ok hz) (cwV 1 hts gL_hold_X1_hold rfl rfl rfl kd_X1_hold ⟨Nat.le_of_ble_eq_true rfl, Nat.le_of_ble_eq_true rfl⟩) (pV_X hP hK hE hX) rfl rfl hl.1 rfl (lv_room (Nat.le_of_ble_eq_true rfl)) dL_hold_4 ⟨Nat.le_of_ble_eq_true rfl, Nat.le_of_ble_eq_true rfl⟩) hS (fun _ h => ad12 h) (fun E9 ce q9 H1 l1 hψ hz9 hk9 hS hce hcv hcl => ?_) (fun v H1 l1 hv hz9 hk9 hS => ?_)
  · obtain ⟨hc0, rfl⟩ := hψ
    obtain ⟨hcs, hst⟩ := cHold_ex hc0
    have hP1 := wL_keep hP hk9
    rcases hcs with h1 | h1
    · skip
      rw [h1] at hcl
      refine vx_catch (E := E1) (name := "java/lang/IndexOutOfBoundsException") hown [] ⟨0, 16, 19, 13⟩ [⟨0, 16, 22, 15⟩] (by rw [htab]; rfl) (fun _ h => nomatch h) (by decide) (by decide) (hts (.classLink RL 13 "java/lang/IndexOutOfBoundsException") (by decide +kernel)) (va_Nw.use rfl hX.1.2.2.2.1) hce hcv hcl ?_
      refine lv_astore_n (lv' := [(3, .ref q9), (0, .ref (q 0)), (1, .int x1), (2, .ref (q 12))]) hx hb dL_hold_19 rfl hl (by decide) rfl (fun ls hl => ?_)
      refine lv_iconst (v := 1) hx hb dL_hold_20 (by decide) ?_
      exact RET _ _ _ _ _ ⟨by rw [h1]; rfl, by rw [hst, h1]; exact hP1⟩ hS dL_hold_21
    · skip
      rw [h1] at hcl
      refine vx_catch (E := E3) (name := "java/lang/IllegalStateException") hown [⟨0, 16, 19, 13⟩] ⟨0, 16, 22, 15⟩ [] (by rw [htab]; rfl) (List.forall_mem_cons.mpr ⟨Or.inr ⟨by decide, _, hts (.classLink RL 13 "java/lang/IndexOutOfBoundsException") (by decide +kernel), hN.2.1⟩, fun _ h => nomatch h⟩) (by decide) (by decide) (hts (.classLink RL 15 "java/lang/IllegalStateException") (by decide +kernel)) (va_Nw.use rfl hX.1.2.2.2.2.2) hce hcv hcl ?_
      refine lv_astore_n (lv' := [(3, .ref q9), (0, .ref (q 0)), (1, .int x1), (2, .ref (q 12))]) hx hb dL_hold_22 rfl hl (by decide) rfl (fun ls hl => ?_)
      refine lv_iconst (v := 2) hx hb dL_hold_23 (by decide) ?_
      exact RET _ _ _ _ _ ⟨by rw [h1]; rfl, by rw [hst, h1]; exact hP1⟩ hS dL_hold_24
  · obtain ⟨h0, rfl, hP1⟩ := hv
    have hP := wL_call hq hP hP1 hk9
    refine eqB ((cHold σ x1).2.1) (tgt := 14) hx hb rfl dL_hold_7 (by decide) (fun c_1 => ?_) (fun c_1 => ?_)
    · skip
      refine lv_lconst (v := 0) hx hb dL_hold_14 (by decide) ?_
      refine lst_12 hx hb hK hP hq hS dL_hold_15 (fun H l1 hP hS => ?_)
      refine lv_goto (tgt := 25) hx hb dL_hold_16 (by decide) ?_
      refine lv_iconst (v := 0) hx hb dL_hold_25 (by decide) ?_
      exact RET _ _ _ _ _ ⟨by rw [h0]; rfl, by rw [h0, c_1, oF0, tI0]; exact hP⟩ hS dL_hold_26
    · skip
      refine lv_lconst (v := 1) hx hb dL_hold_10 (by decide) ?_
      refine lv_goto (tgt := 15) hx hb dL_hold_11 (by decide) ?_
      refine lst_12 hx hb hK hP hq hS dL_hold_15 (fun H l1 hP hS => ?_)
      refine lv_goto (tgt := 25) hx hb dL_hold_16 (by decide) ?_
      refine lv_iconst (v := 0) hx hb dL_hold_25 (by decide) ?_
      exact RET _ _ _ _ _ ⟨by rw [h0]; rfl, by rw [h0, c_1, oF0, tI1]; exact hP⟩ hS dL_hold_26
theorem kn_L_hold : yL_hold.cls ≠ "java/lang/invoke/MethodHandle" ∧ yL_hold.cls ≠ "java/lang/invoke/VarHandle" ∧ (parseMethodDescriptor yL_hold.desc).map (fun d => d.parameters.length) = some 3 := by decide +kernel
theorem cSpoil_ex {σ : SG} {x1 x2 x3 : Int32} (h : (cSpoil σ x1 x2 x3).1 ≠ 0) : ((cSpoil σ x1 x2 x3).1 = 1 ∨ (cSpoil σ x1 x2 x3).1 = 2) ∧ (cSpoil σ x1 x2 x3).2.2 = σ := by
  revert h; unfold cSpoil; (repeat' split) <;> simp
set_option maxHeartbeats 4000000 in
set_option maxRecDepth 100000 in
theorem c_L_spoil (l : Launch) (hf : l.stackTraces = false) (D : va_G) (cI cJ : ClassId) (q : Nat → Nat) (hq : ijQ 13 q) (σ : SG) (ok : okG σ) (hz : ∀ P, gN σ ≤ P → gLen σ P = 0) (x1 x2 x3 : Int32) (o : Nat → Int64) : Met l yL_spoil wsL_spoil ({ frames := 8, cells := 1, slots := 6, locals := 126 }) (va_Pc [.ref (q 0), .int x1, .int x2, .int x3, .ref (q 12)] (PL D cI cJ q σ o)) (wQ (adQ 13 q) (fun v H1 => v = some (.int (nI (cSpoil σ x1 x2 x3).1)) ∧ va_P D vwCl (wL cI cJ q (cSpoil σ x1 x2 x3).2.2 (oF o (cSpoil σ x1 x2 x3).1 (cSpoil σ x1 x2 x3).2.1)) H1)) 1 6 (adQ 13 q) := by
  refine openL (cc := cL_spoil) (maxL := 6) (by decide) rfl (Nat.le_of_ble_eq_true rfl) ?_
  intro p e s m args below meth c hx hb hml hts hown htab hpre Q RET ls hl
  obtain ⟨hP, hK, hE, hX, hN⟩ := hpre
  have hown : s.vm.findClass RL = some m.cls := hown
  have hl : lv_has ls 6 [(0, .ref (q 0)), (1, .int x1), (2, .int x2), (3, .int x3), (4, .ref (q 12))] := hl
  have hS : va_S (adQ 13 q) s.heap s.heap [] := va_S.rf
  refine lv_aload hx hb dL_spoil_0 (lv_at hl 4 rfl) ?_
  refine lv_iconst (v := 0) hx hb dL_spoil_2 (by decide) ?_
  refine lv_aload_n hx hb dL_spoil_3 rfl (lv_at hl 0 rfl) ?_
  refine lv_iload_n hx hb dL_spoil_4 rfl (lv_at hl 1 rfl) ?_
  refine lv_iload_n hx hb dL_spoil_5 rfl (lv_at hl 2 rfl) ?_
  refine lv_iload_n hx hb dL_spoil_6 rfl (lv_at hl 3 rfl) ?_
  refine y_call (vx_runV (As := [.int x1, .int x2, .int x3]) (rest := [.int 0, .ref (q 12)]) ⟨hx, hb, hml, hown, hts⟩ (c_X1_spoil l hf D cI q σ (ij12 hq) x1 x2 x3 ok hz) (cwV 3 hts gL_spoil_X1_spoil rfl rfl rfl kd_X1_spoil ⟨Nat.le_of_ble_eq_true rfl, Nat.le_of_ble_eq_true rfl⟩) (pV_X hP hK hE hX) rfl rfl hl.1 rfl (lv_room (Nat.le_of_ble_eq_true rfl)) dL_spoil_7 ⟨Nat.le_of_ble_eq_true rfl, Nat.le_of_ble_eq_true rfl⟩) hS (fun _ h => ad12 h) (fun E9 ce q9 H1 l1 hψ hz9 hk9 hS hce hcv hcl => ?_) (fun v H1 l1 hv hz9 hk9 hS => ?_)
  · obtain ⟨hc0, rfl⟩ := hψ
    obtain ⟨hcs, hst⟩ := cSpoil_ex hc0
    have hP1 := wL_keep hP hk9
    rcases hcs with h1 | h1
    · skip
      rw [h1] at hcl
      refine vx_catch (E := E1) (name := "java/lang/IndexOutOfBoundsException") hown [] ⟨0, 12, 15, 13⟩ [⟨0, 12, 19, 21⟩] (by rw [htab]; rfl) (fun _ h => nomatch h) (by decide) (by decide) (hts (.classLink RL 13 "java/lang/IndexOutOfBoundsException") (by decide +kernel)) (va_Nw.use rfl hX.1.2.2.2.1) hce hcv hcl ?_
      refine lv_astore (lv' := [(5, .ref q9), (0, .ref (q 0)), (1, .int x1), (2, .int x2), (3, .int x3), (4, .ref (q 12))]) hx hb dL_spoil_15 hl (by decide) rfl (fun ls hl => ?_)
      refine lv_iconst (v := 1) hx hb dL_spoil_17 (by decide) ?_
      exact RET _ _ _ _ _ ⟨by rw [h1]; rfl, by rw [hst, h1]; exact hP1⟩ hS dL_spoil_18
    · skip
      rw [h1] at hcl
      refine vx_catch (E := E2) (name := "java/lang/IllegalArgumentException") hown [⟨0, 12, 15, 13⟩] ⟨0, 12, 19, 21⟩ [] (by rw [htab]; rfl) (List.forall_mem_cons.mpr ⟨Or.inr ⟨by decide, _, hts (.classLink RL 13 "java/lang/IndexOutOfBoundsException") (by decide +kernel), hN.1⟩, fun _ h => nomatch h⟩) (by decide) (by decide) (hts (.classLink RL 21 "java/lang/IllegalArgumentException") (by decide +kernel)) (va_Nw.use rfl hX.1.2.2.2.2.1) hce hcv hcl ?_
      refine lv_astore (lv' := [(5, .ref q9), (0, .ref (q 0)), (1, .int x1), (2, .int x2), (3, .int x3), (4, .ref (q 12))]) hx hb dL_spoil_19 hl (by decide) rfl (fun ls hl => ?_)
      refine lv_iconst (v := 2) hx hb dL_spoil_21 (by decide) ?_
      exact RET _ _ _ _ _ ⟨by rw [h1]; rfl, by rw [hst, h1]; exact hP1⟩ hS dL_spoil_22
  · obtain ⟨h0, rfl, hP1⟩ := hv
    have hP := wL_call hq hP hP1 hk9
    refine lv_i2l (v := (cSpoil σ x1 x2 x3).2.1.toInt64) hx hb dL_spoil_10 rfl ?_
    refine lst_12 hx hb hK hP hq hS dL_spoil_11 (fun H l1 hP hS => ?_)
    refine lv_goto (tgt := 23) hx hb dL_spoil_12 (by decide) ?_
    refine lv_iconst (v := 0) hx hb dL_spoil_23 (by decide) ?_
    exact RET _ _ _ _ _ ⟨by rw [h0]; rfl, by rw [h0]; exact hP⟩ hS dL_spoil_24
theorem kn_L_spoil : yL_spoil.cls ≠ "java/lang/invoke/MethodHandle" ∧ yL_spoil.cls ≠ "java/lang/invoke/VarHandle" ∧ (parseMethodDescriptor yL_spoil.desc).map (fun d => d.parameters.length) = some 5 := by decide +kernel
theorem cLose_ex {σ : SG} {x1 : Int32} (h : (cLose σ x1).1 ≠ 0) : ((cLose σ x1).1 = 1) ∧ (cLose σ x1).2.2 = σ := by
  revert h; unfold cLose; (repeat' split) <;> simp
set_option maxHeartbeats 4000000 in
set_option maxRecDepth 100000 in
theorem c_L_lose (l : Launch) (hf : l.stackTraces = false) (D : va_G) (cI cJ : ClassId) (q : Nat → Nat) (hq : ijQ 13 q) (σ : SG) (ok : okG σ) (hz : ∀ P, gN σ ≤ P → gLen σ P = 0) (x1 : Int32) (o : Nat → Int64) : Met l yL_lose wsL_lose ({ frames := 8, cells := 1, slots := 6, locals := 123 }) (va_Pc [.ref (q 0), .int x1, .ref (q 12)] (PL D cI cJ q σ o)) (wQ (adQ 13 q) (fun v H1 => v = some (.int (nI (cLose σ x1).1)) ∧ va_P D vwCl (wL cI cJ q (cLose σ x1).2.2 (oF o (cLose σ x1).1 (cLose σ x1).2.1)) H1)) 1 6 (adQ 13 q) := by
  refine openL (cc := cL_lose) (maxL := 4) (by decide) rfl (Nat.le_of_ble_eq_true rfl) ?_
  intro p e s m args below meth c hx hb hml hts hown htab hpre Q RET ls hl
  obtain ⟨hP, hK, hE, hX, hN⟩ := hpre
  have hown : s.vm.findClass RL = some m.cls := hown
  have hl : lv_has ls 4 [(0, .ref (q 0)), (1, .int x1), (2, .ref (q 12))] := hl
  have hS : va_S (adQ 13 q) s.heap s.heap [] := va_S.rf
  refine lv_aload_n hx hb dL_lose_0 rfl (lv_at hl 2 rfl) ?_
  refine lv_iconst (v := 0) hx hb dL_lose_1 (by decide) ?_
  refine lv_aload_n hx hb dL_lose_2 rfl (lv_at hl 0 rfl) ?_
  refine lv_iload_n hx hb dL_lose_3 rfl (lv_at hl 1 rfl) ?_
  refine y_call (vx_runV (As := [.int x1]) (rest := [.int 0, .ref (q 12)]) ⟨hx, hb, hml, hown, hts⟩ (c_X1_lose l hf D cI q σ (ij12 hq) x1 ok hz) (cwV 1 hts gL_lose_X1_lose rfl rfl rfl kd_X1_lose ⟨Nat.le_of_ble_eq_true rfl, Nat.le_of_ble_eq_true rfl⟩) (pV_X hP hK hE hX) rfl rfl hl.1 rfl (lv_room (Nat.le_of_ble_eq_true rfl)) dL_lose_4 ⟨Nat.le_of_ble_eq_true rfl, Nat.le_of_ble_eq_true rfl⟩) hS (fun _ h => ad12 h) (fun E9 ce q9 H1 l1 hψ hz9 hk9 hS hce hcv hcl => ?_) (fun v H1 l1 hv hz9 hk9 hS => ?_)
  · obtain ⟨hc0, rfl⟩ := hψ
    obtain ⟨hcs, hst⟩ := cLose_ex hc0
    have hP1 := wL_keep hP hk9
    have h1 := hcs
    · skip
      rw [h1] at hcl
      refine vx_catch (E := E1) (name := "java/lang/IndexOutOfBoundsException") hown [] ⟨0, 9, 12, 13⟩ [] (by rw [htab]; rfl) (fun _ h => nomatch h) (by decide) (by decide) (hts (.classLink RL 13 "java/lang/IndexOutOfBoundsException") (by decide +kernel)) (va_Nw.use rfl hX.1.2.2.2.1) hce hcv hcl ?_
      refine lv_astore_n (lv' := [(3, .ref q9), (0, .ref (q 0)), (1, .int x1), (2, .ref (q 12))]) hx hb dL_lose_12 rfl hl (by decide) rfl (fun ls hl => ?_)
      refine lv_iconst (v := 1) hx hb dL_lose_13 (by decide) ?_
      exact RET _ _ _ _ _ ⟨by rw [h1]; rfl, by rw [hst, h1]; exact hP1⟩ hS dL_lose_14
  · obtain ⟨h0, rfl, hP1⟩ := hv
    have hP := wL_call hq hP hP1 hk9
    refine lv_i2l (v := (cLose σ x1).2.1.toInt64) hx hb dL_lose_7 rfl ?_
    refine lst_12 hx hb hK hP hq hS dL_lose_8 (fun H l1 hP hS => ?_)
    refine lv_goto (tgt := 15) hx hb dL_lose_9 (by decide) ?_
    refine lv_iconst (v := 0) hx hb dL_lose_15 (by decide) ?_
    exact RET _ _ _ _ _ ⟨by rw [h0]; rfl, by rw [h0]; exact hP⟩ hS dL_lose_16
theorem kn_L_lose : yL_lose.cls ≠ "java/lang/invoke/MethodHandle" ∧ yL_lose.cls ≠ "java/lang/invoke/VarHandle" ∧ (parseMethodDescriptor yL_lose.desc).map (fun d => d.parameters.length) = some 3 := by decide +kernel
theorem cRepair_ex {σ : SG} {x1 x2 : Int32} (h : (cRepair σ x1 x2).1 ≠ 0) : ((cRepair σ x1 x2).1 = 1 ∨ (cRepair σ x1 x2).1 = 3) ∧ (cRepair σ x1 x2).2.2 = σ := by
  revert h; unfold cRepair; (repeat' split) <;> simp
set_option maxHeartbeats 4000000 in
set_option maxRecDepth 100000 in
theorem c_L_repair (l : Launch) (hf : l.stackTraces = false) (D : va_G) (cI cJ : ClassId) (q : Nat → Nat) (hq : ijQ 13 q) (σ : SG) (ok : okG σ) (hz : ∀ P, gN σ ≤ P → gLen σ P = 0) (x1 x2 : Int32) (o : Nat → Int64) : Met l yL_repair wsL_repair ({ frames := 8, cells := 1, slots := 6, locals := 125 }) (va_Pc [.ref (q 0), .int x1, .int x2, .ref (q 12)] (PL D cI cJ q σ o)) (wQ (adQ 13 q) (fun v H1 => v = some (.int (nI (kB (cRepair σ x1 x2).1))) ∧ va_P D vwCl (wL cI cJ q (cRepair σ x1 x2).2.2 (oF o (cRepair σ x1 x2).1 (cRepair σ x1 x2).2.1)) H1)) 1 6 (adQ 13 q) := by
  refine openL (cc := cL_repair) (maxL := 5) (by decide) rfl (Nat.le_of_ble_eq_true rfl) ?_
  intro p e s m args below meth c hx hb hml hts hown htab hpre Q RET ls hl
  obtain ⟨hP, hK, hE, hX, hN⟩ := hpre
  have hown : s.vm.findClass RL = some m.cls := hown
  have hl : lv_has ls 5 [(0, .ref (q 0)), (1, .int x1), (2, .int x2), (3, .ref (q 12))] := hl
  have hS : va_S (adQ 13 q) s.heap s.heap [] := va_S.rf
  refine lv_aload_n hx hb dL_repair_0 rfl (lv_at hl 3 rfl) ?_
  refine lv_iconst (v := 0) hx hb dL_repair_1 (by decide) ?_
  refine lv_aload_n hx hb dL_repair_2 rfl (lv_at hl 0 rfl) ?_
  refine lv_iload_n hx hb dL_repair_3 rfl (lv_at hl 1 rfl) ?_
  refine lv_iload_n hx hb dL_repair_4 rfl (lv_at hl 2 rfl) ?_
  refine y_call (vx_runV (As := [.int x1, .int x2]) (rest := [.int 0, .ref (q 12)]) ⟨hx, hb, hml, hown, hts⟩ (c_X1_repair l hf D cI q σ (ij12 hq) x1 x2 ok hz) (cwV 2 hts gL_repair_X1_repair rfl rfl rfl kd_X1_repair ⟨Nat.le_of_ble_eq_true rfl, Nat.le_of_ble_eq_true rfl⟩) (pV_X hP hK hE hX) rfl rfl hl.1 rfl (lv_room (Nat.le_of_ble_eq_true rfl)) dL_repair_5 ⟨Nat.le_of_ble_eq_true rfl, Nat.le_of_ble_eq_true rfl⟩) hS (fun _ h => ad12 h) (fun E9 ce q9 H1 l1 hψ hz9 hk9 hS hce hcv hcl => ?_) (fun v H1 l1 hv hz9 hk9 hS => ?_)
  · obtain ⟨hc0, rfl⟩ := hψ
    obtain ⟨hcs, hst⟩ := cRepair_ex hc0
    have hP1 := wL_keep hP hk9
    rcases hcs with h1 | h1
    · skip
      rw [h1] at hcl
      refine vx_catch (E := E1) (name := "java/lang/IndexOutOfBoundsException") hown [] ⟨0, 10, 13, 13⟩ [⟨0, 10, 17, 15⟩] (by rw [htab]; rfl) (fun _ h => nomatch h) (by decide) (by decide) (hts (.classLink RL 13 "java/lang/IndexOutOfBoundsException") (by decide +kernel)) (va_Nw.use rfl hX.1.2.2.2.1) hce hcv hcl ?_
      refine lv_astore (lv' := [(4, .ref q9), (0, .ref (q 0)), (1, .int x1), (2, .int x2), (3, .ref (q 12))]) hx hb dL_repair_13 hl (by decide) rfl (fun ls hl => ?_)
      refine lv_iconst (v := 1) hx hb dL_repair_15 (by decide) ?_
      exact RET _ _ _ _ _ ⟨by rw [h1]; rfl, by rw [hst, h1]; exact hP1⟩ hS dL_repair_16
    · skip
      rw [h1] at hcl
      refine vx_catch (E := E3) (name := "java/lang/IllegalStateException") hown [⟨0, 10, 13, 13⟩] ⟨0, 10, 17, 15⟩ [] (by rw [htab]; rfl) (List.forall_mem_cons.mpr ⟨Or.inr ⟨by decide, _, hts (.classLink RL 13 "java/lang/IndexOutOfBoundsException") (by decide +kernel), hN.2.1⟩, fun _ h => nomatch h⟩) (by decide) (by decide) (hts (.classLink RL 15 "java/lang/IllegalStateException") (by decide +kernel)) (va_Nw.use rfl hX.1.2.2.2.2.2) hce hcv hcl ?_
      refine lv_astore (lv' := [(4, .ref q9), (0, .ref (q 0)), (1, .int x1), (2, .int x2), (3, .ref (q 12))]) hx hb dL_repair_17 hl (by decide) rfl (fun ls hl => ?_)
      refine lv_iconst (v := 2) hx hb dL_repair_19 (by decide) ?_
      exact RET _ _ _ _ _ ⟨by rw [h1]; rfl, by rw [hst, h1]; exact hP1⟩ hS dL_repair_20
  · obtain ⟨h0, rfl, hP1⟩ := hv
    have hP := wL_call hq hP hP1 hk9
    refine lv_i2l (v := (cRepair σ x1 x2).2.1.toInt64) hx hb dL_repair_8 rfl ?_
    refine lst_12 hx hb hK hP hq hS dL_repair_9 (fun H l1 hP hS => ?_)
    refine lv_goto (tgt := 21) hx hb dL_repair_10 (by decide) ?_
    refine lv_iconst (v := 0) hx hb dL_repair_21 (by decide) ?_
    exact RET _ _ _ _ _ ⟨by rw [h0]; rfl, by rw [h0]; exact hP⟩ hS dL_repair_22
theorem kn_L_repair : yL_repair.cls ≠ "java/lang/invoke/MethodHandle" ∧ yL_repair.cls ≠ "java/lang/invoke/VarHandle" ∧ (parseMethodDescriptor yL_repair.desc).map (fun d => d.parameters.length) = some 4 := by decide +kernel
theorem cBroken_ex {σ : SG} {x1 : Int32} (h : (cBroken σ x1).1 ≠ 0) : ((cBroken σ x1).1 = 1) ∧ (cBroken σ x1).2.2 = σ := by
  revert h; unfold cBroken; (repeat' split) <;> simp
set_option maxHeartbeats 4000000 in
set_option maxRecDepth 100000 in
theorem c_L_broken (l : Launch) (hf : l.stackTraces = false) (D : va_G) (cI cJ : ClassId) (q : Nat → Nat) (hq : ijQ 13 q) (σ : SG) (ok : okG σ) (hz : ∀ P, gN σ ≤ P → gLen σ P = 0) (x1 : Int32) (o : Nat → Int64) : Met l yL_broken wsL_broken ({ frames := 8, cells := 1, slots := 6, locals := 123 }) (va_Pc [.ref (q 0), .int x1, .ref (q 12)] (PL D cI cJ q σ o)) (wQ (adQ 13 q) (fun v H1 => v = some (.int (nI (cBroken σ x1).1)) ∧ va_P D vwCl (wL cI cJ q (cBroken σ x1).2.2 (oF o (cBroken σ x1).1 (cBroken σ x1).2.1)) H1)) 1 6 (adQ 13 q) := by
  refine openL (cc := cL_broken) (maxL := 4) (by decide) rfl (Nat.le_of_ble_eq_true rfl) ?_
  intro p e s m args below meth c hx hb hml hts hown htab hpre Q RET ls hl
  obtain ⟨hP, hK, hE, hX, hN⟩ := hpre
  have hown : s.vm.findClass RL = some m.cls := hown
  have hl : lv_has ls 4 [(0, .ref (q 0)), (1, .int x1), (2, .ref (q 12))] := hl
  have hS : va_S (adQ 13 q) s.heap s.heap [] := va_S.rf
  refine lv_aload_n hx hb dL_broken_0 rfl (lv_at hl 2 rfl) ?_
  refine lv_iconst (v := 0) hx hb dL_broken_1 (by decide) ?_
  refine lv_aload_n hx hb dL_broken_2 rfl (lv_at hl 0 rfl) ?_
  refine lv_iload_n hx hb dL_broken_3 rfl (lv_at hl 1 rfl) ?_
  refine y_call (vx_runV (As := [.int x1]) (rest := [.int 0, .ref (q 12)]) ⟨hx, hb, hml, hown, hts⟩ (c_X1_broken l hf D cI q σ (ij12 hq) x1 ok hz) (cwV 1 hts gL_broken_X1_broken rfl rfl rfl kd_X1_broken ⟨Nat.le_of_ble_eq_true rfl, Nat.le_of_ble_eq_true rfl⟩) (pV_X hP hK hE hX) rfl rfl hl.1 rfl (lv_room (Nat.le_of_ble_eq_true rfl)) dL_broken_4 ⟨Nat.le_of_ble_eq_true rfl, Nat.le_of_ble_eq_true rfl⟩) hS (fun _ h => ad12 h) (fun E9 ce q9 H1 l1 hψ hz9 hk9 hS hce hcv hcl => ?_) (fun v H1 l1 hv hz9 hk9 hS => ?_)
  · obtain ⟨hc0, rfl⟩ := hψ
    obtain ⟨hcs, hst⟩ := cBroken_ex hc0
    have hP1 := wL_keep hP hk9
    have h1 := hcs
    · skip
      rw [h1] at hcl
      refine vx_catch (E := E1) (name := "java/lang/IndexOutOfBoundsException") hown [] ⟨0, 9, 12, 13⟩ [] (by rw [htab]; rfl) (fun _ h => nomatch h) (by decide) (by decide) (hts (.classLink RL 13 "java/lang/IndexOutOfBoundsException") (by decide +kernel)) (va_Nw.use rfl hX.1.2.2.2.1) hce hcv hcl ?_
      refine lv_astore_n (lv' := [(3, .ref q9), (0, .ref (q 0)), (1, .int x1), (2, .ref (q 12))]) hx hb dL_broken_12 rfl hl (by decide) rfl (fun ls hl => ?_)
      refine lv_iconst (v := 1) hx hb dL_broken_13 (by decide) ?_
      exact RET _ _ _ _ _ ⟨by rw [h1]; rfl, by rw [hst, h1]; exact hP1⟩ hS dL_broken_14
  · obtain ⟨h0, rfl, hP1⟩ := hv
    have hP := wL_call hq hP hP1 hk9
    refine lv_i2l (v := (cBroken σ x1).2.1.toInt64) hx hb dL_broken_7 rfl ?_
    refine lst_12 hx hb hK hP hq hS dL_broken_8 (fun H l1 hP hS => ?_)
    refine lv_goto (tgt := 15) hx hb dL_broken_9 (by decide) ?_
    refine lv_iconst (v := 0) hx hb dL_broken_15 (by decide) ?_
    exact RET _ _ _ _ _ ⟨by rw [h0]; rfl, by rw [h0]; exact hP⟩ hS dL_broken_16
theorem kn_L_broken : yL_broken.cls ≠ "java/lang/invoke/MethodHandle" ∧ yL_broken.cls ≠ "java/lang/invoke/VarHandle" ∧ (parseMethodDescriptor yL_broken.desc).map (fun d => d.parameters.length) = some 3 := by decide +kernel
theorem cSound_ex {σ : SG} {x1 : Int32} (h : (cSound σ x1).1 ≠ 0) : ((cSound σ x1).1 = 1) ∧ (cSound σ x1).2.2 = σ := by
  revert h; unfold cSound; (repeat' split) <;> simp
set_option maxHeartbeats 4000000 in
set_option maxRecDepth 100000 in
theorem c_L_isSound (l : Launch) (hf : l.stackTraces = false) (D : va_G) (cI cJ : ClassId) (q : Nat → Nat) (hq : ijQ 13 q) (σ : SG) (ok : okG σ) (hz : ∀ P, gN σ ≤ P → gLen σ P = 0) (x1 : Int32) (o : Nat → Int64) : Met l yL_isSound wsL_isSound ({ frames := 8, cells := 1, slots := 6, locals := 139 }) (va_Pc [.ref (q 0), .int x1, .ref (q 12)] (PL D cI cJ q σ o)) (wQ (adQ 13 q) (fun v H1 => v = some (.int (nI (cSound σ x1).1)) ∧ va_P D vwCl (wL cI cJ q (cSound σ x1).2.2 (oF o (cSound σ x1).1 (bI (cSound σ x1).2.1))) H1)) 1 6 (adQ 13 q) := by
  refine openL (cc := cL_isSound) (maxL := 4) (by decide) rfl (Nat.le_of_ble_eq_true rfl) ?_
  intro p e s m args below meth c hx hb hml hts hown htab hpre Q RET ls hl
  obtain ⟨hP, hK, hE, hX, hN⟩ := hpre
  have hown : s.vm.findClass RL = some m.cls := hown
  have hl : lv_has ls 4 [(0, .ref (q 0)), (1, .int x1), (2, .ref (q 12))] := hl
  have hS : va_S (adQ 13 q) s.heap s.heap [] := va_S.rf
  refine lv_aload_n hx hb dL_isSound_0 rfl (lv_at hl 2 rfl) ?_
  refine lv_iconst (v := 0) hx hb dL_isSound_1 (by decide) ?_
  refine lv_aload_n hx hb dL_isSound_2 rfl (lv_at hl 0 rfl) ?_
  refine lv_iload_n hx hb dL_isSound_3 rfl (lv_at hl 1 rfl) ?_
  refine y_call (vx_runV (As := [.int x1]) (rest := [.int 0, .ref (q 12)]) ⟨hx, hb, hml, hown, hts⟩ (c_X1_isSound l hf D cI q σ (ij12 hq) x1 ok hz) (cwV 1 hts gL_isSound_X1_isSound rfl rfl rfl kd_X1_isSound ⟨Nat.le_of_ble_eq_true rfl, Nat.le_of_ble_eq_true rfl⟩) (pV_X hP hK hE hX) rfl rfl hl.1 rfl (lv_room (Nat.le_of_ble_eq_true rfl)) dL_isSound_4 ⟨Nat.le_of_ble_eq_true rfl, Nat.le_of_ble_eq_true rfl⟩) hS (fun _ h => ad12 h) (fun E9 ce q9 H1 l1 hψ hz9 hk9 hS hce hcv hcl => ?_) (fun v H1 l1 hv hz9 hk9 hS => ?_)
  · obtain ⟨hc0, rfl⟩ := hψ
    obtain ⟨hcs, hst⟩ := cSound_ex hc0
    have hP1 := wL_keep hP hk9
    have h1 := hcs
    · skip
      rw [h1] at hcl
      refine vx_catch (E := E1) (name := "java/lang/IndexOutOfBoundsException") hown [] ⟨0, 16, 19, 13⟩ [] (by rw [htab]; rfl) (fun _ h => nomatch h) (by decide) (by decide) (hts (.classLink RL 13 "java/lang/IndexOutOfBoundsException") (by decide +kernel)) (va_Nw.use rfl hX.1.2.2.2.1) hce hcv hcl ?_
      refine lv_astore_n (lv' := [(3, .ref q9), (0, .ref (q 0)), (1, .int x1), (2, .ref (q 12))]) hx hb dL_isSound_19 rfl hl (by decide) rfl (fun ls hl => ?_)
      refine lv_iconst (v := 1) hx hb dL_isSound_20 (by decide) ?_
      exact RET _ _ _ _ _ ⟨by rw [h1]; rfl, by rw [hst, h1]; exact hP1⟩ hS dL_isSound_21
  · obtain ⟨h0, rfl, hP1⟩ := hv
    have hP := wL_call hq hP hP1 hk9
    refine eqB ((cSound σ x1).2.1) (tgt := 14) hx hb rfl dL_isSound_7 (by decide) (fun c_1 => ?_) (fun c_1 => ?_)
    · skip
      refine lv_lconst (v := 0) hx hb dL_isSound_14 (by decide) ?_
      refine lst_12 hx hb hK hP hq hS dL_isSound_15 (fun H l1 hP hS => ?_)
      refine lv_goto (tgt := 22) hx hb dL_isSound_16 (by decide) ?_
      refine lv_iconst (v := 0) hx hb dL_isSound_22 (by decide) ?_
      exact RET _ _ _ _ _ ⟨by rw [h0]; rfl, by rw [h0, c_1, oF0, tI0]; exact hP⟩ hS dL_isSound_23
    · skip
      refine lv_lconst (v := 1) hx hb dL_isSound_10 (by decide) ?_
      refine lv_goto (tgt := 15) hx hb dL_isSound_11 (by decide) ?_
      refine lst_12 hx hb hK hP hq hS dL_isSound_15 (fun H l1 hP hS => ?_)
      refine lv_goto (tgt := 22) hx hb dL_isSound_16 (by decide) ?_
      refine lv_iconst (v := 0) hx hb dL_isSound_22 (by decide) ?_
      exact RET _ _ _ _ _ ⟨by rw [h0]; rfl, by rw [h0, c_1, oF0, tI1]; exact hP⟩ hS dL_isSound_23
theorem kn_L_isSound : yL_isSound.cls ≠ "java/lang/invoke/MethodHandle" ∧ yL_isSound.cls ≠ "java/lang/invoke/VarHandle" ∧ (parseMethodDescriptor yL_isSound.desc).map (fun d => d.parameters.length) = some 3 := by decide +kernel
theorem cPallet_ex {σ : SG} {x1 x2 : Int32} (h : (cPallet σ x1 x2).1 ≠ 0) : ((cPallet σ x1 x2).1 = 1 ∨ (cPallet σ x1 x2).1 = 2) ∧ (cPallet σ x1 x2).2.2 = σ := by
  revert h; unfold cPallet; (repeat' split) <;> simp
set_option maxHeartbeats 4000000 in
set_option maxRecDepth 100000 in
theorem c_L_pallet (l : Launch) (hf : l.stackTraces = false) (D : va_G) (cI cJ : ClassId) (q : Nat → Nat) (hq : ijQ 13 q) (σ : SG) (ok : okG σ) (hz : ∀ P, gN σ ≤ P → gLen σ P = 0) (x1 x2 : Int32) (o : Nat → Int64) : Met l yL_pallet wsL_pallet ({ frames := 8, cells := 1, slots := 6, locals := 124 }) (va_Pc [.ref (q 0), .int x1, .int x2, .ref (q 12)] (PL D cI cJ q σ o)) (wQ (adQ 13 q) (fun v H1 => v = some (.int (nI (cPallet σ x1 x2).1)) ∧ va_P D vwCl (wL cI cJ q (cPallet σ x1 x2).2.2 (oF o (cPallet σ x1 x2).1 (cPallet σ x1 x2).2.1)) H1)) 1 6 (adQ 13 q) := by
  refine openL (cc := cL_pallet) (maxL := 5) (by decide) rfl (Nat.le_of_ble_eq_true rfl) ?_
  intro p e s m args below meth c hx hb hml hts hown htab hpre Q RET ls hl
  obtain ⟨hP, hK, hE, hX, hN⟩ := hpre
  have hown : s.vm.findClass RL = some m.cls := hown
  have hl : lv_has ls 5 [(0, .ref (q 0)), (1, .int x1), (2, .int x2), (3, .ref (q 12))] := hl
  have hS : va_S (adQ 13 q) s.heap s.heap [] := va_S.rf
  refine lv_aload_n hx hb dL_pallet_0 rfl (lv_at hl 3 rfl) ?_
  refine lv_iconst (v := 0) hx hb dL_pallet_1 (by decide) ?_
  refine lv_aload_n hx hb dL_pallet_2 rfl (lv_at hl 0 rfl) ?_
  refine lv_iload_n hx hb dL_pallet_3 rfl (lv_at hl 1 rfl) ?_
  refine lv_iload_n hx hb dL_pallet_4 rfl (lv_at hl 2 rfl) ?_
  refine y_call (vx_runV (As := [.int x1, .int x2]) (rest := [.int 0, .ref (q 12)]) ⟨hx, hb, hml, hown, hts⟩ (c_X1_pallet l hf D cI q σ (ij12 hq) x1 x2 ok hz) (cwV 2 hts gL_pallet_X1_pallet rfl rfl rfl kd_X1_pallet ⟨Nat.le_of_ble_eq_true rfl, Nat.le_of_ble_eq_true rfl⟩) (pV_X hP hK hE hX) rfl rfl hl.1 rfl (lv_room (Nat.le_of_ble_eq_true rfl)) dL_pallet_5 ⟨Nat.le_of_ble_eq_true rfl, Nat.le_of_ble_eq_true rfl⟩) hS (fun _ h => ad12 h) (fun E9 ce q9 H1 l1 hψ hz9 hk9 hS hce hcv hcl => ?_) (fun v H1 l1 hv hz9 hk9 hS => ?_)
  · obtain ⟨hc0, rfl⟩ := hψ
    obtain ⟨hcs, hst⟩ := cPallet_ex hc0
    have hP1 := wL_keep hP hk9
    rcases hcs with h1 | h1
    · skip
      rw [h1] at hcl
      refine vx_catch (E := E1) (name := "java/lang/IndexOutOfBoundsException") hown [] ⟨0, 10, 13, 13⟩ [⟨0, 10, 17, 21⟩] (by rw [htab]; rfl) (fun _ h => nomatch h) (by decide) (by decide) (hts (.classLink RL 13 "java/lang/IndexOutOfBoundsException") (by decide +kernel)) (va_Nw.use rfl hX.1.2.2.2.1) hce hcv hcl ?_
      refine lv_astore (lv' := [(4, .ref q9), (0, .ref (q 0)), (1, .int x1), (2, .int x2), (3, .ref (q 12))]) hx hb dL_pallet_13 hl (by decide) rfl (fun ls hl => ?_)
      refine lv_iconst (v := 1) hx hb dL_pallet_15 (by decide) ?_
      exact RET _ _ _ _ _ ⟨by rw [h1]; rfl, by rw [hst, h1]; exact hP1⟩ hS dL_pallet_16
    · skip
      rw [h1] at hcl
      refine vx_catch (E := E2) (name := "java/lang/IllegalArgumentException") hown [⟨0, 10, 13, 13⟩] ⟨0, 10, 17, 21⟩ [] (by rw [htab]; rfl) (List.forall_mem_cons.mpr ⟨Or.inr ⟨by decide, _, hts (.classLink RL 13 "java/lang/IndexOutOfBoundsException") (by decide +kernel), hN.1⟩, fun _ h => nomatch h⟩) (by decide) (by decide) (hts (.classLink RL 21 "java/lang/IllegalArgumentException") (by decide +kernel)) (va_Nw.use rfl hX.1.2.2.2.2.1) hce hcv hcl ?_
      refine lv_astore (lv' := [(4, .ref q9), (0, .ref (q 0)), (1, .int x1), (2, .int x2), (3, .ref (q 12))]) hx hb dL_pallet_17 hl (by decide) rfl (fun ls hl => ?_)
      refine lv_iconst (v := 2) hx hb dL_pallet_19 (by decide) ?_
      exact RET _ _ _ _ _ ⟨by rw [h1]; rfl, by rw [hst, h1]; exact hP1⟩ hS dL_pallet_20
  · obtain ⟨h0, rfl, hP1⟩ := hv
    have hP := wL_call hq hP hP1 hk9
    refine lv_i2l (v := (cPallet σ x1 x2).2.1.toInt64) hx hb dL_pallet_8 rfl ?_
    refine lst_12 hx hb hK hP hq hS dL_pallet_9 (fun H l1 hP hS => ?_)
    refine lv_goto (tgt := 21) hx hb dL_pallet_10 (by decide) ?_
    refine lv_iconst (v := 0) hx hb dL_pallet_21 (by decide) ?_
    exact RET _ _ _ _ _ ⟨by rw [h0]; rfl, by rw [h0]; exact hP⟩ hS dL_pallet_22
theorem kn_L_pallet : yL_pallet.cls ≠ "java/lang/invoke/MethodHandle" ∧ yL_pallet.cls ≠ "java/lang/invoke/VarHandle" ∧ (parseMethodDescriptor yL_pallet.desc).map (fun d => d.parameters.length) = some 4 := by decide +kernel
theorem cEntry_ex {σ : SG} {x1 x2 x3 : Int32} (h : (cEntry σ x1 x2 x3).1 ≠ 0) : ((cEntry σ x1 x2 x3).1 = 1 ∨ (cEntry σ x1 x2 x3).1 = 2) ∧ (cEntry σ x1 x2 x3).2.2 = σ := by
  revert h; unfold cEntry; (repeat' split) <;> simp
set_option maxHeartbeats 4000000 in
set_option maxRecDepth 100000 in
theorem c_L_entry (l : Launch) (hf : l.stackTraces = false) (D : va_G) (cI cJ : ClassId) (q : Nat → Nat) (hq : ijQ 13 q) (σ : SG) (ok : okG σ) (hz : ∀ P, gN σ ≤ P → gLen σ P = 0) (x1 x2 x3 : Int32) (o : Nat → Int64) : Met l yL_entry wsL_entry ({ frames := 8, cells := 1, slots := 6, locals := 125 }) (va_Pc [.ref (q 0), .int x1, .int x2, .int x3, .ref (q 12)] (PL D cI cJ q σ o)) (wQ (adQ 13 q) (fun v H1 => v = some (.int (nI (cEntry σ x1 x2 x3).1)) ∧ va_P D vwCl (wL cI cJ q (cEntry σ x1 x2 x3).2.2 (oF o (cEntry σ x1 x2 x3).1 (cEntry σ x1 x2 x3).2.1)) H1)) 1 6 (adQ 13 q) := by
  refine openL (cc := cL_entry) (maxL := 6) (by decide) rfl (Nat.le_of_ble_eq_true rfl) ?_
  intro p e s m args below meth c hx hb hml hts hown htab hpre Q RET ls hl
  obtain ⟨hP, hK, hE, hX, hN⟩ := hpre
  have hown : s.vm.findClass RL = some m.cls := hown
  have hl : lv_has ls 6 [(0, .ref (q 0)), (1, .int x1), (2, .int x2), (3, .int x3), (4, .ref (q 12))] := hl
  have hS : va_S (adQ 13 q) s.heap s.heap [] := va_S.rf
  refine lv_aload hx hb dL_entry_0 (lv_at hl 4 rfl) ?_
  refine lv_iconst (v := 0) hx hb dL_entry_2 (by decide) ?_
  refine lv_aload_n hx hb dL_entry_3 rfl (lv_at hl 0 rfl) ?_
  refine lv_iload_n hx hb dL_entry_4 rfl (lv_at hl 1 rfl) ?_
  refine lv_iload_n hx hb dL_entry_5 rfl (lv_at hl 2 rfl) ?_
  refine lv_iload_n hx hb dL_entry_6 rfl (lv_at hl 3 rfl) ?_
  refine y_call (vx_runV (As := [.int x1, .int x2, .int x3]) (rest := [.int 0, .ref (q 12)]) ⟨hx, hb, hml, hown, hts⟩ (c_X1_entry l hf D cI q σ (ij12 hq) x1 x2 x3 ok hz) (cwV 3 hts gL_entry_X1_entry rfl rfl rfl kd_X1_entry ⟨Nat.le_of_ble_eq_true rfl, Nat.le_of_ble_eq_true rfl⟩) (pV_X hP hK hE hX) rfl rfl hl.1 rfl (lv_room (Nat.le_of_ble_eq_true rfl)) dL_entry_7 ⟨Nat.le_of_ble_eq_true rfl, Nat.le_of_ble_eq_true rfl⟩) hS (fun _ h => ad12 h) (fun E9 ce q9 H1 l1 hψ hz9 hk9 hS hce hcv hcl => ?_) (fun v H1 l1 hv hz9 hk9 hS => ?_)
  · obtain ⟨hc0, rfl⟩ := hψ
    obtain ⟨hcs, hst⟩ := cEntry_ex hc0
    have hP1 := wL_keep hP hk9
    rcases hcs with h1 | h1
    · skip
      rw [h1] at hcl
      refine vx_catch (E := E1) (name := "java/lang/IndexOutOfBoundsException") hown [] ⟨0, 12, 15, 13⟩ [⟨0, 12, 19, 21⟩] (by rw [htab]; rfl) (fun _ h => nomatch h) (by decide) (by decide) (hts (.classLink RL 13 "java/lang/IndexOutOfBoundsException") (by decide +kernel)) (va_Nw.use rfl hX.1.2.2.2.1) hce hcv hcl ?_
      refine lv_astore (lv' := [(5, .ref q9), (0, .ref (q 0)), (1, .int x1), (2, .int x2), (3, .int x3), (4, .ref (q 12))]) hx hb dL_entry_15 hl (by decide) rfl (fun ls hl => ?_)
      refine lv_iconst (v := 1) hx hb dL_entry_17 (by decide) ?_
      exact RET _ _ _ _ _ ⟨by rw [h1]; rfl, by rw [hst, h1]; exact hP1⟩ hS dL_entry_18
    · skip
      rw [h1] at hcl
      refine vx_catch (E := E2) (name := "java/lang/IllegalArgumentException") hown [⟨0, 12, 15, 13⟩] ⟨0, 12, 19, 21⟩ [] (by rw [htab]; rfl) (List.forall_mem_cons.mpr ⟨Or.inr ⟨by decide, _, hts (.classLink RL 13 "java/lang/IndexOutOfBoundsException") (by decide +kernel), hN.1⟩, fun _ h => nomatch h⟩) (by decide) (by decide) (hts (.classLink RL 21 "java/lang/IllegalArgumentException") (by decide +kernel)) (va_Nw.use rfl hX.1.2.2.2.2.1) hce hcv hcl ?_
      refine lv_astore (lv' := [(5, .ref q9), (0, .ref (q 0)), (1, .int x1), (2, .int x2), (3, .int x3), (4, .ref (q 12))]) hx hb dL_entry_19 hl (by decide) rfl (fun ls hl => ?_)
      refine lv_iconst (v := 2) hx hb dL_entry_21 (by decide) ?_
      exact RET _ _ _ _ _ ⟨by rw [h1]; rfl, by rw [hst, h1]; exact hP1⟩ hS dL_entry_22
  · obtain ⟨h0, rfl, hP1⟩ := hv
    have hP := wL_call hq hP hP1 hk9
    refine lv_i2l (v := (cEntry σ x1 x2 x3).2.1.toInt64) hx hb dL_entry_10 rfl ?_
    refine lst_12 hx hb hK hP hq hS dL_entry_11 (fun H l1 hP hS => ?_)
    refine lv_goto (tgt := 23) hx hb dL_entry_12 (by decide) ?_
    refine lv_iconst (v := 0) hx hb dL_entry_23 (by decide) ?_
    exact RET _ _ _ _ _ ⟨by rw [h0]; rfl, by rw [h0]; exact hP⟩ hS dL_entry_24
theorem kn_L_entry : yL_entry.cls ≠ "java/lang/invoke/MethodHandle" ∧ yL_entry.cls ≠ "java/lang/invoke/VarHandle" ∧ (parseMethodDescriptor yL_entry.desc).map (fun d => d.parameters.length) = some 5 := by decide +kernel
theorem cContents_ex {σ : SG} {x1 x2 : Int32} (h : (cContents σ x1 x2).1 ≠ 0) : ((cContents σ x1 x2).1 = 1) ∧ (cContents σ x1 x2).2.2 = σ := by
  revert h; unfold cContents; (repeat' split) <;> simp
set_option maxHeartbeats 4000000 in
set_option maxRecDepth 100000 in
theorem c_L_contents (l : Launch) (hf : l.stackTraces = false) (D : va_G) (cI cJ : ClassId) (q : Nat → Nat) (hq : ijQ 13 q) (σ : SG) (ok : okG σ) (hz : ∀ P, gN σ ≤ P → gLen σ P = 0) (x1 x2 : Int32) (o : Nat → Int64) : Met l yL_contents wsL_contents ({ frames := 8, cells := 1, slots := 6, locals := 124 }) (va_Pc [.ref (q 0), .int x1, .int x2, .ref (q 12)] (PL D cI cJ q σ o)) (wQ (adQ 13 q) (fun v H1 => v = some (.int (nI (cContents σ x1 x2).1)) ∧ va_P D vwCl (wL cI cJ q (cContents σ x1 x2).2.2 (oF o (cContents σ x1 x2).1 (cContents σ x1 x2).2.1)) H1)) 1 6 (adQ 13 q) := by
  refine openL (cc := cL_contents) (maxL := 5) (by decide) rfl (Nat.le_of_ble_eq_true rfl) ?_
  intro p e s m args below meth c hx hb hml hts hown htab hpre Q RET ls hl
  obtain ⟨hP, hK, hE, hX, hN⟩ := hpre
  have hown : s.vm.findClass RL = some m.cls := hown
  have hl : lv_has ls 5 [(0, .ref (q 0)), (1, .int x1), (2, .int x2), (3, .ref (q 12))] := hl
  have hS : va_S (adQ 13 q) s.heap s.heap [] := va_S.rf
  refine lv_aload_n hx hb dL_contents_0 rfl (lv_at hl 3 rfl) ?_
  refine lv_iconst (v := 0) hx hb dL_contents_1 (by decide) ?_
  refine lv_aload_n hx hb dL_contents_2 rfl (lv_at hl 0 rfl) ?_
  refine lv_iload_n hx hb dL_contents_3 rfl (lv_at hl 1 rfl) ?_
  refine lv_iload_n hx hb dL_contents_4 rfl (lv_at hl 2 rfl) ?_
  refine y_call (vx_runV (As := [.int x1, .int x2]) (rest := [.int 0, .ref (q 12)]) ⟨hx, hb, hml, hown, hts⟩ (c_X1_contents l hf D cI q σ (ij12 hq) x1 x2 ok hz) (cwV 2 hts gL_contents_X1_contents rfl rfl rfl kd_X1_contents ⟨Nat.le_of_ble_eq_true rfl, Nat.le_of_ble_eq_true rfl⟩) (pV_X hP hK hE hX) rfl rfl hl.1 rfl (lv_room (Nat.le_of_ble_eq_true rfl)) dL_contents_5 ⟨Nat.le_of_ble_eq_true rfl, Nat.le_of_ble_eq_true rfl⟩) hS (fun _ h => ad12 h) (fun E9 ce q9 H1 l1 hψ hz9 hk9 hS hce hcv hcl => ?_) (fun v H1 l1 hv hz9 hk9 hS => ?_)
  · obtain ⟨hc0, rfl⟩ := hψ
    obtain ⟨hcs, hst⟩ := cContents_ex hc0
    have hP1 := wL_keep hP hk9
    have h1 := hcs
    · skip
      rw [h1] at hcl
      refine vx_catch (E := E1) (name := "java/lang/IndexOutOfBoundsException") hown [] ⟨0, 10, 13, 13⟩ [] (by rw [htab]; rfl) (fun _ h => nomatch h) (by decide) (by decide) (hts (.classLink RL 13 "java/lang/IndexOutOfBoundsException") (by decide +kernel)) (va_Nw.use rfl hX.1.2.2.2.1) hce hcv hcl ?_
      refine lv_astore (lv' := [(4, .ref q9), (0, .ref (q 0)), (1, .int x1), (2, .int x2), (3, .ref (q 12))]) hx hb dL_contents_13 hl (by decide) rfl (fun ls hl => ?_)
      refine lv_iconst (v := 1) hx hb dL_contents_15 (by decide) ?_
      exact RET _ _ _ _ _ ⟨by rw [h1]; rfl, by rw [hst, h1]; exact hP1⟩ hS dL_contents_16
  · obtain ⟨h0, rfl, hP1⟩ := hv
    have hP := wL_call hq hP hP1 hk9
    refine lv_i2l (v := (cContents σ x1 x2).2.1.toInt64) hx hb dL_contents_8 rfl ?_
    refine lst_12 hx hb hK hP hq hS dL_contents_9 (fun H l1 hP hS => ?_)
    refine lv_goto (tgt := 17) hx hb dL_contents_10 (by decide) ?_
    refine lv_iconst (v := 0) hx hb dL_contents_17 (by decide) ?_
    exact RET _ _ _ _ _ ⟨by rw [h0]; rfl, by rw [h0]; exact hP⟩ hS dL_contents_18
theorem kn_L_contents : yL_contents.cls ≠ "java/lang/invoke/MethodHandle" ∧ yL_contents.cls ≠ "java/lang/invoke/VarHandle" ∧ (parseMethodDescriptor yL_contents.desc).map (fun d => d.parameters.length) = some 4 := by decide +kernel
theorem cAnew_ex {σ : SG} {x1 x2 : Int32} (h : (cAnew σ x1 x2).1 ≠ 0) : ((cAnew σ x1 x2).1 = 1) ∧ (cAnew σ x1 x2).2.2 = σ := by
  revert h; unfold cAnew; (repeat' split) <;> simp
set_option maxHeartbeats 4000000 in
set_option maxRecDepth 100000 in
theorem c_L_contentsAnew (l : Launch) (hf : l.stackTraces = false) (D : va_G) (cI cJ : ClassId) (q : Nat → Nat) (hq : ijQ 13 q) (σ : SG) (ok : okG σ) (hz : ∀ P, gN σ ≤ P → gLen σ P = 0) (x1 x2 : Int32) (o : Nat → Int64) : Met l yL_contentsAnew wsL_contentsAnew ({ frames := 8, cells := 1, slots := 6, locals := 142 }) (va_Pc [.ref (q 0), .int x1, .int x2, .ref (q 12)] (PL D cI cJ q σ o)) (wQ (adQ 13 q) (fun v H1 => v = some (.int (nI (cAnew σ x1 x2).1)) ∧ va_P D vwCl (wL cI cJ q (cAnew σ x1 x2).2.2 (oF o (cAnew σ x1 x2).1 (cAnew σ x1 x2).2.1)) H1)) 1 6 (adQ 13 q) := by
  refine openL (cc := cL_contentsAnew) (maxL := 5) (by decide) rfl (Nat.le_of_ble_eq_true rfl) ?_
  intro p e s m args below meth c hx hb hml hts hown htab hpre Q RET ls hl
  obtain ⟨hP, hK, hE, hX, hN⟩ := hpre
  have hown : s.vm.findClass RL = some m.cls := hown
  have hl : lv_has ls 5 [(0, .ref (q 0)), (1, .int x1), (2, .int x2), (3, .ref (q 12))] := hl
  have hS : va_S (adQ 13 q) s.heap s.heap [] := va_S.rf
  refine lv_aload_n hx hb dL_contentsAnew_0 rfl (lv_at hl 3 rfl) ?_
  refine lv_iconst (v := 0) hx hb dL_contentsAnew_1 (by decide) ?_
  refine lv_aload_n hx hb dL_contentsAnew_2 rfl (lv_at hl 0 rfl) ?_
  refine lv_iload_n hx hb dL_contentsAnew_3 rfl (lv_at hl 1 rfl) ?_
  refine lv_iload_n hx hb dL_contentsAnew_4 rfl (lv_at hl 2 rfl) ?_
  refine y_call (vx_runV (As := [.int x1, .int x2]) (rest := [.int 0, .ref (q 12)]) ⟨hx, hb, hml, hown, hts⟩ (c_X1_contentsAnew l hf D cI q σ (ij12 hq) x1 x2 ok hz) (cwV 2 hts gL_contentsAnew_X1_contentsAnew rfl rfl rfl kd_X1_contentsAnew ⟨Nat.le_of_ble_eq_true rfl, Nat.le_of_ble_eq_true rfl⟩) (pV_X hP hK hE hX) rfl rfl hl.1 rfl (lv_room (Nat.le_of_ble_eq_true rfl)) dL_contentsAnew_5 ⟨Nat.le_of_ble_eq_true rfl, Nat.le_of_ble_eq_true rfl⟩) hS (fun _ h => ad12 h) (fun E9 ce q9 H1 l1 hψ hz9 hk9 hS hce hcv hcl => ?_) (fun v H1 l1 hv hz9 hk9 hS => ?_)
  · obtain ⟨hc0, rfl⟩ := hψ
    obtain ⟨hcs, hst⟩ := cAnew_ex hc0
    have hP1 := wL_keep hP hk9
    have h1 := hcs
    · skip
      rw [h1] at hcl
      refine vx_catch (E := E1) (name := "java/lang/IndexOutOfBoundsException") hown [] ⟨0, 10, 13, 13⟩ [] (by rw [htab]; rfl) (fun _ h => nomatch h) (by decide) (by decide) (hts (.classLink RL 13 "java/lang/IndexOutOfBoundsException") (by decide +kernel)) (va_Nw.use rfl hX.1.2.2.2.1) hce hcv hcl ?_
      refine lv_astore (lv' := [(4, .ref q9), (0, .ref (q 0)), (1, .int x1), (2, .int x2), (3, .ref (q 12))]) hx hb dL_contentsAnew_13 hl (by decide) rfl (fun ls hl => ?_)
      refine lv_iconst (v := 1) hx hb dL_contentsAnew_15 (by decide) ?_
      exact RET _ _ _ _ _ ⟨by rw [h1]; rfl, by rw [hst, h1]; exact hP1⟩ hS dL_contentsAnew_16
  · obtain ⟨h0, rfl, hP1⟩ := hv
    have hP := wL_call hq hP hP1 hk9
    refine lv_i2l (v := (cAnew σ x1 x2).2.1.toInt64) hx hb dL_contentsAnew_8 rfl ?_
    refine lst_12 hx hb hK hP hq hS dL_contentsAnew_9 (fun H l1 hP hS => ?_)
    refine lv_goto (tgt := 17) hx hb dL_contentsAnew_10 (by decide) ?_
    refine lv_iconst (v := 0) hx hb dL_contentsAnew_17 (by decide) ?_
    exact RET _ _ _ _ _ ⟨by rw [h0]; rfl, by rw [h0]; exact hP⟩ hS dL_contentsAnew_18
theorem kn_L_contentsAnew : yL_contentsAnew.cls ≠ "java/lang/invoke/MethodHandle" ∧ yL_contentsAnew.cls ≠ "java/lang/invoke/VarHandle" ∧ (parseMethodDescriptor yL_contentsAnew.desc).map (fun d => d.parameters.length) = some 4 := by decide +kernel
theorem cDeclare_ex {σ : SG} {x1 x2 x3 : Int32} (h : (cDeclare σ x1 x2 x3).1 ≠ 0) : ((cDeclare σ x1 x2 x3).1 = 1 ∨ (cDeclare σ x1 x2 x3).1 = 2) ∧ (cDeclare σ x1 x2 x3).2.2 = σ := by
  revert h; unfold cDeclare; (repeat' split) <;> simp
set_option maxHeartbeats 4000000 in
set_option maxRecDepth 100000 in
theorem c_L_declare (l : Launch) (hf : l.stackTraces = false) (D : va_G) (cI cJ : ClassId) (q : Nat → Nat) (hq : ijQ 13 q) (σ : SG) (ok : okG σ) (hz : ∀ P, gN σ ≤ P → gLen σ P = 0) (x1 x2 x3 : Int32) (o : Nat → Int64) : Met l yL_declare wsL_declare ({ frames := 8, cells := 1, slots := 6, locals := 127 }) (va_Pc [.ref (q 0), .int x1, .int x2, .int x3, .ref (q 12)] (PL D cI cJ q σ o)) (wQ (adQ 13 q) (fun v H1 => v = some (.int (nI (cDeclare σ x1 x2 x3).1)) ∧ va_P D vwCl (wL cI cJ q (cDeclare σ x1 x2 x3).2.2 (oF o (cDeclare σ x1 x2 x3).1 (cDeclare σ x1 x2 x3).2.1)) H1)) 1 6 (adQ 13 q) := by
  refine openL (cc := cL_declare) (maxL := 6) (by decide) rfl (Nat.le_of_ble_eq_true rfl) ?_
  intro p e s m args below meth c hx hb hml hts hown htab hpre Q RET ls hl
  obtain ⟨hP, hK, hE, hX, hN⟩ := hpre
  have hown : s.vm.findClass RL = some m.cls := hown
  have hl : lv_has ls 6 [(0, .ref (q 0)), (1, .int x1), (2, .int x2), (3, .int x3), (4, .ref (q 12))] := hl
  have hS : va_S (adQ 13 q) s.heap s.heap [] := va_S.rf
  refine lv_aload hx hb dL_declare_0 (lv_at hl 4 rfl) ?_
  refine lv_iconst (v := 0) hx hb dL_declare_2 (by decide) ?_
  refine lv_aload_n hx hb dL_declare_3 rfl (lv_at hl 0 rfl) ?_
  refine lv_iload_n hx hb dL_declare_4 rfl (lv_at hl 1 rfl) ?_
  refine lv_iload_n hx hb dL_declare_5 rfl (lv_at hl 2 rfl) ?_
  refine lv_iload_n hx hb dL_declare_6 rfl (lv_at hl 3 rfl) ?_
  refine y_call (vx_runV (As := [.int x1, .int x2, .int x3]) (rest := [.int 0, .ref (q 12)]) ⟨hx, hb, hml, hown, hts⟩ (c_X1_declare l hf D cI q σ (ij12 hq) x1 x2 x3 ok hz) (cwV 3 hts gL_declare_X1_declare rfl rfl rfl kd_X1_declare ⟨Nat.le_of_ble_eq_true rfl, Nat.le_of_ble_eq_true rfl⟩) (pV_X hP hK hE hX) rfl rfl hl.1 rfl (lv_room (Nat.le_of_ble_eq_true rfl)) dL_declare_7 ⟨Nat.le_of_ble_eq_true rfl, Nat.le_of_ble_eq_true rfl⟩) hS (fun _ h => ad12 h) (fun E9 ce q9 H1 l1 hψ hz9 hk9 hS hce hcv hcl => ?_) (fun v H1 l1 hv hz9 hk9 hS => ?_)
  · obtain ⟨hc0, rfl⟩ := hψ
    obtain ⟨hcs, hst⟩ := cDeclare_ex hc0
    have hP1 := wL_keep hP hk9
    rcases hcs with h1 | h1
    · skip
      rw [h1] at hcl
      refine vx_catch (E := E1) (name := "java/lang/IndexOutOfBoundsException") hown [] ⟨0, 12, 15, 13⟩ [⟨0, 12, 19, 21⟩] (by rw [htab]; rfl) (fun _ h => nomatch h) (by decide) (by decide) (hts (.classLink RL 13 "java/lang/IndexOutOfBoundsException") (by decide +kernel)) (va_Nw.use rfl hX.1.2.2.2.1) hce hcv hcl ?_
      refine lv_astore (lv' := [(5, .ref q9), (0, .ref (q 0)), (1, .int x1), (2, .int x2), (3, .int x3), (4, .ref (q 12))]) hx hb dL_declare_15 hl (by decide) rfl (fun ls hl => ?_)
      refine lv_iconst (v := 1) hx hb dL_declare_17 (by decide) ?_
      exact RET _ _ _ _ _ ⟨by rw [h1]; rfl, by rw [hst, h1]; exact hP1⟩ hS dL_declare_18
    · skip
      rw [h1] at hcl
      refine vx_catch (E := E2) (name := "java/lang/IllegalArgumentException") hown [⟨0, 12, 15, 13⟩] ⟨0, 12, 19, 21⟩ [] (by rw [htab]; rfl) (List.forall_mem_cons.mpr ⟨Or.inr ⟨by decide, _, hts (.classLink RL 13 "java/lang/IndexOutOfBoundsException") (by decide +kernel), hN.1⟩, fun _ h => nomatch h⟩) (by decide) (by decide) (hts (.classLink RL 21 "java/lang/IllegalArgumentException") (by decide +kernel)) (va_Nw.use rfl hX.1.2.2.2.2.1) hce hcv hcl ?_
      refine lv_astore (lv' := [(5, .ref q9), (0, .ref (q 0)), (1, .int x1), (2, .int x2), (3, .int x3), (4, .ref (q 12))]) hx hb dL_declare_19 hl (by decide) rfl (fun ls hl => ?_)
      refine lv_iconst (v := 2) hx hb dL_declare_21 (by decide) ?_
      exact RET _ _ _ _ _ ⟨by rw [h1]; rfl, by rw [hst, h1]; exact hP1⟩ hS dL_declare_22
  · obtain ⟨h0, rfl, hP1⟩ := hv
    have hP := wL_call hq hP hP1 hk9
    refine lv_i2l (v := (cDeclare σ x1 x2 x3).2.1.toInt64) hx hb dL_declare_10 rfl ?_
    refine lst_12 hx hb hK hP hq hS dL_declare_11 (fun H l1 hP hS => ?_)
    refine lv_goto (tgt := 23) hx hb dL_declare_12 (by decide) ?_
    refine lv_iconst (v := 0) hx hb dL_declare_23 (by decide) ?_
    exact RET _ _ _ _ _ ⟨by rw [h0]; rfl, by rw [h0]; exact hP⟩ hS dL_declare_24
theorem kn_L_declare : yL_declare.cls ≠ "java/lang/invoke/MethodHandle" ∧ yL_declare.cls ≠ "java/lang/invoke/VarHandle" ∧ (parseMethodDescriptor yL_declare.desc).map (fun d => d.parameters.length) = some 5 := by decide +kernel
theorem cMismatch_ex {σ : SG} {x1 : Int32} (h : (cMismatch σ x1).1 ≠ 0) : ((cMismatch σ x1).1 = 1) ∧ (cMismatch σ x1).2.2 = σ := by
  revert h; unfold cMismatch; (repeat' split) <;> simp
set_option maxHeartbeats 4000000 in
set_option maxRecDepth 100000 in
theorem c_L_mismatch (l : Launch) (hf : l.stackTraces = false) (D : va_G) (cI cJ : ClassId) (q : Nat → Nat) (hq : ijQ 13 q) (σ : SG) (ok : okG σ) (hz : ∀ P, gN σ ≤ P → gLen σ P = 0) (x1 : Int32) (o : Nat → Int64) : Met l yL_mismatch wsL_mismatch ({ frames := 8, cells := 1, slots := 6, locals := 167 }) (va_Pc [.ref (q 0), .int x1, .ref (q 12)] (PL D cI cJ q σ o)) (wQ (adQ 13 q) (fun v H1 => v = some (.int (nI (cMismatch σ x1).1)) ∧ va_P D vwCl (wL cI cJ q (cMismatch σ x1).2.2 (oF o (cMismatch σ x1).1 (cMismatch σ x1).2.1)) H1)) 1 6 (adQ 13 q) := by
  refine openL (cc := cL_mismatch) (maxL := 4) (by decide) rfl (Nat.le_of_ble_eq_true rfl) ?_
  intro p e s m args below meth c hx hb hml hts hown htab hpre Q RET ls hl
  obtain ⟨hP, hK, hE, hX, hN⟩ := hpre
  have hown : s.vm.findClass RL = some m.cls := hown
  have hl : lv_has ls 4 [(0, .ref (q 0)), (1, .int x1), (2, .ref (q 12))] := hl
  have hS : va_S (adQ 13 q) s.heap s.heap [] := va_S.rf
  refine lv_aload_n hx hb dL_mismatch_0 rfl (lv_at hl 2 rfl) ?_
  refine lv_iconst (v := 0) hx hb dL_mismatch_1 (by decide) ?_
  refine lv_aload_n hx hb dL_mismatch_2 rfl (lv_at hl 0 rfl) ?_
  refine lv_iload_n hx hb dL_mismatch_3 rfl (lv_at hl 1 rfl) ?_
  refine y_call (vx_runV (As := [.int x1]) (rest := [.int 0, .ref (q 12)]) ⟨hx, hb, hml, hown, hts⟩ (c_X1_mismatch l hf D cI q σ (ij12 hq) x1 ok hz) (cwV 1 hts gL_mismatch_X1_mismatch rfl rfl rfl kd_X1_mismatch ⟨Nat.le_of_ble_eq_true rfl, Nat.le_of_ble_eq_true rfl⟩) (pV_X hP hK hE hX) rfl rfl hl.1 rfl (lv_room (Nat.le_of_ble_eq_true rfl)) dL_mismatch_4 ⟨Nat.le_of_ble_eq_true rfl, Nat.le_of_ble_eq_true rfl⟩) hS (fun _ h => ad12 h) (fun E9 ce q9 H1 l1 hψ hz9 hk9 hS hce hcv hcl => ?_) (fun v H1 l1 hv hz9 hk9 hS => ?_)
  · obtain ⟨hc0, rfl⟩ := hψ
    obtain ⟨hcs, hst⟩ := cMismatch_ex hc0
    have hP1 := wL_keep hP hk9
    have h1 := hcs
    · skip
      rw [h1] at hcl
      refine vx_catch (E := E1) (name := "java/lang/IndexOutOfBoundsException") hown [] ⟨0, 9, 12, 13⟩ [] (by rw [htab]; rfl) (fun _ h => nomatch h) (by decide) (by decide) (hts (.classLink RL 13 "java/lang/IndexOutOfBoundsException") (by decide +kernel)) (va_Nw.use rfl hX.1.2.2.2.1) hce hcv hcl ?_
      refine lv_astore_n (lv' := [(3, .ref q9), (0, .ref (q 0)), (1, .int x1), (2, .ref (q 12))]) hx hb dL_mismatch_12 rfl hl (by decide) rfl (fun ls hl => ?_)
      refine lv_iconst (v := 1) hx hb dL_mismatch_13 (by decide) ?_
      exact RET _ _ _ _ _ ⟨by rw [h1]; rfl, by rw [hst, h1]; exact hP1⟩ hS dL_mismatch_14
  · obtain ⟨h0, rfl, hP1⟩ := hv
    have hP := wL_call hq hP hP1 hk9
    refine lv_i2l (v := (cMismatch σ x1).2.1.toInt64) hx hb dL_mismatch_7 rfl ?_
    refine lst_12 hx hb hK hP hq hS dL_mismatch_8 (fun H l1 hP hS => ?_)
    refine lv_goto (tgt := 15) hx hb dL_mismatch_9 (by decide) ?_
    refine lv_iconst (v := 0) hx hb dL_mismatch_15 (by decide) ?_
    exact RET _ _ _ _ _ ⟨by rw [h0]; rfl, by rw [h0]; exact hP⟩ hS dL_mismatch_16
theorem kn_L_mismatch : yL_mismatch.cls ≠ "java/lang/invoke/MethodHandle" ∧ yL_mismatch.cls ≠ "java/lang/invoke/VarHandle" ∧ (parseMethodDescriptor yL_mismatch.desc).map (fun d => d.parameters.length) = some 3 := by decide +kernel
theorem cFeeF_ex {σ : SG} {x1 x2 : Int32} (h : (cFeeF σ x1 x2).1 ≠ 0) : ((cFeeF σ x1 x2).1 = 2) ∧ (cFeeF σ x1 x2).2.2 = σ := by
  revert h; unfold cFeeF; (repeat' split) <;> simp
set_option maxHeartbeats 4000000 in
set_option maxRecDepth 100000 in
theorem c_L_fee (l : Launch) (hf : l.stackTraces = false) (D : va_G) (cI cJ : ClassId) (q : Nat → Nat) (hq : ijQ 13 q) (σ : SG) (ok : okG σ) (hz : ∀ P, gN σ ≤ P → gLen σ P = 0) (x1 x2 : Int32) (o : Nat → Int64) : Met l yL_fee wsL_fee ({ frames := 8, cells := 1, slots := 6, locals := 125 }) (va_Pc [.ref (q 0), .int x1, .int x2, .ref (q 12)] (PL D cI cJ q σ o)) (wQ (adQ 13 q) (fun v H1 => v = some (.int (nI (kE (cFeeF σ x1 x2).1))) ∧ va_P D vwCl (wL cI cJ q (cFeeF σ x1 x2).2.2 (oF o (cFeeF σ x1 x2).1 (cFeeF σ x1 x2).2.1)) H1)) 1 6 (adQ 13 q) := by
  refine openL (cc := cL_fee) (maxL := 5) (by decide) rfl (Nat.le_of_ble_eq_true rfl) ?_
  intro p e s m args below meth c hx hb hml hts hown htab hpre Q RET ls hl
  obtain ⟨hP, hK, hE, hX, hN⟩ := hpre
  have hown : s.vm.findClass RL = some m.cls := hown
  have hl : lv_has ls 5 [(0, .ref (q 0)), (1, .int x1), (2, .int x2), (3, .ref (q 12))] := hl
  have hS : va_S (adQ 13 q) s.heap s.heap [] := va_S.rf
  refine lv_aload_n hx hb dL_fee_0 rfl (lv_at hl 3 rfl) ?_
  refine lv_iconst (v := 0) hx hb dL_fee_1 (by decide) ?_
  refine lv_aload_n hx hb dL_fee_2 rfl (lv_at hl 0 rfl) ?_
  refine lv_iload_n hx hb dL_fee_3 rfl (lv_at hl 1 rfl) ?_
  refine lv_iload_n hx hb dL_fee_4 rfl (lv_at hl 2 rfl) ?_
  refine y_call (vx_runV (As := [.int x1, .int x2]) (rest := [.int 0, .ref (q 12)]) ⟨hx, hb, hml, hown, hts⟩ (c_X1_fee l hf D cI q σ (ij12 hq) x1 x2 ok hz) (cwV 2 hts gL_fee_X1_fee rfl rfl rfl kd_X1_fee ⟨Nat.le_of_ble_eq_true rfl, Nat.le_of_ble_eq_true rfl⟩) (pV_X hP hK hE hX) rfl rfl hl.1 rfl (lv_room (Nat.le_of_ble_eq_true rfl)) dL_fee_5 ⟨Nat.le_of_ble_eq_true rfl, Nat.le_of_ble_eq_true rfl⟩) hS (fun _ h => ad12 h) (fun E9 ce q9 H1 l1 hψ hz9 hk9 hS hce hcv hcl => ?_) (fun v H1 l1 hv hz9 hk9 hS => ?_)
  · obtain ⟨hc0, rfl⟩ := hψ
    obtain ⟨hcs, hst⟩ := cFeeF_ex hc0
    have hP1 := wL_keep hP hk9
    have h1 := hcs
    · skip
      rw [h1] at hcl
      refine vx_catch (E := E2) (name := "java/lang/IllegalArgumentException") hown [] ⟨0, 10, 13, 21⟩ [] (by rw [htab]; rfl) (fun _ h => nomatch h) (by decide) (by decide) (hts (.classLink RL 21 "java/lang/IllegalArgumentException") (by decide +kernel)) (va_Nw.use rfl hX.1.2.2.2.2.1) hce hcv hcl ?_
      refine lv_astore (lv' := [(4, .ref q9), (0, .ref (q 0)), (1, .int x1), (2, .int x2), (3, .ref (q 12))]) hx hb dL_fee_13 hl (by decide) rfl (fun ls hl => ?_)
      refine lv_iconst (v := 1) hx hb dL_fee_15 (by decide) ?_
      exact RET _ _ _ _ _ ⟨by rw [h1]; rfl, by rw [hst, h1]; exact hP1⟩ hS dL_fee_16
  · obtain ⟨h0, rfl, hP1⟩ := hv
    have hP := wL_call hq hP hP1 hk9
    refine lv_i2l (v := (cFeeF σ x1 x2).2.1.toInt64) hx hb dL_fee_8 rfl ?_
    refine lst_12 hx hb hK hP hq hS dL_fee_9 (fun H l1 hP hS => ?_)
    refine lv_goto (tgt := 17) hx hb dL_fee_10 (by decide) ?_
    refine lv_iconst (v := 0) hx hb dL_fee_17 (by decide) ?_
    exact RET _ _ _ _ _ ⟨by rw [h0]; rfl, by rw [h0]; exact hP⟩ hS dL_fee_18
theorem kn_L_fee : yL_fee.cls ≠ "java/lang/invoke/MethodHandle" ∧ yL_fee.cls ≠ "java/lang/invoke/VarHandle" ∧ (parseMethodDescriptor yL_fee.desc).map (fun d => d.parameters.length) = some 4 := by decide +kernel
theorem cOwed_ex {σ : SG} {x1 : Int32} (h : (cOwed σ x1).1 ≠ 0) : ((cOwed σ x1).1 = 1) ∧ (cOwed σ x1).2.2 = σ := by
  revert h; unfold cOwed; (repeat' split) <;> simp
set_option maxHeartbeats 4000000 in
set_option maxRecDepth 100000 in
theorem c_L_owed (l : Launch) (hf : l.stackTraces = false) (D : va_G) (cI cJ : ClassId) (q : Nat → Nat) (hq : ijQ 13 q) (σ : SG) (ok : okG σ) (hz : ∀ P, gN σ ≤ P → gLen σ P = 0) (x1 : Int32) (o : Nat → Int64) : Met l yL_owed wsL_owed ({ frames := 8, cells := 1, slots := 6, locals := 123 }) (va_Pc [.ref (q 0), .int x1, .ref (q 12)] (PL D cI cJ q σ o)) (wQ (adQ 13 q) (fun v H1 => v = some (.int (nI (cOwed σ x1).1)) ∧ va_P D vwCl (wL cI cJ q (cOwed σ x1).2.2 (oF o (cOwed σ x1).1 (cOwed σ x1).2.1)) H1)) 1 6 (adQ 13 q) := by
  refine openL (cc := cL_owed) (maxL := 4) (by decide) rfl (Nat.le_of_ble_eq_true rfl) ?_
  intro p e s m args below meth c hx hb hml hts hown htab hpre Q RET ls hl
  obtain ⟨hP, hK, hE, hX, hN⟩ := hpre
  have hown : s.vm.findClass RL = some m.cls := hown
  have hl : lv_has ls 4 [(0, .ref (q 0)), (1, .int x1), (2, .ref (q 12))] := hl
  have hS : va_S (adQ 13 q) s.heap s.heap [] := va_S.rf
  refine lv_aload_n hx hb dL_owed_0 rfl (lv_at hl 2 rfl) ?_
  refine lv_iconst (v := 0) hx hb dL_owed_1 (by decide) ?_
  refine lv_aload_n hx hb dL_owed_2 rfl (lv_at hl 0 rfl) ?_
  refine lv_iload_n hx hb dL_owed_3 rfl (lv_at hl 1 rfl) ?_
  refine y_call (vx_runV (As := [.int x1]) (rest := [.int 0, .ref (q 12)]) ⟨hx, hb, hml, hown, hts⟩ (c_X1_owed l hf D cI q σ (ij12 hq) x1 ok hz) (cwV 1 hts gL_owed_X1_owed rfl rfl rfl kd_X1_owed ⟨Nat.le_of_ble_eq_true rfl, Nat.le_of_ble_eq_true rfl⟩) (pV_X hP hK hE hX) rfl rfl hl.1 rfl (lv_room (Nat.le_of_ble_eq_true rfl)) dL_owed_4 ⟨Nat.le_of_ble_eq_true rfl, Nat.le_of_ble_eq_true rfl⟩) hS (fun _ h => ad12 h) (fun E9 ce q9 H1 l1 hψ hz9 hk9 hS hce hcv hcl => ?_) (fun v H1 l1 hv hz9 hk9 hS => ?_)
  · obtain ⟨hc0, rfl⟩ := hψ
    obtain ⟨hcs, hst⟩ := cOwed_ex hc0
    have hP1 := wL_keep hP hk9
    have h1 := hcs
    · skip
      rw [h1] at hcl
      refine vx_catch (E := E1) (name := "java/lang/IndexOutOfBoundsException") hown [] ⟨0, 9, 12, 13⟩ [] (by rw [htab]; rfl) (fun _ h => nomatch h) (by decide) (by decide) (hts (.classLink RL 13 "java/lang/IndexOutOfBoundsException") (by decide +kernel)) (va_Nw.use rfl hX.1.2.2.2.1) hce hcv hcl ?_
      refine lv_astore_n (lv' := [(3, .ref q9), (0, .ref (q 0)), (1, .int x1), (2, .ref (q 12))]) hx hb dL_owed_12 rfl hl (by decide) rfl (fun ls hl => ?_)
      refine lv_iconst (v := 1) hx hb dL_owed_13 (by decide) ?_
      exact RET _ _ _ _ _ ⟨by rw [h1]; rfl, by rw [hst, h1]; exact hP1⟩ hS dL_owed_14
  · obtain ⟨h0, rfl, hP1⟩ := hv
    have hP := wL_call hq hP hP1 hk9
    refine lv_i2l (v := (cOwed σ x1).2.1.toInt64) hx hb dL_owed_7 rfl ?_
    refine lst_12 hx hb hK hP hq hS dL_owed_8 (fun H l1 hP hS => ?_)
    refine lv_goto (tgt := 15) hx hb dL_owed_9 (by decide) ?_
    refine lv_iconst (v := 0) hx hb dL_owed_15 (by decide) ?_
    exact RET _ _ _ _ _ ⟨by rw [h0]; rfl, by rw [h0]; exact hP⟩ hS dL_owed_16
theorem kn_L_owed : yL_owed.cls ≠ "java/lang/invoke/MethodHandle" ∧ yL_owed.cls ≠ "java/lang/invoke/VarHandle" ∧ (parseMethodDescriptor yL_owed.desc).map (fun d => d.parameters.length) = some 3 := by decide +kernel
