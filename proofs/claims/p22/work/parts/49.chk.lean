/-! the law's checks: true wherever everything stays -/
theorem nI_nlt_m1 {F : Nat} (hF : F < 2 ^ 31) : ¬ nI F < -1 := by
  rw [Int32.lt_iff_toInt_lt, nI_toInt hF, show (-1 : Int32).toInt = -1 by decide]; omega
theorem nI_nle_m1 {F : Nat} (hF : F < 2 ^ 31) : ¬ nI F ≤ -1 := by
  rw [Int32.le_iff_toInt_le, nI_toInt hF, show (-1 : Int32).toInt = -1 by decide]; omega
theorem s0_ne {sp : Nat → Int32} {P k : Nat} (hs : sp P = 0) (hk : k < 1000) : ¬ sp P = nI (k + 1) := fun y => by
  have := (nI_eq (a := 0) (b := k + 1) (by omega) (by omega)).mp (hs.symm.trans y)
  omega
theorem s1_ne {sp : Nat → Int32} {P k F : Nat} (hs : sp P = nI (F + 1)) (hk : k < 1000) (hF : F < 1000) (h : k ≠ F) : ¬ sp P = nI (k + 1) := fun y => by
  have := (nI_eq (a := F + 1) (b := k + 1) (by omega) (by omega)).mp (hs.symm.trans y)
  omega
theorem kn_L_isChain : yL_isChain.cls ≠ "java/lang/invoke/MethodHandle" ∧ yL_isChain.cls ≠ "java/lang/invoke/VarHandle" ∧ (parseMethodDescriptor yL_isChain.desc).map (fun d => d.parameters.length) = some 2 := by decide +kernel
set_option maxHeartbeats 4000000 in
set_option maxRecDepth 100000 in
theorem c_L_isChain (l : Launch) (hf : l.stackTraces = false) (D : va_G) (cI : ClassId) (q : Nat → Nat) (hq : ijQ 12 q) (τ : SM) (al sp : Nat → Int32) (hJ : J τ al sp) (P : Nat) (hPn : P < mN τ) : vx_Met l yL_isChain wsL_isChain ({ frames := 8, cells := 1, slots := 6, locals := 125 }) (va_Pc [.ref (q 0), .int (nI P)] (PX D cI q (gOf τ))) (rX (fun r => r = 1)) (xQ (fun _ => False)) 1 6 noF := by
  refine openXRZ (cc := cL_isChain) (maxL := 12) (by decide) rfl (Nat.le_of_ble_eq_true rfl) ?_
  intro p e s m args below meth c hx hb hml hts hown hpre Q RET OUT ls hl
  have hown : s.vm.findClass RL = some m.cls := hown
  have hl : lv_has ls 12 [(0, .ref (q 0)), (1, .int (nI P))] := hl
  obtain ⟨⟨hP, hK, hE⟩, hX⟩ := hpre
  have hM : 0 < mMan τ P := hJ.2.2.2.1 P hPn
  have hM30 : mMan τ P ≤ 30 := hJ.1.1.2.1 P
  have hn14 := hJ.1.2.2.2.1
  refine lv_aload_n hx hb dL_isChain_0 rfl (lv_at hl 0 rfl) ?_
  refine lv_iload_n hx hb dL_isChain_1 rfl (lv_at hl 1 rfl) ?_
  refine lv_iconst (v := 1) hx hb dL_isChain_2 (by decide) ?_
  refine z_callE (x := nI (mMan τ P)) (vx_runV (As := [.int (nI P), .int 1]) (rest := []) ⟨hx, hb, hml, hown, hts⟩ (c_X1_pallet l hf D cI q (gOf τ) hq (nI P) 1 (ok_J hJ) (hz_J hJ)) (cwV 2 hts gL_isChain_X1_pallet rfl rfl rfl kd_X1_pallet ⟨Nat.le_of_ble_eq_true rfl, Nat.le_of_ble_eq_true rfl⟩) (pV_P hP hK hE hX) rfl rfl hl.1 rfl (lv_room (Nat.le_of_ble_eq_true rfl)) dL_isChain_3 ⟨Nat.le_of_ble_eq_true rfl, Nat.le_of_ble_eq_true rfl⟩) (fun E9 h9 => h9.1 (congrArg Prod.fst (vP1 hJ hPn))) (fun r9 h9 => h9.2.trans (congrArg (fun z => z.2.1) (vP1 hJ hPn))) ?_
  refine lv_istore_n (lv' := [(2, .int (nI (mMan τ P))), (0, .ref (q 0)), (1, .int (nI P))]) hx hb dL_isChain_6 rfl hl (by decide) rfl (fun ls hl => ?_)
  rcases hJ.2.1.2.2.1 P with hs | ⟨F, hF, hs⟩
  · skip
    refine lv_aload_n hx hb dL_isChain_7 rfl (lv_at hl 1 rfl) ?_
    refine lv_iload_n hx hb dL_isChain_8 rfl (lv_at hl 2 rfl) ?_
    refine z_callE (x := (-1)) (vx_runV (As := [.int (nI P)]) (rest := []) ⟨hx, hb, hml, hown, hts⟩ (c_X1_broken l hf D cI q (gOf τ) hq (nI P) (ok_J hJ) (hz_J hJ)) (cwV 1 hts gL_isChain_X1_broken rfl rfl rfl kd_X1_broken ⟨Nat.le_of_ble_eq_true rfl, Nat.le_of_ble_eq_true rfl⟩) (pV_P hP hK hE hX) rfl rfl hl.1 rfl (lv_room (Nat.le_of_ble_eq_true rfl)) dL_isChain_9 ⟨Nat.le_of_ble_eq_true rfl, Nat.le_of_ble_eq_true rfl⟩) (fun E9 h9 => h9.1 (congrArg Prod.fst ((vB hJ hPn).trans (congrArg (fun z => ((0, z, gOf τ) : Nat × Int32 × SG)) (mf_0 hJ.2.1 hJ.1.1.2.1 hs))))) (fun r9 h9 => h9.2.trans (congrArg (fun z => z.2.1) ((vB hJ hPn).trans (congrArg (fun z => ((0, z, gOf τ) : Nat × Int32 × SG)) (mf_0 hJ.2.1 hJ.1.1.2.1 hs))))) ?_
    refine lv_istore_n (lv' := [(3, .int ((-1))), (2, .int (nI (mMan τ P))), (0, .ref (q 0)), (1, .int (nI P))]) hx hb dL_isChain_12 rfl hl (by decide) rfl (fun ls hl => ?_)
    refine lv_iload_n hx hb dL_isChain_13 rfl (lv_at hl 1 rfl) ?_
    refine leZN (mMan τ P) (tgt := 37) hx hb rfl (by omega) dL_isChain_14 (by decide) (fun c_1 => absurd c_1 (by omega)) (fun c_1 => ?_)
    refine lv_iload_n hx hb dL_isChain_17 rfl (lv_at hl 1 rfl) ?_
    refine lv_bipush (v := 31) hx hb dL_isChain_18 (by decide) ?_
    refine geN (mMan τ P) 31 (tgt := 37) hx hb rfl rfl (by omega) (by omega) dL_isChain_20 (by decide) (fun c_2 => absurd c_2 (by omega)) (fun c_2 => ?_)
    refine lv_iload_n hx hb dL_isChain_23 rfl (lv_at hl 0 rfl) ?_
    refine lv_iconst (v := (-1)) hx hb dL_isChain_24 (by decide) ?_
    refine lv_icmp_lt (tgt := 37) hx hb dL_isChain_25 (by decide) (fun c_3 => absurd c_3 (by decide)) (fun c_3 => ?_)
    refine lv_iload_n hx hb dL_isChain_28 rfl (lv_at hl 0 rfl) ?_
    refine lv_iload_n hx hb dL_isChain_29 rfl (lv_at hl 1 rfl) ?_
    refine lv_icmp_ge (tgt := 37) hx hb dL_isChain_30 (by decide) (fun c_4 => absurd c_4 (nI_nle_m1 (by omega))) (fun c_4 => ?_)
    refine lv_iconst (v := 1) hx hb dL_isChain_33 (by decide) ?_
    refine lv_goto (tgt := 38) hx hb dL_isChain_34 (by decide) ?_
    refine lv_istore (lv' := [(4, .int 1), (3, .int ((-1))), (2, .int (nI (mMan τ P))), (0, .ref (q 0)), (1, .int (nI P))]) hx hb dL_isChain_38 hl (by decide) rfl (fun ls hl => ?_)
    refine lv_iconst (v := 0) hx hb dL_isChain_40 (by decide) ?_
    refine lv_istore (lv' := [(5, .int 0), (4, .int 1), (3, .int ((-1))), (2, .int (nI (mMan τ P))), (0, .ref (q 0)), (1, .int (nI P))]) hx hb dL_isChain_41 hl (by decide) rfl (fun ls hl => ?_)
    refine loopW (N := (mMan τ P)) (k0 := 0) (fun k ls => lv_has ls 12 [(0, .ref (q 0)), (1, .int (nI P)), (2, .int (nI (mMan τ P))), (3, .int ((-1))), (4, .int 1), (5, .int (nI k))]) (Nat.zero_le _) (lv_sub hl [4, 5, 3, 2, 1, 0] rfl) (fun k ls hk_k hl ih_k => ?_)
    refine lv_iload hx hb dL_isChain_43 (lv_at hl 5 rfl) ?_
    refine lv_iload_n hx hb dL_isChain_45 rfl (lv_at hl 2 rfl) ?_
    refine geN k (mMan τ P) (tgt := 369) hx hb rfl rfl (by omega) (by omega) dL_isChain_46 (by decide) (fun c_k => ?_) (fun c_k => ?_)
    · skip
      refine lv_iload hx hb dL_isChain_369 (lv_at hl 4 rfl) ?_
      exact RET true _ _ rfl dL_isChain_371
    refine lv_iload hx hb dL_isChain_49 (lv_at hl 4 rfl) ?_
    refine lv_if_eq (tgt := 369) hx hb dL_isChain_51 (by decide) (fun c_5 => absurd c_5 (by decide)) (fun c_5 => ?_)
    refine lv_iload hx hb dL_isChain_54 (lv_at hl 5 rfl) ?_
    refine cutI (x := pm0 (mPrf τ) P k) (pcM := 75) (st := []) ?_ (fun JJ => ?_)
    rotate_left
    · skip
      refine neZN k (tgt := 64) hx hb rfl (by omega) dL_isChain_56 (by decide) (fun c_z => ?_) (fun c_z => ?_)
      · skip
        refine lv_aload_n hx hb dL_isChain_64 rfl (lv_at hl 0 rfl) ?_
        refine lv_iload_n hx hb dL_isChain_65 rfl (lv_at hl 1 rfl) ?_
        refine lv_iload hx hb dL_isChain_66 (lv_at hl 5 rfl) ?_
        refine lv_iconst (v := 1) hx hb dL_isChain_68 (by decide) ?_
        refine lv_isub hx hb dL_isChain_69 ?_
        refine lv_topE (y := nI (k - 1)) ((show nI k - nI 1 = nI (k - 1) from pk_sub (by omega))) ?_
        refine lv_bipush (v := 6) hx hb dL_isChain_70 (by decide) ?_
        refine z_callE (x := mPrf τ (P * 30 + (k - 1))) (vx_runV (As := [.int (nI P), .int (nI (k - 1)), .int 6]) (rest := []) ⟨hx, hb, hml, hown, hts⟩ (c_X1_entry l hf D cI q (gOf τ) hq (nI P) (nI (k - 1)) 6 (ok_J hJ) (hz_J hJ)) (cwV 3 hts gL_isChain_X1_entry rfl rfl rfl kd_X1_entry ⟨Nat.le_of_ble_eq_true rfl, Nat.le_of_ble_eq_true rfl⟩) (pV_P hP hK hE hX) rfl rfl hl.1 rfl (lv_room (Nat.le_of_ble_eq_true rfl)) dL_isChain_72 ⟨Nat.le_of_ble_eq_true rfl, Nat.le_of_ble_eq_true rfl⟩) (fun E9 h9 => h9.1 (congrArg Prod.fst (vE6 hJ hPn (E := k - 1) (by omega)))) (fun r9 h9 => h9.2.trans (congrArg (fun z => z.2.1) (vE6 hJ hPn (E := k - 1) (by omega)))) ?_
        exact JJ _ (by unfold pm0; rw [if_neg c_z, show P * 30 + k - 1 = P * 30 + (k - 1) by omega])
      refine lv_bipush (v := 17) hx hb dL_isChain_59 (by decide) ?_
      refine lv_goto (tgt := 75) hx hb dL_isChain_61 (by decide) ?_
      exact JJ _ (by unfold pm0; rw [if_pos c_z])
    refine lv_istore (lv' := [(6, .int (pm0 (mPrf τ) P k)), (0, .ref (q 0)), (1, .int (nI P)), (2, .int (nI (mMan τ P))), (3, .int ((-1))), (4, .int 1), (5, .int (nI k))]) hx hb dL_isChain_75 hl (by decide) rfl (fun ls hl => ?_)
    refine lv_iconst (v := 0) hx hb dL_isChain_77 (by decide) ?_
    refine lv_istore (lv' := [(7, .int 0), (6, .int (pm0 (mPrf τ) P k)), (0, .ref (q 0)), (1, .int (nI P)), (2, .int (nI (mMan τ P))), (3, .int ((-1))), (4, .int 1), (5, .int (nI k))]) hx hb dL_isChain_78 hl (by decide) rfl (fun ls hl => ?_)
    refine loopW (N := 6) (k0 := 0) (fun n ls => lv_has ls 12 [(0, .ref (q 0)), (1, .int (nI P)), (2, .int (nI (mMan τ P))), (3, .int ((-1))), (4, .int 1), (5, .int (nI k)), (6, .int (pmS (mPrf τ) (numM τ) P k n)), (7, .int (nI n))]) (Nat.zero_le _) (lv_sub hl [2, 3, 4, 5, 6, 7, 1, 0] rfl) (fun n ls hk_n hl ih_n => ?_)
    refine lv_iload hx hb dL_isChain_80 (lv_at hl 7 rfl) ?_
    refine lv_bipush (v := 6) hx hb dL_isChain_82 (by decide) ?_
    refine geN n 6 (tgt := 110) hx hb rfl rfl (by omega) (by omega) dL_isChain_84 (by decide) (fun c_n => ?_) (fun c_n => ?_)
    · skip
      have hn6 : n = 6 := by omega
      subst hn6
      have J162 : ∀ ls : Array Slot, lv_has ls 12 [(0, .ref (q 0)), (1, .int (nI P)), (2, .int (nI (mMan τ P))), (3, .int ((-1))), (4, .int 1), (5, .int (nI k))] → W p l e ({ frames := 8, cells := 1, slots := 6, locals := 125 }) s m args below meth c s.heap [] 0 0 Q (F0 m 162 ls [.int 1]) := by
        intro ls hl
        refine lv_istore (lv' := [(4, .int 1), (0, .ref (q 0)), (1, .int (nI P)), (2, .int (nI (mMan τ P))), (3, .int ((-1))), (5, .int (nI k))]) hx hb dL_isChain_162 hl (by decide) rfl (fun ls hl => ?_)
        obtain ⟨kd, hkd, hkin, h04, h6⟩ := kd_J hJ c_k
        rcases (show kd = 0 ∨ kd = 3 ∨ kd = 4 ∨ kd = 5 ∨ kd = 6 ∨ (kd ≠ 0 ∧ kd ≠ 3 ∧ kd ≠ 4 ∧ kd ≠ 5 ∧ kd ≠ 6) by omega) with rfl | rfl | rfl | rfl | rfl | hko
        · skip
          have hk0 : k = 0 := h04.mp (Or.inl rfl)
          refine lv_aload_n hx hb dL_isChain_164 rfl (lv_at hl 1 rfl) ?_
          refine lv_iload_n hx hb dL_isChain_165 rfl (lv_at hl 2 rfl) ?_
          refine lv_iload hx hb dL_isChain_166 (lv_at hl 5 rfl) ?_
          refine lv_iconst (v := 0) hx hb dL_isChain_168 (by decide) ?_
          refine z_callE (x := 0) (vx_runV (As := [.int (nI P), .int (nI k), .int 0]) (rest := []) ⟨hx, hb, hml, hown, hts⟩ (c_X1_entry l hf D cI q (gOf τ) hq (nI P) (nI k) 0 (ok_J hJ) (hz_J hJ)) (cwV 3 hts gL_isChain_X1_entry rfl rfl rfl kd_X1_entry ⟨Nat.le_of_ble_eq_true rfl, Nat.le_of_ble_eq_true rfl⟩) (pV_P hP hK hE hX) rfl rfl hl.1 rfl (lv_room (Nat.le_of_ble_eq_true rfl)) dL_isChain_169 ⟨Nat.le_of_ble_eq_true rfl, Nat.le_of_ble_eq_true rfl⟩) (fun E9 h9 => h9.1 (congrArg Prod.fst ((vE0 hJ hPn c_k).trans (congrArg (fun z => ((0, z, gOf τ) : Nat × Int32 × SG)) (hkin))))) (fun r9 h9 => h9.2.trans (congrArg (fun z => z.2.1) ((vE0 hJ hPn c_k).trans (congrArg (fun z => ((0, z, gOf τ) : Nat × Int32 × SG)) (hkin))))) ?_
          refine lv_istore (lv' := [(8, .int 0), (4, .int 1), (0, .ref (q 0)), (1, .int (nI P)), (2, .int (nI (mMan τ P))), (3, .int ((-1))), (5, .int (nI k))]) hx hb dL_isChain_172 hl (by decide) rfl (fun ls hl => ?_)
          refine lv_aload_n hx hb dL_isChain_174 rfl (lv_at hl 2 rfl) ?_
          refine lv_iload_n hx hb dL_isChain_175 rfl (lv_at hl 3 rfl) ?_
          refine lv_iload hx hb dL_isChain_176 (lv_at hl 6 rfl) ?_
          refine lv_iconst (v := 4) hx hb dL_isChain_178 (by decide) ?_
          refine z_callE (x := mOth τ (P * 30 + k)) (vx_runV (As := [.int (nI P), .int (nI k), .int 4]) (rest := []) ⟨hx, hb, hml, hown, hts⟩ (c_X1_entry l hf D cI q (gOf τ) hq (nI P) (nI k) 4 (ok_J hJ) (hz_J hJ)) (cwV 3 hts gL_isChain_X1_entry rfl rfl rfl kd_X1_entry ⟨Nat.le_of_ble_eq_true rfl, Nat.le_of_ble_eq_true rfl⟩) (pV_P hP hK hE hX) rfl rfl hl.1 rfl (lv_room (Nat.le_of_ble_eq_true rfl)) dL_isChain_179 ⟨Nat.le_of_ble_eq_true rfl, Nat.le_of_ble_eq_true rfl⟩) (fun E9 h9 => h9.1 (congrArg Prod.fst (vE4 hJ hPn c_k))) (fun r9 h9 => h9.2.trans (congrArg (fun z => z.2.1) (vE4 hJ hPn c_k))) ?_
          refine lv_istore (lv' := [(9, .int (mOth τ (P * 30 + k))), (8, .int 0), (4, .int 1), (0, .ref (q 0)), (1, .int (nI P)), (2, .int (nI (mMan τ P))), (3, .int ((-1))), (5, .int (nI k))]) hx hb dL_isChain_182 hl (by decide) rfl (fun ls hl => ?_)
          refine lv_aload_n hx hb dL_isChain_184 rfl (lv_at hl 3 rfl) ?_
          refine lv_iload_n hx hb dL_isChain_185 rfl (lv_at hl 4 rfl) ?_
          refine lv_iload hx hb dL_isChain_186 (lv_at hl 7 rfl) ?_
          refine lv_iconst (v := 5) hx hb dL_isChain_188 (by decide) ?_
          refine z_callE (x := mIts τ (P * 30 + k)) (vx_runV (As := [.int (nI P), .int (nI k), .int 5]) (rest := []) ⟨hx, hb, hml, hown, hts⟩ (c_X1_entry l hf D cI q (gOf τ) hq (nI P) (nI k) 5 (ok_J hJ) (hz_J hJ)) (cwV 3 hts gL_isChain_X1_entry rfl rfl rfl kd_X1_entry ⟨Nat.le_of_ble_eq_true rfl, Nat.le_of_ble_eq_true rfl⟩) (pV_P hP hK hE hX) rfl rfl hl.1 rfl (lv_room (Nat.le_of_ble_eq_true rfl)) dL_isChain_189 ⟨Nat.le_of_ble_eq_true rfl, Nat.le_of_ble_eq_true rfl⟩) (fun E9 h9 => h9.1 (congrArg Prod.fst (vE5 hJ hPn c_k))) (fun r9 h9 => h9.2.trans (congrArg (fun z => z.2.1) (vE5 hJ hPn c_k))) ?_
          refine lv_istore (lv' := [(10, .int (mIts τ (P * 30 + k))), (9, .int (mOth τ (P * 30 + k))), (8, .int 0), (4, .int 1), (0, .ref (q 0)), (1, .int (nI P)), (2, .int (nI (mMan τ P))), (3, .int ((-1))), (5, .int (nI k))]) hx hb dL_isChain_192 hl (by decide) rfl (fun ls hl => ?_)
          refine lv_iload hx hb dL_isChain_194 (lv_at hl 2 rfl) ?_
          refine lv_iconst (v := 3) hx hb dL_isChain_196 (by decide) ?_
          refine lv_icmp_ne (tgt := 204) hx hb dL_isChain_197 (by decide) (fun c_6 => ?_) (fun c_6 => absurd c_6 (by decide))
          refine lv_iload hx hb dL_isChain_204 (lv_at hl 2 rfl) ?_
          refine lv_iconst (v := 4) hx hb dL_isChain_206 (by decide) ?_
          refine lv_icmp_ne (tgt := 214) hx hb dL_isChain_207 (by decide) (fun c_7 => ?_) (fun c_7 => absurd c_7 (by decide))
          refine lv_iload hx hb dL_isChain_214 (lv_at hl 2 rfl) ?_
          refine lv_iconst (v := 5) hx hb dL_isChain_216 (by decide) ?_
          refine lv_icmp_ne (tgt := 225) hx hb dL_isChain_217 (by decide) (fun c_8 => ?_) (fun c_8 => absurd c_8 (by decide))
          refine lv_iload hx hb dL_isChain_225 (lv_at hl 2 rfl) ?_
          refine lv_bipush (v := 6) hx hb dL_isChain_227 (by decide) ?_
          refine lv_icmp_ne (tgt := 236) hx hb dL_isChain_229 (by decide) (fun c_9 => ?_) (fun c_9 => absurd c_9 (by decide))
          refine lv_iconst (v := (-1)) hx hb dL_isChain_236 (by decide) ?_
          refine lv_istore (lv' := [(11, .int ((-1))), (10, .int (mIts τ (P * 30 + k))), (9, .int (mOth τ (P * 30 + k))), (8, .int 0), (4, .int 1), (0, .ref (q 0)), (1, .int (nI P)), (2, .int (nI (mMan τ P))), (3, .int ((-1))), (5, .int (nI k))]) hx hb dL_isChain_237 hl (by decide) rfl (fun ls hl => ?_)
          refine lv_iload hx hb dL_isChain_239 (lv_at hl 4 rfl) ?_
          refine lv_if_eq (tgt := 294) hx hb dL_isChain_241 (by decide) (fun c_10 => absurd c_10 (by decide)) (fun c_10 => ?_)
          refine lv_iload hx hb dL_isChain_244 (lv_at hl 0 rfl) ?_
          refine lv_if_lt (tgt := 290) hx hb dL_isChain_246 (by decide) (fun c_11 => ?_) (fun c_11 => absurd (by decide) c_11)
          refine lv_iconst (v := 1) hx hb dL_isChain_290 (by decide) ?_
          refine lv_goto (tgt := 295) hx hb dL_isChain_291 (by decide) ?_
          refine lv_istore (lv' := [(4, .int 1), (11, .int ((-1))), (10, .int (mIts τ (P * 30 + k))), (9, .int (mOth τ (P * 30 + k))), (8, .int 0), (0, .ref (q 0)), (1, .int (nI P)), (2, .int (nI (mMan τ P))), (3, .int ((-1))), (5, .int (nI k))]) hx hb dL_isChain_295 hl (by decide) rfl (fun ls hl => ?_)
          refine lv_iload hx hb dL_isChain_297 (lv_at hl 0 rfl) ?_
          refine lv_if_eq (tgt := 360) hx hb dL_isChain_299 (by decide) (fun c_12 => absurd c_12 (by decide)) (fun c_12 => ?_)
          refine lv_iload hx hb dL_isChain_302 (lv_at hl 4 rfl) ?_
          refine lv_if_eq (tgt := 313) hx hb dL_isChain_304 (by decide) (fun c_13 => ?_) (fun c_13 => absurd (by decide) c_13)
          refine lv_iconst (v := 1) hx hb dL_isChain_313 (by decide) ?_
          refine lv_goto (tgt := 318) hx hb dL_isChain_314 (by decide) ?_
          refine lv_iload hx hb dL_isChain_318 (lv_at hl 9 rfl) ?_
          refine neZN k (tgt := 327) hx hb rfl (by omega) dL_isChain_320 (by decide) (fun c_14 => absurd c_14 (by omega)) (fun c_14 => ?_)
          refine lv_iconst (v := 1) hx hb dL_isChain_323 (by decide) ?_
          refine lv_goto (tgt := 328) hx hb dL_isChain_324 (by decide) ?_
          refine lv_icmp_ne (tgt := 360) hx hb dL_isChain_328 (by decide) (fun c_15 => absurd (by decide) c_15) (fun c_15 => ?_)
          refine lv_iload hx hb dL_isChain_331 (lv_at hl 4 rfl) ?_
          refine lv_bipush (v := 6) hx hb dL_isChain_333 (by decide) ?_
          refine lv_icmp_ne (tgt := 356) hx hb dL_isChain_335 (by decide) (fun c_16 => ?_) (fun c_16 => absurd c_16 (by decide))
          refine lv_iconst (v := 1) hx hb dL_isChain_356 (by decide) ?_
          refine lv_goto (tgt := 361) hx hb dL_isChain_357 (by decide) ?_
          refine lv_istore (lv' := [(4, .int 1), (11, .int ((-1))), (10, .int (mIts τ (P * 30 + k))), (9, .int (mOth τ (P * 30 + k))), (8, .int 0), (0, .ref (q 0)), (1, .int (nI P)), (2, .int (nI (mMan τ P))), (3, .int ((-1))), (5, .int (nI k))]) hx hb dL_isChain_361 hl (by decide) rfl (fun ls hl => ?_)
          refine lv_iinc (v := nI (k + 1)) (lv' := [(5, .int (nI (k + 1))), (4, .int 1), (11, .int ((-1))), (10, .int (mIts τ (P * 30 + k))), (9, .int (mOth τ (P * 30 + k))), (8, .int 0), (0, .ref (q 0)), (1, .int (nI P)), (2, .int (nI (mMan τ P))), (3, .int ((-1)))]) hx hb dL_isChain_363 hl (k := 9) rfl (iincN k) (by decide) rfl (fun ls hl => ?_)
          refine lv_goto (tgt := 43) hx hb dL_isChain_366 (by decide) ?_
          exact ih_k (by omega) _ (lv_sub hl [6, 7, 8, 9, 1, 0] rfl)
        · skip
          have hk0 : k ≠ 0 := fun z => by have := h04.mpr z; omega
          obtain ⟨o, i, ho, hi, hoth, hits, hk2, ho2, hi2⟩ := lk_J hJ c_k (by rw [hkin]; decide)
          have hmo := hJ.1.1.2.1 o
          refine lv_aload_n hx hb dL_isChain_164 rfl (lv_at hl 1 rfl) ?_
          refine lv_iload_n hx hb dL_isChain_165 rfl (lv_at hl 2 rfl) ?_
          refine lv_iload hx hb dL_isChain_166 (lv_at hl 5 rfl) ?_
          refine lv_iconst (v := 0) hx hb dL_isChain_168 (by decide) ?_
          refine z_callE (x := 3) (vx_runV (As := [.int (nI P), .int (nI k), .int 0]) (rest := []) ⟨hx, hb, hml, hown, hts⟩ (c_X1_entry l hf D cI q (gOf τ) hq (nI P) (nI k) 0 (ok_J hJ) (hz_J hJ)) (cwV 3 hts gL_isChain_X1_entry rfl rfl rfl kd_X1_entry ⟨Nat.le_of_ble_eq_true rfl, Nat.le_of_ble_eq_true rfl⟩) (pV_P hP hK hE hX) rfl rfl hl.1 rfl (lv_room (Nat.le_of_ble_eq_true rfl)) dL_isChain_169 ⟨Nat.le_of_ble_eq_true rfl, Nat.le_of_ble_eq_true rfl⟩) (fun E9 h9 => h9.1 (congrArg Prod.fst ((vE0 hJ hPn c_k).trans (congrArg (fun z => ((0, z, gOf τ) : Nat × Int32 × SG)) (hkin))))) (fun r9 h9 => h9.2.trans (congrArg (fun z => z.2.1) ((vE0 hJ hPn c_k).trans (congrArg (fun z => ((0, z, gOf τ) : Nat × Int32 × SG)) (hkin))))) ?_
          refine lv_istore (lv' := [(8, .int 3), (4, .int 1), (0, .ref (q 0)), (1, .int (nI P)), (2, .int (nI (mMan τ P))), (3, .int ((-1))), (5, .int (nI k))]) hx hb dL_isChain_172 hl (by decide) rfl (fun ls hl => ?_)
          refine lv_aload_n hx hb dL_isChain_174 rfl (lv_at hl 2 rfl) ?_
          refine lv_iload_n hx hb dL_isChain_175 rfl (lv_at hl 3 rfl) ?_
          refine lv_iload hx hb dL_isChain_176 (lv_at hl 6 rfl) ?_
          refine lv_iconst (v := 4) hx hb dL_isChain_178 (by decide) ?_
          refine z_callE (x := nI o) (vx_runV (As := [.int (nI P), .int (nI k), .int 4]) (rest := []) ⟨hx, hb, hml, hown, hts⟩ (c_X1_entry l hf D cI q (gOf τ) hq (nI P) (nI k) 4 (ok_J hJ) (hz_J hJ)) (cwV 3 hts gL_isChain_X1_entry rfl rfl rfl kd_X1_entry ⟨Nat.le_of_ble_eq_true rfl, Nat.le_of_ble_eq_true rfl⟩) (pV_P hP hK hE hX) rfl rfl hl.1 rfl (lv_room (Nat.le_of_ble_eq_true rfl)) dL_isChain_179 ⟨Nat.le_of_ble_eq_true rfl, Nat.le_of_ble_eq_true rfl⟩) (fun E9 h9 => h9.1 (congrArg Prod.fst ((vE4 hJ hPn c_k).trans (congrArg (fun z => ((0, z, gOf τ) : Nat × Int32 × SG)) (hoth))))) (fun r9 h9 => h9.2.trans (congrArg (fun z => z.2.1) ((vE4 hJ hPn c_k).trans (congrArg (fun z => ((0, z, gOf τ) : Nat × Int32 × SG)) (hoth))))) ?_
          refine lv_istore (lv' := [(9, .int (nI o)), (8, .int 3), (4, .int 1), (0, .ref (q 0)), (1, .int (nI P)), (2, .int (nI (mMan τ P))), (3, .int ((-1))), (5, .int (nI k))]) hx hb dL_isChain_182 hl (by decide) rfl (fun ls hl => ?_)
          refine lv_aload_n hx hb dL_isChain_184 rfl (lv_at hl 3 rfl) ?_
          refine lv_iload_n hx hb dL_isChain_185 rfl (lv_at hl 4 rfl) ?_
          refine lv_iload hx hb dL_isChain_186 (lv_at hl 7 rfl) ?_
          refine lv_iconst (v := 5) hx hb dL_isChain_188 (by decide) ?_
          refine z_callE (x := nI i) (vx_runV (As := [.int (nI P), .int (nI k), .int 5]) (rest := []) ⟨hx, hb, hml, hown, hts⟩ (c_X1_entry l hf D cI q (gOf τ) hq (nI P) (nI k) 5 (ok_J hJ) (hz_J hJ)) (cwV 3 hts gL_isChain_X1_entry rfl rfl rfl kd_X1_entry ⟨Nat.le_of_ble_eq_true rfl, Nat.le_of_ble_eq_true rfl⟩) (pV_P hP hK hE hX) rfl rfl hl.1 rfl (lv_room (Nat.le_of_ble_eq_true rfl)) dL_isChain_189 ⟨Nat.le_of_ble_eq_true rfl, Nat.le_of_ble_eq_true rfl⟩) (fun E9 h9 => h9.1 (congrArg Prod.fst ((vE5 hJ hPn c_k).trans (congrArg (fun z => ((0, z, gOf τ) : Nat × Int32 × SG)) (hits))))) (fun r9 h9 => h9.2.trans (congrArg (fun z => z.2.1) ((vE5 hJ hPn c_k).trans (congrArg (fun z => ((0, z, gOf τ) : Nat × Int32 × SG)) (hits))))) ?_
          refine lv_istore (lv' := [(10, .int (nI i)), (9, .int (nI o)), (8, .int 3), (4, .int 1), (0, .ref (q 0)), (1, .int (nI P)), (2, .int (nI (mMan τ P))), (3, .int ((-1))), (5, .int (nI k))]) hx hb dL_isChain_192 hl (by decide) rfl (fun ls hl => ?_)
          refine lv_iload hx hb dL_isChain_194 (lv_at hl 2 rfl) ?_
          refine lv_iconst (v := 3) hx hb dL_isChain_196 (by decide) ?_
          refine lv_icmp_ne (tgt := 204) hx hb dL_isChain_197 (by decide) (fun c_17 => absurd (by decide) c_17) (fun c_17 => ?_)
          refine lv_iconst (v := 4) hx hb dL_isChain_200 (by decide) ?_
          refine lv_goto (tgt := 237) hx hb dL_isChain_201 (by decide) ?_
          refine lv_istore (lv' := [(11, .int 4), (10, .int (nI i)), (9, .int (nI o)), (8, .int 3), (4, .int 1), (0, .ref (q 0)), (1, .int (nI P)), (2, .int (nI (mMan τ P))), (3, .int ((-1))), (5, .int (nI k))]) hx hb dL_isChain_237 hl (by decide) rfl (fun ls hl => ?_)
          refine lv_iload hx hb dL_isChain_239 (lv_at hl 4 rfl) ?_
          refine lv_if_eq (tgt := 294) hx hb dL_isChain_241 (by decide) (fun c_18 => absurd c_18 (by decide)) (fun c_18 => ?_)
          refine lv_iload hx hb dL_isChain_244 (lv_at hl 0 rfl) ?_
          refine lv_if_lt (tgt := 290) hx hb dL_isChain_246 (by decide) (fun c_19 => absurd c_19 (by decide)) (fun c_19 => ?_)
          refine lv_aload_n hx hb dL_isChain_249 rfl (lv_at hl 5 rfl) ?_
          refine lv_iload hx hb dL_isChain_250 (lv_at hl 2 rfl) ?_
          refine lv_iload hx hb dL_isChain_252 (lv_at hl 1 rfl) ?_
          refine lv_iconst (v := 0) hx hb dL_isChain_254 (by decide) ?_
          refine z_callE (x := 4) (vx_runV (As := [.int (nI o), .int (nI i), .int 0]) (rest := []) ⟨hx, hb, hml, hown, hts⟩ (c_X1_entry l hf D cI q (gOf τ) hq (nI o) (nI i) 0 (ok_J hJ) (hz_J hJ)) (cwV 3 hts gL_isChain_X1_entry rfl rfl rfl kd_X1_entry ⟨Nat.le_of_ble_eq_true rfl, Nat.le_of_ble_eq_true rfl⟩) (pV_P hP hK hE hX) rfl rfl hl.1 rfl (lv_room (Nat.le_of_ble_eq_true rfl)) dL_isChain_255 ⟨Nat.le_of_ble_eq_true rfl, Nat.le_of_ble_eq_true rfl⟩) (fun E9 h9 => h9.1 (congrArg Prod.fst ((vE0 hJ ho hi).trans (congrArg (fun z => ((0, z, gOf τ) : Nat × Int32 × SG)) (hk2.trans (show dueF _ = 4 by rw [hkin]; decide)))))) (fun r9 h9 => h9.2.trans (congrArg (fun z => z.2.1) ((vE0 hJ ho hi).trans (congrArg (fun z => ((0, z, gOf τ) : Nat × Int32 × SG)) (hk2.trans (show dueF _ = 4 by rw [hkin]; decide)))))) ?_
          refine lv_iload hx hb dL_isChain_258 (lv_at hl 0 rfl) ?_
          refine lv_icmp_ne (tgt := 294) hx hb dL_isChain_260 (by decide) (fun c_20 => absurd (by decide) c_20) (fun c_20 => ?_)
          refine lv_aload_n hx hb dL_isChain_263 rfl (lv_at hl 5 rfl) ?_
          refine lv_iload hx hb dL_isChain_264 (lv_at hl 2 rfl) ?_
          refine lv_iload hx hb dL_isChain_266 (lv_at hl 1 rfl) ?_
          refine lv_iconst (v := 4) hx hb dL_isChain_268 (by decide) ?_
          refine z_callE (x := nI P) (vx_runV (As := [.int (nI o), .int (nI i), .int 4]) (rest := []) ⟨hx, hb, hml, hown, hts⟩ (c_X1_entry l hf D cI q (gOf τ) hq (nI o) (nI i) 4 (ok_J hJ) (hz_J hJ)) (cwV 3 hts gL_isChain_X1_entry rfl rfl rfl kd_X1_entry ⟨Nat.le_of_ble_eq_true rfl, Nat.le_of_ble_eq_true rfl⟩) (pV_P hP hK hE hX) rfl rfl hl.1 rfl (lv_room (Nat.le_of_ble_eq_true rfl)) dL_isChain_269 ⟨Nat.le_of_ble_eq_true rfl, Nat.le_of_ble_eq_true rfl⟩) (fun E9 h9 => h9.1 (congrArg Prod.fst ((vE4 hJ ho hi).trans (congrArg (fun z => ((0, z, gOf τ) : Nat × Int32 × SG)) (ho2))))) (fun r9 h9 => h9.2.trans (congrArg (fun z => z.2.1) ((vE4 hJ ho hi).trans (congrArg (fun z => ((0, z, gOf τ) : Nat × Int32 × SG)) (ho2))))) ?_
          refine lv_iload_n hx hb dL_isChain_272 rfl (lv_at hl 6 rfl) ?_
          refine neN P P (tgt := 294) hx hb rfl rfl (by omega) (by omega) dL_isChain_273 (by decide) (fun c_21 => absurd c_21 (by omega)) (fun c_21 => ?_)
          refine lv_aload_n hx hb dL_isChain_276 rfl (lv_at hl 5 rfl) ?_
          refine lv_iload hx hb dL_isChain_277 (lv_at hl 2 rfl) ?_
          refine lv_iload hx hb dL_isChain_279 (lv_at hl 1 rfl) ?_
          refine lv_iconst (v := 5) hx hb dL_isChain_281 (by decide) ?_
          refine z_callE (x := nI k) (vx_runV (As := [.int (nI o), .int (nI i), .int 5]) (rest := []) ⟨hx, hb, hml, hown, hts⟩ (c_X1_entry l hf D cI q (gOf τ) hq (nI o) (nI i) 5 (ok_J hJ) (hz_J hJ)) (cwV 3 hts gL_isChain_X1_entry rfl rfl rfl kd_X1_entry ⟨Nat.le_of_ble_eq_true rfl, Nat.le_of_ble_eq_true rfl⟩) (pV_P hP hK hE hX) rfl rfl hl.1 rfl (lv_room (Nat.le_of_ble_eq_true rfl)) dL_isChain_282 ⟨Nat.le_of_ble_eq_true rfl, Nat.le_of_ble_eq_true rfl⟩) (fun E9 h9 => h9.1 (congrArg Prod.fst ((vE5 hJ ho hi).trans (congrArg (fun z => ((0, z, gOf τ) : Nat × Int32 × SG)) (hi2))))) (fun r9 h9 => h9.2.trans (congrArg (fun z => z.2.1) ((vE5 hJ ho hi).trans (congrArg (fun z => ((0, z, gOf τ) : Nat × Int32 × SG)) (hi2))))) ?_
          refine lv_iload hx hb dL_isChain_285 (lv_at hl 9 rfl) ?_
          refine neN k k (tgt := 294) hx hb rfl rfl (by omega) (by omega) dL_isChain_287 (by decide) (fun c_22 => absurd c_22 (by omega)) (fun c_22 => ?_)
          refine lv_iconst (v := 1) hx hb dL_isChain_290 (by decide) ?_
          refine lv_goto (tgt := 295) hx hb dL_isChain_291 (by decide) ?_
          refine lv_istore (lv' := [(4, .int 1), (11, .int 4), (10, .int (nI i)), (9, .int (nI o)), (8, .int 3), (0, .ref (q 0)), (1, .int (nI P)), (2, .int (nI (mMan τ P))), (3, .int ((-1))), (5, .int (nI k))]) hx hb dL_isChain_295 hl (by decide) rfl (fun ls hl => ?_)
          refine lv_iload hx hb dL_isChain_297 (lv_at hl 0 rfl) ?_
          refine lv_if_eq (tgt := 360) hx hb dL_isChain_299 (by decide) (fun c_23 => absurd c_23 (by decide)) (fun c_23 => ?_)
          refine lv_iload hx hb dL_isChain_302 (lv_at hl 4 rfl) ?_
          refine lv_if_eq (tgt := 313) hx hb dL_isChain_304 (by decide) (fun c_24 => absurd c_24 (by decide)) (fun c_24 => ?_)
          refine lv_iload hx hb dL_isChain_307 (lv_at hl 4 rfl) ?_
          refine lv_iconst (v := 4) hx hb dL_isChain_309 (by decide) ?_
          refine lv_icmp_ne (tgt := 317) hx hb dL_isChain_310 (by decide) (fun c_25 => ?_) (fun c_25 => absurd c_25 (by decide))
          refine lv_iconst (v := 0) hx hb dL_isChain_317 (by decide) ?_
          refine lv_iload hx hb dL_isChain_318 (lv_at hl 9 rfl) ?_
          refine neZN k (tgt := 327) hx hb rfl (by omega) dL_isChain_320 (by decide) (fun c_26 => ?_) (fun c_26 => absurd c_26 (by omega))
          refine lv_iconst (v := 0) hx hb dL_isChain_327 (by decide) ?_
          refine lv_icmp_ne (tgt := 360) hx hb dL_isChain_328 (by decide) (fun c_27 => absurd (by decide) c_27) (fun c_27 => ?_)
          refine lv_iload hx hb dL_isChain_331 (lv_at hl 4 rfl) ?_
          refine lv_bipush (v := 6) hx hb dL_isChain_333 (by decide) ?_
          refine lv_icmp_ne (tgt := 356) hx hb dL_isChain_335 (by decide) (fun c_28 => ?_) (fun c_28 => absurd c_28 (by decide))
          refine lv_iconst (v := 1) hx hb dL_isChain_356 (by decide) ?_
          refine lv_goto (tgt := 361) hx hb dL_isChain_357 (by decide) ?_
          refine lv_istore (lv' := [(4, .int 1), (11, .int 4), (10, .int (nI i)), (9, .int (nI o)), (8, .int 3), (0, .ref (q 0)), (1, .int (nI P)), (2, .int (nI (mMan τ P))), (3, .int ((-1))), (5, .int (nI k))]) hx hb dL_isChain_361 hl (by decide) rfl (fun ls hl => ?_)
          refine lv_iinc (v := nI (k + 1)) (lv' := [(5, .int (nI (k + 1))), (4, .int 1), (11, .int 4), (10, .int (nI i)), (9, .int (nI o)), (8, .int 3), (0, .ref (q 0)), (1, .int (nI P)), (2, .int (nI (mMan τ P))), (3, .int ((-1)))]) hx hb dL_isChain_363 hl (k := 9) rfl (iincN k) (by decide) rfl (fun ls hl => ?_)
          refine lv_goto (tgt := 43) hx hb dL_isChain_366 (by decide) ?_
          exact ih_k (by omega) _ (lv_sub hl [6, 7, 8, 9, 1, 0] rfl)
        · skip
          have hk0 : k = 0 := h04.mp (Or.inr rfl)
          obtain ⟨o, i, ho, hi, hoth, hits, hk2, ho2, hi2⟩ := lk_J hJ c_k (by rw [hkin]; decide)
          have hmo := hJ.1.1.2.1 o
          refine lv_aload_n hx hb dL_isChain_164 rfl (lv_at hl 1 rfl) ?_
          refine lv_iload_n hx hb dL_isChain_165 rfl (lv_at hl 2 rfl) ?_
          refine lv_iload hx hb dL_isChain_166 (lv_at hl 5 rfl) ?_
          refine lv_iconst (v := 0) hx hb dL_isChain_168 (by decide) ?_
          refine z_callE (x := 4) (vx_runV (As := [.int (nI P), .int (nI k), .int 0]) (rest := []) ⟨hx, hb, hml, hown, hts⟩ (c_X1_entry l hf D cI q (gOf τ) hq (nI P) (nI k) 0 (ok_J hJ) (hz_J hJ)) (cwV 3 hts gL_isChain_X1_entry rfl rfl rfl kd_X1_entry ⟨Nat.le_of_ble_eq_true rfl, Nat.le_of_ble_eq_true rfl⟩) (pV_P hP hK hE hX) rfl rfl hl.1 rfl (lv_room (Nat.le_of_ble_eq_true rfl)) dL_isChain_169 ⟨Nat.le_of_ble_eq_true rfl, Nat.le_of_ble_eq_true rfl⟩) (fun E9 h9 => h9.1 (congrArg Prod.fst ((vE0 hJ hPn c_k).trans (congrArg (fun z => ((0, z, gOf τ) : Nat × Int32 × SG)) (hkin))))) (fun r9 h9 => h9.2.trans (congrArg (fun z => z.2.1) ((vE0 hJ hPn c_k).trans (congrArg (fun z => ((0, z, gOf τ) : Nat × Int32 × SG)) (hkin))))) ?_
          refine lv_istore (lv' := [(8, .int 4), (4, .int 1), (0, .ref (q 0)), (1, .int (nI P)), (2, .int (nI (mMan τ P))), (3, .int ((-1))), (5, .int (nI k))]) hx hb dL_isChain_172 hl (by decide) rfl (fun ls hl => ?_)
          refine lv_aload_n hx hb dL_isChain_174 rfl (lv_at hl 2 rfl) ?_
          refine lv_iload_n hx hb dL_isChain_175 rfl (lv_at hl 3 rfl) ?_
          refine lv_iload hx hb dL_isChain_176 (lv_at hl 6 rfl) ?_
          refine lv_iconst (v := 4) hx hb dL_isChain_178 (by decide) ?_
          refine z_callE (x := nI o) (vx_runV (As := [.int (nI P), .int (nI k), .int 4]) (rest := []) ⟨hx, hb, hml, hown, hts⟩ (c_X1_entry l hf D cI q (gOf τ) hq (nI P) (nI k) 4 (ok_J hJ) (hz_J hJ)) (cwV 3 hts gL_isChain_X1_entry rfl rfl rfl kd_X1_entry ⟨Nat.le_of_ble_eq_true rfl, Nat.le_of_ble_eq_true rfl⟩) (pV_P hP hK hE hX) rfl rfl hl.1 rfl (lv_room (Nat.le_of_ble_eq_true rfl)) dL_isChain_179 ⟨Nat.le_of_ble_eq_true rfl, Nat.le_of_ble_eq_true rfl⟩) (fun E9 h9 => h9.1 (congrArg Prod.fst ((vE4 hJ hPn c_k).trans (congrArg (fun z => ((0, z, gOf τ) : Nat × Int32 × SG)) (hoth))))) (fun r9 h9 => h9.2.trans (congrArg (fun z => z.2.1) ((vE4 hJ hPn c_k).trans (congrArg (fun z => ((0, z, gOf τ) : Nat × Int32 × SG)) (hoth))))) ?_
          refine lv_istore (lv' := [(9, .int (nI o)), (8, .int 4), (4, .int 1), (0, .ref (q 0)), (1, .int (nI P)), (2, .int (nI (mMan τ P))), (3, .int ((-1))), (5, .int (nI k))]) hx hb dL_isChain_182 hl (by decide) rfl (fun ls hl => ?_)
          refine lv_aload_n hx hb dL_isChain_184 rfl (lv_at hl 3 rfl) ?_
          refine lv_iload_n hx hb dL_isChain_185 rfl (lv_at hl 4 rfl) ?_
          refine lv_iload hx hb dL_isChain_186 (lv_at hl 7 rfl) ?_
          refine lv_iconst (v := 5) hx hb dL_isChain_188 (by decide) ?_
          refine z_callE (x := nI i) (vx_runV (As := [.int (nI P), .int (nI k), .int 5]) (rest := []) ⟨hx, hb, hml, hown, hts⟩ (c_X1_entry l hf D cI q (gOf τ) hq (nI P) (nI k) 5 (ok_J hJ) (hz_J hJ)) (cwV 3 hts gL_isChain_X1_entry rfl rfl rfl kd_X1_entry ⟨Nat.le_of_ble_eq_true rfl, Nat.le_of_ble_eq_true rfl⟩) (pV_P hP hK hE hX) rfl rfl hl.1 rfl (lv_room (Nat.le_of_ble_eq_true rfl)) dL_isChain_189 ⟨Nat.le_of_ble_eq_true rfl, Nat.le_of_ble_eq_true rfl⟩) (fun E9 h9 => h9.1 (congrArg Prod.fst ((vE5 hJ hPn c_k).trans (congrArg (fun z => ((0, z, gOf τ) : Nat × Int32 × SG)) (hits))))) (fun r9 h9 => h9.2.trans (congrArg (fun z => z.2.1) ((vE5 hJ hPn c_k).trans (congrArg (fun z => ((0, z, gOf τ) : Nat × Int32 × SG)) (hits))))) ?_
          refine lv_istore (lv' := [(10, .int (nI i)), (9, .int (nI o)), (8, .int 4), (4, .int 1), (0, .ref (q 0)), (1, .int (nI P)), (2, .int (nI (mMan τ P))), (3, .int ((-1))), (5, .int (nI k))]) hx hb dL_isChain_192 hl (by decide) rfl (fun ls hl => ?_)
          refine lv_iload hx hb dL_isChain_194 (lv_at hl 2 rfl) ?_
          refine lv_iconst (v := 3) hx hb dL_isChain_196 (by decide) ?_
          refine lv_icmp_ne (tgt := 204) hx hb dL_isChain_197 (by decide) (fun c_29 => ?_) (fun c_29 => absurd c_29 (by decide))
          refine lv_iload hx hb dL_isChain_204 (lv_at hl 2 rfl) ?_
          refine lv_iconst (v := 4) hx hb dL_isChain_206 (by decide) ?_
          refine lv_icmp_ne (tgt := 214) hx hb dL_isChain_207 (by decide) (fun c_30 => absurd (by decide) c_30) (fun c_30 => ?_)
          refine lv_iconst (v := 3) hx hb dL_isChain_210 (by decide) ?_
          refine lv_goto (tgt := 237) hx hb dL_isChain_211 (by decide) ?_
          refine lv_istore (lv' := [(11, .int 3), (10, .int (nI i)), (9, .int (nI o)), (8, .int 4), (4, .int 1), (0, .ref (q 0)), (1, .int (nI P)), (2, .int (nI (mMan τ P))), (3, .int ((-1))), (5, .int (nI k))]) hx hb dL_isChain_237 hl (by decide) rfl (fun ls hl => ?_)
          refine lv_iload hx hb dL_isChain_239 (lv_at hl 4 rfl) ?_
          refine lv_if_eq (tgt := 294) hx hb dL_isChain_241 (by decide) (fun c_31 => absurd c_31 (by decide)) (fun c_31 => ?_)
          refine lv_iload hx hb dL_isChain_244 (lv_at hl 0 rfl) ?_
          refine lv_if_lt (tgt := 290) hx hb dL_isChain_246 (by decide) (fun c_32 => absurd c_32 (by decide)) (fun c_32 => ?_)
          refine lv_aload_n hx hb dL_isChain_249 rfl (lv_at hl 5 rfl) ?_
          refine lv_iload hx hb dL_isChain_250 (lv_at hl 2 rfl) ?_
          refine lv_iload hx hb dL_isChain_252 (lv_at hl 1 rfl) ?_
          refine lv_iconst (v := 0) hx hb dL_isChain_254 (by decide) ?_
          refine z_callE (x := 3) (vx_runV (As := [.int (nI o), .int (nI i), .int 0]) (rest := []) ⟨hx, hb, hml, hown, hts⟩ (c_X1_entry l hf D cI q (gOf τ) hq (nI o) (nI i) 0 (ok_J hJ) (hz_J hJ)) (cwV 3 hts gL_isChain_X1_entry rfl rfl rfl kd_X1_entry ⟨Nat.le_of_ble_eq_true rfl, Nat.le_of_ble_eq_true rfl⟩) (pV_P hP hK hE hX) rfl rfl hl.1 rfl (lv_room (Nat.le_of_ble_eq_true rfl)) dL_isChain_255 ⟨Nat.le_of_ble_eq_true rfl, Nat.le_of_ble_eq_true rfl⟩) (fun E9 h9 => h9.1 (congrArg Prod.fst ((vE0 hJ ho hi).trans (congrArg (fun z => ((0, z, gOf τ) : Nat × Int32 × SG)) (hk2.trans (show dueF _ = 3 by rw [hkin]; decide)))))) (fun r9 h9 => h9.2.trans (congrArg (fun z => z.2.1) ((vE0 hJ ho hi).trans (congrArg (fun z => ((0, z, gOf τ) : Nat × Int32 × SG)) (hk2.trans (show dueF _ = 3 by rw [hkin]; decide)))))) ?_
          refine lv_iload hx hb dL_isChain_258 (lv_at hl 0 rfl) ?_
          refine lv_icmp_ne (tgt := 294) hx hb dL_isChain_260 (by decide) (fun c_33 => absurd (by decide) c_33) (fun c_33 => ?_)
          refine lv_aload_n hx hb dL_isChain_263 rfl (lv_at hl 5 rfl) ?_
          refine lv_iload hx hb dL_isChain_264 (lv_at hl 2 rfl) ?_
          refine lv_iload hx hb dL_isChain_266 (lv_at hl 1 rfl) ?_
          refine lv_iconst (v := 4) hx hb dL_isChain_268 (by decide) ?_
          refine z_callE (x := nI P) (vx_runV (As := [.int (nI o), .int (nI i), .int 4]) (rest := []) ⟨hx, hb, hml, hown, hts⟩ (c_X1_entry l hf D cI q (gOf τ) hq (nI o) (nI i) 4 (ok_J hJ) (hz_J hJ)) (cwV 3 hts gL_isChain_X1_entry rfl rfl rfl kd_X1_entry ⟨Nat.le_of_ble_eq_true rfl, Nat.le_of_ble_eq_true rfl⟩) (pV_P hP hK hE hX) rfl rfl hl.1 rfl (lv_room (Nat.le_of_ble_eq_true rfl)) dL_isChain_269 ⟨Nat.le_of_ble_eq_true rfl, Nat.le_of_ble_eq_true rfl⟩) (fun E9 h9 => h9.1 (congrArg Prod.fst ((vE4 hJ ho hi).trans (congrArg (fun z => ((0, z, gOf τ) : Nat × Int32 × SG)) (ho2))))) (fun r9 h9 => h9.2.trans (congrArg (fun z => z.2.1) ((vE4 hJ ho hi).trans (congrArg (fun z => ((0, z, gOf τ) : Nat × Int32 × SG)) (ho2))))) ?_
          refine lv_iload_n hx hb dL_isChain_272 rfl (lv_at hl 6 rfl) ?_
          refine neN P P (tgt := 294) hx hb rfl rfl (by omega) (by omega) dL_isChain_273 (by decide) (fun c_34 => absurd c_34 (by omega)) (fun c_34 => ?_)
          refine lv_aload_n hx hb dL_isChain_276 rfl (lv_at hl 5 rfl) ?_
          refine lv_iload hx hb dL_isChain_277 (lv_at hl 2 rfl) ?_
          refine lv_iload hx hb dL_isChain_279 (lv_at hl 1 rfl) ?_
          refine lv_iconst (v := 5) hx hb dL_isChain_281 (by decide) ?_
          refine z_callE (x := nI k) (vx_runV (As := [.int (nI o), .int (nI i), .int 5]) (rest := []) ⟨hx, hb, hml, hown, hts⟩ (c_X1_entry l hf D cI q (gOf τ) hq (nI o) (nI i) 5 (ok_J hJ) (hz_J hJ)) (cwV 3 hts gL_isChain_X1_entry rfl rfl rfl kd_X1_entry ⟨Nat.le_of_ble_eq_true rfl, Nat.le_of_ble_eq_true rfl⟩) (pV_P hP hK hE hX) rfl rfl hl.1 rfl (lv_room (Nat.le_of_ble_eq_true rfl)) dL_isChain_282 ⟨Nat.le_of_ble_eq_true rfl, Nat.le_of_ble_eq_true rfl⟩) (fun E9 h9 => h9.1 (congrArg Prod.fst ((vE5 hJ ho hi).trans (congrArg (fun z => ((0, z, gOf τ) : Nat × Int32 × SG)) (hi2))))) (fun r9 h9 => h9.2.trans (congrArg (fun z => z.2.1) ((vE5 hJ ho hi).trans (congrArg (fun z => ((0, z, gOf τ) : Nat × Int32 × SG)) (hi2))))) ?_
          refine lv_iload hx hb dL_isChain_285 (lv_at hl 9 rfl) ?_
          refine neN k k (tgt := 294) hx hb rfl rfl (by omega) (by omega) dL_isChain_287 (by decide) (fun c_35 => absurd c_35 (by omega)) (fun c_35 => ?_)
          refine lv_iconst (v := 1) hx hb dL_isChain_290 (by decide) ?_
          refine lv_goto (tgt := 295) hx hb dL_isChain_291 (by decide) ?_
          refine lv_istore (lv' := [(4, .int 1), (11, .int 3), (10, .int (nI i)), (9, .int (nI o)), (8, .int 4), (0, .ref (q 0)), (1, .int (nI P)), (2, .int (nI (mMan τ P))), (3, .int ((-1))), (5, .int (nI k))]) hx hb dL_isChain_295 hl (by decide) rfl (fun ls hl => ?_)
          refine lv_iload hx hb dL_isChain_297 (lv_at hl 0 rfl) ?_
          refine lv_if_eq (tgt := 360) hx hb dL_isChain_299 (by decide) (fun c_36 => absurd c_36 (by decide)) (fun c_36 => ?_)
          refine lv_iload hx hb dL_isChain_302 (lv_at hl 4 rfl) ?_
          refine lv_if_eq (tgt := 313) hx hb dL_isChain_304 (by decide) (fun c_37 => absurd c_37 (by decide)) (fun c_37 => ?_)
          refine lv_iload hx hb dL_isChain_307 (lv_at hl 4 rfl) ?_
          refine lv_iconst (v := 4) hx hb dL_isChain_309 (by decide) ?_
          refine lv_icmp_ne (tgt := 317) hx hb dL_isChain_310 (by decide) (fun c_38 => absurd (by decide) c_38) (fun c_38 => ?_)
          refine lv_iconst (v := 1) hx hb dL_isChain_313 (by decide) ?_
          refine lv_goto (tgt := 318) hx hb dL_isChain_314 (by decide) ?_
          refine lv_iload hx hb dL_isChain_318 (lv_at hl 9 rfl) ?_
          refine neZN k (tgt := 327) hx hb rfl (by omega) dL_isChain_320 (by decide) (fun c_39 => absurd c_39 (by omega)) (fun c_39 => ?_)
          refine lv_iconst (v := 1) hx hb dL_isChain_323 (by decide) ?_
          refine lv_goto (tgt := 328) hx hb dL_isChain_324 (by decide) ?_
          refine lv_icmp_ne (tgt := 360) hx hb dL_isChain_328 (by decide) (fun c_40 => absurd (by decide) c_40) (fun c_40 => ?_)
          refine lv_iload hx hb dL_isChain_331 (lv_at hl 4 rfl) ?_
          refine lv_bipush (v := 6) hx hb dL_isChain_333 (by decide) ?_
          refine lv_icmp_ne (tgt := 356) hx hb dL_isChain_335 (by decide) (fun c_41 => ?_) (fun c_41 => absurd c_41 (by decide))
          refine lv_iconst (v := 1) hx hb dL_isChain_356 (by decide) ?_
          refine lv_goto (tgt := 361) hx hb dL_isChain_357 (by decide) ?_
          refine lv_istore (lv' := [(4, .int 1), (11, .int 3), (10, .int (nI i)), (9, .int (nI o)), (8, .int 4), (0, .ref (q 0)), (1, .int (nI P)), (2, .int (nI (mMan τ P))), (3, .int ((-1))), (5, .int (nI k))]) hx hb dL_isChain_361 hl (by decide) rfl (fun ls hl => ?_)
          refine lv_iinc (v := nI (k + 1)) (lv' := [(5, .int (nI (k + 1))), (4, .int 1), (11, .int 3), (10, .int (nI i)), (9, .int (nI o)), (8, .int 4), (0, .ref (q 0)), (1, .int (nI P)), (2, .int (nI (mMan τ P))), (3, .int ((-1)))]) hx hb dL_isChain_363 hl (k := 9) rfl (iincN k) (by decide) rfl (fun ls hl => ?_)
          refine lv_goto (tgt := 43) hx hb dL_isChain_366 (by decide) ?_
          exact ih_k (by omega) _ (lv_sub hl [6, 7, 8, 9, 1, 0] rfl)
        · skip
          have hk0 : k ≠ 0 := fun z => by have := h04.mpr z; omega
          obtain ⟨o, i, ho, hi, hoth, hits, hk2, ho2, hi2⟩ := lk_J hJ c_k (by rw [hkin]; decide)
          have hmo := hJ.1.1.2.1 o
          refine lv_aload_n hx hb dL_isChain_164 rfl (lv_at hl 1 rfl) ?_
          refine lv_iload_n hx hb dL_isChain_165 rfl (lv_at hl 2 rfl) ?_
          refine lv_iload hx hb dL_isChain_166 (lv_at hl 5 rfl) ?_
          refine lv_iconst (v := 0) hx hb dL_isChain_168 (by decide) ?_
          refine z_callE (x := 5) (vx_runV (As := [.int (nI P), .int (nI k), .int 0]) (rest := []) ⟨hx, hb, hml, hown, hts⟩ (c_X1_entry l hf D cI q (gOf τ) hq (nI P) (nI k) 0 (ok_J hJ) (hz_J hJ)) (cwV 3 hts gL_isChain_X1_entry rfl rfl rfl kd_X1_entry ⟨Nat.le_of_ble_eq_true rfl, Nat.le_of_ble_eq_true rfl⟩) (pV_P hP hK hE hX) rfl rfl hl.1 rfl (lv_room (Nat.le_of_ble_eq_true rfl)) dL_isChain_169 ⟨Nat.le_of_ble_eq_true rfl, Nat.le_of_ble_eq_true rfl⟩) (fun E9 h9 => h9.1 (congrArg Prod.fst ((vE0 hJ hPn c_k).trans (congrArg (fun z => ((0, z, gOf τ) : Nat × Int32 × SG)) (hkin))))) (fun r9 h9 => h9.2.trans (congrArg (fun z => z.2.1) ((vE0 hJ hPn c_k).trans (congrArg (fun z => ((0, z, gOf τ) : Nat × Int32 × SG)) (hkin))))) ?_
          refine lv_istore (lv' := [(8, .int 5), (4, .int 1), (0, .ref (q 0)), (1, .int (nI P)), (2, .int (nI (mMan τ P))), (3, .int ((-1))), (5, .int (nI k))]) hx hb dL_isChain_172 hl (by decide) rfl (fun ls hl => ?_)
          refine lv_aload_n hx hb dL_isChain_174 rfl (lv_at hl 2 rfl) ?_
          refine lv_iload_n hx hb dL_isChain_175 rfl (lv_at hl 3 rfl) ?_
          refine lv_iload hx hb dL_isChain_176 (lv_at hl 6 rfl) ?_
          refine lv_iconst (v := 4) hx hb dL_isChain_178 (by decide) ?_
          refine z_callE (x := nI o) (vx_runV (As := [.int (nI P), .int (nI k), .int 4]) (rest := []) ⟨hx, hb, hml, hown, hts⟩ (c_X1_entry l hf D cI q (gOf τ) hq (nI P) (nI k) 4 (ok_J hJ) (hz_J hJ)) (cwV 3 hts gL_isChain_X1_entry rfl rfl rfl kd_X1_entry ⟨Nat.le_of_ble_eq_true rfl, Nat.le_of_ble_eq_true rfl⟩) (pV_P hP hK hE hX) rfl rfl hl.1 rfl (lv_room (Nat.le_of_ble_eq_true rfl)) dL_isChain_179 ⟨Nat.le_of_ble_eq_true rfl, Nat.le_of_ble_eq_true rfl⟩) (fun E9 h9 => h9.1 (congrArg Prod.fst ((vE4 hJ hPn c_k).trans (congrArg (fun z => ((0, z, gOf τ) : Nat × Int32 × SG)) (hoth))))) (fun r9 h9 => h9.2.trans (congrArg (fun z => z.2.1) ((vE4 hJ hPn c_k).trans (congrArg (fun z => ((0, z, gOf τ) : Nat × Int32 × SG)) (hoth))))) ?_
          refine lv_istore (lv' := [(9, .int (nI o)), (8, .int 5), (4, .int 1), (0, .ref (q 0)), (1, .int (nI P)), (2, .int (nI (mMan τ P))), (3, .int ((-1))), (5, .int (nI k))]) hx hb dL_isChain_182 hl (by decide) rfl (fun ls hl => ?_)
          refine lv_aload_n hx hb dL_isChain_184 rfl (lv_at hl 3 rfl) ?_
          refine lv_iload_n hx hb dL_isChain_185 rfl (lv_at hl 4 rfl) ?_
          refine lv_iload hx hb dL_isChain_186 (lv_at hl 7 rfl) ?_
          refine lv_iconst (v := 5) hx hb dL_isChain_188 (by decide) ?_
          refine z_callE (x := nI i) (vx_runV (As := [.int (nI P), .int (nI k), .int 5]) (rest := []) ⟨hx, hb, hml, hown, hts⟩ (c_X1_entry l hf D cI q (gOf τ) hq (nI P) (nI k) 5 (ok_J hJ) (hz_J hJ)) (cwV 3 hts gL_isChain_X1_entry rfl rfl rfl kd_X1_entry ⟨Nat.le_of_ble_eq_true rfl, Nat.le_of_ble_eq_true rfl⟩) (pV_P hP hK hE hX) rfl rfl hl.1 rfl (lv_room (Nat.le_of_ble_eq_true rfl)) dL_isChain_189 ⟨Nat.le_of_ble_eq_true rfl, Nat.le_of_ble_eq_true rfl⟩) (fun E9 h9 => h9.1 (congrArg Prod.fst ((vE5 hJ hPn c_k).trans (congrArg (fun z => ((0, z, gOf τ) : Nat × Int32 × SG)) (hits))))) (fun r9 h9 => h9.2.trans (congrArg (fun z => z.2.1) ((vE5 hJ hPn c_k).trans (congrArg (fun z => ((0, z, gOf τ) : Nat × Int32 × SG)) (hits))))) ?_
          refine lv_istore (lv' := [(10, .int (nI i)), (9, .int (nI o)), (8, .int 5), (4, .int 1), (0, .ref (q 0)), (1, .int (nI P)), (2, .int (nI (mMan τ P))), (3, .int ((-1))), (5, .int (nI k))]) hx hb dL_isChain_192 hl (by decide) rfl (fun ls hl => ?_)
          refine lv_iload hx hb dL_isChain_194 (lv_at hl 2 rfl) ?_
          refine lv_iconst (v := 3) hx hb dL_isChain_196 (by decide) ?_
          refine lv_icmp_ne (tgt := 204) hx hb dL_isChain_197 (by decide) (fun c_42 => ?_) (fun c_42 => absurd c_42 (by decide))
          refine lv_iload hx hb dL_isChain_204 (lv_at hl 2 rfl) ?_
          refine lv_iconst (v := 4) hx hb dL_isChain_206 (by decide) ?_
          refine lv_icmp_ne (tgt := 214) hx hb dL_isChain_207 (by decide) (fun c_43 => ?_) (fun c_43 => absurd c_43 (by decide))
          refine lv_iload hx hb dL_isChain_214 (lv_at hl 2 rfl) ?_
          refine lv_iconst (v := 5) hx hb dL_isChain_216 (by decide) ?_
          refine lv_icmp_ne (tgt := 225) hx hb dL_isChain_217 (by decide) (fun c_44 => absurd (by decide) c_44) (fun c_44 => ?_)
          refine lv_bipush (v := 6) hx hb dL_isChain_220 (by decide) ?_
          refine lv_goto (tgt := 237) hx hb dL_isChain_222 (by decide) ?_
          refine lv_istore (lv' := [(11, .int 6), (10, .int (nI i)), (9, .int (nI o)), (8, .int 5), (4, .int 1), (0, .ref (q 0)), (1, .int (nI P)), (2, .int (nI (mMan τ P))), (3, .int ((-1))), (5, .int (nI k))]) hx hb dL_isChain_237 hl (by decide) rfl (fun ls hl => ?_)
          refine lv_iload hx hb dL_isChain_239 (lv_at hl 4 rfl) ?_
          refine lv_if_eq (tgt := 294) hx hb dL_isChain_241 (by decide) (fun c_45 => absurd c_45 (by decide)) (fun c_45 => ?_)
          refine lv_iload hx hb dL_isChain_244 (lv_at hl 0 rfl) ?_
          refine lv_if_lt (tgt := 290) hx hb dL_isChain_246 (by decide) (fun c_46 => absurd c_46 (by decide)) (fun c_46 => ?_)
          refine lv_aload_n hx hb dL_isChain_249 rfl (lv_at hl 5 rfl) ?_
          refine lv_iload hx hb dL_isChain_250 (lv_at hl 2 rfl) ?_
          refine lv_iload hx hb dL_isChain_252 (lv_at hl 1 rfl) ?_
          refine lv_iconst (v := 0) hx hb dL_isChain_254 (by decide) ?_
          refine z_callE (x := 6) (vx_runV (As := [.int (nI o), .int (nI i), .int 0]) (rest := []) ⟨hx, hb, hml, hown, hts⟩ (c_X1_entry l hf D cI q (gOf τ) hq (nI o) (nI i) 0 (ok_J hJ) (hz_J hJ)) (cwV 3 hts gL_isChain_X1_entry rfl rfl rfl kd_X1_entry ⟨Nat.le_of_ble_eq_true rfl, Nat.le_of_ble_eq_true rfl⟩) (pV_P hP hK hE hX) rfl rfl hl.1 rfl (lv_room (Nat.le_of_ble_eq_true rfl)) dL_isChain_255 ⟨Nat.le_of_ble_eq_true rfl, Nat.le_of_ble_eq_true rfl⟩) (fun E9 h9 => h9.1 (congrArg Prod.fst ((vE0 hJ ho hi).trans (congrArg (fun z => ((0, z, gOf τ) : Nat × Int32 × SG)) (hk2.trans (show dueF _ = 6 by rw [hkin]; decide)))))) (fun r9 h9 => h9.2.trans (congrArg (fun z => z.2.1) ((vE0 hJ ho hi).trans (congrArg (fun z => ((0, z, gOf τ) : Nat × Int32 × SG)) (hk2.trans (show dueF _ = 6 by rw [hkin]; decide)))))) ?_
          refine lv_iload hx hb dL_isChain_258 (lv_at hl 0 rfl) ?_
          refine lv_icmp_ne (tgt := 294) hx hb dL_isChain_260 (by decide) (fun c_47 => absurd (by decide) c_47) (fun c_47 => ?_)
          refine lv_aload_n hx hb dL_isChain_263 rfl (lv_at hl 5 rfl) ?_
          refine lv_iload hx hb dL_isChain_264 (lv_at hl 2 rfl) ?_
          refine lv_iload hx hb dL_isChain_266 (lv_at hl 1 rfl) ?_
          refine lv_iconst (v := 4) hx hb dL_isChain_268 (by decide) ?_
          refine z_callE (x := nI P) (vx_runV (As := [.int (nI o), .int (nI i), .int 4]) (rest := []) ⟨hx, hb, hml, hown, hts⟩ (c_X1_entry l hf D cI q (gOf τ) hq (nI o) (nI i) 4 (ok_J hJ) (hz_J hJ)) (cwV 3 hts gL_isChain_X1_entry rfl rfl rfl kd_X1_entry ⟨Nat.le_of_ble_eq_true rfl, Nat.le_of_ble_eq_true rfl⟩) (pV_P hP hK hE hX) rfl rfl hl.1 rfl (lv_room (Nat.le_of_ble_eq_true rfl)) dL_isChain_269 ⟨Nat.le_of_ble_eq_true rfl, Nat.le_of_ble_eq_true rfl⟩) (fun E9 h9 => h9.1 (congrArg Prod.fst ((vE4 hJ ho hi).trans (congrArg (fun z => ((0, z, gOf τ) : Nat × Int32 × SG)) (ho2))))) (fun r9 h9 => h9.2.trans (congrArg (fun z => z.2.1) ((vE4 hJ ho hi).trans (congrArg (fun z => ((0, z, gOf τ) : Nat × Int32 × SG)) (ho2))))) ?_
          refine lv_iload_n hx hb dL_isChain_272 rfl (lv_at hl 6 rfl) ?_
          refine neN P P (tgt := 294) hx hb rfl rfl (by omega) (by omega) dL_isChain_273 (by decide) (fun c_48 => absurd c_48 (by omega)) (fun c_48 => ?_)
          refine lv_aload_n hx hb dL_isChain_276 rfl (lv_at hl 5 rfl) ?_
          refine lv_iload hx hb dL_isChain_277 (lv_at hl 2 rfl) ?_
          refine lv_iload hx hb dL_isChain_279 (lv_at hl 1 rfl) ?_
          refine lv_iconst (v := 5) hx hb dL_isChain_281 (by decide) ?_
          refine z_callE (x := nI k) (vx_runV (As := [.int (nI o), .int (nI i), .int 5]) (rest := []) ⟨hx, hb, hml, hown, hts⟩ (c_X1_entry l hf D cI q (gOf τ) hq (nI o) (nI i) 5 (ok_J hJ) (hz_J hJ)) (cwV 3 hts gL_isChain_X1_entry rfl rfl rfl kd_X1_entry ⟨Nat.le_of_ble_eq_true rfl, Nat.le_of_ble_eq_true rfl⟩) (pV_P hP hK hE hX) rfl rfl hl.1 rfl (lv_room (Nat.le_of_ble_eq_true rfl)) dL_isChain_282 ⟨Nat.le_of_ble_eq_true rfl, Nat.le_of_ble_eq_true rfl⟩) (fun E9 h9 => h9.1 (congrArg Prod.fst ((vE5 hJ ho hi).trans (congrArg (fun z => ((0, z, gOf τ) : Nat × Int32 × SG)) (hi2))))) (fun r9 h9 => h9.2.trans (congrArg (fun z => z.2.1) ((vE5 hJ ho hi).trans (congrArg (fun z => ((0, z, gOf τ) : Nat × Int32 × SG)) (hi2))))) ?_
          refine lv_iload hx hb dL_isChain_285 (lv_at hl 9 rfl) ?_
          refine neN k k (tgt := 294) hx hb rfl rfl (by omega) (by omega) dL_isChain_287 (by decide) (fun c_49 => absurd c_49 (by omega)) (fun c_49 => ?_)
          refine lv_iconst (v := 1) hx hb dL_isChain_290 (by decide) ?_
          refine lv_goto (tgt := 295) hx hb dL_isChain_291 (by decide) ?_
          refine lv_istore (lv' := [(4, .int 1), (11, .int 6), (10, .int (nI i)), (9, .int (nI o)), (8, .int 5), (0, .ref (q 0)), (1, .int (nI P)), (2, .int (nI (mMan τ P))), (3, .int ((-1))), (5, .int (nI k))]) hx hb dL_isChain_295 hl (by decide) rfl (fun ls hl => ?_)
          refine lv_iload hx hb dL_isChain_297 (lv_at hl 0 rfl) ?_
          refine lv_if_eq (tgt := 360) hx hb dL_isChain_299 (by decide) (fun c_50 => absurd c_50 (by decide)) (fun c_50 => ?_)
          refine lv_iload hx hb dL_isChain_302 (lv_at hl 4 rfl) ?_
          refine lv_if_eq (tgt := 313) hx hb dL_isChain_304 (by decide) (fun c_51 => absurd c_51 (by decide)) (fun c_51 => ?_)
          refine lv_iload hx hb dL_isChain_307 (lv_at hl 4 rfl) ?_
          refine lv_iconst (v := 4) hx hb dL_isChain_309 (by decide) ?_
          refine lv_icmp_ne (tgt := 317) hx hb dL_isChain_310 (by decide) (fun c_52 => ?_) (fun c_52 => absurd c_52 (by decide))
          refine lv_iconst (v := 0) hx hb dL_isChain_317 (by decide) ?_
          refine lv_iload hx hb dL_isChain_318 (lv_at hl 9 rfl) ?_
          refine neZN k (tgt := 327) hx hb rfl (by omega) dL_isChain_320 (by decide) (fun c_53 => ?_) (fun c_53 => absurd c_53 (by omega))
          refine lv_iconst (v := 0) hx hb dL_isChain_327 (by decide) ?_
          refine lv_icmp_ne (tgt := 360) hx hb dL_isChain_328 (by decide) (fun c_54 => absurd (by decide) c_54) (fun c_54 => ?_)
          refine lv_iload hx hb dL_isChain_331 (lv_at hl 4 rfl) ?_
          refine lv_bipush (v := 6) hx hb dL_isChain_333 (by decide) ?_
          refine lv_icmp_ne (tgt := 356) hx hb dL_isChain_335 (by decide) (fun c_55 => ?_) (fun c_55 => absurd c_55 (by decide))
          refine lv_iconst (v := 1) hx hb dL_isChain_356 (by decide) ?_
          refine lv_goto (tgt := 361) hx hb dL_isChain_357 (by decide) ?_
          refine lv_istore (lv' := [(4, .int 1), (11, .int 6), (10, .int (nI i)), (9, .int (nI o)), (8, .int 5), (0, .ref (q 0)), (1, .int (nI P)), (2, .int (nI (mMan τ P))), (3, .int ((-1))), (5, .int (nI k))]) hx hb dL_isChain_361 hl (by decide) rfl (fun ls hl => ?_)
          refine lv_iinc (v := nI (k + 1)) (lv' := [(5, .int (nI (k + 1))), (4, .int 1), (11, .int 6), (10, .int (nI i)), (9, .int (nI o)), (8, .int 5), (0, .ref (q 0)), (1, .int (nI P)), (2, .int (nI (mMan τ P))), (3, .int ((-1)))]) hx hb dL_isChain_363 hl (k := 9) rfl (iincN k) (by decide) rfl (fun ls hl => ?_)
          refine lv_goto (tgt := 43) hx hb dL_isChain_366 (by decide) ?_
          exact ih_k (by omega) _ (lv_sub hl [6, 7, 8, 9, 1, 0] rfl)
        · skip
          have hk0 : k ≠ 0 := fun z => by have := h04.mpr z; omega
          obtain ⟨o, i, ho, hi, hoth, hits, hk2, ho2, hi2⟩ := lk_J hJ c_k (by rw [hkin]; decide)
          have hmo := hJ.1.1.2.1 o
          obtain ⟨h61, h62⟩ := h6 rfl
          refine lv_aload_n hx hb dL_isChain_164 rfl (lv_at hl 1 rfl) ?_
          refine lv_iload_n hx hb dL_isChain_165 rfl (lv_at hl 2 rfl) ?_
          refine lv_iload hx hb dL_isChain_166 (lv_at hl 5 rfl) ?_
          refine lv_iconst (v := 0) hx hb dL_isChain_168 (by decide) ?_
          refine z_callE (x := 6) (vx_runV (As := [.int (nI P), .int (nI k), .int 0]) (rest := []) ⟨hx, hb, hml, hown, hts⟩ (c_X1_entry l hf D cI q (gOf τ) hq (nI P) (nI k) 0 (ok_J hJ) (hz_J hJ)) (cwV 3 hts gL_isChain_X1_entry rfl rfl rfl kd_X1_entry ⟨Nat.le_of_ble_eq_true rfl, Nat.le_of_ble_eq_true rfl⟩) (pV_P hP hK hE hX) rfl rfl hl.1 rfl (lv_room (Nat.le_of_ble_eq_true rfl)) dL_isChain_169 ⟨Nat.le_of_ble_eq_true rfl, Nat.le_of_ble_eq_true rfl⟩) (fun E9 h9 => h9.1 (congrArg Prod.fst ((vE0 hJ hPn c_k).trans (congrArg (fun z => ((0, z, gOf τ) : Nat × Int32 × SG)) (hkin))))) (fun r9 h9 => h9.2.trans (congrArg (fun z => z.2.1) ((vE0 hJ hPn c_k).trans (congrArg (fun z => ((0, z, gOf τ) : Nat × Int32 × SG)) (hkin))))) ?_
          refine lv_istore (lv' := [(8, .int 6), (4, .int 1), (0, .ref (q 0)), (1, .int (nI P)), (2, .int (nI (mMan τ P))), (3, .int ((-1))), (5, .int (nI k))]) hx hb dL_isChain_172 hl (by decide) rfl (fun ls hl => ?_)
          refine lv_aload_n hx hb dL_isChain_174 rfl (lv_at hl 2 rfl) ?_
          refine lv_iload_n hx hb dL_isChain_175 rfl (lv_at hl 3 rfl) ?_
          refine lv_iload hx hb dL_isChain_176 (lv_at hl 6 rfl) ?_
          refine lv_iconst (v := 4) hx hb dL_isChain_178 (by decide) ?_
          refine z_callE (x := nI o) (vx_runV (As := [.int (nI P), .int (nI k), .int 4]) (rest := []) ⟨hx, hb, hml, hown, hts⟩ (c_X1_entry l hf D cI q (gOf τ) hq (nI P) (nI k) 4 (ok_J hJ) (hz_J hJ)) (cwV 3 hts gL_isChain_X1_entry rfl rfl rfl kd_X1_entry ⟨Nat.le_of_ble_eq_true rfl, Nat.le_of_ble_eq_true rfl⟩) (pV_P hP hK hE hX) rfl rfl hl.1 rfl (lv_room (Nat.le_of_ble_eq_true rfl)) dL_isChain_179 ⟨Nat.le_of_ble_eq_true rfl, Nat.le_of_ble_eq_true rfl⟩) (fun E9 h9 => h9.1 (congrArg Prod.fst ((vE4 hJ hPn c_k).trans (congrArg (fun z => ((0, z, gOf τ) : Nat × Int32 × SG)) (hoth))))) (fun r9 h9 => h9.2.trans (congrArg (fun z => z.2.1) ((vE4 hJ hPn c_k).trans (congrArg (fun z => ((0, z, gOf τ) : Nat × Int32 × SG)) (hoth))))) ?_
          refine lv_istore (lv' := [(9, .int (nI o)), (8, .int 6), (4, .int 1), (0, .ref (q 0)), (1, .int (nI P)), (2, .int (nI (mMan τ P))), (3, .int ((-1))), (5, .int (nI k))]) hx hb dL_isChain_182 hl (by decide) rfl (fun ls hl => ?_)
          refine lv_aload_n hx hb dL_isChain_184 rfl (lv_at hl 3 rfl) ?_
          refine lv_iload_n hx hb dL_isChain_185 rfl (lv_at hl 4 rfl) ?_
          refine lv_iload hx hb dL_isChain_186 (lv_at hl 7 rfl) ?_
          refine lv_iconst (v := 5) hx hb dL_isChain_188 (by decide) ?_
          refine z_callE (x := nI i) (vx_runV (As := [.int (nI P), .int (nI k), .int 5]) (rest := []) ⟨hx, hb, hml, hown, hts⟩ (c_X1_entry l hf D cI q (gOf τ) hq (nI P) (nI k) 5 (ok_J hJ) (hz_J hJ)) (cwV 3 hts gL_isChain_X1_entry rfl rfl rfl kd_X1_entry ⟨Nat.le_of_ble_eq_true rfl, Nat.le_of_ble_eq_true rfl⟩) (pV_P hP hK hE hX) rfl rfl hl.1 rfl (lv_room (Nat.le_of_ble_eq_true rfl)) dL_isChain_189 ⟨Nat.le_of_ble_eq_true rfl, Nat.le_of_ble_eq_true rfl⟩) (fun E9 h9 => h9.1 (congrArg Prod.fst ((vE5 hJ hPn c_k).trans (congrArg (fun z => ((0, z, gOf τ) : Nat × Int32 × SG)) (hits))))) (fun r9 h9 => h9.2.trans (congrArg (fun z => z.2.1) ((vE5 hJ hPn c_k).trans (congrArg (fun z => ((0, z, gOf τ) : Nat × Int32 × SG)) (hits))))) ?_
          refine lv_istore (lv' := [(10, .int (nI i)), (9, .int (nI o)), (8, .int 6), (4, .int 1), (0, .ref (q 0)), (1, .int (nI P)), (2, .int (nI (mMan τ P))), (3, .int ((-1))), (5, .int (nI k))]) hx hb dL_isChain_192 hl (by decide) rfl (fun ls hl => ?_)
          refine lv_iload hx hb dL_isChain_194 (lv_at hl 2 rfl) ?_
          refine lv_iconst (v := 3) hx hb dL_isChain_196 (by decide) ?_
          refine lv_icmp_ne (tgt := 204) hx hb dL_isChain_197 (by decide) (fun c_56 => ?_) (fun c_56 => absurd c_56 (by decide))
          refine lv_iload hx hb dL_isChain_204 (lv_at hl 2 rfl) ?_
          refine lv_iconst (v := 4) hx hb dL_isChain_206 (by decide) ?_
          refine lv_icmp_ne (tgt := 214) hx hb dL_isChain_207 (by decide) (fun c_57 => ?_) (fun c_57 => absurd c_57 (by decide))
          refine lv_iload hx hb dL_isChain_214 (lv_at hl 2 rfl) ?_
          refine lv_iconst (v := 5) hx hb dL_isChain_216 (by decide) ?_
          refine lv_icmp_ne (tgt := 225) hx hb dL_isChain_217 (by decide) (fun c_58 => ?_) (fun c_58 => absurd c_58 (by decide))
          refine lv_iload hx hb dL_isChain_225 (lv_at hl 2 rfl) ?_
          refine lv_bipush (v := 6) hx hb dL_isChain_227 (by decide) ?_
          refine lv_icmp_ne (tgt := 236) hx hb dL_isChain_229 (by decide) (fun c_59 => absurd (by decide) c_59) (fun c_59 => ?_)
          refine lv_iconst (v := 5) hx hb dL_isChain_232 (by decide) ?_
          refine lv_goto (tgt := 237) hx hb dL_isChain_233 (by decide) ?_
          refine lv_istore (lv' := [(11, .int 5), (10, .int (nI i)), (9, .int (nI o)), (8, .int 6), (4, .int 1), (0, .ref (q 0)), (1, .int (nI P)), (2, .int (nI (mMan τ P))), (3, .int ((-1))), (5, .int (nI k))]) hx hb dL_isChain_237 hl (by decide) rfl (fun ls hl => ?_)
          refine lv_iload hx hb dL_isChain_239 (lv_at hl 4 rfl) ?_
          refine lv_if_eq (tgt := 294) hx hb dL_isChain_241 (by decide) (fun c_60 => absurd c_60 (by decide)) (fun c_60 => ?_)
          refine lv_iload hx hb dL_isChain_244 (lv_at hl 0 rfl) ?_
          refine lv_if_lt (tgt := 290) hx hb dL_isChain_246 (by decide) (fun c_61 => absurd c_61 (by decide)) (fun c_61 => ?_)
          refine lv_aload_n hx hb dL_isChain_249 rfl (lv_at hl 5 rfl) ?_
          refine lv_iload hx hb dL_isChain_250 (lv_at hl 2 rfl) ?_
          refine lv_iload hx hb dL_isChain_252 (lv_at hl 1 rfl) ?_
          refine lv_iconst (v := 0) hx hb dL_isChain_254 (by decide) ?_
          refine z_callE (x := 5) (vx_runV (As := [.int (nI o), .int (nI i), .int 0]) (rest := []) ⟨hx, hb, hml, hown, hts⟩ (c_X1_entry l hf D cI q (gOf τ) hq (nI o) (nI i) 0 (ok_J hJ) (hz_J hJ)) (cwV 3 hts gL_isChain_X1_entry rfl rfl rfl kd_X1_entry ⟨Nat.le_of_ble_eq_true rfl, Nat.le_of_ble_eq_true rfl⟩) (pV_P hP hK hE hX) rfl rfl hl.1 rfl (lv_room (Nat.le_of_ble_eq_true rfl)) dL_isChain_255 ⟨Nat.le_of_ble_eq_true rfl, Nat.le_of_ble_eq_true rfl⟩) (fun E9 h9 => h9.1 (congrArg Prod.fst ((vE0 hJ ho hi).trans (congrArg (fun z => ((0, z, gOf τ) : Nat × Int32 × SG)) (hk2.trans (show dueF _ = 5 by rw [hkin]; decide)))))) (fun r9 h9 => h9.2.trans (congrArg (fun z => z.2.1) ((vE0 hJ ho hi).trans (congrArg (fun z => ((0, z, gOf τ) : Nat × Int32 × SG)) (hk2.trans (show dueF _ = 5 by rw [hkin]; decide)))))) ?_
          refine lv_iload hx hb dL_isChain_258 (lv_at hl 0 rfl) ?_
          refine lv_icmp_ne (tgt := 294) hx hb dL_isChain_260 (by decide) (fun c_62 => absurd (by decide) c_62) (fun c_62 => ?_)
          refine lv_aload_n hx hb dL_isChain_263 rfl (lv_at hl 5 rfl) ?_
          refine lv_iload hx hb dL_isChain_264 (lv_at hl 2 rfl) ?_
          refine lv_iload hx hb dL_isChain_266 (lv_at hl 1 rfl) ?_
          refine lv_iconst (v := 4) hx hb dL_isChain_268 (by decide) ?_
          refine z_callE (x := nI P) (vx_runV (As := [.int (nI o), .int (nI i), .int 4]) (rest := []) ⟨hx, hb, hml, hown, hts⟩ (c_X1_entry l hf D cI q (gOf τ) hq (nI o) (nI i) 4 (ok_J hJ) (hz_J hJ)) (cwV 3 hts gL_isChain_X1_entry rfl rfl rfl kd_X1_entry ⟨Nat.le_of_ble_eq_true rfl, Nat.le_of_ble_eq_true rfl⟩) (pV_P hP hK hE hX) rfl rfl hl.1 rfl (lv_room (Nat.le_of_ble_eq_true rfl)) dL_isChain_269 ⟨Nat.le_of_ble_eq_true rfl, Nat.le_of_ble_eq_true rfl⟩) (fun E9 h9 => h9.1 (congrArg Prod.fst ((vE4 hJ ho hi).trans (congrArg (fun z => ((0, z, gOf τ) : Nat × Int32 × SG)) (ho2))))) (fun r9 h9 => h9.2.trans (congrArg (fun z => z.2.1) ((vE4 hJ ho hi).trans (congrArg (fun z => ((0, z, gOf τ) : Nat × Int32 × SG)) (ho2))))) ?_
          refine lv_iload_n hx hb dL_isChain_272 rfl (lv_at hl 6 rfl) ?_
          refine neN P P (tgt := 294) hx hb rfl rfl (by omega) (by omega) dL_isChain_273 (by decide) (fun c_63 => absurd c_63 (by omega)) (fun c_63 => ?_)
          refine lv_aload_n hx hb dL_isChain_276 rfl (lv_at hl 5 rfl) ?_
          refine lv_iload hx hb dL_isChain_277 (lv_at hl 2 rfl) ?_
          refine lv_iload hx hb dL_isChain_279 (lv_at hl 1 rfl) ?_
          refine lv_iconst (v := 5) hx hb dL_isChain_281 (by decide) ?_
          refine z_callE (x := nI k) (vx_runV (As := [.int (nI o), .int (nI i), .int 5]) (rest := []) ⟨hx, hb, hml, hown, hts⟩ (c_X1_entry l hf D cI q (gOf τ) hq (nI o) (nI i) 5 (ok_J hJ) (hz_J hJ)) (cwV 3 hts gL_isChain_X1_entry rfl rfl rfl kd_X1_entry ⟨Nat.le_of_ble_eq_true rfl, Nat.le_of_ble_eq_true rfl⟩) (pV_P hP hK hE hX) rfl rfl hl.1 rfl (lv_room (Nat.le_of_ble_eq_true rfl)) dL_isChain_282 ⟨Nat.le_of_ble_eq_true rfl, Nat.le_of_ble_eq_true rfl⟩) (fun E9 h9 => h9.1 (congrArg Prod.fst ((vE5 hJ ho hi).trans (congrArg (fun z => ((0, z, gOf τ) : Nat × Int32 × SG)) (hi2))))) (fun r9 h9 => h9.2.trans (congrArg (fun z => z.2.1) ((vE5 hJ ho hi).trans (congrArg (fun z => ((0, z, gOf τ) : Nat × Int32 × SG)) (hi2))))) ?_
          refine lv_iload hx hb dL_isChain_285 (lv_at hl 9 rfl) ?_
          refine neN k k (tgt := 294) hx hb rfl rfl (by omega) (by omega) dL_isChain_287 (by decide) (fun c_64 => absurd c_64 (by omega)) (fun c_64 => ?_)
          refine lv_iconst (v := 1) hx hb dL_isChain_290 (by decide) ?_
          refine lv_goto (tgt := 295) hx hb dL_isChain_291 (by decide) ?_
          refine lv_istore (lv' := [(4, .int 1), (11, .int 5), (10, .int (nI i)), (9, .int (nI o)), (8, .int 6), (0, .ref (q 0)), (1, .int (nI P)), (2, .int (nI (mMan τ P))), (3, .int ((-1))), (5, .int (nI k))]) hx hb dL_isChain_295 hl (by decide) rfl (fun ls hl => ?_)
          refine lv_iload hx hb dL_isChain_297 (lv_at hl 0 rfl) ?_
          refine lv_if_eq (tgt := 360) hx hb dL_isChain_299 (by decide) (fun c_65 => absurd c_65 (by decide)) (fun c_65 => ?_)
          refine lv_iload hx hb dL_isChain_302 (lv_at hl 4 rfl) ?_
          refine lv_if_eq (tgt := 313) hx hb dL_isChain_304 (by decide) (fun c_66 => absurd c_66 (by decide)) (fun c_66 => ?_)
          refine lv_iload hx hb dL_isChain_307 (lv_at hl 4 rfl) ?_
          refine lv_iconst (v := 4) hx hb dL_isChain_309 (by decide) ?_
          refine lv_icmp_ne (tgt := 317) hx hb dL_isChain_310 (by decide) (fun c_67 => ?_) (fun c_67 => absurd c_67 (by decide))
          refine lv_iconst (v := 0) hx hb dL_isChain_317 (by decide) ?_
          refine lv_iload hx hb dL_isChain_318 (lv_at hl 9 rfl) ?_
          refine neZN k (tgt := 327) hx hb rfl (by omega) dL_isChain_320 (by decide) (fun c_68 => ?_) (fun c_68 => absurd c_68 (by omega))
          refine lv_iconst (v := 0) hx hb dL_isChain_327 (by decide) ?_
          refine lv_icmp_ne (tgt := 360) hx hb dL_isChain_328 (by decide) (fun c_69 => absurd (by decide) c_69) (fun c_69 => ?_)
          refine lv_iload hx hb dL_isChain_331 (lv_at hl 4 rfl) ?_
          refine lv_bipush (v := 6) hx hb dL_isChain_333 (by decide) ?_
          refine lv_icmp_ne (tgt := 356) hx hb dL_isChain_335 (by decide) (fun c_70 => absurd (by decide) c_70) (fun c_70 => ?_)
          refine lv_iload hx hb dL_isChain_338 (lv_at hl 9 rfl) ?_
          refine lv_iload_n hx hb dL_isChain_340 rfl (lv_at hl 7 rfl) ?_
          refine lv_iconst (v := 1) hx hb dL_isChain_341 (by decide) ?_
          refine lv_isub hx hb dL_isChain_342 ?_
          refine lv_topE (y := nI (mMan τ P - 1)) ((show nI (mMan τ P) - nI 1 = nI (mMan τ P - 1) from pk_sub (by omega))) ?_
          refine neN k (mMan τ P - 1) (tgt := 360) hx hb rfl rfl (by omega) (by omega) dL_isChain_343 (by decide) (fun c_71 => absurd c_71 (by omega)) (fun c_71 => ?_)
          refine lv_aload_n hx hb dL_isChain_346 rfl (lv_at hl 5 rfl) ?_
          refine lv_iload_n hx hb dL_isChain_347 rfl (lv_at hl 6 rfl) ?_
          refine lv_iconst (v := 4) hx hb dL_isChain_348 (by decide) ?_
          refine z_callE (x := 1) (vx_runV (As := [.int (nI P), .int 4]) (rest := []) ⟨hx, hb, hml, hown, hts⟩ (c_X1_pallet l hf D cI q (gOf τ) hq (nI P) 4 (ok_J hJ) (hz_J hJ)) (cwV 2 hts gL_isChain_X1_pallet rfl rfl rfl kd_X1_pallet ⟨Nat.le_of_ble_eq_true rfl, Nat.le_of_ble_eq_true rfl⟩) (pV_P hP hK hE hX) rfl rfl hl.1 rfl (lv_room (Nat.le_of_ble_eq_true rfl)) dL_isChain_349 ⟨Nat.le_of_ble_eq_true rfl, Nat.le_of_ble_eq_true rfl⟩) (fun E9 h9 => h9.1 (congrArg Prod.fst ((vP4 hJ hPn).trans (congrArg (fun z => ((0, z, gOf τ) : Nat × Int32 × SG)) ((by rw [h62]; rfl : bI (mGon τ P) = 1)))))) (fun r9 h9 => h9.2.trans (congrArg (fun z => z.2.1) ((vP4 hJ hPn).trans (congrArg (fun z => ((0, z, gOf τ) : Nat × Int32 × SG)) ((by rw [h62]; rfl : bI (mGon τ P) = 1)))))) ?_
          refine lv_iconst (v := 1) hx hb dL_isChain_352 (by decide) ?_
          refine lv_icmp_ne (tgt := 360) hx hb dL_isChain_353 (by decide) (fun c_72 => absurd (by decide) c_72) (fun c_72 => ?_)
          refine lv_iconst (v := 1) hx hb dL_isChain_356 (by decide) ?_
          refine lv_goto (tgt := 361) hx hb dL_isChain_357 (by decide) ?_
          refine lv_istore (lv' := [(4, .int 1), (11, .int 5), (10, .int (nI i)), (9, .int (nI o)), (8, .int 6), (0, .ref (q 0)), (1, .int (nI P)), (2, .int (nI (mMan τ P))), (3, .int ((-1))), (5, .int (nI k))]) hx hb dL_isChain_361 hl (by decide) rfl (fun ls hl => ?_)
          refine lv_iinc (v := nI (k + 1)) (lv' := [(5, .int (nI (k + 1))), (4, .int 1), (11, .int 5), (10, .int (nI i)), (9, .int (nI o)), (8, .int 6), (0, .ref (q 0)), (1, .int (nI P)), (2, .int (nI (mMan τ P))), (3, .int ((-1)))]) hx hb dL_isChain_363 hl (k := 9) rfl (iincN k) (by decide) rfl (fun ls hl => ?_)
          refine lv_goto (tgt := 43) hx hb dL_isChain_366 (by decide) ?_
          exact ih_k (by omega) _ (lv_sub hl [6, 7, 8, 9, 1, 0] rfl)
        · skip
          have hk0 : k ≠ 0 := fun z => by have := h04.mpr z; omega
          refine lv_aload_n hx hb dL_isChain_164 rfl (lv_at hl 1 rfl) ?_
          refine lv_iload_n hx hb dL_isChain_165 rfl (lv_at hl 2 rfl) ?_
          refine lv_iload hx hb dL_isChain_166 (lv_at hl 5 rfl) ?_
          refine lv_iconst (v := 0) hx hb dL_isChain_168 (by decide) ?_
          refine z_callE (x := nI kd) (vx_runV (As := [.int (nI P), .int (nI k), .int 0]) (rest := []) ⟨hx, hb, hml, hown, hts⟩ (c_X1_entry l hf D cI q (gOf τ) hq (nI P) (nI k) 0 (ok_J hJ) (hz_J hJ)) (cwV 3 hts gL_isChain_X1_entry rfl rfl rfl kd_X1_entry ⟨Nat.le_of_ble_eq_true rfl, Nat.le_of_ble_eq_true rfl⟩) (pV_P hP hK hE hX) rfl rfl hl.1 rfl (lv_room (Nat.le_of_ble_eq_true rfl)) dL_isChain_169 ⟨Nat.le_of_ble_eq_true rfl, Nat.le_of_ble_eq_true rfl⟩) (fun E9 h9 => h9.1 (congrArg Prod.fst ((vE0 hJ hPn c_k).trans (congrArg (fun z => ((0, z, gOf τ) : Nat × Int32 × SG)) (hkin))))) (fun r9 h9 => h9.2.trans (congrArg (fun z => z.2.1) ((vE0 hJ hPn c_k).trans (congrArg (fun z => ((0, z, gOf τ) : Nat × Int32 × SG)) (hkin))))) ?_
          refine lv_istore (lv' := [(8, .int (nI kd)), (4, .int 1), (0, .ref (q 0)), (1, .int (nI P)), (2, .int (nI (mMan τ P))), (3, .int ((-1))), (5, .int (nI k))]) hx hb dL_isChain_172 hl (by decide) rfl (fun ls hl => ?_)
          refine lv_aload_n hx hb dL_isChain_174 rfl (lv_at hl 2 rfl) ?_
          refine lv_iload_n hx hb dL_isChain_175 rfl (lv_at hl 3 rfl) ?_
          refine lv_iload hx hb dL_isChain_176 (lv_at hl 6 rfl) ?_
          refine lv_iconst (v := 4) hx hb dL_isChain_178 (by decide) ?_
          refine z_callE (x := mOth τ (P * 30 + k)) (vx_runV (As := [.int (nI P), .int (nI k), .int 4]) (rest := []) ⟨hx, hb, hml, hown, hts⟩ (c_X1_entry l hf D cI q (gOf τ) hq (nI P) (nI k) 4 (ok_J hJ) (hz_J hJ)) (cwV 3 hts gL_isChain_X1_entry rfl rfl rfl kd_X1_entry ⟨Nat.le_of_ble_eq_true rfl, Nat.le_of_ble_eq_true rfl⟩) (pV_P hP hK hE hX) rfl rfl hl.1 rfl (lv_room (Nat.le_of_ble_eq_true rfl)) dL_isChain_179 ⟨Nat.le_of_ble_eq_true rfl, Nat.le_of_ble_eq_true rfl⟩) (fun E9 h9 => h9.1 (congrArg Prod.fst (vE4 hJ hPn c_k))) (fun r9 h9 => h9.2.trans (congrArg (fun z => z.2.1) (vE4 hJ hPn c_k))) ?_
          refine lv_istore (lv' := [(9, .int (mOth τ (P * 30 + k))), (8, .int (nI kd)), (4, .int 1), (0, .ref (q 0)), (1, .int (nI P)), (2, .int (nI (mMan τ P))), (3, .int ((-1))), (5, .int (nI k))]) hx hb dL_isChain_182 hl (by decide) rfl (fun ls hl => ?_)
          refine lv_aload_n hx hb dL_isChain_184 rfl (lv_at hl 3 rfl) ?_
          refine lv_iload_n hx hb dL_isChain_185 rfl (lv_at hl 4 rfl) ?_
          refine lv_iload hx hb dL_isChain_186 (lv_at hl 7 rfl) ?_
          refine lv_iconst (v := 5) hx hb dL_isChain_188 (by decide) ?_
          refine z_callE (x := mIts τ (P * 30 + k)) (vx_runV (As := [.int (nI P), .int (nI k), .int 5]) (rest := []) ⟨hx, hb, hml, hown, hts⟩ (c_X1_entry l hf D cI q (gOf τ) hq (nI P) (nI k) 5 (ok_J hJ) (hz_J hJ)) (cwV 3 hts gL_isChain_X1_entry rfl rfl rfl kd_X1_entry ⟨Nat.le_of_ble_eq_true rfl, Nat.le_of_ble_eq_true rfl⟩) (pV_P hP hK hE hX) rfl rfl hl.1 rfl (lv_room (Nat.le_of_ble_eq_true rfl)) dL_isChain_189 ⟨Nat.le_of_ble_eq_true rfl, Nat.le_of_ble_eq_true rfl⟩) (fun E9 h9 => h9.1 (congrArg Prod.fst (vE5 hJ hPn c_k))) (fun r9 h9 => h9.2.trans (congrArg (fun z => z.2.1) (vE5 hJ hPn c_k))) ?_
          refine lv_istore (lv' := [(10, .int (mIts τ (P * 30 + k))), (9, .int (mOth τ (P * 30 + k))), (8, .int (nI kd)), (4, .int 1), (0, .ref (q 0)), (1, .int (nI P)), (2, .int (nI (mMan τ P))), (3, .int ((-1))), (5, .int (nI k))]) hx hb dL_isChain_192 hl (by decide) rfl (fun ls hl => ?_)
          refine lv_iload hx hb dL_isChain_194 (lv_at hl 2 rfl) ?_
          refine lv_iconst (v := 3) hx hb dL_isChain_196 (by decide) ?_
          refine neN kd 3 (tgt := 204) hx hb rfl rfl (by omega) (by omega) dL_isChain_197 (by decide) (fun c_73 => ?_) (fun c_73 => absurd c_73 (by omega))
          refine lv_iload hx hb dL_isChain_204 (lv_at hl 2 rfl) ?_
          refine lv_iconst (v := 4) hx hb dL_isChain_206 (by decide) ?_
          refine neN kd 4 (tgt := 214) hx hb rfl rfl (by omega) (by omega) dL_isChain_207 (by decide) (fun c_74 => ?_) (fun c_74 => absurd c_74 (by omega))
          refine lv_iload hx hb dL_isChain_214 (lv_at hl 2 rfl) ?_
          refine lv_iconst (v := 5) hx hb dL_isChain_216 (by decide) ?_
          refine neN kd 5 (tgt := 225) hx hb rfl rfl (by omega) (by omega) dL_isChain_217 (by decide) (fun c_75 => ?_) (fun c_75 => absurd c_75 (by omega))
          refine lv_iload hx hb dL_isChain_225 (lv_at hl 2 rfl) ?_
          refine lv_bipush (v := 6) hx hb dL_isChain_227 (by decide) ?_
          refine neN kd 6 (tgt := 236) hx hb rfl rfl (by omega) (by omega) dL_isChain_229 (by decide) (fun c_76 => ?_) (fun c_76 => absurd c_76 (by omega))
          refine lv_iconst (v := (-1)) hx hb dL_isChain_236 (by decide) ?_
          refine lv_istore (lv' := [(11, .int ((-1))), (10, .int (mIts τ (P * 30 + k))), (9, .int (mOth τ (P * 30 + k))), (8, .int (nI kd)), (4, .int 1), (0, .ref (q 0)), (1, .int (nI P)), (2, .int (nI (mMan τ P))), (3, .int ((-1))), (5, .int (nI k))]) hx hb dL_isChain_237 hl (by decide) rfl (fun ls hl => ?_)
          refine lv_iload hx hb dL_isChain_239 (lv_at hl 4 rfl) ?_
          refine lv_if_eq (tgt := 294) hx hb dL_isChain_241 (by decide) (fun c_77 => absurd c_77 (by decide)) (fun c_77 => ?_)
          refine lv_iload hx hb dL_isChain_244 (lv_at hl 0 rfl) ?_
          refine lv_if_lt (tgt := 290) hx hb dL_isChain_246 (by decide) (fun c_78 => ?_) (fun c_78 => absurd (by decide) c_78)
          refine lv_iconst (v := 1) hx hb dL_isChain_290 (by decide) ?_
          refine lv_goto (tgt := 295) hx hb dL_isChain_291 (by decide) ?_
          refine lv_istore (lv' := [(4, .int 1), (11, .int ((-1))), (10, .int (mIts τ (P * 30 + k))), (9, .int (mOth τ (P * 30 + k))), (8, .int (nI kd)), (0, .ref (q 0)), (1, .int (nI P)), (2, .int (nI (mMan τ P))), (3, .int ((-1))), (5, .int (nI k))]) hx hb dL_isChain_295 hl (by decide) rfl (fun ls hl => ?_)
          refine lv_iload hx hb dL_isChain_297 (lv_at hl 0 rfl) ?_
          refine lv_if_eq (tgt := 360) hx hb dL_isChain_299 (by decide) (fun c_79 => absurd c_79 (by decide)) (fun c_79 => ?_)
          refine lv_iload hx hb dL_isChain_302 (lv_at hl 4 rfl) ?_
          refine lv_if_eq (tgt := 313) hx hb dL_isChain_304 (by decide) (fun c_80 => absurd c_80 (fun z => hko.1 ((nI_eq (b := 0) (by omega) (by omega)).mp z))) (fun c_80 => ?_)
          refine lv_iload hx hb dL_isChain_307 (lv_at hl 4 rfl) ?_
          refine lv_iconst (v := 4) hx hb dL_isChain_309 (by decide) ?_
          refine neN kd 4 (tgt := 317) hx hb rfl rfl (by omega) (by omega) dL_isChain_310 (by decide) (fun c_81 => ?_) (fun c_81 => absurd c_81 (by omega))
          refine lv_iconst (v := 0) hx hb dL_isChain_317 (by decide) ?_
          refine lv_iload hx hb dL_isChain_318 (lv_at hl 9 rfl) ?_
          refine neZN k (tgt := 327) hx hb rfl (by omega) dL_isChain_320 (by decide) (fun c_82 => ?_) (fun c_82 => absurd c_82 (by omega))
          refine lv_iconst (v := 0) hx hb dL_isChain_327 (by decide) ?_
          refine lv_icmp_ne (tgt := 360) hx hb dL_isChain_328 (by decide) (fun c_83 => absurd (by decide) c_83) (fun c_83 => ?_)
          refine lv_iload hx hb dL_isChain_331 (lv_at hl 4 rfl) ?_
          refine lv_bipush (v := 6) hx hb dL_isChain_333 (by decide) ?_
          refine neN kd 6 (tgt := 356) hx hb rfl rfl (by omega) (by omega) dL_isChain_335 (by decide) (fun c_84 => ?_) (fun c_84 => absurd c_84 (by omega))
          refine lv_iconst (v := 1) hx hb dL_isChain_356 (by decide) ?_
          refine lv_goto (tgt := 361) hx hb dL_isChain_357 (by decide) ?_
          refine lv_istore (lv' := [(4, .int 1), (11, .int ((-1))), (10, .int (mIts τ (P * 30 + k))), (9, .int (mOth τ (P * 30 + k))), (8, .int (nI kd)), (0, .ref (q 0)), (1, .int (nI P)), (2, .int (nI (mMan τ P))), (3, .int ((-1))), (5, .int (nI k))]) hx hb dL_isChain_361 hl (by decide) rfl (fun ls hl => ?_)
          refine lv_iinc (v := nI (k + 1)) (lv' := [(5, .int (nI (k + 1))), (4, .int 1), (11, .int ((-1))), (10, .int (mIts τ (P * 30 + k))), (9, .int (mOth τ (P * 30 + k))), (8, .int (nI kd)), (0, .ref (q 0)), (1, .int (nI P)), (2, .int (nI (mMan τ P))), (3, .int ((-1)))]) hx hb dL_isChain_363 hl (k := 9) rfl (iincN k) (by decide) rfl (fun ls hl => ?_)
          refine lv_goto (tgt := 43) hx hb dL_isChain_366 (by decide) ?_
          exact ih_k (by omega) _ (lv_sub hl [6, 7, 8, 9, 1, 0] rfl)
      refine lv_iload hx hb dL_isChain_110 (lv_at hl 6 rfl) ?_
      refine lv_aload_n hx hb dL_isChain_112 rfl (lv_at hl 0 rfl) ?_
      refine lv_iload_n hx hb dL_isChain_113 rfl (lv_at hl 1 rfl) ?_
      refine lv_iload hx hb dL_isChain_114 (lv_at hl 5 rfl) ?_
      refine lv_bipush (v := 6) hx hb dL_isChain_116 (by decide) ?_
      refine z_callE (x := mPrf τ (P * 30 + k)) (vx_runV (As := [.int (nI P), .int (nI k), .int 6]) (rest := [.int (pmS (mPrf τ) (numM τ) P k 6)]) ⟨hx, hb, hml, hown, hts⟩ (c_X1_entry l hf D cI q (gOf τ) hq (nI P) (nI k) 6 (ok_J hJ) (hz_J hJ)) (cwV 3 hts gL_isChain_X1_entry rfl rfl rfl kd_X1_entry ⟨Nat.le_of_ble_eq_true rfl, Nat.le_of_ble_eq_true rfl⟩) (pV_P hP hK hE hX) rfl rfl hl.1 rfl (lv_room (Nat.le_of_ble_eq_true rfl)) dL_isChain_118 ⟨Nat.le_of_ble_eq_true rfl, Nat.le_of_ble_eq_true rfl⟩) (fun E9 h9 => h9.1 (congrArg Prod.fst (vE6 hJ hPn c_k))) (fun r9 h9 => h9.2.trans (congrArg (fun z => z.2.1) (vE6 hJ hPn c_k))) ?_
      refine lv_icmp_ne (tgt := 128) hx hb dL_isChain_121 (by decide) (fun c_85 => absurd ((pf_iff hJ c_k).mpr (s0_ne hs (by omega))) c_85) (fun c_85 => ?_)
      refine lv_iconst (v := 1) hx hb dL_isChain_124 (by decide) ?_
      refine lv_goto (tgt := 129) hx hb dL_isChain_125 (by decide) ?_
      refine lv_istore (lv' := [(7, .int 1), (0, .ref (q 0)), (1, .int (nI P)), (2, .int (nI (mMan τ P))), (3, .int ((-1))), (4, .int 1), (5, .int (nI k)), (6, .int (pmS (mPrf τ) (numM τ) P k 6))]) hx hb dL_isChain_129 hl (by decide) rfl (fun ls hl => ?_)
      refine lv_iload_n hx hb dL_isChain_131 rfl (lv_at hl 4 rfl) ?_
      refine lv_if_lt (tgt := 141) hx hb dL_isChain_132 (by decide) (fun c_86 => ?_) (fun c_86 => absurd (by decide) c_86)
      refine lv_iload hx hb dL_isChain_141 (lv_at hl 0 rfl) ?_
      refine lv_goto (tgt := 162) hx hb dL_isChain_143 (by decide) ?_
      exact J162 _ (lv_sub hl [1, 2, 3, 4, 5, 6] rfl)
    refine lv_bipush (v := 31) hx hb dL_isChain_87 (by decide) ?_
    refine lv_iload hx hb dL_isChain_89 (lv_at hl 6 rfl) ?_
    refine lv_imul hx hb dL_isChain_91 ?_
    refine lv_aload_n hx hb dL_isChain_92 rfl (lv_at hl 0 rfl) ?_
    refine lv_iload_n hx hb dL_isChain_93 rfl (lv_at hl 1 rfl) ?_
    refine lv_iload hx hb dL_isChain_94 (lv_at hl 5 rfl) ?_
    refine lv_iload hx hb dL_isChain_96 (lv_at hl 7 rfl) ?_
    refine z_callE (x := numM τ ((P * 30 + k) * 6 + n)) (vx_runV (As := [.int (nI P), .int (nI k), .int (nI n)]) (rest := [.int ((31 * pmS (mPrf τ) (numM τ) P k n))]) ⟨hx, hb, hml, hown, hts⟩ (c_X1_entry l hf D cI q (gOf τ) hq (nI P) (nI k) (nI n) (ok_J hJ) (hz_J hJ)) (cwV 3 hts gL_isChain_X1_entry rfl rfl rfl kd_X1_entry ⟨Nat.le_of_ble_eq_true rfl, Nat.le_of_ble_eq_true rfl⟩) (pV_P hP hK hE hX) rfl rfl hl.1 rfl (lv_room (Nat.le_of_ble_eq_true rfl)) dL_isChain_98 ⟨Nat.le_of_ble_eq_true rfl, Nat.le_of_ble_eq_true rfl⟩) (fun E9 h9 => h9.1 (congrArg Prod.fst (vE hJ hPn c_k (w := n) (by omega)))) (fun r9 h9 => h9.2.trans (congrArg (fun z => z.2.1) (vE hJ hPn c_k (w := n) (by omega)))) ?_
    refine lv_iadd hx hb dL_isChain_101 ?_
    refine lv_topE (y := pmS (mPrf τ) (numM τ) P k (n + 1)) (rfl) ?_
    refine lv_istore (lv' := [(6, .int (pmS (mPrf τ) (numM τ) P k (n + 1))), (0, .ref (q 0)), (1, .int (nI P)), (2, .int (nI (mMan τ P))), (3, .int ((-1))), (4, .int 1), (5, .int (nI k)), (7, .int (nI n))]) hx hb dL_isChain_102 hl (by decide) rfl (fun ls hl => ?_)
    refine lv_iinc (v := nI (n + 1)) (lv' := [(7, .int (nI (n + 1))), (6, .int (pmS (mPrf τ) (numM τ) P k (n + 1))), (0, .ref (q 0)), (1, .int (nI P)), (2, .int (nI (mMan τ P))), (3, .int ((-1))), (4, .int 1), (5, .int (nI k))]) hx hb dL_isChain_104 hl (k := 7) rfl (iincN n) (by decide) rfl (fun ls hl => ?_)
    refine lv_goto (tgt := 80) hx hb dL_isChain_107 (by decide) ?_
    exact ih_n (by omega) _ (lv_sub hl [2, 3, 4, 5, 6, 7, 1, 0] rfl)
  · skip
    refine lv_aload_n hx hb dL_isChain_7 rfl (lv_at hl 1 rfl) ?_
    refine lv_iload_n hx hb dL_isChain_8 rfl (lv_at hl 2 rfl) ?_
    refine z_callE (x := nI F) (vx_runV (As := [.int (nI P)]) (rest := []) ⟨hx, hb, hml, hown, hts⟩ (c_X1_broken l hf D cI q (gOf τ) hq (nI P) (ok_J hJ) (hz_J hJ)) (cwV 1 hts gL_isChain_X1_broken rfl rfl rfl kd_X1_broken ⟨Nat.le_of_ble_eq_true rfl, Nat.le_of_ble_eq_true rfl⟩) (pV_P hP hK hE hX) rfl rfl hl.1 rfl (lv_room (Nat.le_of_ble_eq_true rfl)) dL_isChain_9 ⟨Nat.le_of_ble_eq_true rfl, Nat.le_of_ble_eq_true rfl⟩) (fun E9 h9 => h9.1 (congrArg Prod.fst ((vB hJ hPn).trans (congrArg (fun z => ((0, z, gOf τ) : Nat × Int32 × SG)) (mf_1 hJ.2.1 hJ.1.1.2.1 hF hs))))) (fun r9 h9 => h9.2.trans (congrArg (fun z => z.2.1) ((vB hJ hPn).trans (congrArg (fun z => ((0, z, gOf τ) : Nat × Int32 × SG)) (mf_1 hJ.2.1 hJ.1.1.2.1 hF hs))))) ?_
    refine lv_istore_n (lv' := [(3, .int (nI F)), (2, .int (nI (mMan τ P))), (0, .ref (q 0)), (1, .int (nI P))]) hx hb dL_isChain_12 rfl hl (by decide) rfl (fun ls hl => ?_)
    refine lv_iload_n hx hb dL_isChain_13 rfl (lv_at hl 1 rfl) ?_
    refine leZN (mMan τ P) (tgt := 37) hx hb rfl (by omega) dL_isChain_14 (by decide) (fun c_87 => absurd c_87 (by omega)) (fun c_87 => ?_)
    refine lv_iload_n hx hb dL_isChain_17 rfl (lv_at hl 1 rfl) ?_
    refine lv_bipush (v := 31) hx hb dL_isChain_18 (by decide) ?_
    refine geN (mMan τ P) 31 (tgt := 37) hx hb rfl rfl (by omega) (by omega) dL_isChain_20 (by decide) (fun c_88 => absurd c_88 (by omega)) (fun c_88 => ?_)
    refine lv_iload_n hx hb dL_isChain_23 rfl (lv_at hl 0 rfl) ?_
    refine lv_iconst (v := (-1)) hx hb dL_isChain_24 (by decide) ?_
    refine lv_icmp_lt (tgt := 37) hx hb dL_isChain_25 (by decide) (fun c_89 => absurd c_89 (nI_nlt_m1 (by omega))) (fun c_89 => ?_)
    refine lv_iload_n hx hb dL_isChain_28 rfl (lv_at hl 0 rfl) ?_
    refine lv_iload_n hx hb dL_isChain_29 rfl (lv_at hl 1 rfl) ?_
    refine geN F (mMan τ P) (tgt := 37) hx hb rfl rfl (by omega) (by omega) dL_isChain_30 (by decide) (fun c_90 => absurd c_90 (by omega)) (fun c_90 => ?_)
    refine lv_iconst (v := 1) hx hb dL_isChain_33 (by decide) ?_
    refine lv_goto (tgt := 38) hx hb dL_isChain_34 (by decide) ?_
    refine lv_istore (lv' := [(4, .int 1), (3, .int (nI F)), (2, .int (nI (mMan τ P))), (0, .ref (q 0)), (1, .int (nI P))]) hx hb dL_isChain_38 hl (by decide) rfl (fun ls hl => ?_)
    refine lv_iconst (v := 0) hx hb dL_isChain_40 (by decide) ?_
    refine lv_istore (lv' := [(5, .int 0), (4, .int 1), (3, .int (nI F)), (2, .int (nI (mMan τ P))), (0, .ref (q 0)), (1, .int (nI P))]) hx hb dL_isChain_41 hl (by decide) rfl (fun ls hl => ?_)
    refine loopW (N := (mMan τ P)) (k0 := 0) (fun k ls => lv_has ls 12 [(0, .ref (q 0)), (1, .int (nI P)), (2, .int (nI (mMan τ P))), (3, .int (nI F)), (4, .int 1), (5, .int (nI k))]) (Nat.zero_le _) (lv_sub hl [4, 5, 3, 2, 1, 0] rfl) (fun k ls hk_k hl ih_k => ?_)
    refine lv_iload hx hb dL_isChain_43 (lv_at hl 5 rfl) ?_
    refine lv_iload_n hx hb dL_isChain_45 rfl (lv_at hl 2 rfl) ?_
    refine geN k (mMan τ P) (tgt := 369) hx hb rfl rfl (by omega) (by omega) dL_isChain_46 (by decide) (fun c_k => ?_) (fun c_k => ?_)
    · skip
      refine lv_iload hx hb dL_isChain_369 (lv_at hl 4 rfl) ?_
      exact RET true _ _ rfl dL_isChain_371
    refine lv_iload hx hb dL_isChain_49 (lv_at hl 4 rfl) ?_
    refine lv_if_eq (tgt := 369) hx hb dL_isChain_51 (by decide) (fun c_91 => absurd c_91 (by decide)) (fun c_91 => ?_)
    refine lv_iload hx hb dL_isChain_54 (lv_at hl 5 rfl) ?_
    refine cutI (x := pm0 (mPrf τ) P k) (pcM := 75) (st := []) ?_ (fun JJ => ?_)
    rotate_left
    · skip
      refine neZN k (tgt := 64) hx hb rfl (by omega) dL_isChain_56 (by decide) (fun c_z => ?_) (fun c_z => ?_)
      · skip
        refine lv_aload_n hx hb dL_isChain_64 rfl (lv_at hl 0 rfl) ?_
        refine lv_iload_n hx hb dL_isChain_65 rfl (lv_at hl 1 rfl) ?_
        refine lv_iload hx hb dL_isChain_66 (lv_at hl 5 rfl) ?_
        refine lv_iconst (v := 1) hx hb dL_isChain_68 (by decide) ?_
        refine lv_isub hx hb dL_isChain_69 ?_
        refine lv_topE (y := nI (k - 1)) ((show nI k - nI 1 = nI (k - 1) from pk_sub (by omega))) ?_
        refine lv_bipush (v := 6) hx hb dL_isChain_70 (by decide) ?_
        refine z_callE (x := mPrf τ (P * 30 + (k - 1))) (vx_runV (As := [.int (nI P), .int (nI (k - 1)), .int 6]) (rest := []) ⟨hx, hb, hml, hown, hts⟩ (c_X1_entry l hf D cI q (gOf τ) hq (nI P) (nI (k - 1)) 6 (ok_J hJ) (hz_J hJ)) (cwV 3 hts gL_isChain_X1_entry rfl rfl rfl kd_X1_entry ⟨Nat.le_of_ble_eq_true rfl, Nat.le_of_ble_eq_true rfl⟩) (pV_P hP hK hE hX) rfl rfl hl.1 rfl (lv_room (Nat.le_of_ble_eq_true rfl)) dL_isChain_72 ⟨Nat.le_of_ble_eq_true rfl, Nat.le_of_ble_eq_true rfl⟩) (fun E9 h9 => h9.1 (congrArg Prod.fst (vE6 hJ hPn (E := k - 1) (by omega)))) (fun r9 h9 => h9.2.trans (congrArg (fun z => z.2.1) (vE6 hJ hPn (E := k - 1) (by omega)))) ?_
        exact JJ _ (by unfold pm0; rw [if_neg c_z, show P * 30 + k - 1 = P * 30 + (k - 1) by omega])
      refine lv_bipush (v := 17) hx hb dL_isChain_59 (by decide) ?_
      refine lv_goto (tgt := 75) hx hb dL_isChain_61 (by decide) ?_
      exact JJ _ (by unfold pm0; rw [if_pos c_z])
    refine lv_istore (lv' := [(6, .int (pm0 (mPrf τ) P k)), (0, .ref (q 0)), (1, .int (nI P)), (2, .int (nI (mMan τ P))), (3, .int (nI F)), (4, .int 1), (5, .int (nI k))]) hx hb dL_isChain_75 hl (by decide) rfl (fun ls hl => ?_)
    refine lv_iconst (v := 0) hx hb dL_isChain_77 (by decide) ?_
    refine lv_istore (lv' := [(7, .int 0), (6, .int (pm0 (mPrf τ) P k)), (0, .ref (q 0)), (1, .int (nI P)), (2, .int (nI (mMan τ P))), (3, .int (nI F)), (4, .int 1), (5, .int (nI k))]) hx hb dL_isChain_78 hl (by decide) rfl (fun ls hl => ?_)
    refine loopW (N := 6) (k0 := 0) (fun n ls => lv_has ls 12 [(0, .ref (q 0)), (1, .int (nI P)), (2, .int (nI (mMan τ P))), (3, .int (nI F)), (4, .int 1), (5, .int (nI k)), (6, .int (pmS (mPrf τ) (numM τ) P k n)), (7, .int (nI n))]) (Nat.zero_le _) (lv_sub hl [2, 3, 4, 5, 6, 7, 1, 0] rfl) (fun n ls hk_n hl ih_n => ?_)
    refine lv_iload hx hb dL_isChain_80 (lv_at hl 7 rfl) ?_
    refine lv_bipush (v := 6) hx hb dL_isChain_82 (by decide) ?_
    refine geN n 6 (tgt := 110) hx hb rfl rfl (by omega) (by omega) dL_isChain_84 (by decide) (fun c_n => ?_) (fun c_n => ?_)
    · skip
      have hn6 : n = 6 := by omega
      subst hn6
      have J162 : ∀ ls : Array Slot, lv_has ls 12 [(0, .ref (q 0)), (1, .int (nI P)), (2, .int (nI (mMan τ P))), (3, .int (nI F)), (4, .int 1), (5, .int (nI k))] → W p l e ({ frames := 8, cells := 1, slots := 6, locals := 125 }) s m args below meth c s.heap [] 0 0 Q (F0 m 162 ls [.int 1]) := by
        intro ls hl
        refine lv_istore (lv' := [(4, .int 1), (0, .ref (q 0)), (1, .int (nI P)), (2, .int (nI (mMan τ P))), (3, .int (nI F)), (5, .int (nI k))]) hx hb dL_isChain_162 hl (by decide) rfl (fun ls hl => ?_)
        obtain ⟨kd, hkd, hkin, h04, h6⟩ := kd_J hJ c_k
        rcases (show kd = 0 ∨ kd = 3 ∨ kd = 4 ∨ kd = 5 ∨ kd = 6 ∨ (kd ≠ 0 ∧ kd ≠ 3 ∧ kd ≠ 4 ∧ kd ≠ 5 ∧ kd ≠ 6) by omega) with rfl | rfl | rfl | rfl | rfl | hko
        · skip
          have hk0 : k = 0 := h04.mp (Or.inl rfl)
          refine lv_aload_n hx hb dL_isChain_164 rfl (lv_at hl 1 rfl) ?_
          refine lv_iload_n hx hb dL_isChain_165 rfl (lv_at hl 2 rfl) ?_
          refine lv_iload hx hb dL_isChain_166 (lv_at hl 5 rfl) ?_
          refine lv_iconst (v := 0) hx hb dL_isChain_168 (by decide) ?_
          refine z_callE (x := 0) (vx_runV (As := [.int (nI P), .int (nI k), .int 0]) (rest := []) ⟨hx, hb, hml, hown, hts⟩ (c_X1_entry l hf D cI q (gOf τ) hq (nI P) (nI k) 0 (ok_J hJ) (hz_J hJ)) (cwV 3 hts gL_isChain_X1_entry rfl rfl rfl kd_X1_entry ⟨Nat.le_of_ble_eq_true rfl, Nat.le_of_ble_eq_true rfl⟩) (pV_P hP hK hE hX) rfl rfl hl.1 rfl (lv_room (Nat.le_of_ble_eq_true rfl)) dL_isChain_169 ⟨Nat.le_of_ble_eq_true rfl, Nat.le_of_ble_eq_true rfl⟩) (fun E9 h9 => h9.1 (congrArg Prod.fst ((vE0 hJ hPn c_k).trans (congrArg (fun z => ((0, z, gOf τ) : Nat × Int32 × SG)) (hkin))))) (fun r9 h9 => h9.2.trans (congrArg (fun z => z.2.1) ((vE0 hJ hPn c_k).trans (congrArg (fun z => ((0, z, gOf τ) : Nat × Int32 × SG)) (hkin))))) ?_
          refine lv_istore (lv' := [(8, .int 0), (4, .int 1), (0, .ref (q 0)), (1, .int (nI P)), (2, .int (nI (mMan τ P))), (3, .int (nI F)), (5, .int (nI k))]) hx hb dL_isChain_172 hl (by decide) rfl (fun ls hl => ?_)
          refine lv_aload_n hx hb dL_isChain_174 rfl (lv_at hl 2 rfl) ?_
          refine lv_iload_n hx hb dL_isChain_175 rfl (lv_at hl 3 rfl) ?_
          refine lv_iload hx hb dL_isChain_176 (lv_at hl 6 rfl) ?_
          refine lv_iconst (v := 4) hx hb dL_isChain_178 (by decide) ?_
          refine z_callE (x := mOth τ (P * 30 + k)) (vx_runV (As := [.int (nI P), .int (nI k), .int 4]) (rest := []) ⟨hx, hb, hml, hown, hts⟩ (c_X1_entry l hf D cI q (gOf τ) hq (nI P) (nI k) 4 (ok_J hJ) (hz_J hJ)) (cwV 3 hts gL_isChain_X1_entry rfl rfl rfl kd_X1_entry ⟨Nat.le_of_ble_eq_true rfl, Nat.le_of_ble_eq_true rfl⟩) (pV_P hP hK hE hX) rfl rfl hl.1 rfl (lv_room (Nat.le_of_ble_eq_true rfl)) dL_isChain_179 ⟨Nat.le_of_ble_eq_true rfl, Nat.le_of_ble_eq_true rfl⟩) (fun E9 h9 => h9.1 (congrArg Prod.fst (vE4 hJ hPn c_k))) (fun r9 h9 => h9.2.trans (congrArg (fun z => z.2.1) (vE4 hJ hPn c_k))) ?_
          refine lv_istore (lv' := [(9, .int (mOth τ (P * 30 + k))), (8, .int 0), (4, .int 1), (0, .ref (q 0)), (1, .int (nI P)), (2, .int (nI (mMan τ P))), (3, .int (nI F)), (5, .int (nI k))]) hx hb dL_isChain_182 hl (by decide) rfl (fun ls hl => ?_)
          refine lv_aload_n hx hb dL_isChain_184 rfl (lv_at hl 3 rfl) ?_
          refine lv_iload_n hx hb dL_isChain_185 rfl (lv_at hl 4 rfl) ?_
          refine lv_iload hx hb dL_isChain_186 (lv_at hl 7 rfl) ?_
          refine lv_iconst (v := 5) hx hb dL_isChain_188 (by decide) ?_
          refine z_callE (x := mIts τ (P * 30 + k)) (vx_runV (As := [.int (nI P), .int (nI k), .int 5]) (rest := []) ⟨hx, hb, hml, hown, hts⟩ (c_X1_entry l hf D cI q (gOf τ) hq (nI P) (nI k) 5 (ok_J hJ) (hz_J hJ)) (cwV 3 hts gL_isChain_X1_entry rfl rfl rfl kd_X1_entry ⟨Nat.le_of_ble_eq_true rfl, Nat.le_of_ble_eq_true rfl⟩) (pV_P hP hK hE hX) rfl rfl hl.1 rfl (lv_room (Nat.le_of_ble_eq_true rfl)) dL_isChain_189 ⟨Nat.le_of_ble_eq_true rfl, Nat.le_of_ble_eq_true rfl⟩) (fun E9 h9 => h9.1 (congrArg Prod.fst (vE5 hJ hPn c_k))) (fun r9 h9 => h9.2.trans (congrArg (fun z => z.2.1) (vE5 hJ hPn c_k))) ?_
          refine lv_istore (lv' := [(10, .int (mIts τ (P * 30 + k))), (9, .int (mOth τ (P * 30 + k))), (8, .int 0), (4, .int 1), (0, .ref (q 0)), (1, .int (nI P)), (2, .int (nI (mMan τ P))), (3, .int (nI F)), (5, .int (nI k))]) hx hb dL_isChain_192 hl (by decide) rfl (fun ls hl => ?_)
          refine lv_iload hx hb dL_isChain_194 (lv_at hl 2 rfl) ?_
          refine lv_iconst (v := 3) hx hb dL_isChain_196 (by decide) ?_
          refine lv_icmp_ne (tgt := 204) hx hb dL_isChain_197 (by decide) (fun c_92 => ?_) (fun c_92 => absurd c_92 (by decide))
          refine lv_iload hx hb dL_isChain_204 (lv_at hl 2 rfl) ?_
          refine lv_iconst (v := 4) hx hb dL_isChain_206 (by decide) ?_
          refine lv_icmp_ne (tgt := 214) hx hb dL_isChain_207 (by decide) (fun c_93 => ?_) (fun c_93 => absurd c_93 (by decide))
          refine lv_iload hx hb dL_isChain_214 (lv_at hl 2 rfl) ?_
          refine lv_iconst (v := 5) hx hb dL_isChain_216 (by decide) ?_
          refine lv_icmp_ne (tgt := 225) hx hb dL_isChain_217 (by decide) (fun c_94 => ?_) (fun c_94 => absurd c_94 (by decide))
          refine lv_iload hx hb dL_isChain_225 (lv_at hl 2 rfl) ?_
          refine lv_bipush (v := 6) hx hb dL_isChain_227 (by decide) ?_
          refine lv_icmp_ne (tgt := 236) hx hb dL_isChain_229 (by decide) (fun c_95 => ?_) (fun c_95 => absurd c_95 (by decide))
          refine lv_iconst (v := (-1)) hx hb dL_isChain_236 (by decide) ?_
          refine lv_istore (lv' := [(11, .int ((-1))), (10, .int (mIts τ (P * 30 + k))), (9, .int (mOth τ (P * 30 + k))), (8, .int 0), (4, .int 1), (0, .ref (q 0)), (1, .int (nI P)), (2, .int (nI (mMan τ P))), (3, .int (nI F)), (5, .int (nI k))]) hx hb dL_isChain_237 hl (by decide) rfl (fun ls hl => ?_)
          refine lv_iload hx hb dL_isChain_239 (lv_at hl 4 rfl) ?_
          refine lv_if_eq (tgt := 294) hx hb dL_isChain_241 (by decide) (fun c_96 => absurd c_96 (by decide)) (fun c_96 => ?_)
          refine lv_iload hx hb dL_isChain_244 (lv_at hl 0 rfl) ?_
          refine lv_if_lt (tgt := 290) hx hb dL_isChain_246 (by decide) (fun c_97 => ?_) (fun c_97 => absurd (by decide) c_97)
          refine lv_iconst (v := 1) hx hb dL_isChain_290 (by decide) ?_
          refine lv_goto (tgt := 295) hx hb dL_isChain_291 (by decide) ?_
          refine lv_istore (lv' := [(4, .int 1), (11, .int ((-1))), (10, .int (mIts τ (P * 30 + k))), (9, .int (mOth τ (P * 30 + k))), (8, .int 0), (0, .ref (q 0)), (1, .int (nI P)), (2, .int (nI (mMan τ P))), (3, .int (nI F)), (5, .int (nI k))]) hx hb dL_isChain_295 hl (by decide) rfl (fun ls hl => ?_)
          refine lv_iload hx hb dL_isChain_297 (lv_at hl 0 rfl) ?_
          refine lv_if_eq (tgt := 360) hx hb dL_isChain_299 (by decide) (fun c_98 => absurd c_98 (by decide)) (fun c_98 => ?_)
          refine lv_iload hx hb dL_isChain_302 (lv_at hl 4 rfl) ?_
          refine lv_if_eq (tgt := 313) hx hb dL_isChain_304 (by decide) (fun c_99 => ?_) (fun c_99 => absurd (by decide) c_99)
          refine lv_iconst (v := 1) hx hb dL_isChain_313 (by decide) ?_
          refine lv_goto (tgt := 318) hx hb dL_isChain_314 (by decide) ?_
          refine lv_iload hx hb dL_isChain_318 (lv_at hl 9 rfl) ?_
          refine neZN k (tgt := 327) hx hb rfl (by omega) dL_isChain_320 (by decide) (fun c_100 => absurd c_100 (by omega)) (fun c_100 => ?_)
          refine lv_iconst (v := 1) hx hb dL_isChain_323 (by decide) ?_
          refine lv_goto (tgt := 328) hx hb dL_isChain_324 (by decide) ?_
          refine lv_icmp_ne (tgt := 360) hx hb dL_isChain_328 (by decide) (fun c_101 => absurd (by decide) c_101) (fun c_101 => ?_)
          refine lv_iload hx hb dL_isChain_331 (lv_at hl 4 rfl) ?_
          refine lv_bipush (v := 6) hx hb dL_isChain_333 (by decide) ?_
          refine lv_icmp_ne (tgt := 356) hx hb dL_isChain_335 (by decide) (fun c_102 => ?_) (fun c_102 => absurd c_102 (by decide))
          refine lv_iconst (v := 1) hx hb dL_isChain_356 (by decide) ?_
          refine lv_goto (tgt := 361) hx hb dL_isChain_357 (by decide) ?_
          refine lv_istore (lv' := [(4, .int 1), (11, .int ((-1))), (10, .int (mIts τ (P * 30 + k))), (9, .int (mOth τ (P * 30 + k))), (8, .int 0), (0, .ref (q 0)), (1, .int (nI P)), (2, .int (nI (mMan τ P))), (3, .int (nI F)), (5, .int (nI k))]) hx hb dL_isChain_361 hl (by decide) rfl (fun ls hl => ?_)
          refine lv_iinc (v := nI (k + 1)) (lv' := [(5, .int (nI (k + 1))), (4, .int 1), (11, .int ((-1))), (10, .int (mIts τ (P * 30 + k))), (9, .int (mOth τ (P * 30 + k))), (8, .int 0), (0, .ref (q 0)), (1, .int (nI P)), (2, .int (nI (mMan τ P))), (3, .int (nI F))]) hx hb dL_isChain_363 hl (k := 9) rfl (iincN k) (by decide) rfl (fun ls hl => ?_)
          refine lv_goto (tgt := 43) hx hb dL_isChain_366 (by decide) ?_
          exact ih_k (by omega) _ (lv_sub hl [6, 7, 8, 9, 1, 0] rfl)
        · skip
          have hk0 : k ≠ 0 := fun z => by have := h04.mpr z; omega
          obtain ⟨o, i, ho, hi, hoth, hits, hk2, ho2, hi2⟩ := lk_J hJ c_k (by rw [hkin]; decide)
          have hmo := hJ.1.1.2.1 o
          refine lv_aload_n hx hb dL_isChain_164 rfl (lv_at hl 1 rfl) ?_
          refine lv_iload_n hx hb dL_isChain_165 rfl (lv_at hl 2 rfl) ?_
          refine lv_iload hx hb dL_isChain_166 (lv_at hl 5 rfl) ?_
          refine lv_iconst (v := 0) hx hb dL_isChain_168 (by decide) ?_
          refine z_callE (x := 3) (vx_runV (As := [.int (nI P), .int (nI k), .int 0]) (rest := []) ⟨hx, hb, hml, hown, hts⟩ (c_X1_entry l hf D cI q (gOf τ) hq (nI P) (nI k) 0 (ok_J hJ) (hz_J hJ)) (cwV 3 hts gL_isChain_X1_entry rfl rfl rfl kd_X1_entry ⟨Nat.le_of_ble_eq_true rfl, Nat.le_of_ble_eq_true rfl⟩) (pV_P hP hK hE hX) rfl rfl hl.1 rfl (lv_room (Nat.le_of_ble_eq_true rfl)) dL_isChain_169 ⟨Nat.le_of_ble_eq_true rfl, Nat.le_of_ble_eq_true rfl⟩) (fun E9 h9 => h9.1 (congrArg Prod.fst ((vE0 hJ hPn c_k).trans (congrArg (fun z => ((0, z, gOf τ) : Nat × Int32 × SG)) (hkin))))) (fun r9 h9 => h9.2.trans (congrArg (fun z => z.2.1) ((vE0 hJ hPn c_k).trans (congrArg (fun z => ((0, z, gOf τ) : Nat × Int32 × SG)) (hkin))))) ?_
          refine lv_istore (lv' := [(8, .int 3), (4, .int 1), (0, .ref (q 0)), (1, .int (nI P)), (2, .int (nI (mMan τ P))), (3, .int (nI F)), (5, .int (nI k))]) hx hb dL_isChain_172 hl (by decide) rfl (fun ls hl => ?_)
          refine lv_aload_n hx hb dL_isChain_174 rfl (lv_at hl 2 rfl) ?_
          refine lv_iload_n hx hb dL_isChain_175 rfl (lv_at hl 3 rfl) ?_
          refine lv_iload hx hb dL_isChain_176 (lv_at hl 6 rfl) ?_
          refine lv_iconst (v := 4) hx hb dL_isChain_178 (by decide) ?_
          refine z_callE (x := nI o) (vx_runV (As := [.int (nI P), .int (nI k), .int 4]) (rest := []) ⟨hx, hb, hml, hown, hts⟩ (c_X1_entry l hf D cI q (gOf τ) hq (nI P) (nI k) 4 (ok_J hJ) (hz_J hJ)) (cwV 3 hts gL_isChain_X1_entry rfl rfl rfl kd_X1_entry ⟨Nat.le_of_ble_eq_true rfl, Nat.le_of_ble_eq_true rfl⟩) (pV_P hP hK hE hX) rfl rfl hl.1 rfl (lv_room (Nat.le_of_ble_eq_true rfl)) dL_isChain_179 ⟨Nat.le_of_ble_eq_true rfl, Nat.le_of_ble_eq_true rfl⟩) (fun E9 h9 => h9.1 (congrArg Prod.fst ((vE4 hJ hPn c_k).trans (congrArg (fun z => ((0, z, gOf τ) : Nat × Int32 × SG)) (hoth))))) (fun r9 h9 => h9.2.trans (congrArg (fun z => z.2.1) ((vE4 hJ hPn c_k).trans (congrArg (fun z => ((0, z, gOf τ) : Nat × Int32 × SG)) (hoth))))) ?_
          refine lv_istore (lv' := [(9, .int (nI o)), (8, .int 3), (4, .int 1), (0, .ref (q 0)), (1, .int (nI P)), (2, .int (nI (mMan τ P))), (3, .int (nI F)), (5, .int (nI k))]) hx hb dL_isChain_182 hl (by decide) rfl (fun ls hl => ?_)
          refine lv_aload_n hx hb dL_isChain_184 rfl (lv_at hl 3 rfl) ?_
          refine lv_iload_n hx hb dL_isChain_185 rfl (lv_at hl 4 rfl) ?_
          refine lv_iload hx hb dL_isChain_186 (lv_at hl 7 rfl) ?_
          refine lv_iconst (v := 5) hx hb dL_isChain_188 (by decide) ?_
          refine z_callE (x := nI i) (vx_runV (As := [.int (nI P), .int (nI k), .int 5]) (rest := []) ⟨hx, hb, hml, hown, hts⟩ (c_X1_entry l hf D cI q (gOf τ) hq (nI P) (nI k) 5 (ok_J hJ) (hz_J hJ)) (cwV 3 hts gL_isChain_X1_entry rfl rfl rfl kd_X1_entry ⟨Nat.le_of_ble_eq_true rfl, Nat.le_of_ble_eq_true rfl⟩) (pV_P hP hK hE hX) rfl rfl hl.1 rfl (lv_room (Nat.le_of_ble_eq_true rfl)) dL_isChain_189 ⟨Nat.le_of_ble_eq_true rfl, Nat.le_of_ble_eq_true rfl⟩) (fun E9 h9 => h9.1 (congrArg Prod.fst ((vE5 hJ hPn c_k).trans (congrArg (fun z => ((0, z, gOf τ) : Nat × Int32 × SG)) (hits))))) (fun r9 h9 => h9.2.trans (congrArg (fun z => z.2.1) ((vE5 hJ hPn c_k).trans (congrArg (fun z => ((0, z, gOf τ) : Nat × Int32 × SG)) (hits))))) ?_
          refine lv_istore (lv' := [(10, .int (nI i)), (9, .int (nI o)), (8, .int 3), (4, .int 1), (0, .ref (q 0)), (1, .int (nI P)), (2, .int (nI (mMan τ P))), (3, .int (nI F)), (5, .int (nI k))]) hx hb dL_isChain_192 hl (by decide) rfl (fun ls hl => ?_)
          refine lv_iload hx hb dL_isChain_194 (lv_at hl 2 rfl) ?_
          refine lv_iconst (v := 3) hx hb dL_isChain_196 (by decide) ?_
          refine lv_icmp_ne (tgt := 204) hx hb dL_isChain_197 (by decide) (fun c_103 => absurd (by decide) c_103) (fun c_103 => ?_)
          refine lv_iconst (v := 4) hx hb dL_isChain_200 (by decide) ?_
          refine lv_goto (tgt := 237) hx hb dL_isChain_201 (by decide) ?_
          refine lv_istore (lv' := [(11, .int 4), (10, .int (nI i)), (9, .int (nI o)), (8, .int 3), (4, .int 1), (0, .ref (q 0)), (1, .int (nI P)), (2, .int (nI (mMan τ P))), (3, .int (nI F)), (5, .int (nI k))]) hx hb dL_isChain_237 hl (by decide) rfl (fun ls hl => ?_)
          refine lv_iload hx hb dL_isChain_239 (lv_at hl 4 rfl) ?_
          refine lv_if_eq (tgt := 294) hx hb dL_isChain_241 (by decide) (fun c_104 => absurd c_104 (by decide)) (fun c_104 => ?_)
          refine lv_iload hx hb dL_isChain_244 (lv_at hl 0 rfl) ?_
          refine lv_if_lt (tgt := 290) hx hb dL_isChain_246 (by decide) (fun c_105 => absurd c_105 (by decide)) (fun c_105 => ?_)
          refine lv_aload_n hx hb dL_isChain_249 rfl (lv_at hl 5 rfl) ?_
          refine lv_iload hx hb dL_isChain_250 (lv_at hl 2 rfl) ?_
          refine lv_iload hx hb dL_isChain_252 (lv_at hl 1 rfl) ?_
          refine lv_iconst (v := 0) hx hb dL_isChain_254 (by decide) ?_
          refine z_callE (x := 4) (vx_runV (As := [.int (nI o), .int (nI i), .int 0]) (rest := []) ⟨hx, hb, hml, hown, hts⟩ (c_X1_entry l hf D cI q (gOf τ) hq (nI o) (nI i) 0 (ok_J hJ) (hz_J hJ)) (cwV 3 hts gL_isChain_X1_entry rfl rfl rfl kd_X1_entry ⟨Nat.le_of_ble_eq_true rfl, Nat.le_of_ble_eq_true rfl⟩) (pV_P hP hK hE hX) rfl rfl hl.1 rfl (lv_room (Nat.le_of_ble_eq_true rfl)) dL_isChain_255 ⟨Nat.le_of_ble_eq_true rfl, Nat.le_of_ble_eq_true rfl⟩) (fun E9 h9 => h9.1 (congrArg Prod.fst ((vE0 hJ ho hi).trans (congrArg (fun z => ((0, z, gOf τ) : Nat × Int32 × SG)) (hk2.trans (show dueF _ = 4 by rw [hkin]; decide)))))) (fun r9 h9 => h9.2.trans (congrArg (fun z => z.2.1) ((vE0 hJ ho hi).trans (congrArg (fun z => ((0, z, gOf τ) : Nat × Int32 × SG)) (hk2.trans (show dueF _ = 4 by rw [hkin]; decide)))))) ?_
          refine lv_iload hx hb dL_isChain_258 (lv_at hl 0 rfl) ?_
          refine lv_icmp_ne (tgt := 294) hx hb dL_isChain_260 (by decide) (fun c_106 => absurd (by decide) c_106) (fun c_106 => ?_)
          refine lv_aload_n hx hb dL_isChain_263 rfl (lv_at hl 5 rfl) ?_
          refine lv_iload hx hb dL_isChain_264 (lv_at hl 2 rfl) ?_
          refine lv_iload hx hb dL_isChain_266 (lv_at hl 1 rfl) ?_
          refine lv_iconst (v := 4) hx hb dL_isChain_268 (by decide) ?_
          refine z_callE (x := nI P) (vx_runV (As := [.int (nI o), .int (nI i), .int 4]) (rest := []) ⟨hx, hb, hml, hown, hts⟩ (c_X1_entry l hf D cI q (gOf τ) hq (nI o) (nI i) 4 (ok_J hJ) (hz_J hJ)) (cwV 3 hts gL_isChain_X1_entry rfl rfl rfl kd_X1_entry ⟨Nat.le_of_ble_eq_true rfl, Nat.le_of_ble_eq_true rfl⟩) (pV_P hP hK hE hX) rfl rfl hl.1 rfl (lv_room (Nat.le_of_ble_eq_true rfl)) dL_isChain_269 ⟨Nat.le_of_ble_eq_true rfl, Nat.le_of_ble_eq_true rfl⟩) (fun E9 h9 => h9.1 (congrArg Prod.fst ((vE4 hJ ho hi).trans (congrArg (fun z => ((0, z, gOf τ) : Nat × Int32 × SG)) (ho2))))) (fun r9 h9 => h9.2.trans (congrArg (fun z => z.2.1) ((vE4 hJ ho hi).trans (congrArg (fun z => ((0, z, gOf τ) : Nat × Int32 × SG)) (ho2))))) ?_
          refine lv_iload_n hx hb dL_isChain_272 rfl (lv_at hl 6 rfl) ?_
          refine neN P P (tgt := 294) hx hb rfl rfl (by omega) (by omega) dL_isChain_273 (by decide) (fun c_107 => absurd c_107 (by omega)) (fun c_107 => ?_)
          refine lv_aload_n hx hb dL_isChain_276 rfl (lv_at hl 5 rfl) ?_
          refine lv_iload hx hb dL_isChain_277 (lv_at hl 2 rfl) ?_
          refine lv_iload hx hb dL_isChain_279 (lv_at hl 1 rfl) ?_
          refine lv_iconst (v := 5) hx hb dL_isChain_281 (by decide) ?_
          refine z_callE (x := nI k) (vx_runV (As := [.int (nI o), .int (nI i), .int 5]) (rest := []) ⟨hx, hb, hml, hown, hts⟩ (c_X1_entry l hf D cI q (gOf τ) hq (nI o) (nI i) 5 (ok_J hJ) (hz_J hJ)) (cwV 3 hts gL_isChain_X1_entry rfl rfl rfl kd_X1_entry ⟨Nat.le_of_ble_eq_true rfl, Nat.le_of_ble_eq_true rfl⟩) (pV_P hP hK hE hX) rfl rfl hl.1 rfl (lv_room (Nat.le_of_ble_eq_true rfl)) dL_isChain_282 ⟨Nat.le_of_ble_eq_true rfl, Nat.le_of_ble_eq_true rfl⟩) (fun E9 h9 => h9.1 (congrArg Prod.fst ((vE5 hJ ho hi).trans (congrArg (fun z => ((0, z, gOf τ) : Nat × Int32 × SG)) (hi2))))) (fun r9 h9 => h9.2.trans (congrArg (fun z => z.2.1) ((vE5 hJ ho hi).trans (congrArg (fun z => ((0, z, gOf τ) : Nat × Int32 × SG)) (hi2))))) ?_
          refine lv_iload hx hb dL_isChain_285 (lv_at hl 9 rfl) ?_
          refine neN k k (tgt := 294) hx hb rfl rfl (by omega) (by omega) dL_isChain_287 (by decide) (fun c_108 => absurd c_108 (by omega)) (fun c_108 => ?_)
          refine lv_iconst (v := 1) hx hb dL_isChain_290 (by decide) ?_
          refine lv_goto (tgt := 295) hx hb dL_isChain_291 (by decide) ?_
          refine lv_istore (lv' := [(4, .int 1), (11, .int 4), (10, .int (nI i)), (9, .int (nI o)), (8, .int 3), (0, .ref (q 0)), (1, .int (nI P)), (2, .int (nI (mMan τ P))), (3, .int (nI F)), (5, .int (nI k))]) hx hb dL_isChain_295 hl (by decide) rfl (fun ls hl => ?_)
          refine lv_iload hx hb dL_isChain_297 (lv_at hl 0 rfl) ?_
          refine lv_if_eq (tgt := 360) hx hb dL_isChain_299 (by decide) (fun c_109 => absurd c_109 (by decide)) (fun c_109 => ?_)
          refine lv_iload hx hb dL_isChain_302 (lv_at hl 4 rfl) ?_
          refine lv_if_eq (tgt := 313) hx hb dL_isChain_304 (by decide) (fun c_110 => absurd c_110 (by decide)) (fun c_110 => ?_)
          refine lv_iload hx hb dL_isChain_307 (lv_at hl 4 rfl) ?_
          refine lv_iconst (v := 4) hx hb dL_isChain_309 (by decide) ?_
          refine lv_icmp_ne (tgt := 317) hx hb dL_isChain_310 (by decide) (fun c_111 => ?_) (fun c_111 => absurd c_111 (by decide))
          refine lv_iconst (v := 0) hx hb dL_isChain_317 (by decide) ?_
          refine lv_iload hx hb dL_isChain_318 (lv_at hl 9 rfl) ?_
          refine neZN k (tgt := 327) hx hb rfl (by omega) dL_isChain_320 (by decide) (fun c_112 => ?_) (fun c_112 => absurd c_112 (by omega))
          refine lv_iconst (v := 0) hx hb dL_isChain_327 (by decide) ?_
          refine lv_icmp_ne (tgt := 360) hx hb dL_isChain_328 (by decide) (fun c_113 => absurd (by decide) c_113) (fun c_113 => ?_)
          refine lv_iload hx hb dL_isChain_331 (lv_at hl 4 rfl) ?_
          refine lv_bipush (v := 6) hx hb dL_isChain_333 (by decide) ?_
          refine lv_icmp_ne (tgt := 356) hx hb dL_isChain_335 (by decide) (fun c_114 => ?_) (fun c_114 => absurd c_114 (by decide))
          refine lv_iconst (v := 1) hx hb dL_isChain_356 (by decide) ?_
          refine lv_goto (tgt := 361) hx hb dL_isChain_357 (by decide) ?_
          refine lv_istore (lv' := [(4, .int 1), (11, .int 4), (10, .int (nI i)), (9, .int (nI o)), (8, .int 3), (0, .ref (q 0)), (1, .int (nI P)), (2, .int (nI (mMan τ P))), (3, .int (nI F)), (5, .int (nI k))]) hx hb dL_isChain_361 hl (by decide) rfl (fun ls hl => ?_)
          refine lv_iinc (v := nI (k + 1)) (lv' := [(5, .int (nI (k + 1))), (4, .int 1), (11, .int 4), (10, .int (nI i)), (9, .int (nI o)), (8, .int 3), (0, .ref (q 0)), (1, .int (nI P)), (2, .int (nI (mMan τ P))), (3, .int (nI F))]) hx hb dL_isChain_363 hl (k := 9) rfl (iincN k) (by decide) rfl (fun ls hl => ?_)
          refine lv_goto (tgt := 43) hx hb dL_isChain_366 (by decide) ?_
          exact ih_k (by omega) _ (lv_sub hl [6, 7, 8, 9, 1, 0] rfl)
        · skip
          have hk0 : k = 0 := h04.mp (Or.inr rfl)
          obtain ⟨o, i, ho, hi, hoth, hits, hk2, ho2, hi2⟩ := lk_J hJ c_k (by rw [hkin]; decide)
          have hmo := hJ.1.1.2.1 o
          refine lv_aload_n hx hb dL_isChain_164 rfl (lv_at hl 1 rfl) ?_
          refine lv_iload_n hx hb dL_isChain_165 rfl (lv_at hl 2 rfl) ?_
          refine lv_iload hx hb dL_isChain_166 (lv_at hl 5 rfl) ?_
          refine lv_iconst (v := 0) hx hb dL_isChain_168 (by decide) ?_
          refine z_callE (x := 4) (vx_runV (As := [.int (nI P), .int (nI k), .int 0]) (rest := []) ⟨hx, hb, hml, hown, hts⟩ (c_X1_entry l hf D cI q (gOf τ) hq (nI P) (nI k) 0 (ok_J hJ) (hz_J hJ)) (cwV 3 hts gL_isChain_X1_entry rfl rfl rfl kd_X1_entry ⟨Nat.le_of_ble_eq_true rfl, Nat.le_of_ble_eq_true rfl⟩) (pV_P hP hK hE hX) rfl rfl hl.1 rfl (lv_room (Nat.le_of_ble_eq_true rfl)) dL_isChain_169 ⟨Nat.le_of_ble_eq_true rfl, Nat.le_of_ble_eq_true rfl⟩) (fun E9 h9 => h9.1 (congrArg Prod.fst ((vE0 hJ hPn c_k).trans (congrArg (fun z => ((0, z, gOf τ) : Nat × Int32 × SG)) (hkin))))) (fun r9 h9 => h9.2.trans (congrArg (fun z => z.2.1) ((vE0 hJ hPn c_k).trans (congrArg (fun z => ((0, z, gOf τ) : Nat × Int32 × SG)) (hkin))))) ?_
          refine lv_istore (lv' := [(8, .int 4), (4, .int 1), (0, .ref (q 0)), (1, .int (nI P)), (2, .int (nI (mMan τ P))), (3, .int (nI F)), (5, .int (nI k))]) hx hb dL_isChain_172 hl (by decide) rfl (fun ls hl => ?_)
          refine lv_aload_n hx hb dL_isChain_174 rfl (lv_at hl 2 rfl) ?_
          refine lv_iload_n hx hb dL_isChain_175 rfl (lv_at hl 3 rfl) ?_
          refine lv_iload hx hb dL_isChain_176 (lv_at hl 6 rfl) ?_
          refine lv_iconst (v := 4) hx hb dL_isChain_178 (by decide) ?_
          refine z_callE (x := nI o) (vx_runV (As := [.int (nI P), .int (nI k), .int 4]) (rest := []) ⟨hx, hb, hml, hown, hts⟩ (c_X1_entry l hf D cI q (gOf τ) hq (nI P) (nI k) 4 (ok_J hJ) (hz_J hJ)) (cwV 3 hts gL_isChain_X1_entry rfl rfl rfl kd_X1_entry ⟨Nat.le_of_ble_eq_true rfl, Nat.le_of_ble_eq_true rfl⟩) (pV_P hP hK hE hX) rfl rfl hl.1 rfl (lv_room (Nat.le_of_ble_eq_true rfl)) dL_isChain_179 ⟨Nat.le_of_ble_eq_true rfl, Nat.le_of_ble_eq_true rfl⟩) (fun E9 h9 => h9.1 (congrArg Prod.fst ((vE4 hJ hPn c_k).trans (congrArg (fun z => ((0, z, gOf τ) : Nat × Int32 × SG)) (hoth))))) (fun r9 h9 => h9.2.trans (congrArg (fun z => z.2.1) ((vE4 hJ hPn c_k).trans (congrArg (fun z => ((0, z, gOf τ) : Nat × Int32 × SG)) (hoth))))) ?_
          refine lv_istore (lv' := [(9, .int (nI o)), (8, .int 4), (4, .int 1), (0, .ref (q 0)), (1, .int (nI P)), (2, .int (nI (mMan τ P))), (3, .int (nI F)), (5, .int (nI k))]) hx hb dL_isChain_182 hl (by decide) rfl (fun ls hl => ?_)
          refine lv_aload_n hx hb dL_isChain_184 rfl (lv_at hl 3 rfl) ?_
          refine lv_iload_n hx hb dL_isChain_185 rfl (lv_at hl 4 rfl) ?_
          refine lv_iload hx hb dL_isChain_186 (lv_at hl 7 rfl) ?_
          refine lv_iconst (v := 5) hx hb dL_isChain_188 (by decide) ?_
          refine z_callE (x := nI i) (vx_runV (As := [.int (nI P), .int (nI k), .int 5]) (rest := []) ⟨hx, hb, hml, hown, hts⟩ (c_X1_entry l hf D cI q (gOf τ) hq (nI P) (nI k) 5 (ok_J hJ) (hz_J hJ)) (cwV 3 hts gL_isChain_X1_entry rfl rfl rfl kd_X1_entry ⟨Nat.le_of_ble_eq_true rfl, Nat.le_of_ble_eq_true rfl⟩) (pV_P hP hK hE hX) rfl rfl hl.1 rfl (lv_room (Nat.le_of_ble_eq_true rfl)) dL_isChain_189 ⟨Nat.le_of_ble_eq_true rfl, Nat.le_of_ble_eq_true rfl⟩) (fun E9 h9 => h9.1 (congrArg Prod.fst ((vE5 hJ hPn c_k).trans (congrArg (fun z => ((0, z, gOf τ) : Nat × Int32 × SG)) (hits))))) (fun r9 h9 => h9.2.trans (congrArg (fun z => z.2.1) ((vE5 hJ hPn c_k).trans (congrArg (fun z => ((0, z, gOf τ) : Nat × Int32 × SG)) (hits))))) ?_
          refine lv_istore (lv' := [(10, .int (nI i)), (9, .int (nI o)), (8, .int 4), (4, .int 1), (0, .ref (q 0)), (1, .int (nI P)), (2, .int (nI (mMan τ P))), (3, .int (nI F)), (5, .int (nI k))]) hx hb dL_isChain_192 hl (by decide) rfl (fun ls hl => ?_)
          refine lv_iload hx hb dL_isChain_194 (lv_at hl 2 rfl) ?_
          refine lv_iconst (v := 3) hx hb dL_isChain_196 (by decide) ?_
          refine lv_icmp_ne (tgt := 204) hx hb dL_isChain_197 (by decide) (fun c_115 => ?_) (fun c_115 => absurd c_115 (by decide))
          refine lv_iload hx hb dL_isChain_204 (lv_at hl 2 rfl) ?_
          refine lv_iconst (v := 4) hx hb dL_isChain_206 (by decide) ?_
          refine lv_icmp_ne (tgt := 214) hx hb dL_isChain_207 (by decide) (fun c_116 => absurd (by decide) c_116) (fun c_116 => ?_)
          refine lv_iconst (v := 3) hx hb dL_isChain_210 (by decide) ?_
          refine lv_goto (tgt := 237) hx hb dL_isChain_211 (by decide) ?_
          refine lv_istore (lv' := [(11, .int 3), (10, .int (nI i)), (9, .int (nI o)), (8, .int 4), (4, .int 1), (0, .ref (q 0)), (1, .int (nI P)), (2, .int (nI (mMan τ P))), (3, .int (nI F)), (5, .int (nI k))]) hx hb dL_isChain_237 hl (by decide) rfl (fun ls hl => ?_)
          refine lv_iload hx hb dL_isChain_239 (lv_at hl 4 rfl) ?_
          refine lv_if_eq (tgt := 294) hx hb dL_isChain_241 (by decide) (fun c_117 => absurd c_117 (by decide)) (fun c_117 => ?_)
          refine lv_iload hx hb dL_isChain_244 (lv_at hl 0 rfl) ?_
          refine lv_if_lt (tgt := 290) hx hb dL_isChain_246 (by decide) (fun c_118 => absurd c_118 (by decide)) (fun c_118 => ?_)
          refine lv_aload_n hx hb dL_isChain_249 rfl (lv_at hl 5 rfl) ?_
          refine lv_iload hx hb dL_isChain_250 (lv_at hl 2 rfl) ?_
          refine lv_iload hx hb dL_isChain_252 (lv_at hl 1 rfl) ?_
          refine lv_iconst (v := 0) hx hb dL_isChain_254 (by decide) ?_
          refine z_callE (x := 3) (vx_runV (As := [.int (nI o), .int (nI i), .int 0]) (rest := []) ⟨hx, hb, hml, hown, hts⟩ (c_X1_entry l hf D cI q (gOf τ) hq (nI o) (nI i) 0 (ok_J hJ) (hz_J hJ)) (cwV 3 hts gL_isChain_X1_entry rfl rfl rfl kd_X1_entry ⟨Nat.le_of_ble_eq_true rfl, Nat.le_of_ble_eq_true rfl⟩) (pV_P hP hK hE hX) rfl rfl hl.1 rfl (lv_room (Nat.le_of_ble_eq_true rfl)) dL_isChain_255 ⟨Nat.le_of_ble_eq_true rfl, Nat.le_of_ble_eq_true rfl⟩) (fun E9 h9 => h9.1 (congrArg Prod.fst ((vE0 hJ ho hi).trans (congrArg (fun z => ((0, z, gOf τ) : Nat × Int32 × SG)) (hk2.trans (show dueF _ = 3 by rw [hkin]; decide)))))) (fun r9 h9 => h9.2.trans (congrArg (fun z => z.2.1) ((vE0 hJ ho hi).trans (congrArg (fun z => ((0, z, gOf τ) : Nat × Int32 × SG)) (hk2.trans (show dueF _ = 3 by rw [hkin]; decide)))))) ?_
          refine lv_iload hx hb dL_isChain_258 (lv_at hl 0 rfl) ?_
          refine lv_icmp_ne (tgt := 294) hx hb dL_isChain_260 (by decide) (fun c_119 => absurd (by decide) c_119) (fun c_119 => ?_)
          refine lv_aload_n hx hb dL_isChain_263 rfl (lv_at hl 5 rfl) ?_
          refine lv_iload hx hb dL_isChain_264 (lv_at hl 2 rfl) ?_
          refine lv_iload hx hb dL_isChain_266 (lv_at hl 1 rfl) ?_
          refine lv_iconst (v := 4) hx hb dL_isChain_268 (by decide) ?_
          refine z_callE (x := nI P) (vx_runV (As := [.int (nI o), .int (nI i), .int 4]) (rest := []) ⟨hx, hb, hml, hown, hts⟩ (c_X1_entry l hf D cI q (gOf τ) hq (nI o) (nI i) 4 (ok_J hJ) (hz_J hJ)) (cwV 3 hts gL_isChain_X1_entry rfl rfl rfl kd_X1_entry ⟨Nat.le_of_ble_eq_true rfl, Nat.le_of_ble_eq_true rfl⟩) (pV_P hP hK hE hX) rfl rfl hl.1 rfl (lv_room (Nat.le_of_ble_eq_true rfl)) dL_isChain_269 ⟨Nat.le_of_ble_eq_true rfl, Nat.le_of_ble_eq_true rfl⟩) (fun E9 h9 => h9.1 (congrArg Prod.fst ((vE4 hJ ho hi).trans (congrArg (fun z => ((0, z, gOf τ) : Nat × Int32 × SG)) (ho2))))) (fun r9 h9 => h9.2.trans (congrArg (fun z => z.2.1) ((vE4 hJ ho hi).trans (congrArg (fun z => ((0, z, gOf τ) : Nat × Int32 × SG)) (ho2))))) ?_
          refine lv_iload_n hx hb dL_isChain_272 rfl (lv_at hl 6 rfl) ?_
          refine neN P P (tgt := 294) hx hb rfl rfl (by omega) (by omega) dL_isChain_273 (by decide) (fun c_120 => absurd c_120 (by omega)) (fun c_120 => ?_)
          refine lv_aload_n hx hb dL_isChain_276 rfl (lv_at hl 5 rfl) ?_
          refine lv_iload hx hb dL_isChain_277 (lv_at hl 2 rfl) ?_
          refine lv_iload hx hb dL_isChain_279 (lv_at hl 1 rfl) ?_
          refine lv_iconst (v := 5) hx hb dL_isChain_281 (by decide) ?_
          refine z_callE (x := nI k) (vx_runV (As := [.int (nI o), .int (nI i), .int 5]) (rest := []) ⟨hx, hb, hml, hown, hts⟩ (c_X1_entry l hf D cI q (gOf τ) hq (nI o) (nI i) 5 (ok_J hJ) (hz_J hJ)) (cwV 3 hts gL_isChain_X1_entry rfl rfl rfl kd_X1_entry ⟨Nat.le_of_ble_eq_true rfl, Nat.le_of_ble_eq_true rfl⟩) (pV_P hP hK hE hX) rfl rfl hl.1 rfl (lv_room (Nat.le_of_ble_eq_true rfl)) dL_isChain_282 ⟨Nat.le_of_ble_eq_true rfl, Nat.le_of_ble_eq_true rfl⟩) (fun E9 h9 => h9.1 (congrArg Prod.fst ((vE5 hJ ho hi).trans (congrArg (fun z => ((0, z, gOf τ) : Nat × Int32 × SG)) (hi2))))) (fun r9 h9 => h9.2.trans (congrArg (fun z => z.2.1) ((vE5 hJ ho hi).trans (congrArg (fun z => ((0, z, gOf τ) : Nat × Int32 × SG)) (hi2))))) ?_
          refine lv_iload hx hb dL_isChain_285 (lv_at hl 9 rfl) ?_
          refine neN k k (tgt := 294) hx hb rfl rfl (by omega) (by omega) dL_isChain_287 (by decide) (fun c_121 => absurd c_121 (by omega)) (fun c_121 => ?_)
          refine lv_iconst (v := 1) hx hb dL_isChain_290 (by decide) ?_
          refine lv_goto (tgt := 295) hx hb dL_isChain_291 (by decide) ?_
          refine lv_istore (lv' := [(4, .int 1), (11, .int 3), (10, .int (nI i)), (9, .int (nI o)), (8, .int 4), (0, .ref (q 0)), (1, .int (nI P)), (2, .int (nI (mMan τ P))), (3, .int (nI F)), (5, .int (nI k))]) hx hb dL_isChain_295 hl (by decide) rfl (fun ls hl => ?_)
          refine lv_iload hx hb dL_isChain_297 (lv_at hl 0 rfl) ?_
          refine lv_if_eq (tgt := 360) hx hb dL_isChain_299 (by decide) (fun c_122 => absurd c_122 (by decide)) (fun c_122 => ?_)
          refine lv_iload hx hb dL_isChain_302 (lv_at hl 4 rfl) ?_
          refine lv_if_eq (tgt := 313) hx hb dL_isChain_304 (by decide) (fun c_123 => absurd c_123 (by decide)) (fun c_123 => ?_)
          refine lv_iload hx hb dL_isChain_307 (lv_at hl 4 rfl) ?_
          refine lv_iconst (v := 4) hx hb dL_isChain_309 (by decide) ?_
          refine lv_icmp_ne (tgt := 317) hx hb dL_isChain_310 (by decide) (fun c_124 => absurd (by decide) c_124) (fun c_124 => ?_)
          refine lv_iconst (v := 1) hx hb dL_isChain_313 (by decide) ?_
          refine lv_goto (tgt := 318) hx hb dL_isChain_314 (by decide) ?_
          refine lv_iload hx hb dL_isChain_318 (lv_at hl 9 rfl) ?_
          refine neZN k (tgt := 327) hx hb rfl (by omega) dL_isChain_320 (by decide) (fun c_125 => absurd c_125 (by omega)) (fun c_125 => ?_)
          refine lv_iconst (v := 1) hx hb dL_isChain_323 (by decide) ?_
          refine lv_goto (tgt := 328) hx hb dL_isChain_324 (by decide) ?_
          refine lv_icmp_ne (tgt := 360) hx hb dL_isChain_328 (by decide) (fun c_126 => absurd (by decide) c_126) (fun c_126 => ?_)
          refine lv_iload hx hb dL_isChain_331 (lv_at hl 4 rfl) ?_
          refine lv_bipush (v := 6) hx hb dL_isChain_333 (by decide) ?_
          refine lv_icmp_ne (tgt := 356) hx hb dL_isChain_335 (by decide) (fun c_127 => ?_) (fun c_127 => absurd c_127 (by decide))
          refine lv_iconst (v := 1) hx hb dL_isChain_356 (by decide) ?_
          refine lv_goto (tgt := 361) hx hb dL_isChain_357 (by decide) ?_
          refine lv_istore (lv' := [(4, .int 1), (11, .int 3), (10, .int (nI i)), (9, .int (nI o)), (8, .int 4), (0, .ref (q 0)), (1, .int (nI P)), (2, .int (nI (mMan τ P))), (3, .int (nI F)), (5, .int (nI k))]) hx hb dL_isChain_361 hl (by decide) rfl (fun ls hl => ?_)
          refine lv_iinc (v := nI (k + 1)) (lv' := [(5, .int (nI (k + 1))), (4, .int 1), (11, .int 3), (10, .int (nI i)), (9, .int (nI o)), (8, .int 4), (0, .ref (q 0)), (1, .int (nI P)), (2, .int (nI (mMan τ P))), (3, .int (nI F))]) hx hb dL_isChain_363 hl (k := 9) rfl (iincN k) (by decide) rfl (fun ls hl => ?_)
          refine lv_goto (tgt := 43) hx hb dL_isChain_366 (by decide) ?_
          exact ih_k (by omega) _ (lv_sub hl [6, 7, 8, 9, 1, 0] rfl)
        · skip
          have hk0 : k ≠ 0 := fun z => by have := h04.mpr z; omega
          obtain ⟨o, i, ho, hi, hoth, hits, hk2, ho2, hi2⟩ := lk_J hJ c_k (by rw [hkin]; decide)
          have hmo := hJ.1.1.2.1 o
          refine lv_aload_n hx hb dL_isChain_164 rfl (lv_at hl 1 rfl) ?_
          refine lv_iload_n hx hb dL_isChain_165 rfl (lv_at hl 2 rfl) ?_
          refine lv_iload hx hb dL_isChain_166 (lv_at hl 5 rfl) ?_
          refine lv_iconst (v := 0) hx hb dL_isChain_168 (by decide) ?_
          refine z_callE (x := 5) (vx_runV (As := [.int (nI P), .int (nI k), .int 0]) (rest := []) ⟨hx, hb, hml, hown, hts⟩ (c_X1_entry l hf D cI q (gOf τ) hq (nI P) (nI k) 0 (ok_J hJ) (hz_J hJ)) (cwV 3 hts gL_isChain_X1_entry rfl rfl rfl kd_X1_entry ⟨Nat.le_of_ble_eq_true rfl, Nat.le_of_ble_eq_true rfl⟩) (pV_P hP hK hE hX) rfl rfl hl.1 rfl (lv_room (Nat.le_of_ble_eq_true rfl)) dL_isChain_169 ⟨Nat.le_of_ble_eq_true rfl, Nat.le_of_ble_eq_true rfl⟩) (fun E9 h9 => h9.1 (congrArg Prod.fst ((vE0 hJ hPn c_k).trans (congrArg (fun z => ((0, z, gOf τ) : Nat × Int32 × SG)) (hkin))))) (fun r9 h9 => h9.2.trans (congrArg (fun z => z.2.1) ((vE0 hJ hPn c_k).trans (congrArg (fun z => ((0, z, gOf τ) : Nat × Int32 × SG)) (hkin))))) ?_
          refine lv_istore (lv' := [(8, .int 5), (4, .int 1), (0, .ref (q 0)), (1, .int (nI P)), (2, .int (nI (mMan τ P))), (3, .int (nI F)), (5, .int (nI k))]) hx hb dL_isChain_172 hl (by decide) rfl (fun ls hl => ?_)
          refine lv_aload_n hx hb dL_isChain_174 rfl (lv_at hl 2 rfl) ?_
          refine lv_iload_n hx hb dL_isChain_175 rfl (lv_at hl 3 rfl) ?_
          refine lv_iload hx hb dL_isChain_176 (lv_at hl 6 rfl) ?_
          refine lv_iconst (v := 4) hx hb dL_isChain_178 (by decide) ?_
          refine z_callE (x := nI o) (vx_runV (As := [.int (nI P), .int (nI k), .int 4]) (rest := []) ⟨hx, hb, hml, hown, hts⟩ (c_X1_entry l hf D cI q (gOf τ) hq (nI P) (nI k) 4 (ok_J hJ) (hz_J hJ)) (cwV 3 hts gL_isChain_X1_entry rfl rfl rfl kd_X1_entry ⟨Nat.le_of_ble_eq_true rfl, Nat.le_of_ble_eq_true rfl⟩) (pV_P hP hK hE hX) rfl rfl hl.1 rfl (lv_room (Nat.le_of_ble_eq_true rfl)) dL_isChain_179 ⟨Nat.le_of_ble_eq_true rfl, Nat.le_of_ble_eq_true rfl⟩) (fun E9 h9 => h9.1 (congrArg Prod.fst ((vE4 hJ hPn c_k).trans (congrArg (fun z => ((0, z, gOf τ) : Nat × Int32 × SG)) (hoth))))) (fun r9 h9 => h9.2.trans (congrArg (fun z => z.2.1) ((vE4 hJ hPn c_k).trans (congrArg (fun z => ((0, z, gOf τ) : Nat × Int32 × SG)) (hoth))))) ?_
          refine lv_istore (lv' := [(9, .int (nI o)), (8, .int 5), (4, .int 1), (0, .ref (q 0)), (1, .int (nI P)), (2, .int (nI (mMan τ P))), (3, .int (nI F)), (5, .int (nI k))]) hx hb dL_isChain_182 hl (by decide) rfl (fun ls hl => ?_)
          refine lv_aload_n hx hb dL_isChain_184 rfl (lv_at hl 3 rfl) ?_
          refine lv_iload_n hx hb dL_isChain_185 rfl (lv_at hl 4 rfl) ?_
          refine lv_iload hx hb dL_isChain_186 (lv_at hl 7 rfl) ?_
          refine lv_iconst (v := 5) hx hb dL_isChain_188 (by decide) ?_
          refine z_callE (x := nI i) (vx_runV (As := [.int (nI P), .int (nI k), .int 5]) (rest := []) ⟨hx, hb, hml, hown, hts⟩ (c_X1_entry l hf D cI q (gOf τ) hq (nI P) (nI k) 5 (ok_J hJ) (hz_J hJ)) (cwV 3 hts gL_isChain_X1_entry rfl rfl rfl kd_X1_entry ⟨Nat.le_of_ble_eq_true rfl, Nat.le_of_ble_eq_true rfl⟩) (pV_P hP hK hE hX) rfl rfl hl.1 rfl (lv_room (Nat.le_of_ble_eq_true rfl)) dL_isChain_189 ⟨Nat.le_of_ble_eq_true rfl, Nat.le_of_ble_eq_true rfl⟩) (fun E9 h9 => h9.1 (congrArg Prod.fst ((vE5 hJ hPn c_k).trans (congrArg (fun z => ((0, z, gOf τ) : Nat × Int32 × SG)) (hits))))) (fun r9 h9 => h9.2.trans (congrArg (fun z => z.2.1) ((vE5 hJ hPn c_k).trans (congrArg (fun z => ((0, z, gOf τ) : Nat × Int32 × SG)) (hits))))) ?_
          refine lv_istore (lv' := [(10, .int (nI i)), (9, .int (nI o)), (8, .int 5), (4, .int 1), (0, .ref (q 0)), (1, .int (nI P)), (2, .int (nI (mMan τ P))), (3, .int (nI F)), (5, .int (nI k))]) hx hb dL_isChain_192 hl (by decide) rfl (fun ls hl => ?_)
          refine lv_iload hx hb dL_isChain_194 (lv_at hl 2 rfl) ?_
          refine lv_iconst (v := 3) hx hb dL_isChain_196 (by decide) ?_
          refine lv_icmp_ne (tgt := 204) hx hb dL_isChain_197 (by decide) (fun c_128 => ?_) (fun c_128 => absurd c_128 (by decide))
          refine lv_iload hx hb dL_isChain_204 (lv_at hl 2 rfl) ?_
          refine lv_iconst (v := 4) hx hb dL_isChain_206 (by decide) ?_
          refine lv_icmp_ne (tgt := 214) hx hb dL_isChain_207 (by decide) (fun c_129 => ?_) (fun c_129 => absurd c_129 (by decide))
          refine lv_iload hx hb dL_isChain_214 (lv_at hl 2 rfl) ?_
          refine lv_iconst (v := 5) hx hb dL_isChain_216 (by decide) ?_
          refine lv_icmp_ne (tgt := 225) hx hb dL_isChain_217 (by decide) (fun c_130 => absurd (by decide) c_130) (fun c_130 => ?_)
          refine lv_bipush (v := 6) hx hb dL_isChain_220 (by decide) ?_
          refine lv_goto (tgt := 237) hx hb dL_isChain_222 (by decide) ?_
          refine lv_istore (lv' := [(11, .int 6), (10, .int (nI i)), (9, .int (nI o)), (8, .int 5), (4, .int 1), (0, .ref (q 0)), (1, .int (nI P)), (2, .int (nI (mMan τ P))), (3, .int (nI F)), (5, .int (nI k))]) hx hb dL_isChain_237 hl (by decide) rfl (fun ls hl => ?_)
          refine lv_iload hx hb dL_isChain_239 (lv_at hl 4 rfl) ?_
          refine lv_if_eq (tgt := 294) hx hb dL_isChain_241 (by decide) (fun c_131 => absurd c_131 (by decide)) (fun c_131 => ?_)
          refine lv_iload hx hb dL_isChain_244 (lv_at hl 0 rfl) ?_
          refine lv_if_lt (tgt := 290) hx hb dL_isChain_246 (by decide) (fun c_132 => absurd c_132 (by decide)) (fun c_132 => ?_)
          refine lv_aload_n hx hb dL_isChain_249 rfl (lv_at hl 5 rfl) ?_
          refine lv_iload hx hb dL_isChain_250 (lv_at hl 2 rfl) ?_
          refine lv_iload hx hb dL_isChain_252 (lv_at hl 1 rfl) ?_
          refine lv_iconst (v := 0) hx hb dL_isChain_254 (by decide) ?_
          refine z_callE (x := 6) (vx_runV (As := [.int (nI o), .int (nI i), .int 0]) (rest := []) ⟨hx, hb, hml, hown, hts⟩ (c_X1_entry l hf D cI q (gOf τ) hq (nI o) (nI i) 0 (ok_J hJ) (hz_J hJ)) (cwV 3 hts gL_isChain_X1_entry rfl rfl rfl kd_X1_entry ⟨Nat.le_of_ble_eq_true rfl, Nat.le_of_ble_eq_true rfl⟩) (pV_P hP hK hE hX) rfl rfl hl.1 rfl (lv_room (Nat.le_of_ble_eq_true rfl)) dL_isChain_255 ⟨Nat.le_of_ble_eq_true rfl, Nat.le_of_ble_eq_true rfl⟩) (fun E9 h9 => h9.1 (congrArg Prod.fst ((vE0 hJ ho hi).trans (congrArg (fun z => ((0, z, gOf τ) : Nat × Int32 × SG)) (hk2.trans (show dueF _ = 6 by rw [hkin]; decide)))))) (fun r9 h9 => h9.2.trans (congrArg (fun z => z.2.1) ((vE0 hJ ho hi).trans (congrArg (fun z => ((0, z, gOf τ) : Nat × Int32 × SG)) (hk2.trans (show dueF _ = 6 by rw [hkin]; decide)))))) ?_
          refine lv_iload hx hb dL_isChain_258 (lv_at hl 0 rfl) ?_
          refine lv_icmp_ne (tgt := 294) hx hb dL_isChain_260 (by decide) (fun c_133 => absurd (by decide) c_133) (fun c_133 => ?_)
          refine lv_aload_n hx hb dL_isChain_263 rfl (lv_at hl 5 rfl) ?_
          refine lv_iload hx hb dL_isChain_264 (lv_at hl 2 rfl) ?_
          refine lv_iload hx hb dL_isChain_266 (lv_at hl 1 rfl) ?_
          refine lv_iconst (v := 4) hx hb dL_isChain_268 (by decide) ?_
          refine z_callE (x := nI P) (vx_runV (As := [.int (nI o), .int (nI i), .int 4]) (rest := []) ⟨hx, hb, hml, hown, hts⟩ (c_X1_entry l hf D cI q (gOf τ) hq (nI o) (nI i) 4 (ok_J hJ) (hz_J hJ)) (cwV 3 hts gL_isChain_X1_entry rfl rfl rfl kd_X1_entry ⟨Nat.le_of_ble_eq_true rfl, Nat.le_of_ble_eq_true rfl⟩) (pV_P hP hK hE hX) rfl rfl hl.1 rfl (lv_room (Nat.le_of_ble_eq_true rfl)) dL_isChain_269 ⟨Nat.le_of_ble_eq_true rfl, Nat.le_of_ble_eq_true rfl⟩) (fun E9 h9 => h9.1 (congrArg Prod.fst ((vE4 hJ ho hi).trans (congrArg (fun z => ((0, z, gOf τ) : Nat × Int32 × SG)) (ho2))))) (fun r9 h9 => h9.2.trans (congrArg (fun z => z.2.1) ((vE4 hJ ho hi).trans (congrArg (fun z => ((0, z, gOf τ) : Nat × Int32 × SG)) (ho2))))) ?_
          refine lv_iload_n hx hb dL_isChain_272 rfl (lv_at hl 6 rfl) ?_
          refine neN P P (tgt := 294) hx hb rfl rfl (by omega) (by omega) dL_isChain_273 (by decide) (fun c_134 => absurd c_134 (by omega)) (fun c_134 => ?_)
          refine lv_aload_n hx hb dL_isChain_276 rfl (lv_at hl 5 rfl) ?_
          refine lv_iload hx hb dL_isChain_277 (lv_at hl 2 rfl) ?_
          refine lv_iload hx hb dL_isChain_279 (lv_at hl 1 rfl) ?_
          refine lv_iconst (v := 5) hx hb dL_isChain_281 (by decide) ?_
          refine z_callE (x := nI k) (vx_runV (As := [.int (nI o), .int (nI i), .int 5]) (rest := []) ⟨hx, hb, hml, hown, hts⟩ (c_X1_entry l hf D cI q (gOf τ) hq (nI o) (nI i) 5 (ok_J hJ) (hz_J hJ)) (cwV 3 hts gL_isChain_X1_entry rfl rfl rfl kd_X1_entry ⟨Nat.le_of_ble_eq_true rfl, Nat.le_of_ble_eq_true rfl⟩) (pV_P hP hK hE hX) rfl rfl hl.1 rfl (lv_room (Nat.le_of_ble_eq_true rfl)) dL_isChain_282 ⟨Nat.le_of_ble_eq_true rfl, Nat.le_of_ble_eq_true rfl⟩) (fun E9 h9 => h9.1 (congrArg Prod.fst ((vE5 hJ ho hi).trans (congrArg (fun z => ((0, z, gOf τ) : Nat × Int32 × SG)) (hi2))))) (fun r9 h9 => h9.2.trans (congrArg (fun z => z.2.1) ((vE5 hJ ho hi).trans (congrArg (fun z => ((0, z, gOf τ) : Nat × Int32 × SG)) (hi2))))) ?_
          refine lv_iload hx hb dL_isChain_285 (lv_at hl 9 rfl) ?_
          refine neN k k (tgt := 294) hx hb rfl rfl (by omega) (by omega) dL_isChain_287 (by decide) (fun c_135 => absurd c_135 (by omega)) (fun c_135 => ?_)
          refine lv_iconst (v := 1) hx hb dL_isChain_290 (by decide) ?_
          refine lv_goto (tgt := 295) hx hb dL_isChain_291 (by decide) ?_
          refine lv_istore (lv' := [(4, .int 1), (11, .int 6), (10, .int (nI i)), (9, .int (nI o)), (8, .int 5), (0, .ref (q 0)), (1, .int (nI P)), (2, .int (nI (mMan τ P))), (3, .int (nI F)), (5, .int (nI k))]) hx hb dL_isChain_295 hl (by decide) rfl (fun ls hl => ?_)
          refine lv_iload hx hb dL_isChain_297 (lv_at hl 0 rfl) ?_
          refine lv_if_eq (tgt := 360) hx hb dL_isChain_299 (by decide) (fun c_136 => absurd c_136 (by decide)) (fun c_136 => ?_)
          refine lv_iload hx hb dL_isChain_302 (lv_at hl 4 rfl) ?_
          refine lv_if_eq (tgt := 313) hx hb dL_isChain_304 (by decide) (fun c_137 => absurd c_137 (by decide)) (fun c_137 => ?_)
          refine lv_iload hx hb dL_isChain_307 (lv_at hl 4 rfl) ?_
          refine lv_iconst (v := 4) hx hb dL_isChain_309 (by decide) ?_
          refine lv_icmp_ne (tgt := 317) hx hb dL_isChain_310 (by decide) (fun c_138 => ?_) (fun c_138 => absurd c_138 (by decide))
          refine lv_iconst (v := 0) hx hb dL_isChain_317 (by decide) ?_
          refine lv_iload hx hb dL_isChain_318 (lv_at hl 9 rfl) ?_
          refine neZN k (tgt := 327) hx hb rfl (by omega) dL_isChain_320 (by decide) (fun c_139 => ?_) (fun c_139 => absurd c_139 (by omega))
          refine lv_iconst (v := 0) hx hb dL_isChain_327 (by decide) ?_
          refine lv_icmp_ne (tgt := 360) hx hb dL_isChain_328 (by decide) (fun c_140 => absurd (by decide) c_140) (fun c_140 => ?_)
          refine lv_iload hx hb dL_isChain_331 (lv_at hl 4 rfl) ?_
          refine lv_bipush (v := 6) hx hb dL_isChain_333 (by decide) ?_
          refine lv_icmp_ne (tgt := 356) hx hb dL_isChain_335 (by decide) (fun c_141 => ?_) (fun c_141 => absurd c_141 (by decide))
          refine lv_iconst (v := 1) hx hb dL_isChain_356 (by decide) ?_
          refine lv_goto (tgt := 361) hx hb dL_isChain_357 (by decide) ?_
          refine lv_istore (lv' := [(4, .int 1), (11, .int 6), (10, .int (nI i)), (9, .int (nI o)), (8, .int 5), (0, .ref (q 0)), (1, .int (nI P)), (2, .int (nI (mMan τ P))), (3, .int (nI F)), (5, .int (nI k))]) hx hb dL_isChain_361 hl (by decide) rfl (fun ls hl => ?_)
          refine lv_iinc (v := nI (k + 1)) (lv' := [(5, .int (nI (k + 1))), (4, .int 1), (11, .int 6), (10, .int (nI i)), (9, .int (nI o)), (8, .int 5), (0, .ref (q 0)), (1, .int (nI P)), (2, .int (nI (mMan τ P))), (3, .int (nI F))]) hx hb dL_isChain_363 hl (k := 9) rfl (iincN k) (by decide) rfl (fun ls hl => ?_)
          refine lv_goto (tgt := 43) hx hb dL_isChain_366 (by decide) ?_
          exact ih_k (by omega) _ (lv_sub hl [6, 7, 8, 9, 1, 0] rfl)
        · skip
          have hk0 : k ≠ 0 := fun z => by have := h04.mpr z; omega
          obtain ⟨o, i, ho, hi, hoth, hits, hk2, ho2, hi2⟩ := lk_J hJ c_k (by rw [hkin]; decide)
          have hmo := hJ.1.1.2.1 o
          obtain ⟨h61, h62⟩ := h6 rfl
          refine lv_aload_n hx hb dL_isChain_164 rfl (lv_at hl 1 rfl) ?_
          refine lv_iload_n hx hb dL_isChain_165 rfl (lv_at hl 2 rfl) ?_
          refine lv_iload hx hb dL_isChain_166 (lv_at hl 5 rfl) ?_
          refine lv_iconst (v := 0) hx hb dL_isChain_168 (by decide) ?_
          refine z_callE (x := 6) (vx_runV (As := [.int (nI P), .int (nI k), .int 0]) (rest := []) ⟨hx, hb, hml, hown, hts⟩ (c_X1_entry l hf D cI q (gOf τ) hq (nI P) (nI k) 0 (ok_J hJ) (hz_J hJ)) (cwV 3 hts gL_isChain_X1_entry rfl rfl rfl kd_X1_entry ⟨Nat.le_of_ble_eq_true rfl, Nat.le_of_ble_eq_true rfl⟩) (pV_P hP hK hE hX) rfl rfl hl.1 rfl (lv_room (Nat.le_of_ble_eq_true rfl)) dL_isChain_169 ⟨Nat.le_of_ble_eq_true rfl, Nat.le_of_ble_eq_true rfl⟩) (fun E9 h9 => h9.1 (congrArg Prod.fst ((vE0 hJ hPn c_k).trans (congrArg (fun z => ((0, z, gOf τ) : Nat × Int32 × SG)) (hkin))))) (fun r9 h9 => h9.2.trans (congrArg (fun z => z.2.1) ((vE0 hJ hPn c_k).trans (congrArg (fun z => ((0, z, gOf τ) : Nat × Int32 × SG)) (hkin))))) ?_
          refine lv_istore (lv' := [(8, .int 6), (4, .int 1), (0, .ref (q 0)), (1, .int (nI P)), (2, .int (nI (mMan τ P))), (3, .int (nI F)), (5, .int (nI k))]) hx hb dL_isChain_172 hl (by decide) rfl (fun ls hl => ?_)
          refine lv_aload_n hx hb dL_isChain_174 rfl (lv_at hl 2 rfl) ?_
          refine lv_iload_n hx hb dL_isChain_175 rfl (lv_at hl 3 rfl) ?_
          refine lv_iload hx hb dL_isChain_176 (lv_at hl 6 rfl) ?_
          refine lv_iconst (v := 4) hx hb dL_isChain_178 (by decide) ?_
          refine z_callE (x := nI o) (vx_runV (As := [.int (nI P), .int (nI k), .int 4]) (rest := []) ⟨hx, hb, hml, hown, hts⟩ (c_X1_entry l hf D cI q (gOf τ) hq (nI P) (nI k) 4 (ok_J hJ) (hz_J hJ)) (cwV 3 hts gL_isChain_X1_entry rfl rfl rfl kd_X1_entry ⟨Nat.le_of_ble_eq_true rfl, Nat.le_of_ble_eq_true rfl⟩) (pV_P hP hK hE hX) rfl rfl hl.1 rfl (lv_room (Nat.le_of_ble_eq_true rfl)) dL_isChain_179 ⟨Nat.le_of_ble_eq_true rfl, Nat.le_of_ble_eq_true rfl⟩) (fun E9 h9 => h9.1 (congrArg Prod.fst ((vE4 hJ hPn c_k).trans (congrArg (fun z => ((0, z, gOf τ) : Nat × Int32 × SG)) (hoth))))) (fun r9 h9 => h9.2.trans (congrArg (fun z => z.2.1) ((vE4 hJ hPn c_k).trans (congrArg (fun z => ((0, z, gOf τ) : Nat × Int32 × SG)) (hoth))))) ?_
          refine lv_istore (lv' := [(9, .int (nI o)), (8, .int 6), (4, .int 1), (0, .ref (q 0)), (1, .int (nI P)), (2, .int (nI (mMan τ P))), (3, .int (nI F)), (5, .int (nI k))]) hx hb dL_isChain_182 hl (by decide) rfl (fun ls hl => ?_)
          refine lv_aload_n hx hb dL_isChain_184 rfl (lv_at hl 3 rfl) ?_
          refine lv_iload_n hx hb dL_isChain_185 rfl (lv_at hl 4 rfl) ?_
          refine lv_iload hx hb dL_isChain_186 (lv_at hl 7 rfl) ?_
          refine lv_iconst (v := 5) hx hb dL_isChain_188 (by decide) ?_
          refine z_callE (x := nI i) (vx_runV (As := [.int (nI P), .int (nI k), .int 5]) (rest := []) ⟨hx, hb, hml, hown, hts⟩ (c_X1_entry l hf D cI q (gOf τ) hq (nI P) (nI k) 5 (ok_J hJ) (hz_J hJ)) (cwV 3 hts gL_isChain_X1_entry rfl rfl rfl kd_X1_entry ⟨Nat.le_of_ble_eq_true rfl, Nat.le_of_ble_eq_true rfl⟩) (pV_P hP hK hE hX) rfl rfl hl.1 rfl (lv_room (Nat.le_of_ble_eq_true rfl)) dL_isChain_189 ⟨Nat.le_of_ble_eq_true rfl, Nat.le_of_ble_eq_true rfl⟩) (fun E9 h9 => h9.1 (congrArg Prod.fst ((vE5 hJ hPn c_k).trans (congrArg (fun z => ((0, z, gOf τ) : Nat × Int32 × SG)) (hits))))) (fun r9 h9 => h9.2.trans (congrArg (fun z => z.2.1) ((vE5 hJ hPn c_k).trans (congrArg (fun z => ((0, z, gOf τ) : Nat × Int32 × SG)) (hits))))) ?_
          refine lv_istore (lv' := [(10, .int (nI i)), (9, .int (nI o)), (8, .int 6), (4, .int 1), (0, .ref (q 0)), (1, .int (nI P)), (2, .int (nI (mMan τ P))), (3, .int (nI F)), (5, .int (nI k))]) hx hb dL_isChain_192 hl (by decide) rfl (fun ls hl => ?_)
          refine lv_iload hx hb dL_isChain_194 (lv_at hl 2 rfl) ?_
          refine lv_iconst (v := 3) hx hb dL_isChain_196 (by decide) ?_
          refine lv_icmp_ne (tgt := 204) hx hb dL_isChain_197 (by decide) (fun c_142 => ?_) (fun c_142 => absurd c_142 (by decide))
          refine lv_iload hx hb dL_isChain_204 (lv_at hl 2 rfl) ?_
          refine lv_iconst (v := 4) hx hb dL_isChain_206 (by decide) ?_
          refine lv_icmp_ne (tgt := 214) hx hb dL_isChain_207 (by decide) (fun c_143 => ?_) (fun c_143 => absurd c_143 (by decide))
          refine lv_iload hx hb dL_isChain_214 (lv_at hl 2 rfl) ?_
          refine lv_iconst (v := 5) hx hb dL_isChain_216 (by decide) ?_
          refine lv_icmp_ne (tgt := 225) hx hb dL_isChain_217 (by decide) (fun c_144 => ?_) (fun c_144 => absurd c_144 (by decide))
          refine lv_iload hx hb dL_isChain_225 (lv_at hl 2 rfl) ?_
          refine lv_bipush (v := 6) hx hb dL_isChain_227 (by decide) ?_
          refine lv_icmp_ne (tgt := 236) hx hb dL_isChain_229 (by decide) (fun c_145 => absurd (by decide) c_145) (fun c_145 => ?_)
          refine lv_iconst (v := 5) hx hb dL_isChain_232 (by decide) ?_
          refine lv_goto (tgt := 237) hx hb dL_isChain_233 (by decide) ?_
          refine lv_istore (lv' := [(11, .int 5), (10, .int (nI i)), (9, .int (nI o)), (8, .int 6), (4, .int 1), (0, .ref (q 0)), (1, .int (nI P)), (2, .int (nI (mMan τ P))), (3, .int (nI F)), (5, .int (nI k))]) hx hb dL_isChain_237 hl (by decide) rfl (fun ls hl => ?_)
          refine lv_iload hx hb dL_isChain_239 (lv_at hl 4 rfl) ?_
          refine lv_if_eq (tgt := 294) hx hb dL_isChain_241 (by decide) (fun c_146 => absurd c_146 (by decide)) (fun c_146 => ?_)
          refine lv_iload hx hb dL_isChain_244 (lv_at hl 0 rfl) ?_
          refine lv_if_lt (tgt := 290) hx hb dL_isChain_246 (by decide) (fun c_147 => absurd c_147 (by decide)) (fun c_147 => ?_)
          refine lv_aload_n hx hb dL_isChain_249 rfl (lv_at hl 5 rfl) ?_
          refine lv_iload hx hb dL_isChain_250 (lv_at hl 2 rfl) ?_
          refine lv_iload hx hb dL_isChain_252 (lv_at hl 1 rfl) ?_
          refine lv_iconst (v := 0) hx hb dL_isChain_254 (by decide) ?_
          refine z_callE (x := 5) (vx_runV (As := [.int (nI o), .int (nI i), .int 0]) (rest := []) ⟨hx, hb, hml, hown, hts⟩ (c_X1_entry l hf D cI q (gOf τ) hq (nI o) (nI i) 0 (ok_J hJ) (hz_J hJ)) (cwV 3 hts gL_isChain_X1_entry rfl rfl rfl kd_X1_entry ⟨Nat.le_of_ble_eq_true rfl, Nat.le_of_ble_eq_true rfl⟩) (pV_P hP hK hE hX) rfl rfl hl.1 rfl (lv_room (Nat.le_of_ble_eq_true rfl)) dL_isChain_255 ⟨Nat.le_of_ble_eq_true rfl, Nat.le_of_ble_eq_true rfl⟩) (fun E9 h9 => h9.1 (congrArg Prod.fst ((vE0 hJ ho hi).trans (congrArg (fun z => ((0, z, gOf τ) : Nat × Int32 × SG)) (hk2.trans (show dueF _ = 5 by rw [hkin]; decide)))))) (fun r9 h9 => h9.2.trans (congrArg (fun z => z.2.1) ((vE0 hJ ho hi).trans (congrArg (fun z => ((0, z, gOf τ) : Nat × Int32 × SG)) (hk2.trans (show dueF _ = 5 by rw [hkin]; decide)))))) ?_
          refine lv_iload hx hb dL_isChain_258 (lv_at hl 0 rfl) ?_
          refine lv_icmp_ne (tgt := 294) hx hb dL_isChain_260 (by decide) (fun c_148 => absurd (by decide) c_148) (fun c_148 => ?_)
          refine lv_aload_n hx hb dL_isChain_263 rfl (lv_at hl 5 rfl) ?_
          refine lv_iload hx hb dL_isChain_264 (lv_at hl 2 rfl) ?_
          refine lv_iload hx hb dL_isChain_266 (lv_at hl 1 rfl) ?_
          refine lv_iconst (v := 4) hx hb dL_isChain_268 (by decide) ?_
          refine z_callE (x := nI P) (vx_runV (As := [.int (nI o), .int (nI i), .int 4]) (rest := []) ⟨hx, hb, hml, hown, hts⟩ (c_X1_entry l hf D cI q (gOf τ) hq (nI o) (nI i) 4 (ok_J hJ) (hz_J hJ)) (cwV 3 hts gL_isChain_X1_entry rfl rfl rfl kd_X1_entry ⟨Nat.le_of_ble_eq_true rfl, Nat.le_of_ble_eq_true rfl⟩) (pV_P hP hK hE hX) rfl rfl hl.1 rfl (lv_room (Nat.le_of_ble_eq_true rfl)) dL_isChain_269 ⟨Nat.le_of_ble_eq_true rfl, Nat.le_of_ble_eq_true rfl⟩) (fun E9 h9 => h9.1 (congrArg Prod.fst ((vE4 hJ ho hi).trans (congrArg (fun z => ((0, z, gOf τ) : Nat × Int32 × SG)) (ho2))))) (fun r9 h9 => h9.2.trans (congrArg (fun z => z.2.1) ((vE4 hJ ho hi).trans (congrArg (fun z => ((0, z, gOf τ) : Nat × Int32 × SG)) (ho2))))) ?_
          refine lv_iload_n hx hb dL_isChain_272 rfl (lv_at hl 6 rfl) ?_
          refine neN P P (tgt := 294) hx hb rfl rfl (by omega) (by omega) dL_isChain_273 (by decide) (fun c_149 => absurd c_149 (by omega)) (fun c_149 => ?_)
          refine lv_aload_n hx hb dL_isChain_276 rfl (lv_at hl 5 rfl) ?_
          refine lv_iload hx hb dL_isChain_277 (lv_at hl 2 rfl) ?_
          refine lv_iload hx hb dL_isChain_279 (lv_at hl 1 rfl) ?_
          refine lv_iconst (v := 5) hx hb dL_isChain_281 (by decide) ?_
          refine z_callE (x := nI k) (vx_runV (As := [.int (nI o), .int (nI i), .int 5]) (rest := []) ⟨hx, hb, hml, hown, hts⟩ (c_X1_entry l hf D cI q (gOf τ) hq (nI o) (nI i) 5 (ok_J hJ) (hz_J hJ)) (cwV 3 hts gL_isChain_X1_entry rfl rfl rfl kd_X1_entry ⟨Nat.le_of_ble_eq_true rfl, Nat.le_of_ble_eq_true rfl⟩) (pV_P hP hK hE hX) rfl rfl hl.1 rfl (lv_room (Nat.le_of_ble_eq_true rfl)) dL_isChain_282 ⟨Nat.le_of_ble_eq_true rfl, Nat.le_of_ble_eq_true rfl⟩) (fun E9 h9 => h9.1 (congrArg Prod.fst ((vE5 hJ ho hi).trans (congrArg (fun z => ((0, z, gOf τ) : Nat × Int32 × SG)) (hi2))))) (fun r9 h9 => h9.2.trans (congrArg (fun z => z.2.1) ((vE5 hJ ho hi).trans (congrArg (fun z => ((0, z, gOf τ) : Nat × Int32 × SG)) (hi2))))) ?_
          refine lv_iload hx hb dL_isChain_285 (lv_at hl 9 rfl) ?_
          refine neN k k (tgt := 294) hx hb rfl rfl (by omega) (by omega) dL_isChain_287 (by decide) (fun c_150 => absurd c_150 (by omega)) (fun c_150 => ?_)
          refine lv_iconst (v := 1) hx hb dL_isChain_290 (by decide) ?_
          refine lv_goto (tgt := 295) hx hb dL_isChain_291 (by decide) ?_
          refine lv_istore (lv' := [(4, .int 1), (11, .int 5), (10, .int (nI i)), (9, .int (nI o)), (8, .int 6), (0, .ref (q 0)), (1, .int (nI P)), (2, .int (nI (mMan τ P))), (3, .int (nI F)), (5, .int (nI k))]) hx hb dL_isChain_295 hl (by decide) rfl (fun ls hl => ?_)
          refine lv_iload hx hb dL_isChain_297 (lv_at hl 0 rfl) ?_
          refine lv_if_eq (tgt := 360) hx hb dL_isChain_299 (by decide) (fun c_151 => absurd c_151 (by decide)) (fun c_151 => ?_)
          refine lv_iload hx hb dL_isChain_302 (lv_at hl 4 rfl) ?_
          refine lv_if_eq (tgt := 313) hx hb dL_isChain_304 (by decide) (fun c_152 => absurd c_152 (by decide)) (fun c_152 => ?_)
          refine lv_iload hx hb dL_isChain_307 (lv_at hl 4 rfl) ?_
          refine lv_iconst (v := 4) hx hb dL_isChain_309 (by decide) ?_
          refine lv_icmp_ne (tgt := 317) hx hb dL_isChain_310 (by decide) (fun c_153 => ?_) (fun c_153 => absurd c_153 (by decide))
          refine lv_iconst (v := 0) hx hb dL_isChain_317 (by decide) ?_
          refine lv_iload hx hb dL_isChain_318 (lv_at hl 9 rfl) ?_
          refine neZN k (tgt := 327) hx hb rfl (by omega) dL_isChain_320 (by decide) (fun c_154 => ?_) (fun c_154 => absurd c_154 (by omega))
          refine lv_iconst (v := 0) hx hb dL_isChain_327 (by decide) ?_
          refine lv_icmp_ne (tgt := 360) hx hb dL_isChain_328 (by decide) (fun c_155 => absurd (by decide) c_155) (fun c_155 => ?_)
          refine lv_iload hx hb dL_isChain_331 (lv_at hl 4 rfl) ?_
          refine lv_bipush (v := 6) hx hb dL_isChain_333 (by decide) ?_
          refine lv_icmp_ne (tgt := 356) hx hb dL_isChain_335 (by decide) (fun c_156 => absurd (by decide) c_156) (fun c_156 => ?_)
          refine lv_iload hx hb dL_isChain_338 (lv_at hl 9 rfl) ?_
          refine lv_iload_n hx hb dL_isChain_340 rfl (lv_at hl 7 rfl) ?_
          refine lv_iconst (v := 1) hx hb dL_isChain_341 (by decide) ?_
          refine lv_isub hx hb dL_isChain_342 ?_
          refine lv_topE (y := nI (mMan τ P - 1)) ((show nI (mMan τ P) - nI 1 = nI (mMan τ P - 1) from pk_sub (by omega))) ?_
          refine neN k (mMan τ P - 1) (tgt := 360) hx hb rfl rfl (by omega) (by omega) dL_isChain_343 (by decide) (fun c_157 => absurd c_157 (by omega)) (fun c_157 => ?_)
          refine lv_aload_n hx hb dL_isChain_346 rfl (lv_at hl 5 rfl) ?_
          refine lv_iload_n hx hb dL_isChain_347 rfl (lv_at hl 6 rfl) ?_
          refine lv_iconst (v := 4) hx hb dL_isChain_348 (by decide) ?_
          refine z_callE (x := 1) (vx_runV (As := [.int (nI P), .int 4]) (rest := []) ⟨hx, hb, hml, hown, hts⟩ (c_X1_pallet l hf D cI q (gOf τ) hq (nI P) 4 (ok_J hJ) (hz_J hJ)) (cwV 2 hts gL_isChain_X1_pallet rfl rfl rfl kd_X1_pallet ⟨Nat.le_of_ble_eq_true rfl, Nat.le_of_ble_eq_true rfl⟩) (pV_P hP hK hE hX) rfl rfl hl.1 rfl (lv_room (Nat.le_of_ble_eq_true rfl)) dL_isChain_349 ⟨Nat.le_of_ble_eq_true rfl, Nat.le_of_ble_eq_true rfl⟩) (fun E9 h9 => h9.1 (congrArg Prod.fst ((vP4 hJ hPn).trans (congrArg (fun z => ((0, z, gOf τ) : Nat × Int32 × SG)) ((by rw [h62]; rfl : bI (mGon τ P) = 1)))))) (fun r9 h9 => h9.2.trans (congrArg (fun z => z.2.1) ((vP4 hJ hPn).trans (congrArg (fun z => ((0, z, gOf τ) : Nat × Int32 × SG)) ((by rw [h62]; rfl : bI (mGon τ P) = 1)))))) ?_
          refine lv_iconst (v := 1) hx hb dL_isChain_352 (by decide) ?_
          refine lv_icmp_ne (tgt := 360) hx hb dL_isChain_353 (by decide) (fun c_158 => absurd (by decide) c_158) (fun c_158 => ?_)
          refine lv_iconst (v := 1) hx hb dL_isChain_356 (by decide) ?_
          refine lv_goto (tgt := 361) hx hb dL_isChain_357 (by decide) ?_
          refine lv_istore (lv' := [(4, .int 1), (11, .int 5), (10, .int (nI i)), (9, .int (nI o)), (8, .int 6), (0, .ref (q 0)), (1, .int (nI P)), (2, .int (nI (mMan τ P))), (3, .int (nI F)), (5, .int (nI k))]) hx hb dL_isChain_361 hl (by decide) rfl (fun ls hl => ?_)
          refine lv_iinc (v := nI (k + 1)) (lv' := [(5, .int (nI (k + 1))), (4, .int 1), (11, .int 5), (10, .int (nI i)), (9, .int (nI o)), (8, .int 6), (0, .ref (q 0)), (1, .int (nI P)), (2, .int (nI (mMan τ P))), (3, .int (nI F))]) hx hb dL_isChain_363 hl (k := 9) rfl (iincN k) (by decide) rfl (fun ls hl => ?_)
          refine lv_goto (tgt := 43) hx hb dL_isChain_366 (by decide) ?_
          exact ih_k (by omega) _ (lv_sub hl [6, 7, 8, 9, 1, 0] rfl)
        · skip
          have hk0 : k ≠ 0 := fun z => by have := h04.mpr z; omega
          refine lv_aload_n hx hb dL_isChain_164 rfl (lv_at hl 1 rfl) ?_
          refine lv_iload_n hx hb dL_isChain_165 rfl (lv_at hl 2 rfl) ?_
          refine lv_iload hx hb dL_isChain_166 (lv_at hl 5 rfl) ?_
          refine lv_iconst (v := 0) hx hb dL_isChain_168 (by decide) ?_
          refine z_callE (x := nI kd) (vx_runV (As := [.int (nI P), .int (nI k), .int 0]) (rest := []) ⟨hx, hb, hml, hown, hts⟩ (c_X1_entry l hf D cI q (gOf τ) hq (nI P) (nI k) 0 (ok_J hJ) (hz_J hJ)) (cwV 3 hts gL_isChain_X1_entry rfl rfl rfl kd_X1_entry ⟨Nat.le_of_ble_eq_true rfl, Nat.le_of_ble_eq_true rfl⟩) (pV_P hP hK hE hX) rfl rfl hl.1 rfl (lv_room (Nat.le_of_ble_eq_true rfl)) dL_isChain_169 ⟨Nat.le_of_ble_eq_true rfl, Nat.le_of_ble_eq_true rfl⟩) (fun E9 h9 => h9.1 (congrArg Prod.fst ((vE0 hJ hPn c_k).trans (congrArg (fun z => ((0, z, gOf τ) : Nat × Int32 × SG)) (hkin))))) (fun r9 h9 => h9.2.trans (congrArg (fun z => z.2.1) ((vE0 hJ hPn c_k).trans (congrArg (fun z => ((0, z, gOf τ) : Nat × Int32 × SG)) (hkin))))) ?_
          refine lv_istore (lv' := [(8, .int (nI kd)), (4, .int 1), (0, .ref (q 0)), (1, .int (nI P)), (2, .int (nI (mMan τ P))), (3, .int (nI F)), (5, .int (nI k))]) hx hb dL_isChain_172 hl (by decide) rfl (fun ls hl => ?_)
          refine lv_aload_n hx hb dL_isChain_174 rfl (lv_at hl 2 rfl) ?_
          refine lv_iload_n hx hb dL_isChain_175 rfl (lv_at hl 3 rfl) ?_
          refine lv_iload hx hb dL_isChain_176 (lv_at hl 6 rfl) ?_
          refine lv_iconst (v := 4) hx hb dL_isChain_178 (by decide) ?_
          refine z_callE (x := mOth τ (P * 30 + k)) (vx_runV (As := [.int (nI P), .int (nI k), .int 4]) (rest := []) ⟨hx, hb, hml, hown, hts⟩ (c_X1_entry l hf D cI q (gOf τ) hq (nI P) (nI k) 4 (ok_J hJ) (hz_J hJ)) (cwV 3 hts gL_isChain_X1_entry rfl rfl rfl kd_X1_entry ⟨Nat.le_of_ble_eq_true rfl, Nat.le_of_ble_eq_true rfl⟩) (pV_P hP hK hE hX) rfl rfl hl.1 rfl (lv_room (Nat.le_of_ble_eq_true rfl)) dL_isChain_179 ⟨Nat.le_of_ble_eq_true rfl, Nat.le_of_ble_eq_true rfl⟩) (fun E9 h9 => h9.1 (congrArg Prod.fst (vE4 hJ hPn c_k))) (fun r9 h9 => h9.2.trans (congrArg (fun z => z.2.1) (vE4 hJ hPn c_k))) ?_
          refine lv_istore (lv' := [(9, .int (mOth τ (P * 30 + k))), (8, .int (nI kd)), (4, .int 1), (0, .ref (q 0)), (1, .int (nI P)), (2, .int (nI (mMan τ P))), (3, .int (nI F)), (5, .int (nI k))]) hx hb dL_isChain_182 hl (by decide) rfl (fun ls hl => ?_)
          refine lv_aload_n hx hb dL_isChain_184 rfl (lv_at hl 3 rfl) ?_
          refine lv_iload_n hx hb dL_isChain_185 rfl (lv_at hl 4 rfl) ?_
          refine lv_iload hx hb dL_isChain_186 (lv_at hl 7 rfl) ?_
          refine lv_iconst (v := 5) hx hb dL_isChain_188 (by decide) ?_
          refine z_callE (x := mIts τ (P * 30 + k)) (vx_runV (As := [.int (nI P), .int (nI k), .int 5]) (rest := []) ⟨hx, hb, hml, hown, hts⟩ (c_X1_entry l hf D cI q (gOf τ) hq (nI P) (nI k) 5 (ok_J hJ) (hz_J hJ)) (cwV 3 hts gL_isChain_X1_entry rfl rfl rfl kd_X1_entry ⟨Nat.le_of_ble_eq_true rfl, Nat.le_of_ble_eq_true rfl⟩) (pV_P hP hK hE hX) rfl rfl hl.1 rfl (lv_room (Nat.le_of_ble_eq_true rfl)) dL_isChain_189 ⟨Nat.le_of_ble_eq_true rfl, Nat.le_of_ble_eq_true rfl⟩) (fun E9 h9 => h9.1 (congrArg Prod.fst (vE5 hJ hPn c_k))) (fun r9 h9 => h9.2.trans (congrArg (fun z => z.2.1) (vE5 hJ hPn c_k))) ?_
          refine lv_istore (lv' := [(10, .int (mIts τ (P * 30 + k))), (9, .int (mOth τ (P * 30 + k))), (8, .int (nI kd)), (4, .int 1), (0, .ref (q 0)), (1, .int (nI P)), (2, .int (nI (mMan τ P))), (3, .int (nI F)), (5, .int (nI k))]) hx hb dL_isChain_192 hl (by decide) rfl (fun ls hl => ?_)
          refine lv_iload hx hb dL_isChain_194 (lv_at hl 2 rfl) ?_
          refine lv_iconst (v := 3) hx hb dL_isChain_196 (by decide) ?_
          refine neN kd 3 (tgt := 204) hx hb rfl rfl (by omega) (by omega) dL_isChain_197 (by decide) (fun c_159 => ?_) (fun c_159 => absurd c_159 (by omega))
          refine lv_iload hx hb dL_isChain_204 (lv_at hl 2 rfl) ?_
          refine lv_iconst (v := 4) hx hb dL_isChain_206 (by decide) ?_
          refine neN kd 4 (tgt := 214) hx hb rfl rfl (by omega) (by omega) dL_isChain_207 (by decide) (fun c_160 => ?_) (fun c_160 => absurd c_160 (by omega))
          refine lv_iload hx hb dL_isChain_214 (lv_at hl 2 rfl) ?_
          refine lv_iconst (v := 5) hx hb dL_isChain_216 (by decide) ?_
          refine neN kd 5 (tgt := 225) hx hb rfl rfl (by omega) (by omega) dL_isChain_217 (by decide) (fun c_161 => ?_) (fun c_161 => absurd c_161 (by omega))
          refine lv_iload hx hb dL_isChain_225 (lv_at hl 2 rfl) ?_
          refine lv_bipush (v := 6) hx hb dL_isChain_227 (by decide) ?_
          refine neN kd 6 (tgt := 236) hx hb rfl rfl (by omega) (by omega) dL_isChain_229 (by decide) (fun c_162 => ?_) (fun c_162 => absurd c_162 (by omega))
          refine lv_iconst (v := (-1)) hx hb dL_isChain_236 (by decide) ?_
          refine lv_istore (lv' := [(11, .int ((-1))), (10, .int (mIts τ (P * 30 + k))), (9, .int (mOth τ (P * 30 + k))), (8, .int (nI kd)), (4, .int 1), (0, .ref (q 0)), (1, .int (nI P)), (2, .int (nI (mMan τ P))), (3, .int (nI F)), (5, .int (nI k))]) hx hb dL_isChain_237 hl (by decide) rfl (fun ls hl => ?_)
          refine lv_iload hx hb dL_isChain_239 (lv_at hl 4 rfl) ?_
          refine lv_if_eq (tgt := 294) hx hb dL_isChain_241 (by decide) (fun c_163 => absurd c_163 (by decide)) (fun c_163 => ?_)
          refine lv_iload hx hb dL_isChain_244 (lv_at hl 0 rfl) ?_
          refine lv_if_lt (tgt := 290) hx hb dL_isChain_246 (by decide) (fun c_164 => ?_) (fun c_164 => absurd (by decide) c_164)
          refine lv_iconst (v := 1) hx hb dL_isChain_290 (by decide) ?_
          refine lv_goto (tgt := 295) hx hb dL_isChain_291 (by decide) ?_
          refine lv_istore (lv' := [(4, .int 1), (11, .int ((-1))), (10, .int (mIts τ (P * 30 + k))), (9, .int (mOth τ (P * 30 + k))), (8, .int (nI kd)), (0, .ref (q 0)), (1, .int (nI P)), (2, .int (nI (mMan τ P))), (3, .int (nI F)), (5, .int (nI k))]) hx hb dL_isChain_295 hl (by decide) rfl (fun ls hl => ?_)
          refine lv_iload hx hb dL_isChain_297 (lv_at hl 0 rfl) ?_
          refine lv_if_eq (tgt := 360) hx hb dL_isChain_299 (by decide) (fun c_165 => absurd c_165 (by decide)) (fun c_165 => ?_)
          refine lv_iload hx hb dL_isChain_302 (lv_at hl 4 rfl) ?_
          refine lv_if_eq (tgt := 313) hx hb dL_isChain_304 (by decide) (fun c_166 => absurd c_166 (fun z => hko.1 ((nI_eq (b := 0) (by omega) (by omega)).mp z))) (fun c_166 => ?_)
          refine lv_iload hx hb dL_isChain_307 (lv_at hl 4 rfl) ?_
          refine lv_iconst (v := 4) hx hb dL_isChain_309 (by decide) ?_
          refine neN kd 4 (tgt := 317) hx hb rfl rfl (by omega) (by omega) dL_isChain_310 (by decide) (fun c_167 => ?_) (fun c_167 => absurd c_167 (by omega))
          refine lv_iconst (v := 0) hx hb dL_isChain_317 (by decide) ?_
          refine lv_iload hx hb dL_isChain_318 (lv_at hl 9 rfl) ?_
          refine neZN k (tgt := 327) hx hb rfl (by omega) dL_isChain_320 (by decide) (fun c_168 => ?_) (fun c_168 => absurd c_168 (by omega))
          refine lv_iconst (v := 0) hx hb dL_isChain_327 (by decide) ?_
          refine lv_icmp_ne (tgt := 360) hx hb dL_isChain_328 (by decide) (fun c_169 => absurd (by decide) c_169) (fun c_169 => ?_)
          refine lv_iload hx hb dL_isChain_331 (lv_at hl 4 rfl) ?_
          refine lv_bipush (v := 6) hx hb dL_isChain_333 (by decide) ?_
          refine neN kd 6 (tgt := 356) hx hb rfl rfl (by omega) (by omega) dL_isChain_335 (by decide) (fun c_170 => ?_) (fun c_170 => absurd c_170 (by omega))
          refine lv_iconst (v := 1) hx hb dL_isChain_356 (by decide) ?_
          refine lv_goto (tgt := 361) hx hb dL_isChain_357 (by decide) ?_
          refine lv_istore (lv' := [(4, .int 1), (11, .int ((-1))), (10, .int (mIts τ (P * 30 + k))), (9, .int (mOth τ (P * 30 + k))), (8, .int (nI kd)), (0, .ref (q 0)), (1, .int (nI P)), (2, .int (nI (mMan τ P))), (3, .int (nI F)), (5, .int (nI k))]) hx hb dL_isChain_361 hl (by decide) rfl (fun ls hl => ?_)
          refine lv_iinc (v := nI (k + 1)) (lv' := [(5, .int (nI (k + 1))), (4, .int 1), (11, .int ((-1))), (10, .int (mIts τ (P * 30 + k))), (9, .int (mOth τ (P * 30 + k))), (8, .int (nI kd)), (0, .ref (q 0)), (1, .int (nI P)), (2, .int (nI (mMan τ P))), (3, .int (nI F))]) hx hb dL_isChain_363 hl (k := 9) rfl (iincN k) (by decide) rfl (fun ls hl => ?_)
          refine lv_goto (tgt := 43) hx hb dL_isChain_366 (by decide) ?_
          exact ih_k (by omega) _ (lv_sub hl [6, 7, 8, 9, 1, 0] rfl)
      refine lv_iload hx hb dL_isChain_110 (lv_at hl 6 rfl) ?_
      refine lv_aload_n hx hb dL_isChain_112 rfl (lv_at hl 0 rfl) ?_
      refine lv_iload_n hx hb dL_isChain_113 rfl (lv_at hl 1 rfl) ?_
      refine lv_iload hx hb dL_isChain_114 (lv_at hl 5 rfl) ?_
      refine lv_bipush (v := 6) hx hb dL_isChain_116 (by decide) ?_
      refine z_callE (x := mPrf τ (P * 30 + k)) (vx_runV (As := [.int (nI P), .int (nI k), .int 6]) (rest := [.int (pmS (mPrf τ) (numM τ) P k 6)]) ⟨hx, hb, hml, hown, hts⟩ (c_X1_entry l hf D cI q (gOf τ) hq (nI P) (nI k) 6 (ok_J hJ) (hz_J hJ)) (cwV 3 hts gL_isChain_X1_entry rfl rfl rfl kd_X1_entry ⟨Nat.le_of_ble_eq_true rfl, Nat.le_of_ble_eq_true rfl⟩) (pV_P hP hK hE hX) rfl rfl hl.1 rfl (lv_room (Nat.le_of_ble_eq_true rfl)) dL_isChain_118 ⟨Nat.le_of_ble_eq_true rfl, Nat.le_of_ble_eq_true rfl⟩) (fun E9 h9 => h9.1 (congrArg Prod.fst (vE6 hJ hPn c_k))) (fun r9 h9 => h9.2.trans (congrArg (fun z => z.2.1) (vE6 hJ hPn c_k))) ?_
      rcases Nat.lt_trichotomy k F with hkF | hkF | hkF
      · skip
        refine lv_icmp_ne (tgt := 128) hx hb dL_isChain_121 (by decide) (fun c_171 => absurd ((pf_iff hJ c_k).mpr (s1_ne hs (by omega) (by omega) (by omega))) c_171) (fun c_171 => ?_)
        refine lv_iconst (v := 1) hx hb dL_isChain_124 (by decide) ?_
        refine lv_goto (tgt := 129) hx hb dL_isChain_125 (by decide) ?_
        refine lv_istore (lv' := [(7, .int 1), (0, .ref (q 0)), (1, .int (nI P)), (2, .int (nI (mMan τ P))), (3, .int (nI F)), (4, .int 1), (5, .int (nI k)), (6, .int (pmS (mPrf τ) (numM τ) P k 6))]) hx hb dL_isChain_129 hl (by decide) rfl (fun ls hl => ?_)
        refine lv_iload_n hx hb dL_isChain_131 rfl (lv_at hl 4 rfl) ?_
        refine lv_if_lt (tgt := 141) hx hb dL_isChain_132 (by decide) (fun c_172 => absurd c_172 (nI_pos (by omega))) (fun c_172 => ?_)
        refine lv_iload hx hb dL_isChain_135 (lv_at hl 6 rfl) ?_
        refine lv_iload_n hx hb dL_isChain_137 rfl (lv_at hl 4 rfl) ?_
        refine geN k F (tgt := 146) hx hb rfl rfl (by omega) (by omega) dL_isChain_138 (by decide) (fun c_173 => absurd c_173 (by omega)) (fun c_173 => ?_)
        refine lv_iload hx hb dL_isChain_141 (lv_at hl 0 rfl) ?_
        refine lv_goto (tgt := 162) hx hb dL_isChain_143 (by decide) ?_
        exact J162 _ (lv_sub hl [1, 2, 3, 4, 5, 6] rfl)
      · skip
        refine lv_icmp_ne (tgt := 128) hx hb dL_isChain_121 (by decide) (fun c_174 => ?_) (fun c_174 => absurd c_174 (fun y => (pf_iff hJ c_k).mp y (by rw [hkF]; exact hs)))
        refine lv_iconst (v := 0) hx hb dL_isChain_128 (by decide) ?_
        refine lv_istore (lv' := [(7, .int 0), (0, .ref (q 0)), (1, .int (nI P)), (2, .int (nI (mMan τ P))), (3, .int (nI F)), (4, .int 1), (5, .int (nI k)), (6, .int (pmS (mPrf τ) (numM τ) P k 6))]) hx hb dL_isChain_129 hl (by decide) rfl (fun ls hl => ?_)
        refine lv_iload_n hx hb dL_isChain_131 rfl (lv_at hl 4 rfl) ?_
        refine lv_if_lt (tgt := 141) hx hb dL_isChain_132 (by decide) (fun c_175 => absurd c_175 (nI_pos (by omega))) (fun c_175 => ?_)
        refine lv_iload hx hb dL_isChain_135 (lv_at hl 6 rfl) ?_
        refine lv_iload_n hx hb dL_isChain_137 rfl (lv_at hl 4 rfl) ?_
        refine geN k F (tgt := 146) hx hb rfl rfl (by omega) (by omega) dL_isChain_138 (by decide) (fun c_176 => ?_) (fun c_176 => absurd c_176 (by omega))
        refine lv_iload hx hb dL_isChain_146 (lv_at hl 6 rfl) ?_
        refine lv_iload_n hx hb dL_isChain_148 rfl (lv_at hl 4 rfl) ?_
        refine gtN k F (tgt := 157) hx hb rfl rfl (by omega) (by omega) dL_isChain_149 (by decide) (fun c_177 => absurd c_177 (by omega)) (fun c_177 => ?_)
        refine lv_iload hx hb dL_isChain_152 (lv_at hl 0 rfl) ?_
        refine lv_if_ne (tgt := 161) hx hb dL_isChain_154 (by decide) (fun c_178 => absurd (by decide) c_178) (fun c_178 => ?_)
        refine lv_iconst (v := 1) hx hb dL_isChain_157 (by decide) ?_
        refine lv_goto (tgt := 162) hx hb dL_isChain_158 (by decide) ?_
        exact J162 _ (lv_sub hl [1, 2, 3, 4, 5, 6] rfl)
      · skip
        refine lv_icmp_ne (tgt := 128) hx hb dL_isChain_121 (by decide) (fun c_179 => absurd ((pf_iff hJ c_k).mpr (s1_ne hs (by omega) (by omega) (by omega))) c_179) (fun c_179 => ?_)
        refine lv_iconst (v := 1) hx hb dL_isChain_124 (by decide) ?_
        refine lv_goto (tgt := 129) hx hb dL_isChain_125 (by decide) ?_
        refine lv_istore (lv' := [(7, .int 1), (0, .ref (q 0)), (1, .int (nI P)), (2, .int (nI (mMan τ P))), (3, .int (nI F)), (4, .int 1), (5, .int (nI k)), (6, .int (pmS (mPrf τ) (numM τ) P k 6))]) hx hb dL_isChain_129 hl (by decide) rfl (fun ls hl => ?_)
        refine lv_iload_n hx hb dL_isChain_131 rfl (lv_at hl 4 rfl) ?_
        refine lv_if_lt (tgt := 141) hx hb dL_isChain_132 (by decide) (fun c_180 => absurd c_180 (nI_pos (by omega))) (fun c_180 => ?_)
        refine lv_iload hx hb dL_isChain_135 (lv_at hl 6 rfl) ?_
        refine lv_iload_n hx hb dL_isChain_137 rfl (lv_at hl 4 rfl) ?_
        refine geN k F (tgt := 146) hx hb rfl rfl (by omega) (by omega) dL_isChain_138 (by decide) (fun c_181 => ?_) (fun c_181 => absurd c_181 (by omega))
        refine lv_iload hx hb dL_isChain_146 (lv_at hl 6 rfl) ?_
        refine lv_iload_n hx hb dL_isChain_148 rfl (lv_at hl 4 rfl) ?_
        refine gtN k F (tgt := 157) hx hb rfl rfl (by omega) (by omega) dL_isChain_149 (by decide) (fun c_182 => ?_) (fun c_182 => absurd c_182 (by omega))
        refine lv_iconst (v := 1) hx hb dL_isChain_157 (by decide) ?_
        refine lv_goto (tgt := 162) hx hb dL_isChain_158 (by decide) ?_
        exact J162 _ (lv_sub hl [1, 2, 3, 4, 5, 6] rfl)
    refine lv_bipush (v := 31) hx hb dL_isChain_87 (by decide) ?_
    refine lv_iload hx hb dL_isChain_89 (lv_at hl 6 rfl) ?_
    refine lv_imul hx hb dL_isChain_91 ?_
    refine lv_aload_n hx hb dL_isChain_92 rfl (lv_at hl 0 rfl) ?_
    refine lv_iload_n hx hb dL_isChain_93 rfl (lv_at hl 1 rfl) ?_
    refine lv_iload hx hb dL_isChain_94 (lv_at hl 5 rfl) ?_
    refine lv_iload hx hb dL_isChain_96 (lv_at hl 7 rfl) ?_
    refine z_callE (x := numM τ ((P * 30 + k) * 6 + n)) (vx_runV (As := [.int (nI P), .int (nI k), .int (nI n)]) (rest := [.int ((31 * pmS (mPrf τ) (numM τ) P k n))]) ⟨hx, hb, hml, hown, hts⟩ (c_X1_entry l hf D cI q (gOf τ) hq (nI P) (nI k) (nI n) (ok_J hJ) (hz_J hJ)) (cwV 3 hts gL_isChain_X1_entry rfl rfl rfl kd_X1_entry ⟨Nat.le_of_ble_eq_true rfl, Nat.le_of_ble_eq_true rfl⟩) (pV_P hP hK hE hX) rfl rfl hl.1 rfl (lv_room (Nat.le_of_ble_eq_true rfl)) dL_isChain_98 ⟨Nat.le_of_ble_eq_true rfl, Nat.le_of_ble_eq_true rfl⟩) (fun E9 h9 => h9.1 (congrArg Prod.fst (vE hJ hPn c_k (w := n) (by omega)))) (fun r9 h9 => h9.2.trans (congrArg (fun z => z.2.1) (vE hJ hPn c_k (w := n) (by omega)))) ?_
    refine lv_iadd hx hb dL_isChain_101 ?_
    refine lv_topE (y := pmS (mPrf τ) (numM τ) P k (n + 1)) (rfl) ?_
    refine lv_istore (lv' := [(6, .int (pmS (mPrf τ) (numM τ) P k (n + 1))), (0, .ref (q 0)), (1, .int (nI P)), (2, .int (nI (mMan τ P))), (3, .int (nI F)), (4, .int 1), (5, .int (nI k)), (7, .int (nI n))]) hx hb dL_isChain_102 hl (by decide) rfl (fun ls hl => ?_)
    refine lv_iinc (v := nI (n + 1)) (lv' := [(7, .int (nI (n + 1))), (6, .int (pmS (mPrf τ) (numM τ) P k (n + 1))), (0, .ref (q 0)), (1, .int (nI P)), (2, .int (nI (mMan τ P))), (3, .int (nI F)), (4, .int 1), (5, .int (nI k))]) hx hb dL_isChain_104 hl (k := 7) rfl (iincN n) (by decide) rfl (fun ls hl => ?_)
    refine lv_goto (tgt := 80) hx hb dL_isChain_107 (by decide) ?_
    exact ih_n (by omega) _ (lv_sub hl [2, 3, 4, 5, 6, 7, 1, 0] rfl)
theorem kn_L_areGoods : yL_areGoods.cls ≠ "java/lang/invoke/MethodHandle" ∧ yL_areGoods.cls ≠ "java/lang/invoke/VarHandle" ∧ (parseMethodDescriptor yL_areGoods.desc).map (fun d => d.parameters.length) = some 4 := by decide +kernel
set_option maxHeartbeats 4000000 in
set_option maxRecDepth 100000 in
theorem c_L_areGoods1 (l : Launch) (hf : l.stackTraces = false) (D : va_G) (cI : ClassId) (q : Nat → Nat) (hq : ijQ 12 q) (τ : SM) (al sp : Nat → Int32) (hJ : J τ al sp) (hcl : ∀ P, P < mN τ → sp P = 0) : vx_Met l yL_areGoods wsL_areGoods ({ frames := 8, cells := 1, slots := 6, locals := 142 }) (va_Pc [.ref (q 0), .int (nI (mN τ)), .ref (q 12), .int 1] (PY D cI q (gOf τ) al)) (rX (fun r => r = 1)) (xQ (fun _ => False)) 1 6 noF := by
  refine openXRZ (cc := cL_areGoods) (maxL := 11) (by decide) rfl (Nat.le_of_ble_eq_true rfl) ?_
  intro p e s m args below meth c hx hb hml hts hown hpre Q RET OUT ls hl
  have hown : s.vm.findClass RL = some m.cls := hown
  have hl : lv_has ls 11 [(0, .ref (q 0)), (1, .int (nI (mN τ))), (2, .ref (q 12)), (3, .int 1)] := hl
  obtain ⟨⟨⟨hP, hK, hE⟩, hX⟩, hP2⟩ := hpre
  have hn14 := hJ.1.2.2.2.1
  refine lv_iconst (v := 1) hx hb dL_areGoods_0 (by decide) ?_
  refine lv_istore (lv' := [(4, .int 1), (0, .ref (q 0)), (1, .int (nI (mN τ))), (2, .ref (q 12)), (3, .int 1)]) hx hb dL_areGoods_1 hl (by decide) rfl (fun ls hl => ?_)
  refine lv_iconst (v := 0) hx hb dL_areGoods_3 (by decide) ?_
  refine lv_istore (lv' := [(5, .int 0), (4, .int 1), (0, .ref (q 0)), (1, .int (nI (mN τ))), (2, .ref (q 12)), (3, .int 1)]) hx hb dL_areGoods_4 hl (by decide) rfl (fun ls hl => ?_)
  refine loopW (N := 6) (k0 := 0) (fun g ls => lv_has ls 11 [(0, .ref (q 0)), (1, .int (nI (mN τ))), (2, .ref (q 12)), (3, .int 1), (4, .int 1), (5, .int (nI g))]) (Nat.zero_le _) (lv_sub hl [2, 3, 4, 5, 1, 0] rfl) (fun g ls hk_g hl ih_g => ?_)
  refine lv_iload hx hb dL_areGoods_6 (lv_at hl 5 rfl) ?_
  refine lv_bipush (v := 6) hx hb dL_areGoods_8 (by decide) ?_
  refine geN g 6 (tgt := 169) hx hb rfl rfl (by omega) (by omega) dL_areGoods_10 (by decide) (fun c_g => ?_) (fun c_g => ?_)
  · skip
    refine lv_iload hx hb dL_areGoods_169 (lv_at hl 4 rfl) ?_
    exact RET true _ _ rfl dL_areGoods_171
  refine lv_iload hx hb dL_areGoods_13 (lv_at hl 4 rfl) ?_
  refine lv_if_eq (tgt := 169) hx hb dL_areGoods_15 (by decide) (fun c_1 => absurd c_1 (by decide)) (fun c_1 => ?_)
  refine lv_iconst (v := 0) hx hb dL_areGoods_18 (by decide) ?_
  refine lv_istore (lv' := [(6, .int 0), (0, .ref (q 0)), (1, .int (nI (mN τ))), (2, .ref (q 12)), (3, .int 1), (4, .int 1), (5, .int (nI g))]) hx hb dL_areGoods_19 hl (by decide) rfl (fun ls hl => ?_)
  refine lv_iconst (v := 0) hx hb dL_areGoods_21 (by decide) ?_
  refine lv_istore (lv' := [(7, .int 0), (6, .int 0), (0, .ref (q 0)), (1, .int (nI (mN τ))), (2, .ref (q 12)), (3, .int 1), (4, .int 1), (5, .int (nI g))]) hx hb dL_areGoods_22 hl (by decide) rfl (fun ls hl => ?_)
  refine lv_iconst (v := 0) hx hb dL_areGoods_24 (by decide) ?_
  refine lv_istore (lv' := [(8, .int 0), (7, .int 0), (6, .int 0), (0, .ref (q 0)), (1, .int (nI (mN τ))), (2, .ref (q 12)), (3, .int 1), (4, .int 1), (5, .int (nI g))]) hx hb dL_areGoods_25 hl (by decide) rfl (fun ls hl => ?_)
  refine loopW (N := (mN τ)) (k0 := 0) (fun p9 ls => lv_has ls 11 [(0, .ref (q 0)), (1, .int (nI (mN τ))), (2, .ref (q 12)), (3, .int 1), (4, .int 1), (5, .int (nI g)), (6, .int (smS (fun P => mGoo τ (P * 6 + g)) p9)), (7, .int (smS (fun P => tdF τ P g) p9)), (8, .int (nI p9))]) (Nat.zero_le _) (lv_sub hl [3, 4, 5, 6, 7, 8, 2, 1, 0] rfl) (fun p9 ls hk_p9 hl ih_p9 => ?_)
  refine lv_iload hx hb dL_areGoods_27 (lv_at hl 8 rfl) ?_
  refine lv_iload_n hx hb dL_areGoods_29 rfl (lv_at hl 1 rfl) ?_
  refine geN p9 (mN τ) (tgt := 129) hx hb rfl rfl (by omega) (by omega) dL_areGoods_30 (by decide) (fun c_p => ?_) (fun c_p => ?_)
  · skip
    have hpn : p9 = mN τ := by omega
    subst hpn
    refine lv_iload hx hb dL_areGoods_129 (lv_at hl 4 rfl) ?_
    refine lv_if_eq (tgt := 160) hx hb dL_areGoods_131 (by decide) (fun c_2 => absurd c_2 (by decide)) (fun c_2 => ?_)
    refine lv_iload hx hb dL_areGoods_134 (lv_at hl 6 rfl) ?_
    refine lv_aload_n hx hb dL_areGoods_136 rfl (lv_at hl 2 rfl) ?_
    refine lv_iload hx hb dL_areGoods_137 (lv_at hl 5 rfl) ?_
    refine ald_12 (k := g) hx hb hK hP2 rfl c_g dL_areGoods_139 ?_
    refine lv_icmp_ne (tgt := 160) hx hb dL_areGoods_140 (by decide) (fun c_3 => absurd ((hJ.2.2.2.2.1 g c_g).symm) c_3) (fun c_3 => ?_)
    refine lv_iload_n hx hb dL_areGoods_143 rfl (lv_at hl 3 rfl) ?_
    refine lv_if_eq (tgt := 156) hx hb dL_areGoods_144 (by decide) (fun c_4 => absurd c_4 (by decide)) (fun c_4 => ?_)
    refine lv_iload hx hb dL_areGoods_147 (lv_at hl 7 rfl) ?_
    refine lv_aload_n hx hb dL_areGoods_149 rfl (lv_at hl 2 rfl) ?_
    refine lv_iload hx hb dL_areGoods_150 (lv_at hl 5 rfl) ?_
    refine ald_12 (k := g) hx hb hK hP2 rfl c_g dL_areGoods_152 ?_
    refine lv_icmp_ne (tgt := 160) hx hb dL_areGoods_153 (by decide) (fun c_5 => absurd ((sm_congr _ (fun k hk => td_clean hJ hcl hk c_g)).trans (hJ.2.2.2.2.1 g c_g).symm) c_5) (fun c_5 => ?_)
    refine lv_iconst (v := 1) hx hb dL_areGoods_156 (by decide) ?_
    refine lv_goto (tgt := 161) hx hb dL_areGoods_157 (by decide) ?_
    refine lv_istore (lv' := [(4, .int 1), (0, .ref (q 0)), (1, .int (nI (mN τ))), (2, .ref (q 12)), (3, .int 1), (5, .int (nI g)), (6, .int (smS (fun P => mGoo τ (P * 6 + g)) (mN τ))), (7, .int (smS (fun P => tdF τ P g) (mN τ))), (8, .int (nI (mN τ)))]) hx hb dL_areGoods_161 hl (by decide) rfl (fun ls hl => ?_)
    refine lv_iinc (v := nI (g + 1)) (lv' := [(5, .int (nI (g + 1))), (4, .int 1), (0, .ref (q 0)), (1, .int (nI (mN τ))), (2, .ref (q 12)), (3, .int 1), (6, .int (smS (fun P => mGoo τ (P * 6 + g)) (mN τ))), (7, .int (smS (fun P => tdF τ P g) (mN τ))), (8, .int (nI (mN τ)))]) hx hb dL_areGoods_163 hl (k := 5) rfl (iincN g) (by decide) rfl (fun ls hl => ?_)
    refine lv_goto (tgt := 6) hx hb dL_areGoods_166 (by decide) ?_
    exact ih_g (by omega) _ (lv_sub hl [2, 3, 4, 5, 1, 0] rfl)
  refine lv_iload hx hb dL_areGoods_33 (lv_at hl 4 rfl) ?_
  refine lv_if_eq (tgt := 129) hx hb dL_areGoods_35 (by decide) (fun c_6 => absurd c_6 (by decide)) (fun c_6 => ?_)
  refine lv_aload_n hx hb dL_areGoods_38 rfl (lv_at hl 0 rfl) ?_
  refine lv_iload hx hb dL_areGoods_39 (lv_at hl 8 rfl) ?_
  refine lv_iload hx hb dL_areGoods_41 (lv_at hl 5 rfl) ?_
  refine z_callE (x := mGoo τ (p9 * 6 + g)) (vx_runV (As := [.int (nI p9), .int (nI g)]) (rest := []) ⟨hx, hb, hml, hown, hts⟩ (c_X1_contents l hf D cI q (gOf τ) hq (nI p9) (nI g) (ok_J hJ) (hz_J hJ)) (cwV 2 hts gL_areGoods_X1_contents rfl rfl rfl kd_X1_contents ⟨Nat.le_of_ble_eq_true rfl, Nat.le_of_ble_eq_true rfl⟩) (pV_P hP hK hE hX) rfl rfl hl.1 rfl (lv_room (Nat.le_of_ble_eq_true rfl)) dL_areGoods_43 ⟨Nat.le_of_ble_eq_true rfl, Nat.le_of_ble_eq_true rfl⟩) (fun E9 h9 => h9.1 (congrArg Prod.fst (vC hJ c_p c_g))) (fun r9 h9 => h9.2.trans (congrArg (fun z => z.2.1) (vC hJ c_p c_g))) ?_
  refine lv_istore (lv' := [(9, .int (mGoo τ (p9 * 6 + g))), (0, .ref (q 0)), (1, .int (nI (mN τ))), (2, .ref (q 12)), (3, .int 1), (4, .int 1), (5, .int (nI g)), (6, .int (smS (fun P => mGoo τ (P * 6 + g)) p9)), (7, .int (smS (fun P => tdF τ P g) p9)), (8, .int (nI p9))]) hx hb dL_areGoods_46 hl (by decide) rfl (fun ls hl => ?_)
  refine lv_aload_n hx hb dL_areGoods_48 rfl (lv_at hl 1 rfl) ?_
  refine lv_iload hx hb dL_areGoods_49 (lv_at hl 9 rfl) ?_
  refine lv_iload hx hb dL_areGoods_51 (lv_at hl 6 rfl) ?_
  refine z_callE (x := tdF τ p9 g) (vx_runV (As := [.int (nI p9), .int (nI g)]) (rest := []) ⟨hx, hb, hml, hown, hts⟩ (c_X1_contentsAnew l hf D cI q (gOf τ) hq (nI p9) (nI g) (ok_J hJ) (hz_J hJ)) (cwV 2 hts gL_areGoods_X1_contentsAnew rfl rfl rfl kd_X1_contentsAnew ⟨Nat.le_of_ble_eq_true rfl, Nat.le_of_ble_eq_true rfl⟩) (pV_P hP hK hE hX) rfl rfl hl.1 rfl (lv_room (Nat.le_of_ble_eq_true rfl)) dL_areGoods_53 ⟨Nat.le_of_ble_eq_true rfl, Nat.le_of_ble_eq_true rfl⟩) (fun E9 h9 => h9.1 (congrArg Prod.fst (vA hJ c_p c_g))) (fun r9 h9 => h9.2.trans (congrArg (fun z => z.2.1) (vA hJ c_p c_g))) ?_
  refine lv_istore (lv' := [(10, .int (tdF τ p9 g)), (9, .int (mGoo τ (p9 * 6 + g))), (0, .ref (q 0)), (1, .int (nI (mN τ))), (2, .ref (q 12)), (3, .int 1), (4, .int 1), (5, .int (nI g)), (6, .int (smS (fun P => mGoo τ (P * 6 + g)) p9)), (7, .int (smS (fun P => tdF τ P g) p9)), (8, .int (nI p9))]) hx hb dL_areGoods_56 hl (by decide) rfl (fun ls hl => ?_)
  refine lv_iload hx hb dL_areGoods_58 (lv_at hl 8 rfl) ?_
  refine lv_iload hx hb dL_areGoods_60 (lv_at hl 1 rfl) ?_
  refine lv_iadd hx hb dL_areGoods_62 ?_
  refine lv_topE (y := smS (fun P => mGoo τ (P * 6 + g)) (p9 + 1)) (rfl) ?_
  refine lv_istore (lv' := [(6, .int (smS (fun P => mGoo τ (P * 6 + g)) (p9 + 1))), (10, .int (tdF τ p9 g)), (9, .int (mGoo τ (p9 * 6 + g))), (0, .ref (q 0)), (1, .int (nI (mN τ))), (2, .ref (q 12)), (3, .int 1), (4, .int 1), (5, .int (nI g)), (7, .int (smS (fun P => tdF τ P g) p9)), (8, .int (nI p9))]) hx hb dL_areGoods_63 hl (by decide) rfl (fun ls hl => ?_)
  refine lv_iload hx hb dL_areGoods_65 (lv_at hl 9 rfl) ?_
  refine lv_iload hx hb dL_areGoods_67 (lv_at hl 1 rfl) ?_
  refine lv_iadd hx hb dL_areGoods_69 ?_
  refine lv_topE (y := smS (fun P => tdF τ P g) (p9 + 1)) (rfl) ?_
  refine lv_istore (lv' := [(7, .int (smS (fun P => tdF τ P g) (p9 + 1))), (6, .int (smS (fun P => mGoo τ (P * 6 + g)) (p9 + 1))), (10, .int (tdF τ p9 g)), (9, .int (mGoo τ (p9 * 6 + g))), (0, .ref (q 0)), (1, .int (nI (mN τ))), (2, .ref (q 12)), (3, .int 1), (4, .int 1), (5, .int (nI g)), (8, .int (nI p9))]) hx hb dL_areGoods_70 hl (by decide) rfl (fun ls hl => ?_)
  refine lv_iload hx hb dL_areGoods_72 (lv_at hl 3 rfl) ?_
  refine lv_if_lt (tgt := 120) hx hb dL_areGoods_74 (by decide) (fun c_7 => absurd c_7 (goo_lo hJ _)) (fun c_7 => ?_)
  refine lv_iload hx hb dL_areGoods_77 (lv_at hl 3 rfl) ?_
  refine lv_sipush (v := 999) hx hb dL_areGoods_79 (by decide) ?_
  refine lv_icmp_gt (tgt := 120) hx hb dL_areGoods_82 (by decide) (fun c_8 => absurd c_8 (goo_hi hJ _)) (fun c_8 => ?_)
  have J105 : W p l e ({ frames := 8, cells := 1, slots := 6, locals := 142 }) s m args below meth c s.heap [] 0 0 Q (F0 m 105 ls []) := by
    refine lv_iload_n hx hb dL_areGoods_105 rfl (lv_at hl 7 rfl) ?_
    refine lv_if_eq (tgt := 116) hx hb dL_areGoods_106 (by decide) (fun c_9 => absurd c_9 (by decide)) (fun c_9 => ?_)
    refine lv_iload hx hb dL_areGoods_109 (lv_at hl 3 rfl) ?_
    refine lv_iload hx hb dL_areGoods_111 (lv_at hl 2 rfl) ?_
    refine lv_icmp_ne (tgt := 120) hx hb dL_areGoods_113 (by decide) (fun c_10 => absurd ((td_clean hJ hcl c_p c_g).symm) c_10) (fun c_10 => ?_)
    refine lv_iconst (v := 1) hx hb dL_areGoods_116 (by decide) ?_
    refine lv_goto (tgt := 121) hx hb dL_areGoods_117 (by decide) ?_
    refine lv_istore (lv' := [(4, .int 1), (7, .int (smS (fun P => tdF τ P g) (p9 + 1))), (6, .int (smS (fun P => mGoo τ (P * 6 + g)) (p9 + 1))), (10, .int (tdF τ p9 g)), (9, .int (mGoo τ (p9 * 6 + g))), (0, .ref (q 0)), (1, .int (nI (mN τ))), (2, .ref (q 12)), (3, .int 1), (5, .int (nI g)), (8, .int (nI p9))]) hx hb dL_areGoods_121 hl (by decide) rfl (fun ls hl => ?_)
    refine lv_iinc (v := nI (p9 + 1)) (lv' := [(8, .int (nI (p9 + 1))), (4, .int 1), (7, .int (smS (fun P => tdF τ P g) (p9 + 1))), (6, .int (smS (fun P => mGoo τ (P * 6 + g)) (p9 + 1))), (10, .int (tdF τ p9 g)), (9, .int (mGoo τ (p9 * 6 + g))), (0, .ref (q 0)), (1, .int (nI (mN τ))), (2, .ref (q 12)), (3, .int 1), (5, .int (nI g))]) hx hb dL_areGoods_123 hl (k := 10) rfl (iincN p9) (by decide) rfl (fun ls hl => ?_)
    refine lv_goto (tgt := 27) hx hb dL_areGoods_126 (by decide) ?_
    exact ih_p9 (by omega) _ (lv_sub hl [6, 7, 8, 9, 1, 10, 3, 2, 0] rfl)
  refine lv_aload_n hx hb dL_areGoods_85 rfl (lv_at hl 4 rfl) ?_
  refine lv_iload hx hb dL_areGoods_86 (lv_at hl 10 rfl) ?_
  refine lv_iconst (v := 4) hx hb dL_areGoods_88 (by decide) ?_
  refine z_callE (x := bI (mGon τ p9)) (vx_runV (As := [.int (nI p9), .int 4]) (rest := []) ⟨hx, hb, hml, hown, hts⟩ (c_X1_pallet l hf D cI q (gOf τ) hq (nI p9) 4 (ok_J hJ) (hz_J hJ)) (cwV 2 hts gL_areGoods_X1_pallet rfl rfl rfl kd_X1_pallet ⟨Nat.le_of_ble_eq_true rfl, Nat.le_of_ble_eq_true rfl⟩) (pV_P hP hK hE hX) rfl rfl hl.1 rfl (lv_room (Nat.le_of_ble_eq_true rfl)) dL_areGoods_89 ⟨Nat.le_of_ble_eq_true rfl, Nat.le_of_ble_eq_true rfl⟩) (fun E9 h9 => h9.1 (congrArg Prod.fst (vP4 hJ c_p))) (fun r9 h9 => h9.2.trans (congrArg (fun z => z.2.1) (vP4 hJ c_p))) ?_
  refine eqB (mGon τ p9) (tgt := 105) hx hb rfl dL_areGoods_92 (by decide) (fun _ => J105) (fun hgn => ?_)
  refine lv_iload hx hb dL_areGoods_95 (lv_at hl 3 rfl) ?_
  refine lv_if_ne (tgt := 120) hx hb dL_areGoods_97 (by decide) (fun c_11 => absurd ((td_gone hJ c_p c_g hgn).1) c_11) (fun c_11 => ?_)
  refine lv_iload hx hb dL_areGoods_100 (lv_at hl 2 rfl) ?_
  refine lv_if_ne (tgt := 120) hx hb dL_areGoods_102 (by decide) (fun c_12 => absurd ((td_gone hJ c_p c_g hgn).2) c_12) (fun c_12 => ?_)
  exact J105
set_option maxHeartbeats 4000000 in
set_option maxRecDepth 100000 in
theorem c_L_areGoods0 (l : Launch) (hf : l.stackTraces = false) (D : va_G) (cI : ClassId) (q : Nat → Nat) (hq : ijQ 12 q) (τ : SM) (al sp : Nat → Int32) (hJ : J τ al sp) : vx_Met l yL_areGoods wsL_areGoods ({ frames := 8, cells := 1, slots := 6, locals := 142 }) (va_Pc [.ref (q 0), .int (nI (mN τ)), .ref (q 12), .int 0] (PY D cI q (gOf τ) al)) (rX (fun r => r = 1)) (xQ (fun _ => False)) 1 6 noF := by
  refine openXRZ (cc := cL_areGoods) (maxL := 11) (by decide) rfl (Nat.le_of_ble_eq_true rfl) ?_
  intro p e s m args below meth c hx hb hml hts hown hpre Q RET OUT ls hl
  have hown : s.vm.findClass RL = some m.cls := hown
  have hl : lv_has ls 11 [(0, .ref (q 0)), (1, .int (nI (mN τ))), (2, .ref (q 12)), (3, .int 0)] := hl
  obtain ⟨⟨⟨hP, hK, hE⟩, hX⟩, hP2⟩ := hpre
  have hn14 := hJ.1.2.2.2.1
  refine lv_iconst (v := 1) hx hb dL_areGoods_0 (by decide) ?_
  refine lv_istore (lv' := [(4, .int 1), (0, .ref (q 0)), (1, .int (nI (mN τ))), (2, .ref (q 12)), (3, .int 0)]) hx hb dL_areGoods_1 hl (by decide) rfl (fun ls hl => ?_)
  refine lv_iconst (v := 0) hx hb dL_areGoods_3 (by decide) ?_
  refine lv_istore (lv' := [(5, .int 0), (4, .int 1), (0, .ref (q 0)), (1, .int (nI (mN τ))), (2, .ref (q 12)), (3, .int 0)]) hx hb dL_areGoods_4 hl (by decide) rfl (fun ls hl => ?_)
  refine loopW (N := 6) (k0 := 0) (fun g ls => lv_has ls 11 [(0, .ref (q 0)), (1, .int (nI (mN τ))), (2, .ref (q 12)), (3, .int 0), (4, .int 1), (5, .int (nI g))]) (Nat.zero_le _) (lv_sub hl [2, 3, 4, 5, 1, 0] rfl) (fun g ls hk_g hl ih_g => ?_)
  refine lv_iload hx hb dL_areGoods_6 (lv_at hl 5 rfl) ?_
  refine lv_bipush (v := 6) hx hb dL_areGoods_8 (by decide) ?_
  refine geN g 6 (tgt := 169) hx hb rfl rfl (by omega) (by omega) dL_areGoods_10 (by decide) (fun c_g => ?_) (fun c_g => ?_)
  · skip
    refine lv_iload hx hb dL_areGoods_169 (lv_at hl 4 rfl) ?_
    exact RET true _ _ rfl dL_areGoods_171
  refine lv_iload hx hb dL_areGoods_13 (lv_at hl 4 rfl) ?_
  refine lv_if_eq (tgt := 169) hx hb dL_areGoods_15 (by decide) (fun c_1 => absurd c_1 (by decide)) (fun c_1 => ?_)
  refine lv_iconst (v := 0) hx hb dL_areGoods_18 (by decide) ?_
  refine lv_istore (lv' := [(6, .int 0), (0, .ref (q 0)), (1, .int (nI (mN τ))), (2, .ref (q 12)), (3, .int 0), (4, .int 1), (5, .int (nI g))]) hx hb dL_areGoods_19 hl (by decide) rfl (fun ls hl => ?_)
  refine lv_iconst (v := 0) hx hb dL_areGoods_21 (by decide) ?_
  refine lv_istore (lv' := [(7, .int 0), (6, .int 0), (0, .ref (q 0)), (1, .int (nI (mN τ))), (2, .ref (q 12)), (3, .int 0), (4, .int 1), (5, .int (nI g))]) hx hb dL_areGoods_22 hl (by decide) rfl (fun ls hl => ?_)
  refine lv_iconst (v := 0) hx hb dL_areGoods_24 (by decide) ?_
  refine lv_istore (lv' := [(8, .int 0), (7, .int 0), (6, .int 0), (0, .ref (q 0)), (1, .int (nI (mN τ))), (2, .ref (q 12)), (3, .int 0), (4, .int 1), (5, .int (nI g))]) hx hb dL_areGoods_25 hl (by decide) rfl (fun ls hl => ?_)
  refine loopW (N := (mN τ)) (k0 := 0) (fun p9 ls => lv_has ls 11 [(0, .ref (q 0)), (1, .int (nI (mN τ))), (2, .ref (q 12)), (3, .int 0), (4, .int 1), (5, .int (nI g)), (6, .int (smS (fun P => mGoo τ (P * 6 + g)) p9)), (7, .int (smS (fun P => tdF τ P g) p9)), (8, .int (nI p9))]) (Nat.zero_le _) (lv_sub hl [3, 4, 5, 6, 7, 8, 2, 1, 0] rfl) (fun p9 ls hk_p9 hl ih_p9 => ?_)
  refine lv_iload hx hb dL_areGoods_27 (lv_at hl 8 rfl) ?_
  refine lv_iload_n hx hb dL_areGoods_29 rfl (lv_at hl 1 rfl) ?_
  refine geN p9 (mN τ) (tgt := 129) hx hb rfl rfl (by omega) (by omega) dL_areGoods_30 (by decide) (fun c_p => ?_) (fun c_p => ?_)
  · skip
    have hpn : p9 = mN τ := by omega
    subst hpn
    refine lv_iload hx hb dL_areGoods_129 (lv_at hl 4 rfl) ?_
    refine lv_if_eq (tgt := 160) hx hb dL_areGoods_131 (by decide) (fun c_2 => absurd c_2 (by decide)) (fun c_2 => ?_)
    refine lv_iload hx hb dL_areGoods_134 (lv_at hl 6 rfl) ?_
    refine lv_aload_n hx hb dL_areGoods_136 rfl (lv_at hl 2 rfl) ?_
    refine lv_iload hx hb dL_areGoods_137 (lv_at hl 5 rfl) ?_
    refine ald_12 (k := g) hx hb hK hP2 rfl c_g dL_areGoods_139 ?_
    refine lv_icmp_ne (tgt := 160) hx hb dL_areGoods_140 (by decide) (fun c_3 => absurd ((hJ.2.2.2.2.1 g c_g).symm) c_3) (fun c_3 => ?_)
    refine lv_iload_n hx hb dL_areGoods_143 rfl (lv_at hl 3 rfl) ?_
    refine lv_if_eq (tgt := 156) hx hb dL_areGoods_144 (by decide) (fun c_4 => ?_) (fun c_4 => absurd (by decide) c_4)
    refine lv_iconst (v := 1) hx hb dL_areGoods_156 (by decide) ?_
    refine lv_goto (tgt := 161) hx hb dL_areGoods_157 (by decide) ?_
    refine lv_istore (lv' := [(4, .int 1), (0, .ref (q 0)), (1, .int (nI (mN τ))), (2, .ref (q 12)), (3, .int 0), (5, .int (nI g)), (6, .int (smS (fun P => mGoo τ (P * 6 + g)) (mN τ))), (7, .int (smS (fun P => tdF τ P g) (mN τ))), (8, .int (nI (mN τ)))]) hx hb dL_areGoods_161 hl (by decide) rfl (fun ls hl => ?_)
    refine lv_iinc (v := nI (g + 1)) (lv' := [(5, .int (nI (g + 1))), (4, .int 1), (0, .ref (q 0)), (1, .int (nI (mN τ))), (2, .ref (q 12)), (3, .int 0), (6, .int (smS (fun P => mGoo τ (P * 6 + g)) (mN τ))), (7, .int (smS (fun P => tdF τ P g) (mN τ))), (8, .int (nI (mN τ)))]) hx hb dL_areGoods_163 hl (k := 5) rfl (iincN g) (by decide) rfl (fun ls hl => ?_)
    refine lv_goto (tgt := 6) hx hb dL_areGoods_166 (by decide) ?_
    exact ih_g (by omega) _ (lv_sub hl [2, 3, 4, 5, 1, 0] rfl)
  refine lv_iload hx hb dL_areGoods_33 (lv_at hl 4 rfl) ?_
  refine lv_if_eq (tgt := 129) hx hb dL_areGoods_35 (by decide) (fun c_5 => absurd c_5 (by decide)) (fun c_5 => ?_)
  refine lv_aload_n hx hb dL_areGoods_38 rfl (lv_at hl 0 rfl) ?_
  refine lv_iload hx hb dL_areGoods_39 (lv_at hl 8 rfl) ?_
  refine lv_iload hx hb dL_areGoods_41 (lv_at hl 5 rfl) ?_
  refine z_callE (x := mGoo τ (p9 * 6 + g)) (vx_runV (As := [.int (nI p9), .int (nI g)]) (rest := []) ⟨hx, hb, hml, hown, hts⟩ (c_X1_contents l hf D cI q (gOf τ) hq (nI p9) (nI g) (ok_J hJ) (hz_J hJ)) (cwV 2 hts gL_areGoods_X1_contents rfl rfl rfl kd_X1_contents ⟨Nat.le_of_ble_eq_true rfl, Nat.le_of_ble_eq_true rfl⟩) (pV_P hP hK hE hX) rfl rfl hl.1 rfl (lv_room (Nat.le_of_ble_eq_true rfl)) dL_areGoods_43 ⟨Nat.le_of_ble_eq_true rfl, Nat.le_of_ble_eq_true rfl⟩) (fun E9 h9 => h9.1 (congrArg Prod.fst (vC hJ c_p c_g))) (fun r9 h9 => h9.2.trans (congrArg (fun z => z.2.1) (vC hJ c_p c_g))) ?_
  refine lv_istore (lv' := [(9, .int (mGoo τ (p9 * 6 + g))), (0, .ref (q 0)), (1, .int (nI (mN τ))), (2, .ref (q 12)), (3, .int 0), (4, .int 1), (5, .int (nI g)), (6, .int (smS (fun P => mGoo τ (P * 6 + g)) p9)), (7, .int (smS (fun P => tdF τ P g) p9)), (8, .int (nI p9))]) hx hb dL_areGoods_46 hl (by decide) rfl (fun ls hl => ?_)
  refine lv_aload_n hx hb dL_areGoods_48 rfl (lv_at hl 1 rfl) ?_
  refine lv_iload hx hb dL_areGoods_49 (lv_at hl 9 rfl) ?_
  refine lv_iload hx hb dL_areGoods_51 (lv_at hl 6 rfl) ?_
  refine z_callE (x := tdF τ p9 g) (vx_runV (As := [.int (nI p9), .int (nI g)]) (rest := []) ⟨hx, hb, hml, hown, hts⟩ (c_X1_contentsAnew l hf D cI q (gOf τ) hq (nI p9) (nI g) (ok_J hJ) (hz_J hJ)) (cwV 2 hts gL_areGoods_X1_contentsAnew rfl rfl rfl kd_X1_contentsAnew ⟨Nat.le_of_ble_eq_true rfl, Nat.le_of_ble_eq_true rfl⟩) (pV_P hP hK hE hX) rfl rfl hl.1 rfl (lv_room (Nat.le_of_ble_eq_true rfl)) dL_areGoods_53 ⟨Nat.le_of_ble_eq_true rfl, Nat.le_of_ble_eq_true rfl⟩) (fun E9 h9 => h9.1 (congrArg Prod.fst (vA hJ c_p c_g))) (fun r9 h9 => h9.2.trans (congrArg (fun z => z.2.1) (vA hJ c_p c_g))) ?_
  refine lv_istore (lv' := [(10, .int (tdF τ p9 g)), (9, .int (mGoo τ (p9 * 6 + g))), (0, .ref (q 0)), (1, .int (nI (mN τ))), (2, .ref (q 12)), (3, .int 0), (4, .int 1), (5, .int (nI g)), (6, .int (smS (fun P => mGoo τ (P * 6 + g)) p9)), (7, .int (smS (fun P => tdF τ P g) p9)), (8, .int (nI p9))]) hx hb dL_areGoods_56 hl (by decide) rfl (fun ls hl => ?_)
  refine lv_iload hx hb dL_areGoods_58 (lv_at hl 8 rfl) ?_
  refine lv_iload hx hb dL_areGoods_60 (lv_at hl 1 rfl) ?_
  refine lv_iadd hx hb dL_areGoods_62 ?_
  refine lv_topE (y := smS (fun P => mGoo τ (P * 6 + g)) (p9 + 1)) (rfl) ?_
  refine lv_istore (lv' := [(6, .int (smS (fun P => mGoo τ (P * 6 + g)) (p9 + 1))), (10, .int (tdF τ p9 g)), (9, .int (mGoo τ (p9 * 6 + g))), (0, .ref (q 0)), (1, .int (nI (mN τ))), (2, .ref (q 12)), (3, .int 0), (4, .int 1), (5, .int (nI g)), (7, .int (smS (fun P => tdF τ P g) p9)), (8, .int (nI p9))]) hx hb dL_areGoods_63 hl (by decide) rfl (fun ls hl => ?_)
  refine lv_iload hx hb dL_areGoods_65 (lv_at hl 9 rfl) ?_
  refine lv_iload hx hb dL_areGoods_67 (lv_at hl 1 rfl) ?_
  refine lv_iadd hx hb dL_areGoods_69 ?_
  refine lv_topE (y := smS (fun P => tdF τ P g) (p9 + 1)) (rfl) ?_
  refine lv_istore (lv' := [(7, .int (smS (fun P => tdF τ P g) (p9 + 1))), (6, .int (smS (fun P => mGoo τ (P * 6 + g)) (p9 + 1))), (10, .int (tdF τ p9 g)), (9, .int (mGoo τ (p9 * 6 + g))), (0, .ref (q 0)), (1, .int (nI (mN τ))), (2, .ref (q 12)), (3, .int 0), (4, .int 1), (5, .int (nI g)), (8, .int (nI p9))]) hx hb dL_areGoods_70 hl (by decide) rfl (fun ls hl => ?_)
  refine lv_iload hx hb dL_areGoods_72 (lv_at hl 3 rfl) ?_
  refine lv_if_lt (tgt := 120) hx hb dL_areGoods_74 (by decide) (fun c_6 => absurd c_6 (goo_lo hJ _)) (fun c_6 => ?_)
  refine lv_iload hx hb dL_areGoods_77 (lv_at hl 3 rfl) ?_
  refine lv_sipush (v := 999) hx hb dL_areGoods_79 (by decide) ?_
  refine lv_icmp_gt (tgt := 120) hx hb dL_areGoods_82 (by decide) (fun c_7 => absurd c_7 (goo_hi hJ _)) (fun c_7 => ?_)
  have J105 : W p l e ({ frames := 8, cells := 1, slots := 6, locals := 142 }) s m args below meth c s.heap [] 0 0 Q (F0 m 105 ls []) := by
    refine lv_iload_n hx hb dL_areGoods_105 rfl (lv_at hl 7 rfl) ?_
    refine lv_if_eq (tgt := 116) hx hb dL_areGoods_106 (by decide) (fun c_8 => ?_) (fun c_8 => absurd (by decide) c_8)
    refine lv_iconst (v := 1) hx hb dL_areGoods_116 (by decide) ?_
    refine lv_goto (tgt := 121) hx hb dL_areGoods_117 (by decide) ?_
    refine lv_istore (lv' := [(4, .int 1), (7, .int (smS (fun P => tdF τ P g) (p9 + 1))), (6, .int (smS (fun P => mGoo τ (P * 6 + g)) (p9 + 1))), (10, .int (tdF τ p9 g)), (9, .int (mGoo τ (p9 * 6 + g))), (0, .ref (q 0)), (1, .int (nI (mN τ))), (2, .ref (q 12)), (3, .int 0), (5, .int (nI g)), (8, .int (nI p9))]) hx hb dL_areGoods_121 hl (by decide) rfl (fun ls hl => ?_)
    refine lv_iinc (v := nI (p9 + 1)) (lv' := [(8, .int (nI (p9 + 1))), (4, .int 1), (7, .int (smS (fun P => tdF τ P g) (p9 + 1))), (6, .int (smS (fun P => mGoo τ (P * 6 + g)) (p9 + 1))), (10, .int (tdF τ p9 g)), (9, .int (mGoo τ (p9 * 6 + g))), (0, .ref (q 0)), (1, .int (nI (mN τ))), (2, .ref (q 12)), (3, .int 0), (5, .int (nI g))]) hx hb dL_areGoods_123 hl (k := 10) rfl (iincN p9) (by decide) rfl (fun ls hl => ?_)
    refine lv_goto (tgt := 27) hx hb dL_areGoods_126 (by decide) ?_
    exact ih_p9 (by omega) _ (lv_sub hl [6, 7, 8, 9, 1, 10, 3, 2, 0] rfl)
  refine lv_aload_n hx hb dL_areGoods_85 rfl (lv_at hl 4 rfl) ?_
  refine lv_iload hx hb dL_areGoods_86 (lv_at hl 10 rfl) ?_
  refine lv_iconst (v := 4) hx hb dL_areGoods_88 (by decide) ?_
  refine z_callE (x := bI (mGon τ p9)) (vx_runV (As := [.int (nI p9), .int 4]) (rest := []) ⟨hx, hb, hml, hown, hts⟩ (c_X1_pallet l hf D cI q (gOf τ) hq (nI p9) 4 (ok_J hJ) (hz_J hJ)) (cwV 2 hts gL_areGoods_X1_pallet rfl rfl rfl kd_X1_pallet ⟨Nat.le_of_ble_eq_true rfl, Nat.le_of_ble_eq_true rfl⟩) (pV_P hP hK hE hX) rfl rfl hl.1 rfl (lv_room (Nat.le_of_ble_eq_true rfl)) dL_areGoods_89 ⟨Nat.le_of_ble_eq_true rfl, Nat.le_of_ble_eq_true rfl⟩) (fun E9 h9 => h9.1 (congrArg Prod.fst (vP4 hJ c_p))) (fun r9 h9 => h9.2.trans (congrArg (fun z => z.2.1) (vP4 hJ c_p))) ?_
  refine eqB (mGon τ p9) (tgt := 105) hx hb rfl dL_areGoods_92 (by decide) (fun _ => J105) (fun hgn => ?_)
  refine lv_iload hx hb dL_areGoods_95 (lv_at hl 3 rfl) ?_
  refine lv_if_ne (tgt := 120) hx hb dL_areGoods_97 (by decide) (fun c_9 => absurd ((td_gone hJ c_p c_g hgn).1) c_9) (fun c_9 => ?_)
  refine lv_iload hx hb dL_areGoods_100 (lv_at hl 2 rfl) ?_
  refine lv_if_ne (tgt := 120) hx hb dL_areGoods_102 (by decide) (fun c_10 => absurd ((td_gone hJ c_p c_g hgn).2) c_10) (fun c_10 => ?_)
  exact J105
theorem kn_L_areTrucks : yL_areTrucks.cls ≠ "java/lang/invoke/MethodHandle" ∧ yL_areTrucks.cls ≠ "java/lang/invoke/VarHandle" ∧ (parseMethodDescriptor yL_areTrucks.desc).map (fun d => d.parameters.length) = some 2 := by decide +kernel
set_option maxHeartbeats 4000000 in
set_option maxRecDepth 100000 in
theorem c_L_areTrucks (l : Launch) (hf : l.stackTraces = false) (D : va_G) (cI : ClassId) (q : Nat → Nat) (hq : ijQ 12 q) (τ : SM) (al sp : Nat → Int32) (hJ : J τ al sp) : vx_Met l yL_areTrucks wsL_areTrucks ({ frames := 8, cells := 1, slots := 6, locals := 167 }) (va_Pc [.ref (q 0), .int (nI (mN τ))] (PX D cI q (gOf τ))) (rX (fun r => r = 1)) (xQ (fun _ => False)) 1 6 noF := by
  refine openXRZ (cc := cL_areTrucks) (maxL := 8) (by decide) rfl (Nat.le_of_ble_eq_true rfl) ?_
  intro p e s m args below meth c hx hb hml hts hown hpre Q RET OUT ls hl
  have hown : s.vm.findClass RL = some m.cls := hown
  have hl : lv_has ls 8 [(0, .ref (q 0)), (1, .int (nI (mN τ)))] := hl
  obtain ⟨⟨hP, hK, hE⟩, hX⟩ := hpre
  have hn14 := hJ.1.2.2.2.1
  refine lv_iconst (v := 0) hx hb dL_areTrucks_0 (by decide) ?_
  refine lv_istore_n (lv' := [(2, .int 0), (0, .ref (q 0)), (1, .int (nI (mN τ)))]) hx hb dL_areTrucks_1 rfl hl (by decide) rfl (fun ls hl => ?_)
  refine lv_iconst (v := 0) hx hb dL_areTrucks_2 (by decide) ?_
  refine lv_istore_n (lv' := [(3, .int 0), (2, .int 0), (0, .ref (q 0)), (1, .int (nI (mN τ)))]) hx hb dL_areTrucks_3 rfl hl (by decide) rfl (fun ls hl => ?_)
  refine lv_iconst (v := 1) hx hb dL_areTrucks_4 (by decide) ?_
  refine lv_istore (lv' := [(4, .int 1), (3, .int 0), (2, .int 0), (0, .ref (q 0)), (1, .int (nI (mN τ)))]) hx hb dL_areTrucks_5 hl (by decide) rfl (fun ls hl => ?_)
  refine lv_iconst (v := 0) hx hb dL_areTrucks_7 (by decide) ?_
  refine lv_istore (lv' := [(5, .int 0), (4, .int 1), (3, .int 0), (2, .int 0), (0, .ref (q 0)), (1, .int (nI (mN τ)))]) hx hb dL_areTrucks_8 hl (by decide) rfl (fun ls hl => ?_)
  refine loopW (N := (mN τ)) (k0 := 0) (fun p9 ls => lv_has ls 8 [(0, .ref (q 0)), (1, .int (nI (mN τ))), (2, .int (rS (mHol τ) (mGoo τ) 4 0 p9)), (3, .int (rS (mHol τ) (mGoo τ) 5 0 p9)), (4, .int 1), (5, .int (nI p9))]) (Nat.zero_le _) (lv_sub hl [4, 5, 3, 2, 1, 0] rfl) (fun p9 ls hk_p9 hl ih_p9 => ?_)
  refine lv_iload hx hb dL_areTrucks_10 (lv_at hl 5 rfl) ?_
  refine lv_iload_n hx hb dL_areTrucks_12 rfl (lv_at hl 1 rfl) ?_
  refine geN p9 (mN τ) (tgt := 123) hx hb rfl rfl (by omega) (by omega) dL_areTrucks_13 (by decide) (fun c_p => ?_) (fun c_p => ?_)
  · skip
    have hpn : p9 = mN τ := by omega
    subst hpn
    refine lv_iload hx hb dL_areTrucks_123 (lv_at hl 4 rfl) ?_
    refine lv_if_eq (tgt := 162) hx hb dL_areTrucks_125 (by decide) (fun c_1 => absurd c_1 (by decide)) (fun c_1 => ?_)
    refine lv_iload_n hx hb dL_areTrucks_128 rfl (lv_at hl 2 rfl) ?_
    refine lv_sipush (v := 200) hx hb dL_areTrucks_129 (by decide) ?_
    refine lv_icmp_gt (tgt := 162) hx hb dL_areTrucks_132 (by decide) (fun c_2 => absurd c_2 (tr_hi hJ (by decide))) (fun c_2 => ?_)
    refine lv_iload_n hx hb dL_areTrucks_135 rfl (lv_at hl 3 rfl) ?_
    refine lv_sipush (v := 200) hx hb dL_areTrucks_136 (by decide) ?_
    refine lv_icmp_gt (tgt := 162) hx hb dL_areTrucks_139 (by decide) (fun c_3 => absurd c_3 (tr_hi hJ (by decide))) (fun c_3 => ?_)
    refine lv_aload_n hx hb dL_areTrucks_142 rfl (lv_at hl 0 rfl) ?_
    refine lv_iconst (v := 4) hx hb dL_areTrucks_143 (by decide) ?_
    refine z_callE (x := cmS (mN τ) (mHol τ) (mMan τ) (numM τ) (mDec τ) 4 6) (vx_runV (As := [.int 4]) (rest := []) ⟨hx, hb, hml, hown, hts⟩ (c_X1_mismatch l hf D cI q (gOf τ) hq 4 (ok_J hJ) (hz_J hJ)) (cwV 1 hts gL_areTrucks_X1_mismatch rfl rfl rfl kd_X1_mismatch ⟨Nat.le_of_ble_eq_true rfl, Nat.le_of_ble_eq_true rfl⟩) (pV_P hP hK hE hX) rfl rfl hl.1 rfl (lv_room (Nat.le_of_ble_eq_true rfl)) dL_areTrucks_144 ⟨Nat.le_of_ble_eq_true rfl, Nat.le_of_ble_eq_true rfl⟩) (fun E9 h9 => h9.1 (congrArg Prod.fst (vM hJ (Or.inl rfl)))) (fun r9 h9 => h9.2.trans (congrArg (fun z => z.2.1) (vM hJ (Or.inl rfl)))) ?_
    refine lv_if_lt (tgt := 162) hx hb dL_areTrucks_147 (by decide) (fun c_4 => absurd c_4 (cm_lo hJ 4)) (fun c_4 => ?_)
    refine lv_aload_n hx hb dL_areTrucks_150 rfl (lv_at hl 0 rfl) ?_
    refine lv_iconst (v := 5) hx hb dL_areTrucks_151 (by decide) ?_
    refine z_callE (x := cmS (mN τ) (mHol τ) (mMan τ) (numM τ) (mDec τ) 5 6) (vx_runV (As := [.int 5]) (rest := []) ⟨hx, hb, hml, hown, hts⟩ (c_X1_mismatch l hf D cI q (gOf τ) hq 5 (ok_J hJ) (hz_J hJ)) (cwV 1 hts gL_areTrucks_X1_mismatch rfl rfl rfl kd_X1_mismatch ⟨Nat.le_of_ble_eq_true rfl, Nat.le_of_ble_eq_true rfl⟩) (pV_P hP hK hE hX) rfl rfl hl.1 rfl (lv_room (Nat.le_of_ble_eq_true rfl)) dL_areTrucks_152 ⟨Nat.le_of_ble_eq_true rfl, Nat.le_of_ble_eq_true rfl⟩) (fun E9 h9 => h9.1 (congrArg Prod.fst (vM hJ (Or.inr rfl)))) (fun r9 h9 => h9.2.trans (congrArg (fun z => z.2.1) (vM hJ (Or.inr rfl)))) ?_
    refine lv_if_lt (tgt := 162) hx hb dL_areTrucks_155 (by decide) (fun c_5 => absurd c_5 (cm_lo hJ 5)) (fun c_5 => ?_)
    refine lv_iconst (v := 1) hx hb dL_areTrucks_158 (by decide) ?_
    refine lv_goto (tgt := 163) hx hb dL_areTrucks_159 (by decide) ?_
    exact RET true _ _ rfl dL_areTrucks_163
  have hhp := hJ.1.2.2.2.2.1 p9
  refine lv_iload hx hb dL_areTrucks_16 (lv_at hl 4 rfl) ?_
  refine lv_if_eq (tgt := 123) hx hb dL_areTrucks_18 (by decide) (fun c_6 => absurd c_6 (by decide)) (fun c_6 => ?_)
  refine lv_iconst (v := 0) hx hb dL_areTrucks_21 (by decide) ?_
  refine lv_istore (lv' := [(6, .int 0), (0, .ref (q 0)), (1, .int (nI (mN τ))), (2, .int (rS (mHol τ) (mGoo τ) 4 0 p9)), (3, .int (rS (mHol τ) (mGoo τ) 5 0 p9)), (4, .int 1), (5, .int (nI p9))]) hx hb dL_areTrucks_22 hl (by decide) rfl (fun ls hl => ?_)
  refine lv_iconst (v := 0) hx hb dL_areTrucks_24 (by decide) ?_
  refine lv_istore (lv' := [(7, .int 0), (6, .int 0), (0, .ref (q 0)), (1, .int (nI (mN τ))), (2, .int (rS (mHol τ) (mGoo τ) 4 0 p9)), (3, .int (rS (mHol τ) (mGoo τ) 5 0 p9)), (4, .int 1), (5, .int (nI p9))]) hx hb dL_areTrucks_25 hl (by decide) rfl (fun ls hl => ?_)
  refine loopW (N := 6) (k0 := 0) (fun g ls => lv_has ls 8 [(0, .ref (q 0)), (1, .int (nI (mN τ))), (2, .int (rS (mHol τ) (mGoo τ) 4 0 p9)), (3, .int (rS (mHol τ) (mGoo τ) 5 0 p9)), (4, .int 1), (5, .int (nI p9)), (6, .int (wS (mGoo τ) p9 g)), (7, .int (nI g))]) (Nat.zero_le _) (lv_sub hl [2, 3, 4, 5, 6, 7, 1, 0] rfl) (fun g ls hk_g hl ih_g => ?_)
  refine lv_iload hx hb dL_areTrucks_27 (lv_at hl 7 rfl) ?_
  refine lv_bipush (v := 6) hx hb dL_areTrucks_29 (by decide) ?_
  refine geN g 6 (tgt := 58) hx hb rfl rfl (by omega) (by omega) dL_areTrucks_31 (by decide) (fun c_g => ?_) (fun c_g => ?_)
  · skip
    have hg6 : g = 6 := by omega
    subst hg6
    refine lv_iload_n hx hb dL_areTrucks_58 rfl (lv_at hl 2 rfl) ?_
    refine lv_aload_n hx hb dL_areTrucks_59 rfl (lv_at hl 0 rfl) ?_
    refine lv_iload hx hb dL_areTrucks_60 (lv_at hl 5 rfl) ?_
    refine lv_iconst (v := 0) hx hb dL_areTrucks_62 (by decide) ?_
    refine z_callE (x := nI (mHol τ p9)) (vx_runV (As := [.int (nI p9), .int 0]) (rest := [.int (rS (mHol τ) (mGoo τ) 4 0 p9)]) ⟨hx, hb, hml, hown, hts⟩ (c_X1_pallet l hf D cI q (gOf τ) hq (nI p9) 0 (ok_J hJ) (hz_J hJ)) (cwV 2 hts gL_areTrucks_X1_pallet rfl rfl rfl kd_X1_pallet ⟨Nat.le_of_ble_eq_true rfl, Nat.le_of_ble_eq_true rfl⟩) (pV_P hP hK hE hX) rfl rfl hl.1 rfl (lv_room (Nat.le_of_ble_eq_true rfl)) dL_areTrucks_63 ⟨Nat.le_of_ble_eq_true rfl, Nat.le_of_ble_eq_true rfl⟩) (fun E9 h9 => h9.1 (congrArg Prod.fst (vP0 hJ c_p))) (fun r9 h9 => h9.2.trans (congrArg (fun z => z.2.1) (vP0 hJ c_p))) ?_
    refine lv_iconst (v := 4) hx hb dL_areTrucks_66 (by decide) ?_
    refine cutI (x := if mHol τ p9 = 4 then wS (mGoo τ) p9 6 else 0) (pcM := 76) (st := [.int (rS (mHol τ) (mGoo τ) 4 0 p9)]) ?_ (fun JJ => ?_)
    rotate_left
    · skip
      refine neN (mHol τ p9) 4 (tgt := 75) hx hb rfl rfl (by omega) (by omega) dL_areTrucks_67 (by decide) (fun c_h => ?_) (fun c_h => ?_)
      · skip
        refine lv_iconst (v := 0) hx hb dL_areTrucks_75 (by decide) ?_
        exact JJ _ (by rw [if_neg c_h])
      refine lv_iload hx hb dL_areTrucks_70 (lv_at hl 6 rfl) ?_
      refine lv_goto (tgt := 76) hx hb dL_areTrucks_72 (by decide) ?_
      exact JJ _ (by rw [if_pos c_h])
    refine lv_iadd hx hb dL_areTrucks_76 ?_
    refine lv_topE (y := rS (mHol τ) (mGoo τ) 4 0 (p9 + 1)) (rfl) ?_
    refine lv_istore_n (lv' := [(2, .int (rS (mHol τ) (mGoo τ) 4 0 (p9 + 1))), (0, .ref (q 0)), (1, .int (nI (mN τ))), (3, .int (rS (mHol τ) (mGoo τ) 5 0 p9)), (4, .int 1), (5, .int (nI p9)), (6, .int (wS (mGoo τ) p9 6)), (7, .int (nI 6))]) hx hb dL_areTrucks_77 rfl hl (by decide) rfl (fun ls hl => ?_)
    refine lv_iload_n hx hb dL_areTrucks_78 rfl (lv_at hl 3 rfl) ?_
    refine lv_aload_n hx hb dL_areTrucks_79 rfl (lv_at hl 1 rfl) ?_
    refine lv_iload hx hb dL_areTrucks_80 (lv_at hl 5 rfl) ?_
    refine lv_iconst (v := 0) hx hb dL_areTrucks_82 (by decide) ?_
    refine z_callE (x := nI (mHol τ p9)) (vx_runV (As := [.int (nI p9), .int 0]) (rest := [.int (rS (mHol τ) (mGoo τ) 5 0 p9)]) ⟨hx, hb, hml, hown, hts⟩ (c_X1_pallet l hf D cI q (gOf τ) hq (nI p9) 0 (ok_J hJ) (hz_J hJ)) (cwV 2 hts gL_areTrucks_X1_pallet rfl rfl rfl kd_X1_pallet ⟨Nat.le_of_ble_eq_true rfl, Nat.le_of_ble_eq_true rfl⟩) (pV_P hP hK hE hX) rfl rfl hl.1 rfl (lv_room (Nat.le_of_ble_eq_true rfl)) dL_areTrucks_83 ⟨Nat.le_of_ble_eq_true rfl, Nat.le_of_ble_eq_true rfl⟩) (fun E9 h9 => h9.1 (congrArg Prod.fst (vP0 hJ c_p))) (fun r9 h9 => h9.2.trans (congrArg (fun z => z.2.1) (vP0 hJ c_p))) ?_
    refine lv_iconst (v := 5) hx hb dL_areTrucks_86 (by decide) ?_
    refine cutI (x := if mHol τ p9 = 5 then wS (mGoo τ) p9 6 else 0) (pcM := 96) (st := [.int (rS (mHol τ) (mGoo τ) 5 0 p9)]) ?_ (fun JJ => ?_)
    rotate_left
    · skip
      refine neN (mHol τ p9) 5 (tgt := 95) hx hb rfl rfl (by omega) (by omega) dL_areTrucks_87 (by decide) (fun c_h => ?_) (fun c_h => ?_)
      · skip
        refine lv_iconst (v := 0) hx hb dL_areTrucks_95 (by decide) ?_
        exact JJ _ (by rw [if_neg c_h])
      refine lv_iload hx hb dL_areTrucks_90 (lv_at hl 6 rfl) ?_
      refine lv_goto (tgt := 96) hx hb dL_areTrucks_92 (by decide) ?_
      exact JJ _ (by rw [if_pos c_h])
    refine lv_iadd hx hb dL_areTrucks_96 ?_
    refine lv_topE (y := rS (mHol τ) (mGoo τ) 5 0 (p9 + 1)) (rfl) ?_
    refine lv_istore_n (lv' := [(3, .int (rS (mHol τ) (mGoo τ) 5 0 (p9 + 1))), (2, .int (rS (mHol τ) (mGoo τ) 4 0 (p9 + 1))), (0, .ref (q 0)), (1, .int (nI (mN τ))), (4, .int 1), (5, .int (nI p9)), (6, .int (wS (mGoo τ) p9 6)), (7, .int (nI 6))]) hx hb dL_areTrucks_97 rfl hl (by decide) rfl (fun ls hl => ?_)
    refine lv_iload hx hb dL_areTrucks_98 (lv_at hl 6 rfl) ?_
    refine lv_aload_n hx hb dL_areTrucks_100 rfl (lv_at hl 2 rfl) ?_
    refine lv_iload hx hb dL_areTrucks_101 (lv_at hl 5 rfl) ?_
    refine lv_iconst (v := 2) hx hb dL_areTrucks_103 (by decide) ?_
    refine z_callE (x := wS (mGoo τ) p9 6) (vx_runV (As := [.int (nI p9), .int 2]) (rest := [.int (wS (mGoo τ) p9 6)]) ⟨hx, hb, hml, hown, hts⟩ (c_X1_pallet l hf D cI q (gOf τ) hq (nI p9) 2 (ok_J hJ) (hz_J hJ)) (cwV 2 hts gL_areTrucks_X1_pallet rfl rfl rfl kd_X1_pallet ⟨Nat.le_of_ble_eq_true rfl, Nat.le_of_ble_eq_true rfl⟩) (pV_P hP hK hE hX) rfl rfl hl.1 rfl (lv_room (Nat.le_of_ble_eq_true rfl)) dL_areTrucks_104 ⟨Nat.le_of_ble_eq_true rfl, Nat.le_of_ble_eq_true rfl⟩) (fun E9 h9 => h9.1 (congrArg Prod.fst (vP2 hJ c_p))) (fun r9 h9 => h9.2.trans (congrArg (fun z => z.2.1) (vP2 hJ c_p))) ?_
    refine lv_icmp_ne (tgt := 114) hx hb dL_areTrucks_107 (by decide) (fun c_7 => absurd (rfl) c_7) (fun c_7 => ?_)
    refine lv_iconst (v := 1) hx hb dL_areTrucks_110 (by decide) ?_
    refine lv_goto (tgt := 115) hx hb dL_areTrucks_111 (by decide) ?_
    refine lv_istore (lv' := [(4, .int 1), (3, .int (rS (mHol τ) (mGoo τ) 5 0 (p9 + 1))), (2, .int (rS (mHol τ) (mGoo τ) 4 0 (p9 + 1))), (0, .ref (q 0)), (1, .int (nI (mN τ))), (5, .int (nI p9)), (6, .int (wS (mGoo τ) p9 6)), (7, .int (nI 6))]) hx hb dL_areTrucks_115 hl (by decide) rfl (fun ls hl => ?_)
    refine lv_iinc (v := nI (p9 + 1)) (lv' := [(5, .int (nI (p9 + 1))), (4, .int 1), (3, .int (rS (mHol τ) (mGoo τ) 5 0 (p9 + 1))), (2, .int (rS (mHol τ) (mGoo τ) 4 0 (p9 + 1))), (0, .ref (q 0)), (1, .int (nI (mN τ))), (6, .int (wS (mGoo τ) p9 6)), (7, .int (nI 6))]) hx hb dL_areTrucks_117 hl (k := 5) rfl (iincN p9) (by decide) rfl (fun ls hl => ?_)
    refine lv_goto (tgt := 10) hx hb dL_areTrucks_120 (by decide) ?_
    exact ih_p9 (by omega) _ (lv_sub hl [4, 5, 3, 2, 1, 0] rfl)
  refine lv_iload hx hb dL_areTrucks_34 (lv_at hl 6 rfl) ?_
  refine lv_iload hx hb dL_areTrucks_36 (lv_at hl 7 rfl) ?_
  refine lv_iconst (v := 1) hx hb dL_areTrucks_38 (by decide) ?_
  refine lv_iadd hx hb dL_areTrucks_39 ?_
  refine lv_aload_n hx hb dL_areTrucks_40 rfl (lv_at hl 0 rfl) ?_
  refine lv_iload hx hb dL_areTrucks_41 (lv_at hl 5 rfl) ?_
  refine lv_iload hx hb dL_areTrucks_43 (lv_at hl 7 rfl) ?_
  refine z_callE (x := mGoo τ (p9 * 6 + g)) (vx_runV (As := [.int (nI p9), .int (nI g)]) (rest := [.int ((nI g + 1)), .int (wS (mGoo τ) p9 g)]) ⟨hx, hb, hml, hown, hts⟩ (c_X1_contents l hf D cI q (gOf τ) hq (nI p9) (nI g) (ok_J hJ) (hz_J hJ)) (cwV 2 hts gL_areTrucks_X1_contents rfl rfl rfl kd_X1_contents ⟨Nat.le_of_ble_eq_true rfl, Nat.le_of_ble_eq_true rfl⟩) (pV_P hP hK hE hX) rfl rfl hl.1 rfl (lv_room (Nat.le_of_ble_eq_true rfl)) dL_areTrucks_45 ⟨Nat.le_of_ble_eq_true rfl, Nat.le_of_ble_eq_true rfl⟩) (fun E9 h9 => h9.1 (congrArg Prod.fst (vC hJ c_p c_g))) (fun r9 h9 => h9.2.trans (congrArg (fun z => z.2.1) (vC hJ c_p c_g))) ?_
  refine lv_imul hx hb dL_areTrucks_48 ?_
  refine lv_iadd hx hb dL_areTrucks_49 ?_
  refine lv_topE (y := wS (mGoo τ) p9 (g + 1)) (congrArg (wS (mGoo τ) p9 g + ·) (Int32.mul_comm _ _)) ?_
  refine lv_istore (lv' := [(6, .int (wS (mGoo τ) p9 (g + 1))), (0, .ref (q 0)), (1, .int (nI (mN τ))), (2, .int (rS (mHol τ) (mGoo τ) 4 0 p9)), (3, .int (rS (mHol τ) (mGoo τ) 5 0 p9)), (4, .int 1), (5, .int (nI p9)), (7, .int (nI g))]) hx hb dL_areTrucks_50 hl (by decide) rfl (fun ls hl => ?_)
  refine lv_iinc (v := nI (g + 1)) (lv' := [(7, .int (nI (g + 1))), (6, .int (wS (mGoo τ) p9 (g + 1))), (0, .ref (q 0)), (1, .int (nI (mN τ))), (2, .int (rS (mHol τ) (mGoo τ) 4 0 p9)), (3, .int (rS (mHol τ) (mGoo τ) 5 0 p9)), (4, .int 1), (5, .int (nI p9))]) hx hb dL_areTrucks_52 hl (k := 7) rfl (iincN g) (by decide) rfl (fun ls hl => ?_)
  refine lv_goto (tgt := 27) hx hb dL_areTrucks_55 (by decide) ?_
  exact ih_g (by omega) _ (lv_sub hl [2, 3, 4, 5, 6, 7, 1, 0] rfl)
