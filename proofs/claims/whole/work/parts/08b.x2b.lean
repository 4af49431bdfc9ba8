theorem kn_X2_mismatchOf : yX2_mismatchOf.cls ≠ "java/lang/invoke/MethodHandle" ∧ yX2_mismatchOf.cls ≠ "java/lang/invoke/VarHandle" ∧ (parseMethodDescriptor yX2_mismatchOf.desc).map (fun d => d.parameters.length) = some 1 := by decide +kernel
theorem kd_X2_mismatchOf : yX2_mismatchOf.cls = RX2 ∧ yX2_mismatchOf.cls ≠ "java/lang/invoke/MethodHandle" ∧ yX2_mismatchOf.cls ≠ "java/lang/invoke/VarHandle" ∧ (parseMethodDescriptor yX2_mismatchOf.desc).map (fun d => d.parameters.length) = some 1 := by decide +kernel
set_option maxHeartbeats 4000000 in
set_option maxRecDepth 100000 in
theorem c_X2_mismatchOf (l : Launch) (D : va_G) (cI cZ : ClassId) (q : Nat → Nat) (σ : SM) (hq : ijQ 20 q) (t : Nat) (ht4 : 4 ≤ t) (ht6 : t < 6) (ok : okM σ) (hoth : othM σ) : Met l yX2_mismatchOf wsX2_mismatchOf ({ frames := 3, cells := 0, slots := 0, locals := 69 }) (va_Pc [.ref (q 0), .int (nI (t))] (PM D cI cZ q σ)) (wQ (adQ 20 q) (fun v H1 => v = some (.int (mmF σ t).1) ∧ va_P D vwCl (wM cI cZ q (msTol σ (mmF σ t).2)) H1)) 0 0 (adQ 20 q) := by
  refine openW (cc := cX2_mismatchOf) (maxL := 6) (by decide) rfl (Nat.le_of_ble_eq_true rfl) ?_
  intro p e s m args below meth c hx hb hml hts hown hpre Q RET ls hl
  have hown : s.vm.findClass RX2 = some m.cls := hown
  have hl : lv_has ls 6 [(0, .ref (q 0)), (1, .int (nI (t)))] := hl
  obtain ⟨hP, hK⟩ := hpre
  have hS : va_S (adQ 20 q) s.heap s.heap [] := va_S.rf
  have hiX2 : ∀ w ∈ wsX20, w ∈ wsX2_mismatchOf := by decide +kernel
  have hf56 := hts (.fieldLink RX2 56 "PalletGramModel" "declared" "[I") (by decide +kernel)
  have hf72 := hts (.fieldLink RX2 72 "PalletGramModel" "pallets" "I") (by decide +kernel)
  have hf7 := hts (.fieldLink RX2 7 "PalletGramModel" "holder" "[I") (by decide +kernel)
  obtain ⟨thr, hol, goo, man, hel, gon, n, wen, gor, kin, mak, god, amo, oth, its, was, prf, cop, dec, fee, owe, tol⟩ := σ
  obtain ⟨hn, hhol, hman, hgor, hwen⟩ := ok
  have hn : n ≤ 14 := hn
  have hhol : ∀ P, hol P < 6 := hhol
  have hman : ∀ P, man P ≤ 30 := hman
  have hgor : gor ≤ 14 := hgor
  have hwen : ∀ k, wen k < 14 := hwen
  have hoth : ∀ r, (kin r = 5 ∨ kin r = 4) → ∃ o : Nat, o < 14 ∧ oth r = nI o := hoth
  refine lv_iconst (v := 0) hx hb dX2_mismatchOf_0 (by decide) ?_
  refine lv_istore_n (lv' := [(2, .int 0), (0, .ref (q 0)), (1, .int (nI (t)))]) hx hb dX2_mismatchOf_1 rfl hl (by decide) rfl (fun ls hl => ?_)
  refine lv_iconst (v := 0) hx hb dX2_mismatchOf_2 (by decide) ?_
  refine lv_istore_n (lv' := [(3, .int 0), (2, .int 0), (0, .ref (q 0)), (1, .int (nI (t)))]) hx hb dX2_mismatchOf_3 rfl hl (by decide) rfl (fun ls hl => ?_)
  refine loopH (N := 6) (k0 := 0) (fun g9 ls H locs => lv_has ls 6 [(0, .ref (q 0)), (1, .int (nI (t))), (2, .int ((mmS kin god amo oth man wen gor gon hol dec n t tol g9).1)), (3, .int (nI (g9)))] ∧ va_P D vwCl (wM cI cZ q (thr, hol, goo, man, hel, gon, n, wen, gor, kin, mak, god, amo, oth, its, was, prf, cop, dec, fee, owe, (mmS kin god amo oth man wen gor gon hol dec n t tol g9).2)) H ∧ va_S (adQ 20 q) s.heap H locs) (Nat.zero_le _) ⟨lv_sub hl [2, 3, 1, 0] rfl, hP, hS⟩ (fun g9 ls H locs hk_g9 hI ih_g9 => ?_)
  obtain ⟨hl, hP, hS⟩ := hI
  refine lv_iload_n hx hb dX2_mismatchOf_4 rfl (lv_at hl 3 rfl) ?_
  refine lv_bipush (v := 6) hx hb dX2_mismatchOf_5 (by decide) ?_
  refine geN g9 6 (tgt := 92) hx hb rfl rfl (by omega) (by omega) dX2_mismatchOf_7 (by decide) (fun c_1 => ?_) (fun c_1 => ?_)
  · skip
    refine lv_iload_n hx hb dX2_mismatchOf_92 rfl (lv_at hl 2 rfl) ?_
    exact RET _ _ _ _ _ ((fun (h9 : g9 = 6) => by subst g9; exact ⟨rfl, hP⟩) (by omega)) hS dX2_mismatchOf_93
  · skip
    refine lv_aload_n hx hb dX2_mismatchOf_10 rfl (lv_at hl 0 rfl) ?_
    refine gf_2_18 hx hb hts hiX2 hown hK hP hf56 dX2_mismatchOf_11 ?_
    refine lv_bipush (v := 6) hx hb dX2_mismatchOf_14 (by decide) ?_
    refine lv_iload_n hx hb dX2_mismatchOf_16 rfl (lv_at hl 1 rfl) ?_
    refine lv_iconst (v := 4) hx hb dX2_mismatchOf_17 (by decide) ?_
    refine subN t 4 hx hb rfl rfl (by omega) dX2_mismatchOf_18 ?_
    refine mulNc 6 (t - 4) hx hb rfl rfl dX2_mismatchOf_19 ?_
    refine lv_iload_n hx hb dX2_mismatchOf_20 rfl (lv_at hl 3 rfl) ?_
    refine addN ((t - 4) * 6) g9 hx hb rfl rfl dX2_mismatchOf_21 ?_
    refine mld_16 (k := (t - 4) * 6 + g9) (v := dec ((t - 4) * 6 + g9)) hx hb hK hP rfl (by omega) rfl dX2_mismatchOf_22 ?_
    refine lv_istore (lv' := [(4, .int ((dec ((t - 4) * 6 + g9)))), (0, .ref (q 0)), (1, .int (nI (t))), (2, .int ((mmS kin god amo oth man wen gor gon hol dec n t tol g9).1)), (3, .int (nI (g9)))]) hx hb dX2_mismatchOf_23 hl (by decide) rfl (fun ls hl => ?_)
    refine lv_iconst (v := 0) hx hb dX2_mismatchOf_25 (by decide) ?_
    refine lv_istore (lv' := [(5, .int 0), (4, .int ((dec ((t - 4) * 6 + g9)))), (0, .ref (q 0)), (1, .int (nI (t))), (2, .int ((mmS kin god amo oth man wen gor gon hol dec n t tol g9).1)), (3, .int (nI (g9)))]) hx hb dX2_mismatchOf_26 hl (by decide) rfl (fun ls hl => ?_)
    refine loopH (N := n) (k0 := 0) (fun k ls H locs => lv_has ls 6 [(0, .ref (q 0)), (1, .int (nI (t))), (2, .int ((mmS kin god amo oth man wen gor gon hol dec n t tol g9).1)), (3, .int (nI (g9))), (4, .int ((miS kin god amo oth man wen gor gon hol t (nI g9) (dec ((t - 4) * 6 + g9)) (mmS kin god amo oth man wen gor gon hol dec n t tol g9).2 k).1)), (5, .int (nI (k)))] ∧ va_P D vwCl (wM cI cZ q (thr, hol, goo, man, hel, gon, n, wen, gor, kin, mak, god, amo, oth, its, was, prf, cop, dec, fee, owe, (miS kin god amo oth man wen gor gon hol t (nI g9) (dec ((t - 4) * 6 + g9)) (mmS kin god amo oth man wen gor gon hol dec n t tol g9).2 k).2)) H ∧ va_S (adQ 20 q) s.heap H locs) (Nat.zero_le _) ⟨lv_sub hl [2, 3, 4, 5, 1, 0] rfl, hP, hS⟩ (fun k ls H locs hk_k hI ih_k => ?_)
    obtain ⟨hl, hP, hS⟩ := hI
    refine lv_iload hx hb dX2_mismatchOf_28 (lv_at hl 5 rfl) ?_
    refine lv_aload_n hx hb dX2_mismatchOf_30 rfl (lv_at hl 0 rfl) ?_
    refine gf_2_6 hx hb hts hiX2 hown hK hP hf72 dX2_mismatchOf_31 ?_
    refine lv_topE (y := nI (n)) rfl ?_
    refine geN k n (tgt := 70) hx hb rfl rfl (by omega) (by omega) dX2_mismatchOf_34 (by decide) (fun c_2 => ?_) (fun c_2 => ?_)
    · skip
      have h9 : k = n := by omega
      subst k
      refine lv_iload_n hx hb dX2_mismatchOf_70 rfl (lv_at hl 2 rfl) ?_
      refine cutI (x := (absI (miS kin god amo oth man wen gor gon hol t (nI g9) (dec ((t - 4) * 6 + g9)) (mmS kin god amo oth man wen gor gon hol dec n t tol g9).2 n).1)) (pcM := 84) (st := [.int ((mmS kin god amo oth man wen gor gon hol dec n t tol g9).1)]) ?_ (fun J => ?_)
      rotate_left
      · skip
        refine lv_iload hx hb dX2_mismatchOf_71 (lv_at hl 4 rfl) ?_
        refine lv_if_ge (tgt := 82) hx hb dX2_mismatchOf_73 (by decide) (fun c_3 => ?_) (fun c_3 => ?_)
        · skip
          refine lv_iload hx hb dX2_mismatchOf_82 (lv_at hl 4 rfl) ?_
          exact J _ (by rw [absI, if_neg (Int32.not_lt.mpr c_3)])
        · skip
          refine lv_iload hx hb dX2_mismatchOf_76 (lv_at hl 4 rfl) ?_
          refine lv_ineg hx hb dX2_mismatchOf_78 ?_
          refine lv_goto (tgt := 84) hx hb dX2_mismatchOf_79 (by decide) ?_
          exact J _ (by rw [absI, if_pos (Int32.not_le.mp c_3)])
      refine lv_iadd hx hb dX2_mismatchOf_84 ?_
      refine lv_istore_n (lv' := [(2, .int (((mmS kin god amo oth man wen gor gon hol dec n t tol g9).1 + (absI (miS kin god amo oth man wen gor gon hol t (nI g9) (dec ((t - 4) * 6 + g9)) (mmS kin god amo oth man wen gor gon hol dec n t tol g9).2 n).1)))), (0, .ref (q 0)), (1, .int (nI (t))), (3, .int (nI (g9))), (4, .int ((miS kin god amo oth man wen gor gon hol t (nI g9) (dec ((t - 4) * 6 + g9)) (mmS kin god amo oth man wen gor gon hol dec n t tol g9).2 n).1)), (5, .int (nI (n)))]) hx hb dX2_mismatchOf_85 rfl hl (by decide) rfl (fun ls hl => ?_)
      refine lv_iinc (v := nI (g9 + 1)) (lv' := [(3, .int (nI (g9 + 1))), (2, .int (((mmS kin god amo oth man wen gor gon hol dec n t tol g9).1 + (absI (miS kin god amo oth man wen gor gon hol t (nI g9) (dec ((t - 4) * 6 + g9)) (mmS kin god amo oth man wen gor gon hol dec n t tol g9).2 n).1)))), (0, .ref (q 0)), (1, .int (nI (t))), (4, .int ((miS kin god amo oth man wen gor gon hol t (nI g9) (dec ((t - 4) * 6 + g9)) (mmS kin god amo oth man wen gor gon hol dec n t tol g9).2 n).1)), (5, .int (nI (n)))]) hx hb dX2_mismatchOf_86 hl (k := 3) rfl (iincN (g9)) (by decide) rfl (fun ls hl => ?_)
      refine lv_goto (tgt := 4) hx hb dX2_mismatchOf_89 (by decide) ?_
      rw [show (miS kin god amo oth man wen gor gon hol t (nI g9) (dec ((t - 4) * 6 + g9)) (mmS kin god amo oth man wen gor gon hol dec n t tol g9).2 n).2 = (mmS kin god amo oth man wen gor gon hol dec n t tol (g9 + 1)).2 from rfl] at hP
      exact ih_g9 (by omega) _ _ _ ⟨lv_sub hl [2, 3, 1, 0] rfl, hP, hS⟩
    · skip
      have h8 := hhol k
      refine lv_iload hx hb dX2_mismatchOf_37 (lv_at hl 4 rfl) ?_
      refine lv_aload_n hx hb dX2_mismatchOf_39 rfl (lv_at hl 0 rfl) ?_
      refine gf_2_1 hx hb hts hiX2 hown hK hP hf7 dX2_mismatchOf_40 ?_
      refine lv_iload hx hb dX2_mismatchOf_43 (lv_at hl 5 rfl) ?_
      refine mld_1 (k := k) (v := hol k) hx hb hK hP rfl (by omega) rfl dX2_mismatchOf_45 ?_
      refine lv_iload_n hx hb dX2_mismatchOf_46 rfl (lv_at hl 1 rfl) ?_
      refine neN (hol k) t (tgt := 60) hx hb rfl rfl (by omega) (by omega) dX2_mismatchOf_47 (by decide) (fun c_4 => ?_) (fun c_4 => ?_)
      · skip
        refine lv_iconst (v := 0) hx hb dX2_mismatchOf_60 (by decide) ?_
        refine lv_isub hx hb dX2_mismatchOf_61 ?_
        refine lv_istore (lv' := [(4, .int (((miS kin god amo oth man wen gor gon hol t (nI g9) (dec ((t - 4) * 6 + g9)) (mmS kin god amo oth man wen gor gon hol dec n t tol g9).2 k).1 - 0))), (0, .ref (q 0)), (1, .int (nI (t))), (2, .int ((mmS kin god amo oth man wen gor gon hol dec n t tol g9).1)), (3, .int (nI (g9))), (5, .int (nI (k)))]) hx hb dX2_mismatchOf_62 hl (by decide) rfl (fun ls hl => ?_)
        refine lv_iinc (v := nI (k + 1)) (lv' := [(5, .int (nI (k + 1))), (4, .int (((miS kin god amo oth man wen gor gon hol t (nI g9) (dec ((t - 4) * 6 + g9)) (mmS kin god amo oth man wen gor gon hol dec n t tol g9).2 k).1 - 0))), (0, .ref (q 0)), (1, .int (nI (t))), (2, .int ((mmS kin god amo oth man wen gor gon hol dec n t tol g9).1)), (3, .int (nI (g9)))]) hx hb dX2_mismatchOf_64 hl (k := 5) rfl (iincN (k)) (by decide) rfl (fun ls hl => ?_)
        refine lv_goto (tgt := 28) hx hb dX2_mismatchOf_67 (by decide) ?_
        have hl : lv_has ls 6 [(5, .int (nI (k + 1))), (4, .int ((miS kin god amo oth man wen gor gon hol t (nI g9) (dec ((t - 4) * 6 + g9)) (mmS kin god amo oth man wen gor gon hol dec n t tol g9).2 (k + 1)).1)), (0, .ref (q 0)), (1, .int (nI (t))), (2, .int ((mmS kin god amo oth man wen gor gon hol dec n t tol g9).1)), (3, .int (nI (g9)))] := by rw [← (show (((miS kin god amo oth man wen gor gon hol t (nI g9) (dec ((t - 4) * 6 + g9)) (mmS kin god amo oth man wen gor gon hol dec n t tol g9).2 k).1 - 0) : Int32) = (miS kin god amo oth man wen gor gon hol t (nI g9) (dec ((t - 4) * 6 + g9)) (mmS kin god amo oth man wen gor gon hol dec n t tol g9).2 (k + 1)).1 from by simp [miS, c_1, c_2, c_4, mThr, mHol, mGoo, mMan, mHel, mGon, mN, mWen, mGor, mKin, mMak, mGod, mAmo, mOth, mIts, mWas, mPrf, mCop, mDec, mFee, mOwe, mTol])]; exact hl
        rw [show (miS kin god amo oth man wen gor gon hol t (nI g9) (dec ((t - 4) * 6 + g9)) (mmS kin god amo oth man wen gor gon hol dec n t tol g9).2 k).2 = (miS kin god amo oth man wen gor gon hol t (nI g9) (dec ((t - 4) * 6 + g9)) (mmS kin god amo oth man wen gor gon hol dec n t tol g9).2 (k + 1)).2 from by simp [miS, c_1, c_2, c_4, mThr, mHol, mGoo, mMan, mHel, mGon, mN, mWen, mGor, mKin, mMak, mGod, mAmo, mOth, mIts, mWas, mPrf, mCop, mDec, mFee, mOwe, mTol]] at hP
        exact ih_k (by omega) _ _ _ ⟨lv_sub hl [2, 3, 4, 5, 1, 0] rfl, hP, hS⟩
      · skip
        refine lv_aload_n hx hb dX2_mismatchOf_50 rfl (lv_at hl 0 rfl) ?_
        refine lv_iload hx hb dX2_mismatchOf_51 (lv_at hl 5 rfl) ?_
        refine lv_iload_n hx hb dX2_mismatchOf_53 rfl (lv_at hl 3 rfl) ?_
        refine w_call (va_runV (As := [.int (nI (k)), .int (nI (g9))]) (rest := [.int ((miS kin god amo oth man wen gor gon hol t (nI g9) (dec ((t - 4) * 6 + g9)) (mmS kin god amo oth man wen gor gon hol dec n t tol g9).2 k).1)]) ⟨hx, hb, hml, hown, hts⟩ (c_X2_anew l D cI cZ q (thr, hol, goo, man, hel, gon, n, wen, gor, kin, mak, god, amo, oth, its, was, prf, cop, dec, fee, owe, (miS kin god amo oth man wen gor gon hol t (nI g9) (dec ((t - 4) * 6 + g9)) (mmS kin god amo oth man wen gor gon hol dec n t tol g9).2 k).2) hq k (nI (g9)) (by omega) ⟨hn, hhol, hman, hgor, hwen⟩ hoth) (cwV 2 hts gX2_mismatchOf_X2_anew rfl rfl rfl kd_X2_anew ⟨Nat.le_of_ble_eq_true rfl, Nat.le_of_ble_eq_true rfl⟩) (pV_M hP hK) rfl rfl hl.1 rfl (lv_room (Nat.le_of_ble_eq_true rfl)) dX2_mismatchOf_54 ⟨Nat.le_of_ble_eq_true rfl, Nat.le_of_ble_eq_true rfl⟩) hS (fun _ h => h) (fun v_5 H locs hv_5 _ _ hS => ?_)
        obtain ⟨rfl, hP⟩ := hv_5
        have hP : va_P D vwCl (wM cI cZ q (thr, hol, goo, man, hel, gon, n, wen, gor, kin, mak, god, amo, oth, its, was, prf, cop, dec, fee, owe, (tlS kin god amo oth man wen (miS kin god amo oth man wen gor gon hol t (nI g9) (dec ((t - 4) * 6 + g9)) (mmS kin god amo oth man wen gor gon hol dec n t tol g9).2 k).2 (nI (g9)) gor))) H := hP
        refine lv_goto (tgt := 61) hx hb dX2_mismatchOf_57 (by decide) ?_
        refine lv_isub hx hb dX2_mismatchOf_61 ?_
        refine lv_istore (lv' := [(4, .int (((miS kin god amo oth man wen gor gon hol t (nI g9) (dec ((t - 4) * 6 + g9)) (mmS kin god amo oth man wen gor gon hol dec n t tol g9).2 k).1 - (anC kin god amo oth man wen gor gon (miS kin god amo oth man wen gor gon hol t (nI g9) (dec ((t - 4) * 6 + g9)) (mmS kin god amo oth man wen gor gon hol dec n t tol g9).2 k).2 k (nI (g9)))))), (0, .ref (q 0)), (1, .int (nI (t))), (2, .int ((mmS kin god amo oth man wen gor gon hol dec n t tol g9).1)), (3, .int (nI (g9))), (5, .int (nI (k)))]) hx hb dX2_mismatchOf_62 hl (by decide) rfl (fun ls hl => ?_)
        refine lv_iinc (v := nI (k + 1)) (lv' := [(5, .int (nI (k + 1))), (4, .int (((miS kin god amo oth man wen gor gon hol t (nI g9) (dec ((t - 4) * 6 + g9)) (mmS kin god amo oth man wen gor gon hol dec n t tol g9).2 k).1 - (anC kin god amo oth man wen gor gon (miS kin god amo oth man wen gor gon hol t (nI g9) (dec ((t - 4) * 6 + g9)) (mmS kin god amo oth man wen gor gon hol dec n t tol g9).2 k).2 k (nI (g9)))))), (0, .ref (q 0)), (1, .int (nI (t))), (2, .int ((mmS kin god amo oth man wen gor gon hol dec n t tol g9).1)), (3, .int (nI (g9)))]) hx hb dX2_mismatchOf_64 hl (k := 5) rfl (iincN (k)) (by decide) rfl (fun ls hl => ?_)
        refine lv_goto (tgt := 28) hx hb dX2_mismatchOf_67 (by decide) ?_
        have hl : lv_has ls 6 [(5, .int (nI (k + 1))), (4, .int ((miS kin god amo oth man wen gor gon hol t (nI g9) (dec ((t - 4) * 6 + g9)) (mmS kin god amo oth man wen gor gon hol dec n t tol g9).2 (k + 1)).1)), (0, .ref (q 0)), (1, .int (nI (t))), (2, .int ((mmS kin god amo oth man wen gor gon hol dec n t tol g9).1)), (3, .int (nI (g9)))] := by rw [← (show (((miS kin god amo oth man wen gor gon hol t (nI g9) (dec ((t - 4) * 6 + g9)) (mmS kin god amo oth man wen gor gon hol dec n t tol g9).2 k).1 - (anC kin god amo oth man wen gor gon (miS kin god amo oth man wen gor gon hol t (nI g9) (dec ((t - 4) * 6 + g9)) (mmS kin god amo oth man wen gor gon hol dec n t tol g9).2 k).2 k (nI (g9)))) : Int32) = (miS kin god amo oth man wen gor gon hol t (nI g9) (dec ((t - 4) * 6 + g9)) (mmS kin god amo oth man wen gor gon hol dec n t tol g9).2 (k + 1)).1 from by simp [miS, c_1, c_2, c_4, mThr, mHol, mGoo, mMan, mHel, mGon, mN, mWen, mGor, mKin, mMak, mGod, mAmo, mOth, mIts, mWas, mPrf, mCop, mDec, mFee, mOwe, mTol])]; exact hl
        rw [show (tlS kin god amo oth man wen (miS kin god amo oth man wen gor gon hol t (nI g9) (dec ((t - 4) * 6 + g9)) (mmS kin god amo oth man wen gor gon hol dec n t tol g9).2 k).2 (nI (g9)) gor) = (miS kin god amo oth man wen gor gon hol t (nI g9) (dec ((t - 4) * 6 + g9)) (mmS kin god amo oth man wen gor gon hol dec n t tol g9).2 (k + 1)).2 from by simp [miS, c_1, c_2, c_4, mThr, mHol, mGoo, mMan, mHel, mGon, mN, mWen, mGor, mKin, mMak, mGod, mAmo, mOth, mIts, mWas, mPrf, mCop, mDec, mFee, mOwe, mTol]] at hP
        exact ih_k (by omega) _ _ _ ⟨lv_sub hl [2, 3, 4, 5, 1, 0] rfl, hP, hS⟩
