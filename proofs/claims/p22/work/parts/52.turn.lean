/-! a turn of the law -/
set_option maxHeartbeats 4000000 in
set_option maxRecDepth 100000 in
theorem law_turn {p : Program} {l : Launch} {e : Env} {s : State} {m : MethodId} {below : List Frame} {meth : Method} {c : Code} {b L : Nat} {xs : Nat → Int32} {D : va_G} {cI : ClassId} {q : Nat → Nat} (hf : l.stackTraces = false) (C0 : LC24 p s m c b L xs D cI q) (hL2 : L ≤ 260) {τ : SM} {al sp : Nat → Int32} {t TN : Nat} (ht : t < TN) (hTN : TN ≤ 218) (hJ : J τ al sp) (hB : OW (mOwe τ) (20 * (t : Int))) (hn0 : mN τ = 0 → t = 0) {H : Heap} {locs : List Loc} (hP : va_P D vwCl (wA cI q (gOf τ) al sp) H) (hS : va_S (fun a : Nat => s.heap.size ≤ a) s.heap H locs) {ls : Array Slot} (hl : lv_has ls 20 [(0, .ref b), (1, .ref (q 0)), (2, .ref (q 12)), (3, .ref (q 13)), (4, .int (nI (mN τ))), (5, .int ((smS (mOwe τ) 7))), (6, .int 1), (7, .int (nI TN)), (8, .int (nI t))]) {Q : State → Prop}
    (kk : ∀ (τ' : SM) (al' sp' : Nat → Int32) (H : Heap) (locs : List Loc) (ls : Array Slot), J τ' al' sp' → OW (mOwe τ') (20 * ((t + 1 : Nat) : Int)) → 0 < mN τ' → va_P D vwCl (wA cI q (gOf τ') al' sp') H → va_S (fun a : Nat => s.heap.size ≤ a) s.heap H locs → lv_has ls 20 [(0, .ref b), (1, .ref (q 0)), (2, .ref (q 12)), (3, .ref (q 13)), (4, .int (nI (mN τ'))), (5, .int ((smS (mOwe τ') 7))), (6, .int 1), (7, .int (nI TN)), (8, .int (nI (t + 1)))] → W p l e R240 s m #[Value.ref b] below meth c H locs (14 + t + 1) (3953 + 6 * t + 6) Q (F0 m 61 ls [])) : W p l e R240 s m #[Value.ref b] below meth c H locs (14 + t) (3953 + 6 * t) Q (F0 m 61 ls []) := by
  obtain ⟨hx, hb, hml, hown, hts, hXs, hbl, hq14, hZs, hK, hE, hN, hX0⟩ := id C0
  have hbA : ¬ (fun a : Nat => s.heap.size ≤ a) b := Nat.not_le.mpr hbl
  have hA14 : ∀ a, adQ 14 q a → (fun a : Nat => s.heap.size ≤ a) a := fun a ⟨k, h1, h2⟩ => by rw [h2]; exact hZs k (by omega)
  have hA12 : ∀ a, adQ 12 q a → (fun a : Nat => s.heap.size ≤ a) a := fun a ⟨k, h1, h2⟩ => by rw [h2]; exact hZs k (by omega)
  have hq : ijQ 12 q := ij12 hq14
  have hRc : R240.cells = 240 := rfl
  have hRs : R240.slots = 5300 := rfl
  have hn14 := hJ.1.2.2.2.1
  have hXH : va_X b L xs s H := hXs.kept (hS.2.1 b hbl hbA)
  refine lv_iload hx hb dL_law_61 (lv_at hl 8 rfl) ?_
  refine lv_iload hx hb dL_law_63 (lv_at hl 7 rfl) ?_
  refine geN t TN (tgt := 1188) hx hb rfl rfl (by omega) (by omega) dL_law_65 (by decide) (fun c_1 => absurd c_1 (by omega)) (fun c_1 => ?_)
  refine lv_iload hx hb dL_law_68 (lv_at hl 6 rfl) ?_
  refine lv_if_eq (tgt := 1188) hx hb dL_law_70 (by decide) (fun c_2 => absurd c_2 (by decide)) (fun c_2 => ?_)
  refine lv_aload_n hx hb dL_law_73 rfl (lv_at hl 0 rfl) ?_
  refine lv_iload hx hb dL_law_74 (lv_at hl 8 rfl) ?_
  refine r_call (va_runS (As := [.ref b, .int (nI t)]) (rest := []) ⟨hx, hb, hml, hown, hts⟩ (c_L_draw l b L xs t (by omega) hL2) (va_cwS 2 hts gL_law_L_draw rfl rfl rfl kn_L_draw ⟨Nat.le_of_ble_eq_true rfl, Nat.le_of_ble_eq_true rfl⟩) (pS_X hXH) rfl rfl hl.1 rfl (lv_room (Nat.le_of_ble_eq_true rfl)) dL_law_76 ⟨by omega, by omega⟩) (fun x _ => ?_)
  obtain ⟨Y, hY, hYe⟩ := pk_andE (x >>> (5 &&& 31)) (m := 134217727) 27 (by decide)
  obtain ⟨d9, hd9, hde⟩ := pk_andE x (m := 31) 5 (by decide)
  refine lv_istore (lv' := [(9, .int x), (0, .ref b), (1, .ref (q 0)), (2, .ref (q 12)), (3, .ref (q 13)), (4, .int (nI (mN τ))), (5, .int ((smS (mOwe τ) 7))), (6, .int 1), (7, .int (nI TN)), (8, .int (nI t))]) hx hb dL_law_79 hl (by decide) rfl (fun ls hl => ?_)
  refine lv_iload hx hb dL_law_81 (lv_at hl 0 rfl) ?_
  refine lv_iconst (v := 5) hx hb dL_law_83 (by decide) ?_
  refine lv_ishr hx hb dL_law_84 ?_
  refine lv_ldc (v := 134217727) hx hb hown (hts (.constant RL 74 134217727) (by decide +kernel)) dL_law_85 ?_
  refine lv_iand hx hb dL_law_87 ?_
  refine lv_topE (y := nI Y) (hYe) ?_
  refine lv_istore (lv' := [(10, .int (nI Y)), (9, .int x), (0, .ref b), (1, .ref (q 0)), (2, .ref (q 12)), (3, .ref (q 13)), (4, .int (nI (mN τ))), (5, .int ((smS (mOwe τ) 7))), (6, .int 1), (7, .int (nI TN)), (8, .int (nI t))]) hx hb dL_law_88 hl (by decide) rfl (fun ls hl => ?_)
  have main : ∀ dd : Nat, dd < 32 → (mN τ = 0 → dd < 2) → ∀ ls : Array Slot, lv_has ls 20 [(0, .ref b), (1, .ref (q 0)), (2, .ref (q 12)), (3, .ref (q 13)), (4, .int (nI (mN τ))), (5, .int ((smS (mOwe τ) 7))), (6, .int 1), (7, .int (nI TN)), (8, .int (nI t)), (10, .int (nI Y))] → W p l e R240 s m #[Value.ref b] below meth c H locs (14 + t) (3953 + 6 * t) Q (F0 m 105 ls [.int (nI dd)]) := by
    intro dd hdd hd0 ls hl
    rcases Nat.eq_zero_or_pos (mN τ) with hn | hn
    · skip
      obtain ⟨G, hGp, hGe⟩ : ∃ G, G < 6 ∧ Y / 2 ^ 10 % 6 = G := ⟨_, Nat.mod_lt _ (by decide), rfl⟩
      obtain ⟨MO, hMp, hMq, hMe⟩ : ∃ MO, 1 ≤ MO ∧ MO ≤ 30 ∧ Y / 2 ^ 13 % 30 + 1 = MO := ⟨_, Nat.succ_le_succ (Nat.zero_le _), Nat.mod_lt _ (by decide), rfl⟩
      refine lv_istore (lv' := [(11, .int (nI dd)), (0, .ref b), (1, .ref (q 0)), (2, .ref (q 12)), (3, .ref (q 13)), (4, .int (nI (mN τ))), (5, .int ((smS (mOwe τ) 7))), (6, .int 1), (7, .int (nI TN)), (8, .int (nI t)), (10, .int (nI Y))]) hx hb dL_law_105 hl (by decide) rfl (fun ls hl => ?_)
      refine lv_iload hx hb dL_law_107 (lv_at hl 5 rfl) ?_
      refine neZN (mN τ) (tgt := 116) hx hb rfl (by omega) dL_law_109 (by decide) (fun c_3 => absurd c_3 (by omega)) (fun c_3 => ?_)
      refine lv_iconst (v := 0) hx hb dL_law_112 (by decide) ?_
      refine lv_topE (y := nI 0) (rfl) ?_
      refine lv_goto (tgt := 123) hx hb dL_law_113 (by decide) ?_
      refine lv_istore (lv' := [(12, .int (nI 0)), (11, .int (nI dd)), (0, .ref b), (1, .ref (q 0)), (2, .ref (q 12)), (3, .ref (q 13)), (4, .int (nI (mN τ))), (5, .int ((smS (mOwe τ) 7))), (6, .int 1), (7, .int (nI TN)), (8, .int (nI t)), (10, .int (nI Y))]) hx hb dL_law_123 hl (by decide) rfl (fun ls hl => ?_)
      refine lv_iload hx hb dL_law_125 (lv_at hl 6 rfl) ?_
      refine neZN (mN τ) (tgt := 134) hx hb rfl (by omega) dL_law_127 (by decide) (fun c_4 => absurd c_4 (by omega)) (fun c_4 => ?_)
      refine lv_iconst (v := 0) hx hb dL_law_130 (by decide) ?_
      refine lv_topE (y := nI 0) (rfl) ?_
      refine lv_goto (tgt := 142) hx hb dL_law_131 (by decide) ?_
      refine lv_istore (lv' := [(13, .int (nI 0)), (12, .int (nI 0)), (11, .int (nI dd)), (0, .ref b), (1, .ref (q 0)), (2, .ref (q 12)), (3, .ref (q 13)), (4, .int (nI (mN τ))), (5, .int ((smS (mOwe τ) 7))), (6, .int 1), (7, .int (nI TN)), (8, .int (nI t)), (10, .int (nI Y))]) hx hb dL_law_142 hl (by decide) rfl (fun ls hl => ?_)
      refine lv_iload hx hb dL_law_144 (lv_at hl 12 rfl) ?_
      refine lv_bipush (v := 10) hx hb dL_law_146 (by decide) ?_
      refine lv_ishr hx hb dL_law_148 ?_
      refine lv_topE (y := nI (Y / 2 ^ 10)) ((show nI Y >>> (10 &&& 31) = nI (Y / 2 ^ 10) from pk_shrN (by omega) _ 10 (by decide))) ?_
      refine lv_bipush (v := 6) hx hb dL_law_149 (by decide) ?_
      refine lv_irem hx hb dL_law_151 (by decide) ?_
      refine lv_topE (y := nI G) ((show nI (Y / 2 ^ 10) - nI (Y / 2 ^ 10) / nI 6 * nI 6 = nI (Y / 2 ^ 10 % 6) from pk_rem (by omega) (by decide) (by decide)).trans (by rw [hGe])) ?_
      refine lv_istore (lv' := [(14, .int (nI G)), (13, .int (nI 0)), (12, .int (nI 0)), (11, .int (nI dd)), (0, .ref b), (1, .ref (q 0)), (2, .ref (q 12)), (3, .ref (q 13)), (4, .int (nI (mN τ))), (5, .int ((smS (mOwe τ) 7))), (6, .int 1), (7, .int (nI TN)), (8, .int (nI t)), (10, .int (nI Y))]) hx hb dL_law_152 hl (by decide) rfl (fun ls hl => ?_)
      refine lv_iconst (v := 1) hx hb dL_law_154 (by decide) ?_
      refine lv_iload hx hb dL_law_155 (lv_at hl 13 rfl) ?_
      refine lv_bipush (v := 13) hx hb dL_law_157 (by decide) ?_
      refine lv_ishr hx hb dL_law_159 ?_
      refine lv_topE (y := nI (Y / 2 ^ 13)) ((show nI Y >>> (13 &&& 31) = nI (Y / 2 ^ 13) from pk_shrN (by omega) _ 13 (by decide))) ?_
      refine lv_bipush (v := 30) hx hb dL_law_160 (by decide) ?_
      refine lv_irem hx hb dL_law_162 (by decide) ?_
      refine lv_topE (y := nI (Y / 2 ^ 13 % 30)) ((show nI (Y / 2 ^ 13) - nI (Y / 2 ^ 13) / nI 30 * nI 30 = nI (Y / 2 ^ 13 % 30) from pk_rem (by omega) (by decide) (by decide))) ?_
      refine lv_iadd hx hb dL_law_163 ?_
      refine lv_topE (y := nI MO) (((Int32.add_comm _ _).trans (nI_1 _)).trans (by rw [hMe])) ?_
      refine lv_istore (lv' := [(15, .int (nI MO)), (14, .int (nI G)), (13, .int (nI 0)), (12, .int (nI 0)), (11, .int (nI dd)), (0, .ref b), (1, .ref (q 0)), (2, .ref (q 12)), (3, .ref (q 13)), (4, .int (nI (mN τ))), (5, .int ((smS (mOwe τ) 7))), (6, .int 1), (7, .int (nI TN)), (8, .int (nI t)), (10, .int (nI Y))]) hx hb dL_law_164 hl (by decide) rfl (fun ls hl => ?_)
      refine lv_iload hx hb dL_law_166 (lv_at hl 4 rfl) ?_
      refine lv_iconst (v := 2) hx hb dL_law_168 (by decide) ?_
      have hd2 := hd0 hn
      refine geN dd 2 (tgt := 230) hx hb rfl rfl (by omega) (by omega) dL_law_169 (by decide) (fun c_5 => absurd c_5 (by omega)) (fun c_5 => ?_)
      refine br_make (P := 0) (O := 0) (G := G) (MO := MO) (Y := Y) (dd := dd) (t := t) (TN := TN) (ow0 := smS (mOwe τ) 7) hf C0 hJ hB (by omega) hY (by omega) (by omega) hP hS (lv_sub hl [5, 6, 7, 8, 9, 10, 11, 12, 13, 14, 4, 3, 2, 1, 0] rfl) (fun τ' al' sp' H locs ls hJ' hB' hge' hnn hpos' hP hS hl => ?_)
      refine law_tail (P := 0) (O := 0) (t := t) (TN := TN) hf C0 hJ' hpos' hpos' (by omega) (sum_ge hB hB' (by omega) hge') (by omega) (by omega) hP hS hl (fun ls hl => ?_)
      exact kk τ' al' sp' H locs ls hJ' (ow_le hB' (by omega)) hpos' hP hS hl
    · skip
      obtain ⟨P, hPp, hPe⟩ : ∃ P, P < mN τ ∧ Y / 2 ^ 2 % mN τ = P := ⟨_, Nat.mod_lt _ hn, rfl⟩
      obtain ⟨O, hOp, hOe⟩ : ∃ O, O < mN τ ∧ Y / 2 ^ 6 % mN τ = O := ⟨_, Nat.mod_lt _ hn, rfl⟩
      obtain ⟨G, hGp, hGe⟩ : ∃ G, G < 6 ∧ Y / 2 ^ 10 % 6 = G := ⟨_, Nat.mod_lt _ (by decide), rfl⟩
      obtain ⟨MO, hMp, hMq, hMe⟩ : ∃ MO, 1 ≤ MO ∧ MO ≤ 30 ∧ Y / 2 ^ 13 % 30 + 1 = MO := ⟨_, Nat.succ_le_succ (Nat.zero_le _), Nat.mod_lt _ (by decide), rfl⟩
      refine lv_istore (lv' := [(11, .int (nI dd)), (0, .ref b), (1, .ref (q 0)), (2, .ref (q 12)), (3, .ref (q 13)), (4, .int (nI (mN τ))), (5, .int ((smS (mOwe τ) 7))), (6, .int 1), (7, .int (nI TN)), (8, .int (nI t)), (10, .int (nI Y))]) hx hb dL_law_105 hl (by decide) rfl (fun ls hl => ?_)
      refine lv_iload hx hb dL_law_107 (lv_at hl 5 rfl) ?_
      refine neZN (mN τ) (tgt := 116) hx hb rfl (by omega) dL_law_109 (by decide) (fun c_6 => ?_) (fun c_6 => absurd c_6 (by omega))
      refine lv_iload hx hb dL_law_116 (lv_at hl 10 rfl) ?_
      refine lv_iconst (v := 2) hx hb dL_law_118 (by decide) ?_
      refine lv_ishr hx hb dL_law_119 ?_
      refine lv_topE (y := nI (Y / 2 ^ 2)) ((show nI Y >>> (2 &&& 31) = nI (Y / 2 ^ 2) from pk_shrN (by omega) _ 2 (by decide))) ?_
      refine lv_iload hx hb dL_law_120 (lv_at hl 5 rfl) ?_
      refine lv_irem hx hb dL_law_122 (fun z => by have := (nI_eq (b := 0) (by omega) (by omega)).mp z; omega) ?_
      refine lv_topE (y := nI P) ((pk_rem (by omega) hn (by omega)).trans (by rw [hPe])) ?_
      refine lv_istore (lv' := [(12, .int (nI P)), (11, .int (nI dd)), (0, .ref b), (1, .ref (q 0)), (2, .ref (q 12)), (3, .ref (q 13)), (4, .int (nI (mN τ))), (5, .int ((smS (mOwe τ) 7))), (6, .int 1), (7, .int (nI TN)), (8, .int (nI t)), (10, .int (nI Y))]) hx hb dL_law_123 hl (by decide) rfl (fun ls hl => ?_)
      refine lv_iload hx hb dL_law_125 (lv_at hl 6 rfl) ?_
      refine neZN (mN τ) (tgt := 134) hx hb rfl (by omega) dL_law_127 (by decide) (fun c_7 => ?_) (fun c_7 => absurd c_7 (by omega))
      refine lv_iload hx hb dL_law_134 (lv_at hl 11 rfl) ?_
      refine lv_bipush (v := 6) hx hb dL_law_136 (by decide) ?_
      refine lv_ishr hx hb dL_law_138 ?_
      refine lv_topE (y := nI (Y / 2 ^ 6)) ((show nI Y >>> (6 &&& 31) = nI (Y / 2 ^ 6) from pk_shrN (by omega) _ 6 (by decide))) ?_
      refine lv_iload hx hb dL_law_139 (lv_at hl 6 rfl) ?_
      refine lv_irem hx hb dL_law_141 (fun z => by have := (nI_eq (b := 0) (by omega) (by omega)).mp z; omega) ?_
      refine lv_topE (y := nI O) ((pk_rem (by omega) hn (by omega)).trans (by rw [hOe])) ?_
      refine lv_istore (lv' := [(13, .int (nI O)), (12, .int (nI P)), (11, .int (nI dd)), (0, .ref b), (1, .ref (q 0)), (2, .ref (q 12)), (3, .ref (q 13)), (4, .int (nI (mN τ))), (5, .int ((smS (mOwe τ) 7))), (6, .int 1), (7, .int (nI TN)), (8, .int (nI t)), (10, .int (nI Y))]) hx hb dL_law_142 hl (by decide) rfl (fun ls hl => ?_)
      refine lv_iload hx hb dL_law_144 (lv_at hl 12 rfl) ?_
      refine lv_bipush (v := 10) hx hb dL_law_146 (by decide) ?_
      refine lv_ishr hx hb dL_law_148 ?_
      refine lv_topE (y := nI (Y / 2 ^ 10)) ((show nI Y >>> (10 &&& 31) = nI (Y / 2 ^ 10) from pk_shrN (by omega) _ 10 (by decide))) ?_
      refine lv_bipush (v := 6) hx hb dL_law_149 (by decide) ?_
      refine lv_irem hx hb dL_law_151 (by decide) ?_
      refine lv_topE (y := nI G) ((show nI (Y / 2 ^ 10) - nI (Y / 2 ^ 10) / nI 6 * nI 6 = nI (Y / 2 ^ 10 % 6) from pk_rem (by omega) (by decide) (by decide)).trans (by rw [hGe])) ?_
      refine lv_istore (lv' := [(14, .int (nI G)), (13, .int (nI O)), (12, .int (nI P)), (11, .int (nI dd)), (0, .ref b), (1, .ref (q 0)), (2, .ref (q 12)), (3, .ref (q 13)), (4, .int (nI (mN τ))), (5, .int ((smS (mOwe τ) 7))), (6, .int 1), (7, .int (nI TN)), (8, .int (nI t)), (10, .int (nI Y))]) hx hb dL_law_152 hl (by decide) rfl (fun ls hl => ?_)
      refine lv_iconst (v := 1) hx hb dL_law_154 (by decide) ?_
      refine lv_iload hx hb dL_law_155 (lv_at hl 13 rfl) ?_
      refine lv_bipush (v := 13) hx hb dL_law_157 (by decide) ?_
      refine lv_ishr hx hb dL_law_159 ?_
      refine lv_topE (y := nI (Y / 2 ^ 13)) ((show nI Y >>> (13 &&& 31) = nI (Y / 2 ^ 13) from pk_shrN (by omega) _ 13 (by decide))) ?_
      refine lv_bipush (v := 30) hx hb dL_law_160 (by decide) ?_
      refine lv_irem hx hb dL_law_162 (by decide) ?_
      refine lv_topE (y := nI (Y / 2 ^ 13 % 30)) ((show nI (Y / 2 ^ 13) - nI (Y / 2 ^ 13) / nI 30 * nI 30 = nI (Y / 2 ^ 13 % 30) from pk_rem (by omega) (by decide) (by decide))) ?_
      refine lv_iadd hx hb dL_law_163 ?_
      refine lv_topE (y := nI MO) (((Int32.add_comm _ _).trans (nI_1 _)).trans (by rw [hMe])) ?_
      refine lv_istore (lv' := [(15, .int (nI MO)), (14, .int (nI G)), (13, .int (nI O)), (12, .int (nI P)), (11, .int (nI dd)), (0, .ref b), (1, .ref (q 0)), (2, .ref (q 12)), (3, .ref (q 13)), (4, .int (nI (mN τ))), (5, .int ((smS (mOwe τ) 7))), (6, .int 1), (7, .int (nI TN)), (8, .int (nI t)), (10, .int (nI Y))]) hx hb dL_law_164 hl (by decide) rfl (fun ls hl => ?_)
      refine lv_iload hx hb dL_law_166 (lv_at hl 4 rfl) ?_
      refine lv_iconst (v := 2) hx hb dL_law_168 (by decide) ?_
      refine geN dd 2 (tgt := 230) hx hb rfl rfl (by omega) (by omega) dL_law_169 (by decide) (fun c_d0 => ?_) (fun c_d0 => ?_)
      · skip
        refine lv_iload hx hb dL_law_230 (lv_at hl 4 rfl) ?_
        refine lv_bipush (v := 12) hx hb dL_law_232 (by decide) ?_
        refine geN dd 12 (tgt := 378) hx hb rfl rfl (by omega) (by omega) dL_law_234 (by decide) (fun c_d1 => ?_) (fun c_d1 => ?_)
        · skip
          refine lv_iload hx hb dL_law_378 (lv_at hl 4 rfl) ?_
          refine lv_bipush (v := 16) hx hb dL_law_380 (by decide) ?_
          refine geN dd 16 (tgt := 516) hx hb rfl rfl (by omega) (by omega) dL_law_382 (by decide) (fun c_d2 => ?_) (fun c_d2 => ?_)
          · skip
            refine lv_iload hx hb dL_law_516 (lv_at hl 4 rfl) ?_
            refine lv_bipush (v := 20) hx hb dL_law_518 (by decide) ?_
            refine geN dd 20 (tgt := 635) hx hb rfl rfl (by omega) (by omega) dL_law_520 (by decide) (fun c_d3 => ?_) (fun c_d3 => ?_)
            · skip
              refine lv_iload hx hb dL_law_635 (lv_at hl 4 rfl) ?_
              refine lv_bipush (v := 23) hx hb dL_law_637 (by decide) ?_
              refine geN dd 23 (tgt := 713) hx hb rfl rfl (by omega) (by omega) dL_law_639 (by decide) (fun c_d4 => ?_) (fun c_d4 => ?_)
              · skip
                refine lv_iload hx hb dL_law_713 (lv_at hl 4 rfl) ?_
                refine lv_bipush (v := 25) hx hb dL_law_715 (by decide) ?_
                refine geN dd 25 (tgt := 827) hx hb rfl rfl (by omega) (by omega) dL_law_717 (by decide) (fun c_d5 => ?_) (fun c_d5 => ?_)
                · skip
                  refine lv_iload hx hb dL_law_827 (lv_at hl 4 rfl) ?_
                  refine lv_bipush (v := 27) hx hb dL_law_829 (by decide) ?_
                  refine geN dd 27 (tgt := 943) hx hb rfl rfl (by omega) (by omega) dL_law_831 (by decide) (fun c_d9 => ?_) (fun c_d9 => ?_)
                  · skip
                    refine br_rep (P := P) (O := O) (G := G) (MO := MO) (Y := Y) (dd := dd) (t := t) (TN := TN) (ow0 := smS (mOwe τ) 7) hf C0 hJ hB (by omega) hPp hOp hGp hMp hMq hY hdd (by omega) (by omega) hP hS (lv_sub hl [5, 6, 7, 8, 9, 10, 11, 12, 13, 14, 4, 3, 2, 1, 0] rfl) (fun τ' al' sp' H locs ls hJ' hB' hge' hnn hpos' hP hS hl => ?_)
                    refine law_tail (P := P) (O := O) (t := t) (TN := TN) hf C0 hJ' (Nat.lt_of_lt_of_le hPp hnn) (Nat.lt_of_lt_of_le hOp hnn) (by omega) (sum_ge hB hB' (by omega) hge') (by omega) (by omega) hP hS hl (fun ls hl => ?_)
                    exact kk τ' al' sp' H locs ls hJ' (ow_le hB' (by omega)) hpos' hP hS hl
                  refine lv_iload hx hb dL_law_834 (lv_at hl 14 rfl) ?_
                  refine lv_iconst (v := 3) hx hb dL_law_836 (by decide) ?_
                  refine lv_iand hx hb dL_law_837 ?_
                  refine lv_if_ne (tgt := 943) hx hb dL_law_838 (by decide) (fun _ => ?_) (fun _ => ?_)
                  · skip
                    refine br_rep (P := P) (O := O) (G := G) (MO := MO) (Y := Y) (dd := dd) (t := t) (TN := TN) (ow0 := smS (mOwe τ) 7) hf C0 hJ hB (by omega) hPp hOp hGp hMp hMq hY hdd (by omega) (by omega) hP hS (lv_sub hl [5, 6, 7, 8, 9, 10, 11, 12, 13, 14, 4, 3, 2, 1, 0] rfl) (fun τ' al' sp' H locs ls hJ' hB' hge' hnn hpos' hP hS hl => ?_)
                    refine law_tail (P := P) (O := O) (t := t) (TN := TN) hf C0 hJ' (Nat.lt_of_lt_of_le hPp hnn) (Nat.lt_of_lt_of_le hOp hnn) (by omega) (sum_ge hB hB' (by omega) hge') (by omega) (by omega) hP hS hl (fun ls hl => ?_)
                    exact kk τ' al' sp' H locs ls hJ' (ow_le hB' (by omega)) hpos' hP hS hl
                  refine br_spoil (P := P) (O := O) (G := G) (MO := MO) (Y := Y) (dd := dd) (t := t) (TN := TN) (ow0 := smS (mOwe τ) 7) hf C0 hJ hB (by omega) hPp hOp hGp hMp hMq hY hdd (by omega) (by omega) hP hS (lv_sub hl [5, 6, 7, 8, 9, 10, 11, 12, 13, 14, 4, 3, 2, 1, 0] rfl) (fun τ' al' sp' H locs ls hJ' hB' hge' hnn hpos' hP hS hl => ?_)
                  refine law_tail (P := P) (O := O) (t := t) (TN := TN) hf C0 hJ' (Nat.lt_of_lt_of_le hPp hnn) (Nat.lt_of_lt_of_le hOp hnn) (by omega) (sum_ge hB hB' (by omega) hge') (by omega) (by omega) hP hS hl (fun ls hl => ?_)
                  exact kk τ' al' sp' H locs ls hJ' (ow_le hB' (by omega)) hpos' hP hS hl
                refine br_hold (P := P) (O := O) (G := G) (MO := MO) (Y := Y) (dd := dd) (t := t) (TN := TN) (ow0 := smS (mOwe τ) 7) hf C0 hJ hB (by omega) hPp hOp hGp hMp hMq hY hdd (by omega) (by omega) hP hS (lv_sub hl [5, 6, 7, 8, 9, 10, 11, 12, 13, 14, 4, 3, 2, 1, 0] rfl) (fun τ' al' sp' H locs ls hJ' hB' hge' hnn hpos' hP hS hl => ?_)
                refine law_tail (P := P) (O := O) (t := t) (TN := TN) hf C0 hJ' (Nat.lt_of_lt_of_le hPp hnn) (Nat.lt_of_lt_of_le hOp hnn) (by omega) (sum_ge hB hB' (by omega) hge') (by omega) (by omega) hP hS hl (fun ls hl => ?_)
                exact kk τ' al' sp' H locs ls hJ' (ow_le hB' (by omega)) hpos' hP hS hl
              refine br_move (P := P) (O := O) (G := G) (MO := MO) (Y := Y) (dd := dd) (t := t) (TN := TN) (ow0 := smS (mOwe τ) 7) hf C0 hJ hB (by omega) hPp hOp hGp hMp hMq hY hdd (by omega) (by omega) hP hS (lv_sub hl [5, 6, 7, 8, 9, 10, 11, 12, 13, 14, 4, 3, 2, 1, 0] rfl) (fun τ' al' sp' H locs ls hJ' hB' hge' hnn hpos' hP hS hl => ?_)
              refine law_tail (P := P) (O := O) (t := t) (TN := TN) hf C0 hJ' (Nat.lt_of_lt_of_le hPp hnn) (Nat.lt_of_lt_of_le hOp hnn) (by omega) (sum_ge hB hB' (by omega) hge') (by omega) (by omega) hP hS hl (fun ls hl => ?_)
              exact kk τ' al' sp' H locs ls hJ' (ow_le hB' (by omega)) hpos' hP hS hl
            refine br_join (P := P) (O := O) (G := G) (MO := MO) (Y := Y) (dd := dd) (t := t) (TN := TN) (ow0 := smS (mOwe τ) 7) hf C0 hJ hB (by omega) hPp hOp hGp hMp hMq hY hdd (by omega) (by omega) hP hS (lv_sub hl [5, 6, 7, 8, 9, 10, 11, 12, 13, 14, 4, 3, 2, 1, 0] rfl) (fun τ' al' sp' H locs ls hJ' hB' hge' hnn hpos' hP hS hl => ?_)
            refine law_tail (P := P) (O := O) (t := t) (TN := TN) hf C0 hJ' (Nat.lt_of_lt_of_le hPp hnn) (Nat.lt_of_lt_of_le hOp hnn) (by omega) (sum_ge hB hB' (by omega) hge') (by omega) (by omega) hP hS hl (fun ls hl => ?_)
            exact kk τ' al' sp' H locs ls hJ' (ow_le hB' (by omega)) hpos' hP hS hl
          refine br_part (P := P) (O := O) (G := G) (MO := MO) (Y := Y) (dd := dd) (t := t) (TN := TN) (ow0 := smS (mOwe τ) 7) hf C0 hJ hB (by omega) hPp hOp hGp hMp hMq hY hdd (by omega) (by omega) hP hS (lv_sub hl [5, 6, 7, 8, 9, 10, 11, 12, 13, 14, 4, 3, 2, 1, 0] rfl) (fun τ' al' sp' H locs ls hJ' hB' hge' hnn hpos' hP hS hl => ?_)
          refine law_tail (P := P) (O := O) (t := t) (TN := TN) hf C0 hJ' (Nat.lt_of_lt_of_le hPp hnn) (Nat.lt_of_lt_of_le hOp hnn) (by omega) (sum_ge hB hB' (by omega) hge') (by omega) (by omega) hP hS hl (fun ls hl => ?_)
          exact kk τ' al' sp' H locs ls hJ' (ow_le hB' (by omega)) hpos' hP hS hl
        refine br_load (P := P) (O := O) (G := G) (MO := MO) (Y := Y) (dd := dd) (t := t) (TN := TN) (ow0 := smS (mOwe τ) 7) hf C0 hJ hB (by omega) hPp hOp hGp hMp hMq hY hdd (by omega) (by omega) hP hS (lv_sub hl [5, 6, 7, 8, 9, 10, 11, 12, 13, 14, 4, 3, 2, 1, 0] rfl) (fun τ' al' sp' H locs ls hJ' hB' hge' hnn hpos' hP hS hl => ?_)
        refine law_tail (P := P) (O := O) (t := t) (TN := TN) hf C0 hJ' (Nat.lt_of_lt_of_le hPp hnn) (Nat.lt_of_lt_of_le hOp hnn) (by omega) (sum_ge hB hB' (by omega) hge') (by omega) (by omega) hP hS hl (fun ls hl => ?_)
        exact kk τ' al' sp' H locs ls hJ' (ow_le hB' (by omega)) hpos' hP hS hl
      refine br_make (P := P) (O := O) (G := G) (MO := MO) (Y := Y) (dd := dd) (t := t) (TN := TN) (ow0 := smS (mOwe τ) 7) hf C0 hJ hB (by omega) hY (by omega) (by omega) hP hS (lv_sub hl [5, 6, 7, 8, 9, 10, 11, 12, 13, 14, 4, 3, 2, 1, 0] rfl) (fun τ' al' sp' H locs ls hJ' hB' hge' hnn hpos' hP hS hl => ?_)
      refine law_tail (P := P) (O := O) (t := t) (TN := TN) hf C0 hJ' (Nat.lt_of_lt_of_le hPp hnn) (Nat.lt_of_lt_of_le hOp hnn) (by omega) (sum_ge hB hB' (by omega) hge') (by omega) (by omega) hP hS hl (fun ls hl => ?_)
      exact kk τ' al' sp' H locs ls hJ' (ow_le hB' (by omega)) hpos' hP hS hl
  refine lv_iload hx hb dL_law_90 (lv_at hl 10 rfl) ?_
  refine lv_iconst (v := 3) hx hb dL_law_92 (by decide) ?_
  refine geN t 3 (tgt := 100) hx hb rfl rfl (by omega) (by omega) dL_law_93 (by decide) (fun c_t => ?_) (fun c_t => ?_)
  · skip
    refine lv_iload hx hb dL_law_100 (lv_at hl 1 rfl) ?_
    refine lv_bipush (v := 31) hx hb dL_law_102 (by decide) ?_
    refine lv_iand hx hb dL_law_104 ?_
    refine lv_topE (y := nI d9) (hde) ?_
    exact main d9 (by omega) (fun z => by have := hn0 z; omega) _ (lv_sub hl [2, 3, 4, 5, 6, 7, 8, 9, 10, 0] rfl)
  refine lv_iconst (v := 0) hx hb dL_law_96 (by decide) ?_
  refine lv_goto (tgt := 105) hx hb dL_law_97 (by decide) ?_
  exact main 0 (by decide) (fun _ => by decide) _ (lv_sub hl [2, 3, 4, 5, 6, 7, 8, 9, 10, 0] rfl)
