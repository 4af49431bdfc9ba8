/-! a branch of the law each -/
set_option maxHeartbeats 4000000 in
set_option maxRecDepth 100000 in
theorem br_make {p : Program} {l : Launch} {e : Env} {s : State} {m : MethodId} {below : List Frame} {meth : Method} {c : Code} {b L : Nat} {xs : Nat → Int32} {D : va_G} {cI : ClassId} {q : Nat → Nat} (hf : l.stackTraces = false) (C0 : LC24 p s m c b L xs D cI q) {τ : SM} {al sp : Nat → Int32} {B : Int} (hJ : J τ al sp) (hB : OW (mOwe τ) B) (hb : B ≤ 80000) {P O G MO Y dd t TN : Nat} {ow0 : Int32} (hY : Y < 2 ^ 27) {cells slots : Nat} (hc : cells + 2 ≤ 240) (hs : slots + 12 ≤ 5300) {H : Heap} {locs : List Loc} (hP : va_P D vwCl (wA cI q (gOf τ) al sp) H) (hS : va_S (fun a : Nat => s.heap.size ≤ a) s.heap H locs) {ls : Array Slot} (hl : lv_has ls 20 [(0, .ref b), (1, .ref (q 0)), (2, .ref (q 12)), (3, .ref (q 13)), (4, .int (nI (mN τ))), (5, .int ow0), (6, .int 1), (7, .int (nI TN)), (8, .int (nI t)), (10, .int (nI Y)), (11, .int (nI dd)), (12, .int (nI P)), (13, .int (nI O)), (14, .int (nI G)), (15, .int (nI MO))]) {Q : State → Prop}
    (kk : ∀ (τ' : SM) (al' sp' : Nat → Int32) (H : Heap) (locs : List Loc) (ls : Array Slot), J τ' al' sp' → OW (mOwe τ') (B + 20) → GE (mOwe τ) (mOwe τ') → mN τ ≤ mN τ' → 0 < mN τ' → va_P D vwCl (wA cI q (gOf τ') al' sp') H → va_S (fun a : Nat => s.heap.size ≤ a) s.heap H locs → lv_has ls 20 [(0, .ref b), (1, .ref (q 0)), (2, .ref (q 12)), (3, .ref (q 13)), (4, .int (nI (mN τ'))), (5, .int ow0), (6, .int 1), (7, .int (nI TN)), (8, .int (nI t)), (12, .int (nI P)), (13, .int (nI O))] → W p l e R240 s m #[Value.ref b] below meth c H locs (cells + 1) (slots + 6) Q (F0 m 1045 ls [])) : W p l e R240 s m #[Value.ref b] below meth c H locs (cells) (slots) Q (F0 m 172 ls []) := by
  obtain ⟨hx, hb, hml, hown, hts, hXs, hbl, hq14, hZs, hK, hE, hN, hX0⟩ := id C0
  have hbA : ¬ (fun a : Nat => s.heap.size ≤ a) b := Nat.not_le.mpr hbl
  have hA14 : ∀ a, adQ 14 q a → (fun a : Nat => s.heap.size ≤ a) a := fun a ⟨k, h1, h2⟩ => by rw [h2]; exact hZs k (by omega)
  have hA12 : ∀ a, adQ 12 q a → (fun a : Nat => s.heap.size ≤ a) a := fun a ⟨k, h1, h2⟩ => by rw [h2]; exact hZs k (by omega)
  have hq : ijQ 12 q := ij12 hq14
  have hRc : R240.cells = 240 := rfl
  have hRs : R240.slots = 5300 := rfl
  have hn14 := hJ.1.2.2.2.1
  have hX : EX (adQ 12 q) s H := EX_narrow (EX_kept hX0 hS.2.1) hA12
  refine lv_aload_n hx hb dL_law_172 rfl (lv_at hl 1 rfl) ?_
  refine lv_iconst (v := 0) hx hb dL_law_173 (by decide) ?_
  refine lv_iload hx hb dL_law_174 (lv_at hl 9 rfl) ?_
  refine lv_iconst (v := 4) hx hb dL_law_176 (by decide) ?_
  refine lv_irem hx hb dL_law_177 (by decide) ?_
  refine lv_topE (y := nI (Y % 4)) ((show nI Y - nI Y / nI 4 * nI 4 = nI (Y % 4) from pk_rem (by omega) (by decide) (by decide))) ?_
  refine lv_iconst (v := 0) hx hb dL_law_178 (by decide) ?_
  refine lv_iconst (v := 0) hx hb dL_law_179 (by decide) ?_
  refine w_call (vx_runSW (As := [.ref (q 0), .int 0, .int (nI (Y % 4)), .int 0, .int 0]) (rest := []) ⟨hx, hb, hml, hown, hts⟩ (c_L_ask_make l hf D cI q hq (gOf τ) (ok_J hJ) (hz_J hJ) (nI (Y % 4)) 0 0) (vx_cwSW 5 hts gL_law_L_ask rfl rfl rfl kn_L_ask ⟨Nat.le_of_ble_eq_true rfl, Nat.le_of_ble_eq_true rfl⟩) (pS_Q (wA_G hP) hK hE hX hN) rfl rfl hl.1 rfl (lv_room (Nat.le_of_ble_eq_true rfl)) dL_law_180 ⟨by omega, by omega⟩) hS hA12 (fun v H1 l1 hv hz9 hk9 hS => ?_)
  obtain ⟨rfl, hP1⟩ := hv
  rcases j_make hJ hB (by omega) (d := Y % 4) (Nat.mod_lt _ (by decide)) with ⟨hn, ec⟩ | ⟨hn, τ', ec, ⟨hJ', hB', hge'⟩, hn'⟩
  · skip
    rw [ec] at hP1 ⊢
    have hP := wA_call hq14 hP hP1 hk9
    clear hP1
    generalize H1 = H at *
    have hX : EX (adQ 12 q) s H := EX_narrow (EX_kept hX0 hS.2.1) hA12
    refine lv_topE (y := (-1013)) (rfl) ?_
    have e4 : nI (mN τ) = nI 14 := by rw [hn]
    refine lv_istore (lv' := [(16, .int ((-1013))), (0, .ref b), (1, .ref (q 0)), (2, .ref (q 12)), (3, .ref (q 13)), (4, .int (nI (mN τ))), (5, .int ow0), (6, .int 1), (7, .int (nI TN)), (8, .int (nI t)), (10, .int (nI Y)), (11, .int (nI dd)), (12, .int (nI P)), (13, .int (nI O)), (14, .int (nI G)), (15, .int (nI MO))]) hx hb dL_law_183 hl (by decide) rfl (fun ls hl => ?_)
    refine lv_iload hx hb dL_law_185 (lv_at hl 0 rfl) ?_
    refine lv_iload hx hb dL_law_187 (lv_at hl 5 rfl) ?_
    refine lv_bipush (v := 14) hx hb dL_law_189 (by decide) ?_
    refine neN (mN τ) 14 (tgt := 200) hx hb rfl rfl (by omega) (by omega) dL_law_191 (by decide) (fun c_1 => absurd c_1 (by omega)) (fun c_1 => ?_)
    refine lv_sipush (v := (-1013)) hx hb dL_law_194 (by decide) ?_
    refine lv_goto (tgt := 202) hx hb dL_law_197 (by decide) ?_
    refine lv_icmp_ne (tgt := 209) hx hb dL_law_202 (by decide) (fun c_2 => absurd (by decide) c_2) (fun c_2 => ?_)
    refine lv_iconst (v := 1) hx hb dL_law_205 (by decide) ?_
    refine lv_goto (tgt := 210) hx hb dL_law_206 (by decide) ?_
    refine lv_istore (lv' := [(6, .int 1), (16, .int ((-1013))), (0, .ref b), (1, .ref (q 0)), (2, .ref (q 12)), (3, .ref (q 13)), (4, .int (nI (mN τ))), (5, .int ow0), (7, .int (nI TN)), (8, .int (nI t)), (10, .int (nI Y)), (11, .int (nI dd)), (12, .int (nI P)), (13, .int (nI O)), (14, .int (nI G)), (15, .int (nI MO))]) hx hb dL_law_210 hl (by decide) rfl (fun ls hl => ?_)
    refine lv_iload hx hb dL_law_212 (lv_at hl 6 rfl) ?_
    refine lv_iload hx hb dL_law_214 (lv_at hl 1 rfl) ?_
    refine lv_if_lt (tgt := 223) hx hb dL_law_216 (by decide) (fun c_3 => ?_) (fun c_3 => absurd (by decide) c_3)
    refine lv_iconst (v := 0) hx hb dL_law_223 (by decide) ?_
    refine lv_iadd hx hb dL_law_224 ?_
    refine lv_topE (y := nI (mN τ)) (Int32.add_zero _) ?_
    refine lv_istore (lv' := [(4, .int (nI (mN τ))), (6, .int 1), (16, .int ((-1013))), (0, .ref b), (1, .ref (q 0)), (2, .ref (q 12)), (3, .ref (q 13)), (5, .int ow0), (7, .int (nI TN)), (8, .int (nI t)), (10, .int (nI Y)), (11, .int (nI dd)), (12, .int (nI P)), (13, .int (nI O)), (14, .int (nI G)), (15, .int (nI MO))]) hx hb dL_law_225 hl (by decide) rfl (fun ls hl => ?_)
    refine lv_goto (tgt := 1045) hx hb dL_law_227 (by decide) ?_
    exact kk τ al sp _ _ _ hJ (ow_le hB (by omega)) ge_rf (Nat.le_refl _) (by omega) hP hS (lv_sub hl [3, 4, 5, 6, 0, 7, 1, 8, 9, 12, 13] rfl)
  · skip
    rw [ec] at hP1 ⊢
    have hP := wA_call hq14 hP hP1 hk9
    clear hP1
    generalize H1 = H at *
    have hX : EX (adQ 12 q) s H := EX_narrow (EX_kept hX0 hS.2.1) hA12
    refine lv_topE (y := nI (mN τ)) (rfl) ?_
    refine lv_istore (lv' := [(16, .int (nI (mN τ))), (0, .ref b), (1, .ref (q 0)), (2, .ref (q 12)), (3, .ref (q 13)), (4, .int (nI (mN τ))), (5, .int ow0), (6, .int 1), (7, .int (nI TN)), (8, .int (nI t)), (10, .int (nI Y)), (11, .int (nI dd)), (12, .int (nI P)), (13, .int (nI O)), (14, .int (nI G)), (15, .int (nI MO))]) hx hb dL_law_183 hl (by decide) rfl (fun ls hl => ?_)
    refine lv_iload hx hb dL_law_185 (lv_at hl 0 rfl) ?_
    refine lv_iload hx hb dL_law_187 (lv_at hl 5 rfl) ?_
    refine lv_bipush (v := 14) hx hb dL_law_189 (by decide) ?_
    refine neN (mN τ) 14 (tgt := 200) hx hb rfl rfl (by omega) (by omega) dL_law_191 (by decide) (fun c_4 => ?_) (fun c_4 => absurd c_4 (by omega))
    refine lv_iload hx hb dL_law_200 (lv_at hl 5 rfl) ?_
    refine neN (mN τ) (mN τ) (tgt := 209) hx hb rfl rfl (by omega) (by omega) dL_law_202 (by decide) (fun c_5 => absurd c_5 (by omega)) (fun c_5 => ?_)
    refine lv_iconst (v := 1) hx hb dL_law_205 (by decide) ?_
    refine lv_goto (tgt := 210) hx hb dL_law_206 (by decide) ?_
    refine lv_istore (lv' := [(6, .int 1), (16, .int (nI (mN τ))), (0, .ref b), (1, .ref (q 0)), (2, .ref (q 12)), (3, .ref (q 13)), (4, .int (nI (mN τ))), (5, .int ow0), (7, .int (nI TN)), (8, .int (nI t)), (10, .int (nI Y)), (11, .int (nI dd)), (12, .int (nI P)), (13, .int (nI O)), (14, .int (nI G)), (15, .int (nI MO))]) hx hb dL_law_210 hl (by decide) rfl (fun ls hl => ?_)
    refine lv_iload hx hb dL_law_212 (lv_at hl 6 rfl) ?_
    refine lv_iload hx hb dL_law_214 (lv_at hl 1 rfl) ?_
    refine lv_if_lt (tgt := 223) hx hb dL_law_216 (by decide) (fun c_6 => absurd c_6 (nI_pos (by omega))) (fun c_6 => ?_)
    refine lv_iconst (v := 1) hx hb dL_law_219 (by decide) ?_
    refine lv_goto (tgt := 224) hx hb dL_law_220 (by decide) ?_
    refine lv_iadd hx hb dL_law_224 ?_
    refine lv_topE (y := nI (mN τ')) ((nI_1 _).trans (by rw [hn'])) ?_
    refine lv_istore (lv' := [(4, .int (nI (mN τ'))), (6, .int 1), (16, .int (nI (mN τ))), (0, .ref b), (1, .ref (q 0)), (2, .ref (q 12)), (3, .ref (q 13)), (5, .int ow0), (7, .int (nI TN)), (8, .int (nI t)), (10, .int (nI Y)), (11, .int (nI dd)), (12, .int (nI P)), (13, .int (nI O)), (14, .int (nI G)), (15, .int (nI MO))]) hx hb dL_law_225 hl (by decide) rfl (fun ls hl => ?_)
    refine lv_goto (tgt := 1045) hx hb dL_law_227 (by decide) ?_
    exact kk τ' al sp _ _ _ hJ' hB' hge' (by omega) (by omega) hP hS (lv_sub hl [3, 4, 5, 6, 0, 7, 1, 8, 9, 12, 13] rfl)
set_option maxHeartbeats 4000000 in
set_option maxRecDepth 100000 in
theorem br_load {p : Program} {l : Launch} {e : Env} {s : State} {m : MethodId} {below : List Frame} {meth : Method} {c : Code} {b L : Nat} {xs : Nat → Int32} {D : va_G} {cI : ClassId} {q : Nat → Nat} (hf : l.stackTraces = false) (C0 : LC24 p s m c b L xs D cI q) {τ : SM} {al sp : Nat → Int32} {B : Int} (hJ : J τ al sp) (hB : OW (mOwe τ) B) (hb : B ≤ 80000) {P O G MO Y dd t TN : Nat} {ow0 : Int32} (hP9 : P < mN τ) (hO9 : O < mN τ) (hG : G < 6) (hM1 : 1 ≤ MO) (hM2 : MO ≤ 30) (hY : Y < 2 ^ 27) (hdd : dd < 32) {cells slots : Nat} (hc : cells + 2 ≤ 240) (hs : slots + 12 ≤ 5300) {H : Heap} {locs : List Loc} (hP : va_P D vwCl (wA cI q (gOf τ) al sp) H) (hS : va_S (fun a : Nat => s.heap.size ≤ a) s.heap H locs) {ls : Array Slot} (hl : lv_has ls 20 [(0, .ref b), (1, .ref (q 0)), (2, .ref (q 12)), (3, .ref (q 13)), (4, .int (nI (mN τ))), (5, .int ow0), (6, .int 1), (7, .int (nI TN)), (8, .int (nI t)), (10, .int (nI Y)), (11, .int (nI dd)), (12, .int (nI P)), (13, .int (nI O)), (14, .int (nI G)), (15, .int (nI MO))]) {Q : State → Prop}
    (kk : ∀ (τ' : SM) (al' sp' : Nat → Int32) (H : Heap) (locs : List Loc) (ls : Array Slot), J τ' al' sp' → OW (mOwe τ') (B + 20) → GE (mOwe τ) (mOwe τ') → mN τ ≤ mN τ' → 0 < mN τ' → va_P D vwCl (wA cI q (gOf τ') al' sp') H → va_S (fun a : Nat => s.heap.size ≤ a) s.heap H locs → lv_has ls 20 [(0, .ref b), (1, .ref (q 0)), (2, .ref (q 12)), (3, .ref (q 13)), (4, .int (nI (mN τ'))), (5, .int ow0), (6, .int 1), (7, .int (nI TN)), (8, .int (nI t)), (12, .int (nI P)), (13, .int (nI O))] → W p l e R240 s m #[Value.ref b] below meth c H locs (cells + 1) (slots + 6) Q (F0 m 1045 ls [])) : W p l e R240 s m #[Value.ref b] below meth c H locs (cells) (slots) Q (F0 m 237 ls []) := by
  obtain ⟨hx, hb, hml, hown, hts, hXs, hbl, hq14, hZs, hK, hE, hN, hX0⟩ := id C0
  have hbA : ¬ (fun a : Nat => s.heap.size ≤ a) b := Nat.not_le.mpr hbl
  have hA14 : ∀ a, adQ 14 q a → (fun a : Nat => s.heap.size ≤ a) a := fun a ⟨k, h1, h2⟩ => by rw [h2]; exact hZs k (by omega)
  have hA12 : ∀ a, adQ 12 q a → (fun a : Nat => s.heap.size ≤ a) a := fun a ⟨k, h1, h2⟩ => by rw [h2]; exact hZs k (by omega)
  have hq : ijQ 12 q := ij12 hq14
  have hRc : R240.cells = 240 := rfl
  have hRs : R240.slots = 5300 := rfl
  have hn14 := hJ.1.2.2.2.1
  have hX : EX (adQ 12 q) s H := EX_narrow (EX_kept hX0 hS.2.1) hA12
  have main : ∀ (amt : Int32), amt ≠ 0 → -30 ≤ amt.toInt → amt.toInt ≤ 30 → ∀ ls : Array Slot, lv_has ls 20 [(0, .ref b), (1, .ref (q 0)), (2, .ref (q 12)), (3, .ref (q 13)), (4, .int (nI (mN τ))), (5, .int ow0), (6, .int 1), (7, .int (nI TN)), (8, .int (nI t)), (10, .int (nI Y)), (11, .int (nI dd)), (12, .int (nI P)), (13, .int (nI O)), (14, .int (nI G)), (15, .int (nI MO))] → W p l e R240 s m #[Value.ref b] below meth c H locs (cells) (slots) Q (F0 m 255 ls [.int amt]) := by
    intro amt a0 a1 a2 ls hl
    refine lv_istore (lv' := [(16, .int amt), (0, .ref b), (1, .ref (q 0)), (2, .ref (q 12)), (3, .ref (q 13)), (4, .int (nI (mN τ))), (5, .int ow0), (6, .int 1), (7, .int (nI TN)), (8, .int (nI t)), (10, .int (nI Y)), (11, .int (nI dd)), (12, .int (nI P)), (13, .int (nI O)), (14, .int (nI G)), (15, .int (nI MO))]) hx hb dL_law_255 hl (by decide) rfl (fun ls hl => ?_)
    refine lv_aload_n hx hb dL_law_257 rfl (lv_at hl 2 rfl) ?_
    refine lv_iload hx hb dL_law_258 (lv_at hl 12 rfl) ?_
    refine lv_iload hx hb dL_law_260 (lv_at hl 14 rfl) ?_
    refine z_callE (x := mGoo τ (P * 6 + G)) (vx_runV (As := [.int (nI P), .int (nI G)]) (rest := []) ⟨hx, hb, hml, hown, hts⟩ (c_X1_contents l hf D cI q (gOf τ) hq (nI P) (nI G) (ok_J hJ) (hz_J hJ)) (cwV 2 hts gL_law_X1_contents rfl rfl rfl kd_X1_contents ⟨Nat.le_of_ble_eq_true rfl, Nat.le_of_ble_eq_true rfl⟩) (pV_P (wA_G hP) hK hE hX) rfl rfl hl.1 rfl (lv_room (Nat.le_of_ble_eq_true rfl)) dL_law_262 ⟨by omega, by omega⟩) (fun E9 h9 => h9.1 (congrArg Prod.fst (vC hJ hP9 hG))) (fun r9 h9 => h9.2.trans (congrArg (fun z => z.2.1) (vC hJ hP9 hG))) ?_
    refine lv_istore (lv' := [(17, .int (mGoo τ (P * 6 + G))), (16, .int amt), (0, .ref b), (1, .ref (q 0)), (2, .ref (q 12)), (3, .ref (q 13)), (4, .int (nI (mN τ))), (5, .int ow0), (6, .int 1), (7, .int (nI TN)), (8, .int (nI t)), (10, .int (nI Y)), (11, .int (nI dd)), (12, .int (nI P)), (13, .int (nI O)), (14, .int (nI G)), (15, .int (nI MO))]) hx hb dL_law_265 hl (by decide) rfl (fun ls hl => ?_)
    refine lv_aload_n hx hb dL_law_267 rfl (lv_at hl 3 rfl) ?_
    refine lv_iload hx hb dL_law_268 (lv_at hl 13 rfl) ?_
    refine z_callE (x := bI (msF τ P)) (vx_runV (As := [.int (nI P)]) (rest := []) ⟨hx, hb, hml, hown, hts⟩ (c_X1_isSound l hf D cI q (gOf τ) hq (nI P) (ok_J hJ) (hz_J hJ)) (cwV 1 hts gL_law_X1_isSound rfl rfl rfl kd_X1_isSound ⟨Nat.le_of_ble_eq_true rfl, Nat.le_of_ble_eq_true rfl⟩) (pV_P (wA_G hP) hK hE hX) rfl rfl hl.1 rfl (lv_room (Nat.le_of_ble_eq_true rfl)) dL_law_270 ⟨by omega, by omega⟩) (fun E9 h9 => h9.1 (congrArg Prod.fst (vS hJ hP9))) (fun r9 h9 => h9.2.trans (congrArg (fun z => bI z.2.1) (vS hJ hP9))) ?_
    refine lv_istore (lv' := [(18, .int (bI (msF τ P))), (17, .int (mGoo τ (P * 6 + G))), (16, .int amt), (0, .ref b), (1, .ref (q 0)), (2, .ref (q 12)), (3, .ref (q 13)), (4, .int (nI (mN τ))), (5, .int ow0), (6, .int 1), (7, .int (nI TN)), (8, .int (nI t)), (10, .int (nI Y)), (11, .int (nI dd)), (12, .int (nI P)), (13, .int (nI O)), (14, .int (nI G)), (15, .int (nI MO))]) hx hb dL_law_273 hl (by decide) rfl (fun ls hl => ?_)
    refine lv_aload_n hx hb dL_law_275 rfl (lv_at hl 4 rfl) ?_
    refine lv_iconst (v := 1) hx hb dL_law_276 (by decide) ?_
    refine lv_iload hx hb dL_law_277 (lv_at hl 14 rfl) ?_
    refine lv_iload hx hb dL_law_279 (lv_at hl 16 rfl) ?_
    refine lv_iload hx hb dL_law_281 (lv_at hl 2 rfl) ?_
    refine w_call (vx_runSW (As := [.ref (q 0), .int 1, .int (nI P), .int (nI G), .int amt]) (rest := []) ⟨hx, hb, hml, hown, hts⟩ (c_L_ask_load l hf D cI q hq (gOf τ) (ok_J hJ) (hz_J hJ) (nI P) (nI G) amt) (vx_cwSW 5 hts gL_law_L_ask rfl rfl rfl kn_L_ask ⟨Nat.le_of_ble_eq_true rfl, Nat.le_of_ble_eq_true rfl⟩) (pS_Q (wA_G hP) hK hE hX hN) rfl rfl hl.1 rfl (lv_room (Nat.le_of_ble_eq_true rfl)) dL_law_283 ⟨by omega, by omega⟩) hS hA12 (fun v H1 l1 hv hz9 hk9 hS => ?_)
    obtain ⟨rfl, hP1⟩ := hv
    rcases j_load hJ hB (by omega) hP9 hG a0 a1 a2 with ec | ⟨τ', ec, ⟨hJ', hB', hge'⟩, hn', hms, hr, hgo⟩
    · skip
      rw [ec] at hP1 ⊢
      have hP := wA_call hq14 hP hP1 hk9
      clear hP1
      generalize H1 = H at *
      have hX : EX (adQ 12 q) s H := EX_narrow (EX_kept hX0 hS.2.1) hA12
      refine lv_topE (y := (-1013)) (rfl) ?_
      refine lv_istore (lv' := [(19, .int ((-1013))), (18, .int (bI (msF τ P))), (17, .int (mGoo τ (P * 6 + G))), (16, .int amt), (0, .ref b), (1, .ref (q 0)), (2, .ref (q 12)), (3, .ref (q 13)), (4, .int (nI (mN τ))), (5, .int ow0), (6, .int 1), (7, .int (nI TN)), (8, .int (nI t)), (10, .int (nI Y)), (11, .int (nI dd)), (12, .int (nI P)), (13, .int (nI O)), (14, .int (nI G)), (15, .int (nI MO))]) hx hb dL_law_286 hl (by decide) rfl (fun ls hl => ?_)
      refine lv_aload_n hx hb dL_law_288 rfl (lv_at hl 6 rfl) ?_
      refine lv_iload hx hb dL_law_289 (lv_at hl 17 rfl) ?_
      refine lv_dup2_11 hx hb dL_law_291 rfl rfl ?_
      refine ald_12 (k := G) hx hb hK (wA_a hP) rfl hG dL_law_292 ?_
      refine lv_iload hx hb dL_law_293 (lv_at hl 0 rfl) ?_
      refine lv_if_lt (tgt := 303) hx hb dL_law_295 (by decide) (fun c_1 => ?_) (fun c_1 => absurd (by decide) c_1)
      refine lv_iconst (v := 0) hx hb dL_law_303 (by decide) ?_
      refine lv_iadd hx hb dL_law_304 ?_
      refine ast_12 (k := G) hx hb hK hP hq14 hA14 hS rfl (by omega) dL_law_305 (fun H locs hP hS => ?_)
      have hX : EX (adQ 12 q) s H := EX_narrow (EX_kept hX0 hS.2.1) hA12
      rw [up_same (Int32.add_zero _)] at hP
      refine lv_iload hx hb dL_law_306 (lv_at hl 0 rfl) ?_
      refine lv_if_lt (tgt := 347) hx hb dL_law_308 (by decide) (fun c_2 => ?_) (fun c_2 => absurd (by decide) c_2)
      refine lv_iload hx hb dL_law_347 (lv_at hl 0 rfl) ?_
      refine lv_sipush (v := (-1013)) hx hb dL_law_349 (by decide) ?_
      refine lv_icmp_ne (tgt := 372) hx hb dL_law_352 (by decide) (fun c_3 => absurd (by decide) c_3) (fun c_3 => ?_)
      refine lv_aload_n hx hb dL_law_355 rfl (lv_at hl 5 rfl) ?_
      refine lv_iload hx hb dL_law_356 (lv_at hl 15 rfl) ?_
      refine lv_iload hx hb dL_law_358 (lv_at hl 17 rfl) ?_
      refine z_callE (x := mGoo τ (P * 6 + G)) (vx_runV (As := [.int (nI P), .int (nI G)]) (rest := []) ⟨hx, hb, hml, hown, hts⟩ (c_X1_contents l hf D cI q (gOf τ) hq (nI P) (nI G) (ok_J hJ) (hz_J hJ)) (cwV 2 hts gL_law_X1_contents rfl rfl rfl kd_X1_contents ⟨Nat.le_of_ble_eq_true rfl, Nat.le_of_ble_eq_true rfl⟩) (pV_P (wA_G hP) hK hE hX) rfl rfl hl.1 rfl (lv_room (Nat.le_of_ble_eq_true rfl)) dL_law_360 ⟨by omega, by omega⟩) (fun E9 h9 => h9.1 (congrArg Prod.fst (vC hJ hP9 hG))) (fun r9 h9 => h9.2.trans (congrArg (fun z => z.2.1) (vC hJ hP9 hG))) ?_
      refine lv_iload hx hb dL_law_363 (lv_at hl 2 rfl) ?_
      refine lv_icmp_ne (tgt := 372) hx hb dL_law_365 (by decide) (fun c_4 => absurd (rfl) c_4) (fun c_4 => ?_)
      refine lv_iconst (v := 1) hx hb dL_law_368 (by decide) ?_
      refine lv_goto (tgt := 373) hx hb dL_law_369 (by decide) ?_
      refine lv_istore (lv' := [(6, .int 1), (19, .int ((-1013))), (18, .int (bI (msF τ P))), (17, .int (mGoo τ (P * 6 + G))), (16, .int amt), (0, .ref b), (1, .ref (q 0)), (2, .ref (q 12)), (3, .ref (q 13)), (4, .int (nI (mN τ))), (5, .int ow0), (7, .int (nI TN)), (8, .int (nI t)), (10, .int (nI Y)), (11, .int (nI dd)), (12, .int (nI P)), (13, .int (nI O)), (14, .int (nI G)), (15, .int (nI MO))]) hx hb dL_law_373 hl (by decide) rfl (fun ls hl => ?_)
      refine lv_goto (tgt := 1045) hx hb dL_law_375 (by decide) ?_
      exact kk τ al sp _ _ _ hJ (ow_le hB (by omega)) ge_rf (Nat.le_refl _) (by omega) hP hS (lv_sub hl [5, 6, 7, 8, 9, 10, 0, 11, 12, 15, 16] rfl)
    · skip
      rw [ec] at hP1 ⊢
      have hP := wA_call hq14 hP hP1 hk9
      clear hP1
      generalize H1 = H at *
      have hX : EX (adQ 12 q) s H := EX_narrow (EX_kept hX0 hS.2.1) hA12
      refine lv_topE (y := (mGoo τ (P * 6 + G) + amt)) (rfl) ?_
      have hlo : ¬ (mGoo τ (P * 6 + G) + amt) < 0 := by rw [Int32.lt_iff_toInt_lt, show (0 : Int32).toInt = 0 by decide]; omega
      refine lv_istore (lv' := [(19, .int ((mGoo τ (P * 6 + G) + amt))), (18, .int (bI (msF τ P))), (17, .int (mGoo τ (P * 6 + G))), (16, .int amt), (0, .ref b), (1, .ref (q 0)), (2, .ref (q 12)), (3, .ref (q 13)), (4, .int (nI (mN τ))), (5, .int ow0), (6, .int 1), (7, .int (nI TN)), (8, .int (nI t)), (10, .int (nI Y)), (11, .int (nI dd)), (12, .int (nI P)), (13, .int (nI O)), (14, .int (nI G)), (15, .int (nI MO))]) hx hb dL_law_286 hl (by decide) rfl (fun ls hl => ?_)
      refine lv_aload_n hx hb dL_law_288 rfl (lv_at hl 6 rfl) ?_
      refine lv_iload hx hb dL_law_289 (lv_at hl 17 rfl) ?_
      refine lv_dup2_11 hx hb dL_law_291 rfl rfl ?_
      refine ald_12 (k := G) hx hb hK (wA_a hP) rfl hG dL_law_292 ?_
      refine lv_iload hx hb dL_law_293 (lv_at hl 0 rfl) ?_
      refine lv_if_lt (tgt := 303) hx hb dL_law_295 (by decide) (fun c_5 => absurd c_5 (hlo)) (fun c_5 => ?_)
      refine lv_iload hx hb dL_law_298 (lv_at hl 3 rfl) ?_
      refine lv_goto (tgt := 304) hx hb dL_law_300 (by decide) ?_
      refine lv_iadd hx hb dL_law_304 ?_
      refine ast_12 (k := G) hx hb hK hP hq14 hA14 hS rfl (by omega) dL_law_305 (fun H locs hP hS => ?_)
      have hX : EX (adQ 12 q) s H := EX_narrow (EX_kept hX0 hS.2.1) hA12
      have hl : lv_has ls 20 [(19, .int ((mGoo τ (P * 6 + G) + amt))), (18, .int (bI (msF τ P))), (17, .int (mGoo τ (P * 6 + G))), (16, .int amt), (0, .ref b), (1, .ref (q 0)), (2, .ref (q 12)), (3, .ref (q 13)), (4, .int (nI (mN τ'))), (5, .int ow0), (6, .int 1), (7, .int (nI TN)), (8, .int (nI t)), (10, .int (nI Y)), (11, .int (nI dd)), (12, .int (nI P)), (13, .int (nI O)), (14, .int (nI G)), (15, .int (nI MO))] := by rw [hn']; exact hl
      refine lv_iload hx hb dL_law_306 (lv_at hl 0 rfl) ?_
      refine lv_if_lt (tgt := 347) hx hb dL_law_308 (by decide) (fun c_6 => absurd c_6 (hlo)) (fun c_6 => ?_)
      refine lv_iload hx hb dL_law_311 (lv_at hl 1 rfl) ?_
      refine lv_topE (y := 1) (by rw [hms]; rfl) ?_
      refine lv_if_eq (tgt := 343) hx hb dL_law_313 (by decide) (fun c_7 => absurd c_7 (by decide)) (fun c_7 => ?_)
      refine lv_iload hx hb dL_law_316 (lv_at hl 0 rfl) ?_
      refine lv_iload hx hb dL_law_318 (lv_at hl 2 rfl) ?_
      refine lv_iload hx hb dL_law_320 (lv_at hl 3 rfl) ?_
      refine lv_iadd hx hb dL_law_322 ?_
      refine lv_icmp_ne (tgt := 343) hx hb dL_law_323 (by decide) (fun c_8 => absurd (rfl) c_8) (fun c_8 => ?_)
      refine lv_aload_n hx hb dL_law_326 rfl (lv_at hl 5 rfl) ?_
      refine lv_iload hx hb dL_law_327 (lv_at hl 15 rfl) ?_
      refine lv_iload hx hb dL_law_329 (lv_at hl 17 rfl) ?_
      refine z_callE (x := (mGoo τ (P * 6 + G) + amt)) (vx_runV (As := [.int (nI P), .int (nI G)]) (rest := []) ⟨hx, hb, hml, hown, hts⟩ (c_X1_contents l hf D cI q (gOf τ') hq (nI P) (nI G) (ok_J hJ') (hz_J hJ')) (cwV 2 hts gL_law_X1_contents rfl rfl rfl kd_X1_contents ⟨Nat.le_of_ble_eq_true rfl, Nat.le_of_ble_eq_true rfl⟩) (pV_P (wA_G hP) hK hE hX) rfl rfl hl.1 rfl (lv_room (Nat.le_of_ble_eq_true rfl)) dL_law_331 ⟨by omega, by omega⟩) (fun E9 h9 => h9.1 (congrArg Prod.fst ((vC hJ' (by omega) hG).trans (congrArg (fun z => ((0, z, gOf τ') : Nat × Int32 × SG)) (hgo))))) (fun r9 h9 => h9.2.trans (congrArg (fun z => z.2.1) ((vC hJ' (by omega) hG).trans (congrArg (fun z => ((0, z, gOf τ') : Nat × Int32 × SG)) (hgo))))) ?_
      refine lv_iload hx hb dL_law_334 (lv_at hl 0 rfl) ?_
      refine lv_icmp_ne (tgt := 343) hx hb dL_law_336 (by decide) (fun c_9 => absurd (rfl) c_9) (fun c_9 => ?_)
      refine lv_iconst (v := 1) hx hb dL_law_339 (by decide) ?_
      refine lv_goto (tgt := 373) hx hb dL_law_340 (by decide) ?_
      refine lv_istore (lv' := [(6, .int 1), (19, .int ((mGoo τ (P * 6 + G) + amt))), (18, .int (bI (msF τ P))), (17, .int (mGoo τ (P * 6 + G))), (16, .int amt), (0, .ref b), (1, .ref (q 0)), (2, .ref (q 12)), (3, .ref (q 13)), (4, .int (nI (mN τ'))), (5, .int ow0), (7, .int (nI TN)), (8, .int (nI t)), (10, .int (nI Y)), (11, .int (nI dd)), (12, .int (nI P)), (13, .int (nI O)), (14, .int (nI G)), (15, .int (nI MO))]) hx hb dL_law_373 hl (by decide) rfl (fun ls hl => ?_)
      refine lv_goto (tgt := 1045) hx hb dL_law_375 (by decide) ?_
      exact kk τ' (va_up al G (al G + amt)) sp _ _ _ hJ' hB' hge' (by omega) (by omega) hP hS (lv_sub hl [5, 6, 7, 8, 9, 10, 0, 11, 12, 15, 16] rfl)
  refine lv_iload hx hb dL_law_237 (lv_at hl 9 rfl) ?_
  refine lv_bipush (v := 18) hx hb dL_law_239 (by decide) ?_
  refine lv_ishr hx hb dL_law_241 ?_
  refine lv_iconst (v := 3) hx hb dL_law_242 (by decide) ?_
  refine lv_iand hx hb dL_law_243 ?_
  have hMi : (nI MO).toInt = (MO : Int) := nI_toInt (by omega)
  have hMn : (-(nI MO)).toInt = -(MO : Int) := by rw [Int32.toInt_neg, hMi]; exact i_bm (by omega) (by omega)
  refine lv_if_ne (tgt := 253) hx hb dL_law_244 (by decide) (fun _ => ?_) (fun _ => ?_)
  · skip
    refine lv_iload hx hb dL_law_253 (lv_at hl 14 rfl) ?_
    exact main _ (fun z => by rw [z, show (0 : Int32).toInt = 0 by decide] at hMi; omega) (by omega) (by omega) _ (lv_sub hl [0, 1, 2, 3, 4, 5, 6, 7, 8, 9, 10, 11, 12, 13, 14] rfl)
  · skip
    refine lv_iload hx hb dL_law_247 (lv_at hl 14 rfl) ?_
    refine lv_ineg hx hb dL_law_249 ?_
    refine lv_goto (tgt := 255) hx hb dL_law_250 (by decide) ?_
    exact main _ (fun z => by rw [z, show (0 : Int32).toInt = 0 by decide] at hMn; omega) (by omega) (by omega) _ (lv_sub hl [0, 1, 2, 3, 4, 5, 6, 7, 8, 9, 10, 11, 12, 13, 14] rfl)
set_option maxHeartbeats 4000000 in
set_option maxRecDepth 100000 in
theorem br_part {p : Program} {l : Launch} {e : Env} {s : State} {m : MethodId} {below : List Frame} {meth : Method} {c : Code} {b L : Nat} {xs : Nat → Int32} {D : va_G} {cI : ClassId} {q : Nat → Nat} (hf : l.stackTraces = false) (C0 : LC24 p s m c b L xs D cI q) {τ : SM} {al sp : Nat → Int32} {B : Int} (hJ : J τ al sp) (hB : OW (mOwe τ) B) (hb : B ≤ 80000) {P O G MO Y dd t TN : Nat} {ow0 : Int32} (hP9 : P < mN τ) (hO9 : O < mN τ) (hG : G < 6) (hM1 : 1 ≤ MO) (hM2 : MO ≤ 30) (hY : Y < 2 ^ 27) (hdd : dd < 32) {cells slots : Nat} (hc : cells + 2 ≤ 240) (hs : slots + 12 ≤ 5300) {H : Heap} {locs : List Loc} (hP : va_P D vwCl (wA cI q (gOf τ) al sp) H) (hS : va_S (fun a : Nat => s.heap.size ≤ a) s.heap H locs) {ls : Array Slot} (hl : lv_has ls 20 [(0, .ref b), (1, .ref (q 0)), (2, .ref (q 12)), (3, .ref (q 13)), (4, .int (nI (mN τ))), (5, .int ow0), (6, .int 1), (7, .int (nI TN)), (8, .int (nI t)), (10, .int (nI Y)), (11, .int (nI dd)), (12, .int (nI P)), (13, .int (nI O)), (14, .int (nI G)), (15, .int (nI MO))]) {Q : State → Prop}
    (kk : ∀ (τ' : SM) (al' sp' : Nat → Int32) (H : Heap) (locs : List Loc) (ls : Array Slot), J τ' al' sp' → OW (mOwe τ') (B + 20) → GE (mOwe τ) (mOwe τ') → mN τ ≤ mN τ' → 0 < mN τ' → va_P D vwCl (wA cI q (gOf τ') al' sp') H → va_S (fun a : Nat => s.heap.size ≤ a) s.heap H locs → lv_has ls 20 [(0, .ref b), (1, .ref (q 0)), (2, .ref (q 12)), (3, .ref (q 13)), (4, .int (nI (mN τ'))), (5, .int ow0), (6, .int 1), (7, .int (nI TN)), (8, .int (nI t)), (12, .int (nI P)), (13, .int (nI O))] → W p l e R240 s m #[Value.ref b] below meth c H locs (cells + 1) (slots + 6) Q (F0 m 1045 ls [])) : W p l e R240 s m #[Value.ref b] below meth c H locs (cells) (slots) Q (F0 m 385 ls []) := by
  obtain ⟨hx, hb, hml, hown, hts, hXs, hbl, hq14, hZs, hK, hE, hN, hX0⟩ := id C0
  have hbA : ¬ (fun a : Nat => s.heap.size ≤ a) b := Nat.not_le.mpr hbl
  have hA14 : ∀ a, adQ 14 q a → (fun a : Nat => s.heap.size ≤ a) a := fun a ⟨k, h1, h2⟩ => by rw [h2]; exact hZs k (by omega)
  have hA12 : ∀ a, adQ 12 q a → (fun a : Nat => s.heap.size ≤ a) a := fun a ⟨k, h1, h2⟩ => by rw [h2]; exact hZs k (by omega)
  have hq : ijQ 12 q := ij12 hq14
  have hRc : R240.cells = 240 := rfl
  have hRs : R240.slots = 5300 := rfl
  have hn14 := hJ.1.2.2.2.1
  have hX : EX (adQ 12 q) s H := EX_narrow (EX_kept hX0 hS.2.1) hA12
  have hMi : (nI MO).toInt = (MO : Int) := nI_toInt (by omega)
  refine lv_aload_n hx hb dL_law_385 rfl (lv_at hl 1 rfl) ?_
  refine lv_iload hx hb dL_law_386 (lv_at hl 11 rfl) ?_
  refine lv_iload hx hb dL_law_388 (lv_at hl 13 rfl) ?_
  refine z_callE (x := mGoo τ (P * 6 + G)) (vx_runV (As := [.int (nI P), .int (nI G)]) (rest := []) ⟨hx, hb, hml, hown, hts⟩ (c_X1_contents l hf D cI q (gOf τ) hq (nI P) (nI G) (ok_J hJ) (hz_J hJ)) (cwV 2 hts gL_law_X1_contents rfl rfl rfl kd_X1_contents ⟨Nat.le_of_ble_eq_true rfl, Nat.le_of_ble_eq_true rfl⟩) (pV_P (wA_G hP) hK hE hX) rfl rfl hl.1 rfl (lv_room (Nat.le_of_ble_eq_true rfl)) dL_law_390 ⟨by omega, by omega⟩) (fun E9 h9 => h9.1 (congrArg Prod.fst (vC hJ hP9 hG))) (fun r9 h9 => h9.2.trans (congrArg (fun z => z.2.1) (vC hJ hP9 hG))) ?_
  refine lv_istore (lv' := [(16, .int (mGoo τ (P * 6 + G))), (0, .ref b), (1, .ref (q 0)), (2, .ref (q 12)), (3, .ref (q 13)), (4, .int (nI (mN τ))), (5, .int ow0), (6, .int 1), (7, .int (nI TN)), (8, .int (nI t)), (10, .int (nI Y)), (11, .int (nI dd)), (12, .int (nI P)), (13, .int (nI O)), (14, .int (nI G)), (15, .int (nI MO))]) hx hb dL_law_393 hl (by decide) rfl (fun ls hl => ?_)
  refine lv_aload_n hx hb dL_law_395 rfl (lv_at hl 2 rfl) ?_
  refine lv_iconst (v := 2) hx hb dL_law_396 (by decide) ?_
  refine lv_iload hx hb dL_law_397 (lv_at hl 12 rfl) ?_
  refine lv_iload hx hb dL_law_399 (lv_at hl 14 rfl) ?_
  refine lv_iload hx hb dL_law_401 (lv_at hl 15 rfl) ?_
  refine w_call (vx_runSW (As := [.ref (q 0), .int 2, .int (nI P), .int (nI G), .int (nI MO)]) (rest := []) ⟨hx, hb, hml, hown, hts⟩ (c_L_ask_part l hf D cI q hq (gOf τ) (ok_J hJ) (hz_J hJ) (nI P) (nI G) (nI MO)) (vx_cwSW 5 hts gL_law_L_ask rfl rfl rfl kn_L_ask ⟨Nat.le_of_ble_eq_true rfl, Nat.le_of_ble_eq_true rfl⟩) (pS_Q (wA_G hP) hK hE hX hN) rfl rfl hl.1 rfl (lv_room (Nat.le_of_ble_eq_true rfl)) dL_law_403 ⟨by omega, by omega⟩) hS hA12 (fun v H1 l1 hv hz9 hk9 hS => ?_)
  obtain ⟨rfl, hP1⟩ := hv
  rcases j_part hJ hB (by omega) hP9 hG (a := nI MO) (by omega) (by omega) with ec | ⟨τ', ec, ⟨hJ', hB', hge'⟩, hn', hgN, hgP, hms, hhol⟩
  · skip
    rw [ec] at hP1 ⊢
    have hP := wA_call hq14 hP hP1 hk9
    clear hP1
    generalize H1 = H at *
    have hX : EX (adQ 12 q) s H := EX_narrow (EX_kept hX0 hS.2.1) hA12
    refine lv_topE (y := (-1013)) (rfl) ?_
    refine lv_istore (lv' := [(17, .int ((-1013))), (16, .int (mGoo τ (P * 6 + G))), (0, .ref b), (1, .ref (q 0)), (2, .ref (q 12)), (3, .ref (q 13)), (4, .int (nI (mN τ))), (5, .int ow0), (6, .int 1), (7, .int (nI TN)), (8, .int (nI t)), (10, .int (nI Y)), (11, .int (nI dd)), (12, .int (nI P)), (13, .int (nI O)), (14, .int (nI G)), (15, .int (nI MO))]) hx hb dL_law_406 hl (by decide) rfl (fun ls hl => ?_)
    refine lv_iload hx hb dL_law_408 (lv_at hl 0 rfl) ?_
    refine lv_if_lt (tgt := 483) hx hb dL_law_410 (by decide) (fun c_1 => ?_) (fun c_1 => absurd (by decide) c_1)
    refine lv_iload hx hb dL_law_483 (lv_at hl 0 rfl) ?_
    refine lv_sipush (v := (-1013)) hx hb dL_law_485 (by decide) ?_
    refine lv_icmp_ne (tgt := 495) hx hb dL_law_488 (by decide) (fun c_2 => absurd (by decide) c_2) (fun c_2 => ?_)
    refine lv_iconst (v := 1) hx hb dL_law_491 (by decide) ?_
    refine lv_goto (tgt := 496) hx hb dL_law_492 (by decide) ?_
    refine lv_istore (lv' := [(6, .int 1), (17, .int ((-1013))), (16, .int (mGoo τ (P * 6 + G))), (0, .ref b), (1, .ref (q 0)), (2, .ref (q 12)), (3, .ref (q 13)), (4, .int (nI (mN τ))), (5, .int ow0), (7, .int (nI TN)), (8, .int (nI t)), (10, .int (nI Y)), (11, .int (nI dd)), (12, .int (nI P)), (13, .int (nI O)), (14, .int (nI G)), (15, .int (nI MO))]) hx hb dL_law_496 hl (by decide) rfl (fun ls hl => ?_)
    refine lv_iload hx hb dL_law_498 (lv_at hl 7 rfl) ?_
    refine lv_iload hx hb dL_law_500 (lv_at hl 1 rfl) ?_
    refine lv_if_lt (tgt := 509) hx hb dL_law_502 (by decide) (fun c_3 => ?_) (fun c_3 => absurd (by decide) c_3)
    refine lv_iconst (v := 0) hx hb dL_law_509 (by decide) ?_
    refine lv_iadd hx hb dL_law_510 ?_
    refine lv_topE (y := nI (mN τ)) (Int32.add_zero _) ?_
    refine lv_istore (lv' := [(4, .int (nI (mN τ))), (6, .int 1), (17, .int ((-1013))), (16, .int (mGoo τ (P * 6 + G))), (0, .ref b), (1, .ref (q 0)), (2, .ref (q 12)), (3, .ref (q 13)), (5, .int ow0), (7, .int (nI TN)), (8, .int (nI t)), (10, .int (nI Y)), (11, .int (nI dd)), (12, .int (nI P)), (13, .int (nI O)), (14, .int (nI G)), (15, .int (nI MO))]) hx hb dL_law_511 hl (by decide) rfl (fun ls hl => ?_)
    refine lv_goto (tgt := 1045) hx hb dL_law_513 (by decide) ?_
    exact kk τ al sp _ _ _ hJ (ow_le hB (by omega)) ge_rf (Nat.le_refl _) (by omega) hP hS (lv_sub hl [4, 5, 6, 7, 0, 8, 1, 9, 10, 13, 14] rfl)
  · skip
    rw [ec] at hP1 ⊢
    have hP := wA_call hq14 hP hP1 hk9
    clear hP1
    generalize H1 = H at *
    have hX : EX (adQ 12 q) s H := EX_narrow (EX_kept hX0 hS.2.1) hA12
    refine lv_topE (y := nI (mN τ)) (rfl) ?_
    have hn14' := hJ'.1.2.2.2.1
    refine lv_istore (lv' := [(17, .int (nI (mN τ))), (16, .int (mGoo τ (P * 6 + G))), (0, .ref b), (1, .ref (q 0)), (2, .ref (q 12)), (3, .ref (q 13)), (4, .int (nI (mN τ))), (5, .int ow0), (6, .int 1), (7, .int (nI TN)), (8, .int (nI t)), (10, .int (nI Y)), (11, .int (nI dd)), (12, .int (nI P)), (13, .int (nI O)), (14, .int (nI G)), (15, .int (nI MO))]) hx hb dL_law_406 hl (by decide) rfl (fun ls hl => ?_)
    refine lv_iload hx hb dL_law_408 (lv_at hl 0 rfl) ?_
    refine lv_if_lt (tgt := 483) hx hb dL_law_410 (by decide) (fun c_4 => absurd c_4 (nI_pos (by omega))) (fun c_4 => ?_)
    refine lv_iload hx hb dL_law_413 (lv_at hl 0 rfl) ?_
    refine lv_iload hx hb dL_law_415 (lv_at hl 6 rfl) ?_
    refine neN (mN τ) (mN τ) (tgt := 479) hx hb rfl rfl (by omega) (by omega) dL_law_417 (by decide) (fun c_5 => absurd c_5 (by omega)) (fun c_5 => ?_)
    refine lv_aload_n hx hb dL_law_420 rfl (lv_at hl 3 rfl) ?_
    refine lv_iload hx hb dL_law_421 (lv_at hl 0 rfl) ?_
    refine lv_iload hx hb dL_law_423 (lv_at hl 15 rfl) ?_
    refine z_callE (x := nI MO) (vx_runV (As := [.int (nI (mN τ)), .int (nI G)]) (rest := []) ⟨hx, hb, hml, hown, hts⟩ (c_X1_contents l hf D cI q (gOf τ') hq (nI (mN τ)) (nI G) (ok_J hJ') (hz_J hJ')) (cwV 2 hts gL_law_X1_contents rfl rfl rfl kd_X1_contents ⟨Nat.le_of_ble_eq_true rfl, Nat.le_of_ble_eq_true rfl⟩) (pV_P (wA_G hP) hK hE hX) rfl rfl hl.1 rfl (lv_room (Nat.le_of_ble_eq_true rfl)) dL_law_425 ⟨by omega, by omega⟩) (fun E9 h9 => h9.1 (congrArg Prod.fst ((vC hJ' (by omega) hG).trans (congrArg (fun z => ((0, z, gOf τ') : Nat × Int32 × SG)) (hgN))))) (fun r9 h9 => h9.2.trans (congrArg (fun z => z.2.1) ((vC hJ' (by omega) hG).trans (congrArg (fun z => ((0, z, gOf τ') : Nat × Int32 × SG)) (hgN))))) ?_
    refine lv_iload hx hb dL_law_428 (lv_at hl 16 rfl) ?_
    refine neN MO MO (tgt := 479) hx hb rfl rfl (by omega) (by omega) dL_law_430 (by decide) (fun c_6 => absurd c_6 (by omega)) (fun c_6 => ?_)
    refine lv_aload_n hx hb dL_law_433 rfl (lv_at hl 3 rfl) ?_
    refine lv_iload hx hb dL_law_434 (lv_at hl 13 rfl) ?_
    refine lv_iload hx hb dL_law_436 (lv_at hl 15 rfl) ?_
    refine z_callE (x := (mGoo τ (P * 6 + G) - nI MO)) (vx_runV (As := [.int (nI P), .int (nI G)]) (rest := []) ⟨hx, hb, hml, hown, hts⟩ (c_X1_contents l hf D cI q (gOf τ') hq (nI P) (nI G) (ok_J hJ') (hz_J hJ')) (cwV 2 hts gL_law_X1_contents rfl rfl rfl kd_X1_contents ⟨Nat.le_of_ble_eq_true rfl, Nat.le_of_ble_eq_true rfl⟩) (pV_P (wA_G hP) hK hE hX) rfl rfl hl.1 rfl (lv_room (Nat.le_of_ble_eq_true rfl)) dL_law_438 ⟨by omega, by omega⟩) (fun E9 h9 => h9.1 (congrArg Prod.fst ((vC hJ' (by omega) hG).trans (congrArg (fun z => ((0, z, gOf τ') : Nat × Int32 × SG)) (hgP))))) (fun r9 h9 => h9.2.trans (congrArg (fun z => z.2.1) ((vC hJ' (by omega) hG).trans (congrArg (fun z => ((0, z, gOf τ') : Nat × Int32 × SG)) (hgP))))) ?_
    refine lv_iload hx hb dL_law_441 (lv_at hl 1 rfl) ?_
    refine lv_iload hx hb dL_law_443 (lv_at hl 16 rfl) ?_
    refine lv_isub hx hb dL_law_445 ?_
    refine lv_icmp_ne (tgt := 479) hx hb dL_law_446 (by decide) (fun c_7 => absurd (rfl) c_7) (fun c_7 => ?_)
    refine lv_aload_n hx hb dL_law_449 rfl (lv_at hl 3 rfl) ?_
    refine lv_iload hx hb dL_law_450 (lv_at hl 0 rfl) ?_
    refine z_callE (x := 1) (vx_runV (As := [.int (nI (mN τ))]) (rest := []) ⟨hx, hb, hml, hown, hts⟩ (c_X1_isSound l hf D cI q (gOf τ') hq (nI (mN τ)) (ok_J hJ') (hz_J hJ')) (cwV 1 hts gL_law_X1_isSound rfl rfl rfl kd_X1_isSound ⟨Nat.le_of_ble_eq_true rfl, Nat.le_of_ble_eq_true rfl⟩) (pV_P (wA_G hP) hK hE hX) rfl rfl hl.1 rfl (lv_room (Nat.le_of_ble_eq_true rfl)) dL_law_452 ⟨by omega, by omega⟩) (fun E9 h9 => h9.1 (congrArg Prod.fst ((vS hJ' (by omega)).trans (congrArg (fun z => ((0, z, gOf τ') : Nat × Bool × SG)) (hms))))) (fun r9 h9 => h9.2.trans (congrArg (fun z => bI z.2.1) ((vS hJ' (by omega)).trans (congrArg (fun z => ((0, z, gOf τ') : Nat × Bool × SG)) (hms))))) ?_
    refine lv_if_eq (tgt := 479) hx hb dL_law_455 (by decide) (fun c_8 => absurd c_8 (by decide)) (fun c_8 => ?_)
    refine lv_aload_n hx hb dL_law_458 rfl (lv_at hl 3 rfl) ?_
    refine lv_iload hx hb dL_law_459 (lv_at hl 0 rfl) ?_
    refine lv_iconst (v := 0) hx hb dL_law_461 (by decide) ?_
    refine z_callE (x := nI (mHol τ' (mN τ))) (vx_runV (As := [.int (nI (mN τ)), .int 0]) (rest := []) ⟨hx, hb, hml, hown, hts⟩ (c_X1_pallet l hf D cI q (gOf τ') hq (nI (mN τ)) 0 (ok_J hJ') (hz_J hJ')) (cwV 2 hts gL_law_X1_pallet rfl rfl rfl kd_X1_pallet ⟨Nat.le_of_ble_eq_true rfl, Nat.le_of_ble_eq_true rfl⟩) (pV_P (wA_G hP) hK hE hX) rfl rfl hl.1 rfl (lv_room (Nat.le_of_ble_eq_true rfl)) dL_law_462 ⟨by omega, by omega⟩) (fun E9 h9 => h9.1 (congrArg Prod.fst (vP0 hJ' (by omega)))) (fun r9 h9 => h9.2.trans (congrArg (fun z => z.2.1) (vP0 hJ' (by omega)))) ?_
    refine lv_aload_n hx hb dL_law_465 rfl (lv_at hl 3 rfl) ?_
    refine lv_iload hx hb dL_law_466 (lv_at hl 13 rfl) ?_
    refine lv_iconst (v := 0) hx hb dL_law_468 (by decide) ?_
    refine z_callE (x := nI (mHol τ' P)) (vx_runV (As := [.int (nI P), .int 0]) (rest := [.int (nI (mHol τ' (mN τ)))]) ⟨hx, hb, hml, hown, hts⟩ (c_X1_pallet l hf D cI q (gOf τ') hq (nI P) 0 (ok_J hJ') (hz_J hJ')) (cwV 2 hts gL_law_X1_pallet rfl rfl rfl kd_X1_pallet ⟨Nat.le_of_ble_eq_true rfl, Nat.le_of_ble_eq_true rfl⟩) (pV_P (wA_G hP) hK hE hX) rfl rfl hl.1 rfl (lv_room (Nat.le_of_ble_eq_true rfl)) dL_law_469 ⟨by omega, by omega⟩) (fun E9 h9 => h9.1 (congrArg Prod.fst (vP0 hJ' (by omega)))) (fun r9 h9 => h9.2.trans (congrArg (fun z => z.2.1) (vP0 hJ' (by omega)))) ?_
    refine lv_icmp_ne (tgt := 479) hx hb dL_law_472 (by decide) (fun c_9 => absurd (congrArg nI hhol) c_9) (fun c_9 => ?_)
    refine lv_iconst (v := 1) hx hb dL_law_475 (by decide) ?_
    refine lv_goto (tgt := 496) hx hb dL_law_476 (by decide) ?_
    refine lv_istore (lv' := [(6, .int 1), (17, .int (nI (mN τ))), (16, .int (mGoo τ (P * 6 + G))), (0, .ref b), (1, .ref (q 0)), (2, .ref (q 12)), (3, .ref (q 13)), (4, .int (nI (mN τ))), (5, .int ow0), (7, .int (nI TN)), (8, .int (nI t)), (10, .int (nI Y)), (11, .int (nI dd)), (12, .int (nI P)), (13, .int (nI O)), (14, .int (nI G)), (15, .int (nI MO))]) hx hb dL_law_496 hl (by decide) rfl (fun ls hl => ?_)
    refine lv_iload hx hb dL_law_498 (lv_at hl 7 rfl) ?_
    refine lv_iload hx hb dL_law_500 (lv_at hl 1 rfl) ?_
    refine lv_if_lt (tgt := 509) hx hb dL_law_502 (by decide) (fun c_10 => absurd c_10 (nI_pos (by omega))) (fun c_10 => ?_)
    refine lv_iconst (v := 1) hx hb dL_law_505 (by decide) ?_
    refine lv_goto (tgt := 510) hx hb dL_law_506 (by decide) ?_
    refine lv_iadd hx hb dL_law_510 ?_
    refine lv_topE (y := nI (mN τ')) ((nI_1 _).trans (by rw [hn'])) ?_
    refine lv_istore (lv' := [(4, .int (nI (mN τ'))), (6, .int 1), (17, .int (nI (mN τ))), (16, .int (mGoo τ (P * 6 + G))), (0, .ref b), (1, .ref (q 0)), (2, .ref (q 12)), (3, .ref (q 13)), (5, .int ow0), (7, .int (nI TN)), (8, .int (nI t)), (10, .int (nI Y)), (11, .int (nI dd)), (12, .int (nI P)), (13, .int (nI O)), (14, .int (nI G)), (15, .int (nI MO))]) hx hb dL_law_511 hl (by decide) rfl (fun ls hl => ?_)
    refine lv_goto (tgt := 1045) hx hb dL_law_513 (by decide) ?_
    exact kk τ' al sp _ _ _ hJ' hB' hge' (by omega) (by omega) hP hS (lv_sub hl [4, 5, 6, 7, 0, 8, 1, 9, 10, 13, 14] rfl)
set_option maxHeartbeats 4000000 in
set_option maxRecDepth 100000 in
theorem br_join {p : Program} {l : Launch} {e : Env} {s : State} {m : MethodId} {below : List Frame} {meth : Method} {c : Code} {b L : Nat} {xs : Nat → Int32} {D : va_G} {cI : ClassId} {q : Nat → Nat} (hf : l.stackTraces = false) (C0 : LC24 p s m c b L xs D cI q) {τ : SM} {al sp : Nat → Int32} {B : Int} (hJ : J τ al sp) (hB : OW (mOwe τ) B) (hb : B ≤ 80000) {P O G MO Y dd t TN : Nat} {ow0 : Int32} (hP9 : P < mN τ) (hO9 : O < mN τ) (hG : G < 6) (hM1 : 1 ≤ MO) (hM2 : MO ≤ 30) (hY : Y < 2 ^ 27) (hdd : dd < 32) {cells slots : Nat} (hc : cells + 2 ≤ 240) (hs : slots + 12 ≤ 5300) {H : Heap} {locs : List Loc} (hP : va_P D vwCl (wA cI q (gOf τ) al sp) H) (hS : va_S (fun a : Nat => s.heap.size ≤ a) s.heap H locs) {ls : Array Slot} (hl : lv_has ls 20 [(0, .ref b), (1, .ref (q 0)), (2, .ref (q 12)), (3, .ref (q 13)), (4, .int (nI (mN τ))), (5, .int ow0), (6, .int 1), (7, .int (nI TN)), (8, .int (nI t)), (10, .int (nI Y)), (11, .int (nI dd)), (12, .int (nI P)), (13, .int (nI O)), (14, .int (nI G)), (15, .int (nI MO))]) {Q : State → Prop}
    (kk : ∀ (τ' : SM) (al' sp' : Nat → Int32) (H : Heap) (locs : List Loc) (ls : Array Slot), J τ' al' sp' → OW (mOwe τ') (B + 20) → GE (mOwe τ) (mOwe τ') → mN τ ≤ mN τ' → 0 < mN τ' → va_P D vwCl (wA cI q (gOf τ') al' sp') H → va_S (fun a : Nat => s.heap.size ≤ a) s.heap H locs → lv_has ls 20 [(0, .ref b), (1, .ref (q 0)), (2, .ref (q 12)), (3, .ref (q 13)), (4, .int (nI (mN τ'))), (5, .int ow0), (6, .int 1), (7, .int (nI TN)), (8, .int (nI t)), (12, .int (nI P)), (13, .int (nI O))] → W p l e R240 s m #[Value.ref b] below meth c H locs (cells + 1) (slots + 6) Q (F0 m 1045 ls [])) : W p l e R240 s m #[Value.ref b] below meth c H locs (cells) (slots) Q (F0 m 523 ls []) := by
  obtain ⟨hx, hb, hml, hown, hts, hXs, hbl, hq14, hZs, hK, hE, hN, hX0⟩ := id C0
  have hbA : ¬ (fun a : Nat => s.heap.size ≤ a) b := Nat.not_le.mpr hbl
  have hA14 : ∀ a, adQ 14 q a → (fun a : Nat => s.heap.size ≤ a) a := fun a ⟨k, h1, h2⟩ => by rw [h2]; exact hZs k (by omega)
  have hA12 : ∀ a, adQ 12 q a → (fun a : Nat => s.heap.size ≤ a) a := fun a ⟨k, h1, h2⟩ => by rw [h2]; exact hZs k (by omega)
  have hq : ijQ 12 q := ij12 hq14
  have hRc : R240.cells = 240 := rfl
  have hRs : R240.slots = 5300 := rfl
  have hn14 := hJ.1.2.2.2.1
  have hX : EX (adQ 12 q) s H := EX_narrow (EX_kept hX0 hS.2.1) hA12
  refine lv_aload_n hx hb dL_law_523 rfl (lv_at hl 1 rfl) ?_
  refine lv_iconst (v := 3) hx hb dL_law_524 (by decide) ?_
  refine lv_iload hx hb dL_law_525 (lv_at hl 11 rfl) ?_
  refine lv_iload hx hb dL_law_527 (lv_at hl 12 rfl) ?_
  refine lv_iconst (v := 0) hx hb dL_law_529 (by decide) ?_
  refine w_call (vx_runSW (As := [.ref (q 0), .int 3, .int (nI P), .int (nI O), .int 0]) (rest := []) ⟨hx, hb, hml, hown, hts⟩ (c_L_ask_join l hf D cI q hq (gOf τ) (ok_J hJ) (hz_J hJ) (nI P) (nI O) 0) (vx_cwSW 5 hts gL_law_L_ask rfl rfl rfl kn_L_ask ⟨Nat.le_of_ble_eq_true rfl, Nat.le_of_ble_eq_true rfl⟩) (pS_Q (wA_G hP) hK hE hX hN) rfl rfl hl.1 rfl (lv_room (Nat.le_of_ble_eq_true rfl)) dL_law_530 ⟨by omega, by omega⟩) hS hA12 (fun v H1 l1 hv hz9 hk9 hS => ?_)
  obtain ⟨rfl, hP1⟩ := hv
  rcases j_join hJ hB (by omega) hP9 hO9 with ⟨hpo, ec⟩ | ⟨hpo, ec⟩ | ⟨hpo, τ', v, ec, hv0, ⟨hJ', hB', hge'⟩, hn', hgo, hs1, hs2, hhol⟩
  · skip
    rw [ec] at hP1 ⊢
    have hP := wA_call hq14 hP hP1 hk9
    clear hP1
    generalize H1 = H at *
    have hX : EX (adQ 12 q) s H := EX_narrow (EX_kept hX0 hS.2.1) hA12
    refine lv_topE (y := (-1012)) (rfl) ?_
    refine lv_istore (lv' := [(16, .int ((-1012))), (0, .ref b), (1, .ref (q 0)), (2, .ref (q 12)), (3, .ref (q 13)), (4, .int (nI (mN τ))), (5, .int ow0), (6, .int 1), (7, .int (nI TN)), (8, .int (nI t)), (10, .int (nI Y)), (11, .int (nI dd)), (12, .int (nI P)), (13, .int (nI O)), (14, .int (nI G)), (15, .int (nI MO))]) hx hb dL_law_533 hl (by decide) rfl (fun ls hl => ?_)
    refine lv_iload hx hb dL_law_535 (lv_at hl 12 rfl) ?_
    refine lv_iload hx hb dL_law_537 (lv_at hl 13 rfl) ?_
    refine neN P O (tgt := 558) hx hb rfl rfl (by omega) (by omega) dL_law_539 (by decide) (fun c_1 => absurd c_1 (by omega)) (fun c_1 => ?_)
    refine lv_iload hx hb dL_law_542 (lv_at hl 0 rfl) ?_
    refine lv_sipush (v := (-1012)) hx hb dL_law_544 (by decide) ?_
    refine lv_icmp_ne (tgt := 554) hx hb dL_law_547 (by decide) (fun c_2 => absurd (by decide) c_2) (fun c_2 => ?_)
    refine lv_iconst (v := 1) hx hb dL_law_550 (by decide) ?_
    refine lv_goto (tgt := 630) hx hb dL_law_551 (by decide) ?_
    refine lv_istore (lv' := [(6, .int 1), (16, .int ((-1012))), (0, .ref b), (1, .ref (q 0)), (2, .ref (q 12)), (3, .ref (q 13)), (4, .int (nI (mN τ))), (5, .int ow0), (7, .int (nI TN)), (8, .int (nI t)), (10, .int (nI Y)), (11, .int (nI dd)), (12, .int (nI P)), (13, .int (nI O)), (14, .int (nI G)), (15, .int (nI MO))]) hx hb dL_law_630 hl (by decide) rfl (fun ls hl => ?_)
    refine lv_goto (tgt := 1045) hx hb dL_law_632 (by decide) ?_
    exact kk τ al sp _ _ _ hJ (ow_le hB (by omega)) ge_rf (Nat.le_refl _) (by omega) hP hS (lv_sub hl [2, 3, 4, 5, 6, 7, 0, 8, 9, 12, 13] rfl)
  · skip
    rw [ec] at hP1 ⊢
    have hP := wA_call hq14 hP hP1 hk9
    clear hP1
    generalize H1 = H at *
    have hX : EX (adQ 12 q) s H := EX_narrow (EX_kept hX0 hS.2.1) hA12
    refine lv_topE (y := (-1013)) (rfl) ?_
    refine lv_istore (lv' := [(16, .int ((-1013))), (0, .ref b), (1, .ref (q 0)), (2, .ref (q 12)), (3, .ref (q 13)), (4, .int (nI (mN τ))), (5, .int ow0), (6, .int 1), (7, .int (nI TN)), (8, .int (nI t)), (10, .int (nI Y)), (11, .int (nI dd)), (12, .int (nI P)), (13, .int (nI O)), (14, .int (nI G)), (15, .int (nI MO))]) hx hb dL_law_533 hl (by decide) rfl (fun ls hl => ?_)
    refine lv_iload hx hb dL_law_535 (lv_at hl 12 rfl) ?_
    refine lv_iload hx hb dL_law_537 (lv_at hl 13 rfl) ?_
    refine neN P O (tgt := 558) hx hb rfl rfl (by omega) (by omega) dL_law_539 (by decide) (fun c_3 => ?_) (fun c_3 => absurd c_3 (by omega))
    refine lv_iload hx hb dL_law_558 (lv_at hl 0 rfl) ?_
    refine lv_if_lt (tgt := 617) hx hb dL_law_560 (by decide) (fun c_4 => ?_) (fun c_4 => absurd (by decide) c_4)
    refine lv_iload hx hb dL_law_617 (lv_at hl 0 rfl) ?_
    refine lv_sipush (v := (-1013)) hx hb dL_law_619 (by decide) ?_
    refine lv_icmp_ne (tgt := 629) hx hb dL_law_622 (by decide) (fun c_5 => absurd (by decide) c_5) (fun c_5 => ?_)
    refine lv_iconst (v := 1) hx hb dL_law_625 (by decide) ?_
    refine lv_goto (tgt := 630) hx hb dL_law_626 (by decide) ?_
    refine lv_istore (lv' := [(6, .int 1), (16, .int ((-1013))), (0, .ref b), (1, .ref (q 0)), (2, .ref (q 12)), (3, .ref (q 13)), (4, .int (nI (mN τ))), (5, .int ow0), (7, .int (nI TN)), (8, .int (nI t)), (10, .int (nI Y)), (11, .int (nI dd)), (12, .int (nI P)), (13, .int (nI O)), (14, .int (nI G)), (15, .int (nI MO))]) hx hb dL_law_630 hl (by decide) rfl (fun ls hl => ?_)
    refine lv_goto (tgt := 1045) hx hb dL_law_632 (by decide) ?_
    exact kk τ al sp _ _ _ hJ (ow_le hB (by omega)) ge_rf (Nat.le_refl _) (by omega) hP hS (lv_sub hl [2, 3, 4, 5, 6, 7, 0, 8, 9, 12, 13] rfl)
  · skip
    rw [ec] at hP1 ⊢
    have hP := wA_call hq14 hP hP1 hk9
    clear hP1
    generalize H1 = H at *
    have hX : EX (adQ 12 q) s H := EX_narrow (EX_kept hX0 hS.2.1) hA12
    refine lv_topE (y := v) (rfl) ?_
    have hn14' := hJ'.1.2.2.2.1
    have hl : lv_has ls 20 [(0, .ref b), (1, .ref (q 0)), (2, .ref (q 12)), (3, .ref (q 13)), (4, .int (nI (mN τ'))), (5, .int ow0), (6, .int 1), (7, .int (nI TN)), (8, .int (nI t)), (10, .int (nI Y)), (11, .int (nI dd)), (12, .int (nI P)), (13, .int (nI O)), (14, .int (nI G)), (15, .int (nI MO))] := by rw [hn']; exact hl
    refine lv_istore (lv' := [(16, .int v), (0, .ref b), (1, .ref (q 0)), (2, .ref (q 12)), (3, .ref (q 13)), (4, .int (nI (mN τ'))), (5, .int ow0), (6, .int 1), (7, .int (nI TN)), (8, .int (nI t)), (10, .int (nI Y)), (11, .int (nI dd)), (12, .int (nI P)), (13, .int (nI O)), (14, .int (nI G)), (15, .int (nI MO))]) hx hb dL_law_533 hl (by decide) rfl (fun ls hl => ?_)
    refine lv_iload hx hb dL_law_535 (lv_at hl 12 rfl) ?_
    refine lv_iload hx hb dL_law_537 (lv_at hl 13 rfl) ?_
    refine neN P O (tgt := 558) hx hb rfl rfl (by omega) (by omega) dL_law_539 (by decide) (fun c_6 => ?_) (fun c_6 => absurd c_6 (by omega))
    refine lv_iload hx hb dL_law_558 (lv_at hl 0 rfl) ?_
    refine lv_if_lt (tgt := 617) hx hb dL_law_560 (by decide) (fun c_7 => absurd c_7 (by rw [Int32.lt_iff_toInt_lt, show (0 : Int32).toInt = 0 by decide]; omega)) (fun c_7 => ?_)
    refine lv_aload_n hx hb dL_law_563 rfl (lv_at hl 2 rfl) ?_
    refine lv_iload hx hb dL_law_564 (lv_at hl 12 rfl) ?_
    refine lv_iconst (v := 4) hx hb dL_law_566 (by decide) ?_
    refine z_callE (x := 1) (vx_runV (As := [.int (nI P), .int 4]) (rest := []) ⟨hx, hb, hml, hown, hts⟩ (c_X1_pallet l hf D cI q (gOf τ') hq (nI P) 4 (ok_J hJ') (hz_J hJ')) (cwV 2 hts gL_law_X1_pallet rfl rfl rfl kd_X1_pallet ⟨Nat.le_of_ble_eq_true rfl, Nat.le_of_ble_eq_true rfl⟩) (pV_P (wA_G hP) hK hE hX) rfl rfl hl.1 rfl (lv_room (Nat.le_of_ble_eq_true rfl)) dL_law_567 ⟨by omega, by omega⟩) (fun E9 h9 => h9.1 (congrArg Prod.fst ((vP4 hJ' (by omega)).trans (congrArg (fun z => ((0, z, gOf τ') : Nat × Int32 × SG)) ((by rw [hgo]; rfl : bI (mGon τ' P) = 1)))))) (fun r9 h9 => h9.2.trans (congrArg (fun z => z.2.1) ((vP4 hJ' (by omega)).trans (congrArg (fun z => ((0, z, gOf τ') : Nat × Int32 × SG)) ((by rw [hgo]; rfl : bI (mGon τ' P) = 1)))))) ?_
    refine lv_iconst (v := 1) hx hb dL_law_570 (by decide) ?_
    refine lv_icmp_ne (tgt := 613) hx hb dL_law_571 (by decide) (fun c_8 => absurd (by decide) c_8) (fun c_8 => ?_)
    refine lv_aload_n hx hb dL_law_574 rfl (lv_at hl 2 rfl) ?_
    refine lv_iload hx hb dL_law_575 (lv_at hl 12 rfl) ?_
    refine z_callE (x := 1) (vx_runV (As := [.int (nI P)]) (rest := []) ⟨hx, hb, hml, hown, hts⟩ (c_X1_isSound l hf D cI q (gOf τ') hq (nI P) (ok_J hJ') (hz_J hJ')) (cwV 1 hts gL_law_X1_isSound rfl rfl rfl kd_X1_isSound ⟨Nat.le_of_ble_eq_true rfl, Nat.le_of_ble_eq_true rfl⟩) (pV_P (wA_G hP) hK hE hX) rfl rfl hl.1 rfl (lv_room (Nat.le_of_ble_eq_true rfl)) dL_law_577 ⟨by omega, by omega⟩) (fun E9 h9 => h9.1 (congrArg Prod.fst ((vS hJ' (by omega)).trans (congrArg (fun z => ((0, z, gOf τ') : Nat × Bool × SG)) (hs1))))) (fun r9 h9 => h9.2.trans (congrArg (fun z => bI z.2.1) ((vS hJ' (by omega)).trans (congrArg (fun z => ((0, z, gOf τ') : Nat × Bool × SG)) (hs1))))) ?_
    refine lv_if_eq (tgt := 613) hx hb dL_law_580 (by decide) (fun c_9 => absurd c_9 (by decide)) (fun c_9 => ?_)
    refine lv_aload_n hx hb dL_law_583 rfl (lv_at hl 2 rfl) ?_
    refine lv_iload hx hb dL_law_584 (lv_at hl 13 rfl) ?_
    refine z_callE (x := 1) (vx_runV (As := [.int (nI O)]) (rest := []) ⟨hx, hb, hml, hown, hts⟩ (c_X1_isSound l hf D cI q (gOf τ') hq (nI O) (ok_J hJ') (hz_J hJ')) (cwV 1 hts gL_law_X1_isSound rfl rfl rfl kd_X1_isSound ⟨Nat.le_of_ble_eq_true rfl, Nat.le_of_ble_eq_true rfl⟩) (pV_P (wA_G hP) hK hE hX) rfl rfl hl.1 rfl (lv_room (Nat.le_of_ble_eq_true rfl)) dL_law_586 ⟨by omega, by omega⟩) (fun E9 h9 => h9.1 (congrArg Prod.fst ((vS hJ' (by omega)).trans (congrArg (fun z => ((0, z, gOf τ') : Nat × Bool × SG)) (hs2))))) (fun r9 h9 => h9.2.trans (congrArg (fun z => bI z.2.1) ((vS hJ' (by omega)).trans (congrArg (fun z => ((0, z, gOf τ') : Nat × Bool × SG)) (hs2))))) ?_
    refine lv_if_eq (tgt := 613) hx hb dL_law_589 (by decide) (fun c_10 => absurd c_10 (by decide)) (fun c_10 => ?_)
    refine lv_aload_n hx hb dL_law_592 rfl (lv_at hl 2 rfl) ?_
    refine lv_iload hx hb dL_law_593 (lv_at hl 12 rfl) ?_
    refine lv_iconst (v := 0) hx hb dL_law_595 (by decide) ?_
    refine z_callE (x := nI (mHol τ' P)) (vx_runV (As := [.int (nI P), .int 0]) (rest := []) ⟨hx, hb, hml, hown, hts⟩ (c_X1_pallet l hf D cI q (gOf τ') hq (nI P) 0 (ok_J hJ') (hz_J hJ')) (cwV 2 hts gL_law_X1_pallet rfl rfl rfl kd_X1_pallet ⟨Nat.le_of_ble_eq_true rfl, Nat.le_of_ble_eq_true rfl⟩) (pV_P (wA_G hP) hK hE hX) rfl rfl hl.1 rfl (lv_room (Nat.le_of_ble_eq_true rfl)) dL_law_596 ⟨by omega, by omega⟩) (fun E9 h9 => h9.1 (congrArg Prod.fst (vP0 hJ' (by omega)))) (fun r9 h9 => h9.2.trans (congrArg (fun z => z.2.1) (vP0 hJ' (by omega)))) ?_
    refine lv_aload_n hx hb dL_law_599 rfl (lv_at hl 2 rfl) ?_
    refine lv_iload hx hb dL_law_600 (lv_at hl 13 rfl) ?_
    refine lv_iconst (v := 0) hx hb dL_law_602 (by decide) ?_
    refine z_callE (x := nI (mHol τ' O)) (vx_runV (As := [.int (nI O), .int 0]) (rest := [.int (nI (mHol τ' P))]) ⟨hx, hb, hml, hown, hts⟩ (c_X1_pallet l hf D cI q (gOf τ') hq (nI O) 0 (ok_J hJ') (hz_J hJ')) (cwV 2 hts gL_law_X1_pallet rfl rfl rfl kd_X1_pallet ⟨Nat.le_of_ble_eq_true rfl, Nat.le_of_ble_eq_true rfl⟩) (pV_P (wA_G hP) hK hE hX) rfl rfl hl.1 rfl (lv_room (Nat.le_of_ble_eq_true rfl)) dL_law_603 ⟨by omega, by omega⟩) (fun E9 h9 => h9.1 (congrArg Prod.fst (vP0 hJ' (by omega)))) (fun r9 h9 => h9.2.trans (congrArg (fun z => z.2.1) (vP0 hJ' (by omega)))) ?_
    refine lv_icmp_ne (tgt := 613) hx hb dL_law_606 (by decide) (fun c_11 => absurd (congrArg nI hhol) c_11) (fun c_11 => ?_)
    refine lv_iconst (v := 1) hx hb dL_law_609 (by decide) ?_
    refine lv_goto (tgt := 630) hx hb dL_law_610 (by decide) ?_
    refine lv_istore (lv' := [(6, .int 1), (16, .int v), (0, .ref b), (1, .ref (q 0)), (2, .ref (q 12)), (3, .ref (q 13)), (4, .int (nI (mN τ'))), (5, .int ow0), (7, .int (nI TN)), (8, .int (nI t)), (10, .int (nI Y)), (11, .int (nI dd)), (12, .int (nI P)), (13, .int (nI O)), (14, .int (nI G)), (15, .int (nI MO))]) hx hb dL_law_630 hl (by decide) rfl (fun ls hl => ?_)
    refine lv_goto (tgt := 1045) hx hb dL_law_632 (by decide) ?_
    exact kk τ' al sp _ _ _ hJ' hB' hge' (by omega) (by omega) hP hS (lv_sub hl [2, 3, 4, 5, 6, 7, 0, 8, 9, 12, 13] rfl)
set_option maxHeartbeats 4000000 in
set_option maxRecDepth 100000 in
theorem br_move {p : Program} {l : Launch} {e : Env} {s : State} {m : MethodId} {below : List Frame} {meth : Method} {c : Code} {b L : Nat} {xs : Nat → Int32} {D : va_G} {cI : ClassId} {q : Nat → Nat} (hf : l.stackTraces = false) (C0 : LC24 p s m c b L xs D cI q) {τ : SM} {al sp : Nat → Int32} {B : Int} (hJ : J τ al sp) (hB : OW (mOwe τ) B) (hb : B ≤ 80000) {P O G MO Y dd t TN : Nat} {ow0 : Int32} (hP9 : P < mN τ) (hO9 : O < mN τ) (hG : G < 6) (hM1 : 1 ≤ MO) (hM2 : MO ≤ 30) (hY : Y < 2 ^ 27) (hdd : dd < 32) {cells slots : Nat} (hc : cells + 2 ≤ 240) (hs : slots + 12 ≤ 5300) {H : Heap} {locs : List Loc} (hP : va_P D vwCl (wA cI q (gOf τ) al sp) H) (hS : va_S (fun a : Nat => s.heap.size ≤ a) s.heap H locs) {ls : Array Slot} (hl : lv_has ls 20 [(0, .ref b), (1, .ref (q 0)), (2, .ref (q 12)), (3, .ref (q 13)), (4, .int (nI (mN τ))), (5, .int ow0), (6, .int 1), (7, .int (nI TN)), (8, .int (nI t)), (10, .int (nI Y)), (11, .int (nI dd)), (12, .int (nI P)), (13, .int (nI O)), (14, .int (nI G)), (15, .int (nI MO))]) {Q : State → Prop}
    (kk : ∀ (τ' : SM) (al' sp' : Nat → Int32) (H : Heap) (locs : List Loc) (ls : Array Slot), J τ' al' sp' → OW (mOwe τ') (B + 20) → GE (mOwe τ) (mOwe τ') → mN τ ≤ mN τ' → 0 < mN τ' → va_P D vwCl (wA cI q (gOf τ') al' sp') H → va_S (fun a : Nat => s.heap.size ≤ a) s.heap H locs → lv_has ls 20 [(0, .ref b), (1, .ref (q 0)), (2, .ref (q 12)), (3, .ref (q 13)), (4, .int (nI (mN τ'))), (5, .int ow0), (6, .int 1), (7, .int (nI TN)), (8, .int (nI t)), (12, .int (nI P)), (13, .int (nI O))] → W p l e R240 s m #[Value.ref b] below meth c H locs (cells + 1) (slots + 6) Q (F0 m 1045 ls [])) : W p l e R240 s m #[Value.ref b] below meth c H locs (cells) (slots) Q (F0 m 642 ls []) := by
  obtain ⟨hx, hb, hml, hown, hts, hXs, hbl, hq14, hZs, hK, hE, hN, hX0⟩ := id C0
  have hbA : ¬ (fun a : Nat => s.heap.size ≤ a) b := Nat.not_le.mpr hbl
  have hA14 : ∀ a, adQ 14 q a → (fun a : Nat => s.heap.size ≤ a) a := fun a ⟨k, h1, h2⟩ => by rw [h2]; exact hZs k (by omega)
  have hA12 : ∀ a, adQ 12 q a → (fun a : Nat => s.heap.size ≤ a) a := fun a ⟨k, h1, h2⟩ => by rw [h2]; exact hZs k (by omega)
  have hq : ijQ 12 q := ij12 hq14
  have hRc : R240.cells = 240 := rfl
  have hRs : R240.slots = 5300 := rfl
  have hn14 := hJ.1.2.2.2.1
  have hX : EX (adQ 12 q) s H := EX_narrow (EX_kept hX0 hS.2.1) hA12
  refine lv_aload_n hx hb dL_law_642 rfl (lv_at hl 1 rfl) ?_
  refine lv_iload hx hb dL_law_643 (lv_at hl 11 rfl) ?_
  refine lv_iconst (v := 2) hx hb dL_law_645 (by decide) ?_
  refine z_callE (x := wS (mGoo τ) P 6) (vx_runV (As := [.int (nI P), .int 2]) (rest := []) ⟨hx, hb, hml, hown, hts⟩ (c_X1_pallet l hf D cI q (gOf τ) hq (nI P) 2 (ok_J hJ) (hz_J hJ)) (cwV 2 hts gL_law_X1_pallet rfl rfl rfl kd_X1_pallet ⟨Nat.le_of_ble_eq_true rfl, Nat.le_of_ble_eq_true rfl⟩) (pV_P (wA_G hP) hK hE hX) rfl rfl hl.1 rfl (lv_room (Nat.le_of_ble_eq_true rfl)) dL_law_646 ⟨by omega, by omega⟩) (fun E9 h9 => h9.1 (congrArg Prod.fst (vP2 hJ hP9))) (fun r9 h9 => h9.2.trans (congrArg (fun z => z.2.1) (vP2 hJ hP9))) ?_
  refine lv_istore (lv' := [(16, .int (wS (mGoo τ) P 6)), (0, .ref b), (1, .ref (q 0)), (2, .ref (q 12)), (3, .ref (q 13)), (4, .int (nI (mN τ))), (5, .int ow0), (6, .int 1), (7, .int (nI TN)), (8, .int (nI t)), (10, .int (nI Y)), (11, .int (nI dd)), (12, .int (nI P)), (13, .int (nI O)), (14, .int (nI G)), (15, .int (nI MO))]) hx hb dL_law_649 hl (by decide) rfl (fun ls hl => ?_)
  refine lv_aload_n hx hb dL_law_651 rfl (lv_at hl 2 rfl) ?_
  refine lv_iconst (v := 4) hx hb dL_law_652 (by decide) ?_
  refine lv_iload hx hb dL_law_653 (lv_at hl 12 rfl) ?_
  refine lv_iload hx hb dL_law_655 (lv_at hl 14 rfl) ?_
  refine lv_iconst (v := 0) hx hb dL_law_657 (by decide) ?_
  refine w_call (vx_runSW (As := [.ref (q 0), .int 4, .int (nI P), .int (nI G), .int 0]) (rest := []) ⟨hx, hb, hml, hown, hts⟩ (c_L_ask_move l hf D cI q hq (gOf τ) (ok_J hJ) (hz_J hJ) (nI P) (nI G) 0) (vx_cwSW 5 hts gL_law_L_ask rfl rfl rfl kn_L_ask ⟨Nat.le_of_ble_eq_true rfl, Nat.le_of_ble_eq_true rfl⟩) (pS_Q (wA_G hP) hK hE hX hN) rfl rfl hl.1 rfl (lv_room (Nat.le_of_ble_eq_true rfl)) dL_law_658 ⟨by omega, by omega⟩) hS hA12 (fun v H1 l1 hv hz9 hk9 hS => ?_)
  obtain ⟨rfl, hP1⟩ := hv
  rcases j_move hJ hB (by omega) hP9 hG with ec | ⟨τ', ec, ⟨hJ', hB', hge'⟩, hn', hhol⟩
  · skip
    rw [ec] at hP1 ⊢
    have hP := wA_call hq14 hP hP1 hk9
    clear hP1
    generalize H1 = H at *
    have hX : EX (adQ 12 q) s H := EX_narrow (EX_kept hX0 hS.2.1) hA12
    refine lv_topE (y := (-1013)) (rfl) ?_
    refine lv_istore (lv' := [(17, .int ((-1013))), (16, .int (wS (mGoo τ) P 6)), (0, .ref b), (1, .ref (q 0)), (2, .ref (q 12)), (3, .ref (q 13)), (4, .int (nI (mN τ))), (5, .int ow0), (6, .int 1), (7, .int (nI TN)), (8, .int (nI t)), (10, .int (nI Y)), (11, .int (nI dd)), (12, .int (nI P)), (13, .int (nI O)), (14, .int (nI G)), (15, .int (nI MO))]) hx hb dL_law_661 hl (by decide) rfl (fun ls hl => ?_)
    refine lv_iload hx hb dL_law_663 (lv_at hl 0 rfl) ?_
    refine lv_if_lt (tgt := 695) hx hb dL_law_665 (by decide) (fun c_1 => ?_) (fun c_1 => absurd (by decide) c_1)
    refine lv_iload hx hb dL_law_695 (lv_at hl 0 rfl) ?_
    refine lv_sipush (v := (-1013)) hx hb dL_law_697 (by decide) ?_
    refine lv_icmp_ne (tgt := 707) hx hb dL_law_700 (by decide) (fun c_2 => absurd (by decide) c_2) (fun c_2 => ?_)
    refine lv_iconst (v := 1) hx hb dL_law_703 (by decide) ?_
    refine lv_goto (tgt := 708) hx hb dL_law_704 (by decide) ?_
    refine lv_istore (lv' := [(6, .int 1), (17, .int ((-1013))), (16, .int (wS (mGoo τ) P 6)), (0, .ref b), (1, .ref (q 0)), (2, .ref (q 12)), (3, .ref (q 13)), (4, .int (nI (mN τ))), (5, .int ow0), (7, .int (nI TN)), (8, .int (nI t)), (10, .int (nI Y)), (11, .int (nI dd)), (12, .int (nI P)), (13, .int (nI O)), (14, .int (nI G)), (15, .int (nI MO))]) hx hb dL_law_708 hl (by decide) rfl (fun ls hl => ?_)
    refine lv_goto (tgt := 1045) hx hb dL_law_710 (by decide) ?_
    exact kk τ al sp _ _ _ hJ (ow_le hB (by omega)) ge_rf (Nat.le_refl _) (by omega) hP hS (lv_sub hl [3, 4, 5, 6, 7, 8, 0, 9, 10, 13, 14] rfl)
  · skip
    rw [ec] at hP1 ⊢
    have hP := wA_call hq14 hP hP1 hk9
    clear hP1
    generalize H1 = H at *
    have hX : EX (adQ 12 q) s H := EX_narrow (EX_kept hX0 hS.2.1) hA12
    refine lv_topE (y := wS (mGoo τ) P 6) (rfl) ?_
    have hw0 : ¬ wS (mGoo τ) P 6 < 0 := by rw [Int32.lt_iff_toInt_lt, wS_int hJ.1.2.1.1, show (0 : Int32).toInt = 0 by decide]; have := w6_b hJ.1.2.1.1 P; omega
    have hl : lv_has ls 20 [(16, .int (wS (mGoo τ) P 6)), (0, .ref b), (1, .ref (q 0)), (2, .ref (q 12)), (3, .ref (q 13)), (4, .int (nI (mN τ'))), (5, .int ow0), (6, .int 1), (7, .int (nI TN)), (8, .int (nI t)), (10, .int (nI Y)), (11, .int (nI dd)), (12, .int (nI P)), (13, .int (nI O)), (14, .int (nI G)), (15, .int (nI MO))] := by rw [hn']; exact hl
    refine lv_istore (lv' := [(17, .int (wS (mGoo τ) P 6)), (16, .int (wS (mGoo τ) P 6)), (0, .ref b), (1, .ref (q 0)), (2, .ref (q 12)), (3, .ref (q 13)), (4, .int (nI (mN τ'))), (5, .int ow0), (6, .int 1), (7, .int (nI TN)), (8, .int (nI t)), (10, .int (nI Y)), (11, .int (nI dd)), (12, .int (nI P)), (13, .int (nI O)), (14, .int (nI G)), (15, .int (nI MO))]) hx hb dL_law_661 hl (by decide) rfl (fun ls hl => ?_)
    refine lv_iload hx hb dL_law_663 (lv_at hl 0 rfl) ?_
    refine lv_if_lt (tgt := 695) hx hb dL_law_665 (by decide) (fun c_3 => absurd c_3 (hw0)) (fun c_3 => ?_)
    refine lv_iload hx hb dL_law_668 (lv_at hl 0 rfl) ?_
    refine lv_iload hx hb dL_law_670 (lv_at hl 1 rfl) ?_
    refine lv_icmp_ne (tgt := 691) hx hb dL_law_672 (by decide) (fun c_4 => absurd (rfl) c_4) (fun c_4 => ?_)
    refine lv_aload_n hx hb dL_law_675 rfl (lv_at hl 3 rfl) ?_
    refine lv_iload hx hb dL_law_676 (lv_at hl 13 rfl) ?_
    refine lv_iconst (v := 0) hx hb dL_law_678 (by decide) ?_
    refine z_callE (x := nI G) (vx_runV (As := [.int (nI P), .int 0]) (rest := []) ⟨hx, hb, hml, hown, hts⟩ (c_X1_pallet l hf D cI q (gOf τ') hq (nI P) 0 (ok_J hJ') (hz_J hJ')) (cwV 2 hts gL_law_X1_pallet rfl rfl rfl kd_X1_pallet ⟨Nat.le_of_ble_eq_true rfl, Nat.le_of_ble_eq_true rfl⟩) (pV_P (wA_G hP) hK hE hX) rfl rfl hl.1 rfl (lv_room (Nat.le_of_ble_eq_true rfl)) dL_law_679 ⟨by omega, by omega⟩) (fun E9 h9 => h9.1 (congrArg Prod.fst ((vP0 hJ' (by omega)).trans (congrArg (fun z => ((0, z, gOf τ') : Nat × Int32 × SG)) ((by rw [hhol] : nI (mHol τ' P) = nI G)))))) (fun r9 h9 => h9.2.trans (congrArg (fun z => z.2.1) ((vP0 hJ' (by omega)).trans (congrArg (fun z => ((0, z, gOf τ') : Nat × Int32 × SG)) ((by rw [hhol] : nI (mHol τ' P) = nI G)))))) ?_
    refine lv_iload hx hb dL_law_682 (lv_at hl 15 rfl) ?_
    refine neN G G (tgt := 691) hx hb rfl rfl (by omega) (by omega) dL_law_684 (by decide) (fun c_5 => absurd c_5 (by omega)) (fun c_5 => ?_)
    refine lv_iconst (v := 1) hx hb dL_law_687 (by decide) ?_
    refine lv_goto (tgt := 708) hx hb dL_law_688 (by decide) ?_
    refine lv_istore (lv' := [(6, .int 1), (17, .int (wS (mGoo τ) P 6)), (16, .int (wS (mGoo τ) P 6)), (0, .ref b), (1, .ref (q 0)), (2, .ref (q 12)), (3, .ref (q 13)), (4, .int (nI (mN τ'))), (5, .int ow0), (7, .int (nI TN)), (8, .int (nI t)), (10, .int (nI Y)), (11, .int (nI dd)), (12, .int (nI P)), (13, .int (nI O)), (14, .int (nI G)), (15, .int (nI MO))]) hx hb dL_law_708 hl (by decide) rfl (fun ls hl => ?_)
    refine lv_goto (tgt := 1045) hx hb dL_law_710 (by decide) ?_
    exact kk τ' al sp _ _ _ hJ' hB' hge' (by omega) (by omega) hP hS (lv_sub hl [3, 4, 5, 6, 7, 8, 0, 9, 10, 13, 14] rfl)
set_option maxHeartbeats 4000000 in
set_option maxRecDepth 100000 in
theorem br_hold {p : Program} {l : Launch} {e : Env} {s : State} {m : MethodId} {below : List Frame} {meth : Method} {c : Code} {b L : Nat} {xs : Nat → Int32} {D : va_G} {cI : ClassId} {q : Nat → Nat} (hf : l.stackTraces = false) (C0 : LC24 p s m c b L xs D cI q) {τ : SM} {al sp : Nat → Int32} {B : Int} (hJ : J τ al sp) (hB : OW (mOwe τ) B) (hb : B ≤ 80000) {P O G MO Y dd t TN : Nat} {ow0 : Int32} (hP9 : P < mN τ) (hO9 : O < mN τ) (hG : G < 6) (hM1 : 1 ≤ MO) (hM2 : MO ≤ 30) (hY : Y < 2 ^ 27) (hdd : dd < 32) {cells slots : Nat} (hc : cells + 2 ≤ 240) (hs : slots + 12 ≤ 5300) {H : Heap} {locs : List Loc} (hP : va_P D vwCl (wA cI q (gOf τ) al sp) H) (hS : va_S (fun a : Nat => s.heap.size ≤ a) s.heap H locs) {ls : Array Slot} (hl : lv_has ls 20 [(0, .ref b), (1, .ref (q 0)), (2, .ref (q 12)), (3, .ref (q 13)), (4, .int (nI (mN τ))), (5, .int ow0), (6, .int 1), (7, .int (nI TN)), (8, .int (nI t)), (10, .int (nI Y)), (11, .int (nI dd)), (12, .int (nI P)), (13, .int (nI O)), (14, .int (nI G)), (15, .int (nI MO))]) {Q : State → Prop}
    (kk : ∀ (τ' : SM) (al' sp' : Nat → Int32) (H : Heap) (locs : List Loc) (ls : Array Slot), J τ' al' sp' → OW (mOwe τ') (B + 20) → GE (mOwe τ) (mOwe τ') → mN τ ≤ mN τ' → 0 < mN τ' → va_P D vwCl (wA cI q (gOf τ') al' sp') H → va_S (fun a : Nat => s.heap.size ≤ a) s.heap H locs → lv_has ls 20 [(0, .ref b), (1, .ref (q 0)), (2, .ref (q 12)), (3, .ref (q 13)), (4, .int (nI (mN τ'))), (5, .int ow0), (6, .int 1), (7, .int (nI TN)), (8, .int (nI t)), (12, .int (nI P)), (13, .int (nI O))] → W p l e R240 s m #[Value.ref b] below meth c H locs (cells + 1) (slots + 6) Q (F0 m 1045 ls [])) : W p l e R240 s m #[Value.ref b] below meth c H locs (cells) (slots) Q (F0 m 720 ls []) := by
  obtain ⟨hx, hb, hml, hown, hts, hXs, hbl, hq14, hZs, hK, hE, hN, hX0⟩ := id C0
  have hbA : ¬ (fun a : Nat => s.heap.size ≤ a) b := Nat.not_le.mpr hbl
  have hA14 : ∀ a, adQ 14 q a → (fun a : Nat => s.heap.size ≤ a) a := fun a ⟨k, h1, h2⟩ => by rw [h2]; exact hZs k (by omega)
  have hA12 : ∀ a, adQ 12 q a → (fun a : Nat => s.heap.size ≤ a) a := fun a ⟨k, h1, h2⟩ => by rw [h2]; exact hZs k (by omega)
  have hq : ijQ 12 q := ij12 hq14
  have hRc : R240.cells = 240 := rfl
  have hRs : R240.slots = 5300 := rfl
  have hn14 := hJ.1.2.2.2.1
  have hX : EX (adQ 12 q) s H := EX_narrow (EX_kept hX0 hS.2.1) hA12
  have hhe : mHel τ P = true ∨ mHel τ P = false := by cases mHel τ P <;> simp
  rcases hhe with hh | hh
  · skip
    refine lv_aload_n hx hb dL_law_720 rfl (lv_at hl 1 rfl) ?_
    refine lv_iload hx hb dL_law_721 (lv_at hl 11 rfl) ?_
    refine lv_iconst (v := 3) hx hb dL_law_723 (by decide) ?_
    refine z_callE (x := 1) (vx_runV (As := [.int (nI P), .int 3]) (rest := []) ⟨hx, hb, hml, hown, hts⟩ (c_X1_pallet l hf D cI q (gOf τ) hq (nI P) 3 (ok_J hJ) (hz_J hJ)) (cwV 2 hts gL_law_X1_pallet rfl rfl rfl kd_X1_pallet ⟨Nat.le_of_ble_eq_true rfl, Nat.le_of_ble_eq_true rfl⟩) (pV_P (wA_G hP) hK hE hX) rfl rfl hl.1 rfl (lv_room (Nat.le_of_ble_eq_true rfl)) dL_law_724 ⟨by omega, by omega⟩) (fun E9 h9 => h9.1 (congrArg Prod.fst ((vP3 hJ hP9).trans (congrArg (fun z => ((0, z, gOf τ) : Nat × Int32 × SG)) ((by rw [hh]; rfl : bI (mHel τ P) = 1)))))) (fun r9 h9 => h9.2.trans (congrArg (fun z => z.2.1) ((vP3 hJ hP9).trans (congrArg (fun z => ((0, z, gOf τ) : Nat × Int32 × SG)) ((by rw [hh]; rfl : bI (mHel τ P) = 1)))))) ?_
    refine lv_iconst (v := 1) hx hb dL_law_727 (by decide) ?_
    refine lv_icmp_ne (tgt := 735) hx hb dL_law_728 (by decide) (fun c_1 => absurd (by decide) c_1) (fun c_1 => ?_)
    refine lv_iconst (v := 1) hx hb dL_law_731 (by decide) ?_
    refine lv_goto (tgt := 736) hx hb dL_law_732 (by decide) ?_
    refine lv_istore (lv' := [(16, .int 1), (0, .ref b), (1, .ref (q 0)), (2, .ref (q 12)), (3, .ref (q 13)), (4, .int (nI (mN τ))), (5, .int ow0), (6, .int 1), (7, .int (nI TN)), (8, .int (nI t)), (10, .int (nI Y)), (11, .int (nI dd)), (12, .int (nI P)), (13, .int (nI O)), (14, .int (nI G)), (15, .int (nI MO))]) hx hb dL_law_736 hl (by decide) rfl (fun ls hl => ?_)
    refine lv_aload_n hx hb dL_law_738 rfl (lv_at hl 2 rfl) ?_
    refine lv_iconst (v := 5) hx hb dL_law_739 (by decide) ?_
    refine lv_iload hx hb dL_law_740 (lv_at hl 12 rfl) ?_
    refine lv_iconst (v := 0) hx hb dL_law_742 (by decide) ?_
    refine lv_iconst (v := 0) hx hb dL_law_743 (by decide) ?_
    refine w_call (vx_runSW (As := [.ref (q 0), .int 5, .int (nI P), .int 0, .int 0]) (rest := []) ⟨hx, hb, hml, hown, hts⟩ (c_L_ask_hold l hf D cI q hq (gOf τ) (ok_J hJ) (hz_J hJ) (nI P) 0 0) (vx_cwSW 5 hts gL_law_L_ask rfl rfl rfl kn_L_ask ⟨Nat.le_of_ble_eq_true rfl, Nat.le_of_ble_eq_true rfl⟩) (pS_Q (wA_G hP) hK hE hX hN) rfl rfl hl.1 rfl (lv_room (Nat.le_of_ble_eq_true rfl)) dL_law_744 ⟨by omega, by omega⟩) hS hA12 (fun v H1 l1 hv hz9 hk9 hS => ?_)
    obtain ⟨rfl, hP1⟩ := hv
    rcases j_hold hJ hB (by omega) hP9 with ⟨hgm, ec⟩ | ⟨τ', ec, ⟨hJ', hB', hge'⟩, hn'⟩
    · skip
      rw [ec] at hP1 ⊢
      have hP := wA_call hq14 hP hP1 hk9
      clear hP1
      generalize H1 = H at *
      have hX : EX (adQ 12 q) s H := EX_narrow (EX_kept hX0 hS.2.1) hA12
      refine lv_topE (y := (-1013)) (rfl) ?_
      have hg2 : mGon τ P = true ∨ (mGon τ P = false ∧ mMan τ P = 30) := by cases hq9 : mGon τ P <;> simp_all
      rcases hg2 with hg | ⟨hg, hm30⟩
      · skip
        refine lv_istore (lv' := [(17, .int ((-1013))), (16, .int 1), (0, .ref b), (1, .ref (q 0)), (2, .ref (q 12)), (3, .ref (q 13)), (4, .int (nI (mN τ))), (5, .int ow0), (6, .int 1), (7, .int (nI TN)), (8, .int (nI t)), (10, .int (nI Y)), (11, .int (nI dd)), (12, .int (nI P)), (13, .int (nI O)), (14, .int (nI G)), (15, .int (nI MO))]) hx hb dL_law_747 hl (by decide) rfl (fun ls hl => ?_)
        refine lv_iload hx hb dL_law_749 (lv_at hl 0 rfl) ?_
        refine lv_if_ge (tgt := 793) hx hb dL_law_751 (by decide) (fun c_2 => absurd c_2 (by decide)) (fun c_2 => ?_)
        refine lv_iload hx hb dL_law_754 (lv_at hl 0 rfl) ?_
        refine lv_sipush (v := (-1013)) hx hb dL_law_756 (by decide) ?_
        refine lv_icmp_ne (tgt := 789) hx hb dL_law_759 (by decide) (fun c_3 => absurd (by decide) c_3) (fun c_3 => ?_)
        refine lv_aload_n hx hb dL_law_762 rfl (lv_at hl 3 rfl) ?_
        refine lv_iload hx hb dL_law_763 (lv_at hl 13 rfl) ?_
        refine lv_iconst (v := 4) hx hb dL_law_765 (by decide) ?_
        refine z_callE (x := 1) (vx_runV (As := [.int (nI P), .int 4]) (rest := []) ⟨hx, hb, hml, hown, hts⟩ (c_X1_pallet l hf D cI q (gOf τ) hq (nI P) 4 (ok_J hJ) (hz_J hJ)) (cwV 2 hts gL_law_X1_pallet rfl rfl rfl kd_X1_pallet ⟨Nat.le_of_ble_eq_true rfl, Nat.le_of_ble_eq_true rfl⟩) (pV_P (wA_G hP) hK hE hX) rfl rfl hl.1 rfl (lv_room (Nat.le_of_ble_eq_true rfl)) dL_law_766 ⟨by omega, by omega⟩) (fun E9 h9 => h9.1 (congrArg Prod.fst ((vP4 hJ hP9).trans (congrArg (fun z => ((0, z, gOf τ) : Nat × Int32 × SG)) ((by rw [hg]; rfl : bI (mGon τ P) = 1)))))) (fun r9 h9 => h9.2.trans (congrArg (fun z => z.2.1) ((vP4 hJ hP9).trans (congrArg (fun z => ((0, z, gOf τ) : Nat × Int32 × SG)) ((by rw [hg]; rfl : bI (mGon τ P) = 1)))))) ?_
        refine lv_iconst (v := 1) hx hb dL_law_769 (by decide) ?_
        refine lv_icmp_eq (tgt := 785) hx hb dL_law_770 (by decide) (fun c_4 => ?_) (fun c_4 => absurd (by decide) c_4)
        refine lv_iconst (v := 1) hx hb dL_law_785 (by decide) ?_
        refine lv_goto (tgt := 822) hx hb dL_law_786 (by decide) ?_
        refine lv_istore (lv' := [(6, .int 1), (17, .int ((-1013))), (16, .int 1), (0, .ref b), (1, .ref (q 0)), (2, .ref (q 12)), (3, .ref (q 13)), (4, .int (nI (mN τ))), (5, .int ow0), (7, .int (nI TN)), (8, .int (nI t)), (10, .int (nI Y)), (11, .int (nI dd)), (12, .int (nI P)), (13, .int (nI O)), (14, .int (nI G)), (15, .int (nI MO))]) hx hb dL_law_822 hl (by decide) rfl (fun ls hl => ?_)
        refine lv_goto (tgt := 1045) hx hb dL_law_824 (by decide) ?_
        exact kk τ al sp _ _ _ hJ (ow_le hB (by omega)) ge_rf (Nat.le_refl _) (by omega) hP hS (lv_sub hl [3, 4, 5, 6, 7, 8, 0, 9, 10, 13, 14] rfl)
      · skip
        refine lv_istore (lv' := [(17, .int ((-1013))), (16, .int 1), (0, .ref b), (1, .ref (q 0)), (2, .ref (q 12)), (3, .ref (q 13)), (4, .int (nI (mN τ))), (5, .int ow0), (6, .int 1), (7, .int (nI TN)), (8, .int (nI t)), (10, .int (nI Y)), (11, .int (nI dd)), (12, .int (nI P)), (13, .int (nI O)), (14, .int (nI G)), (15, .int (nI MO))]) hx hb dL_law_747 hl (by decide) rfl (fun ls hl => ?_)
        refine lv_iload hx hb dL_law_749 (lv_at hl 0 rfl) ?_
        refine lv_if_ge (tgt := 793) hx hb dL_law_751 (by decide) (fun c_5 => absurd c_5 (by decide)) (fun c_5 => ?_)
        refine lv_iload hx hb dL_law_754 (lv_at hl 0 rfl) ?_
        refine lv_sipush (v := (-1013)) hx hb dL_law_756 (by decide) ?_
        refine lv_icmp_ne (tgt := 789) hx hb dL_law_759 (by decide) (fun c_6 => absurd (by decide) c_6) (fun c_6 => ?_)
        refine lv_aload_n hx hb dL_law_762 rfl (lv_at hl 3 rfl) ?_
        refine lv_iload hx hb dL_law_763 (lv_at hl 13 rfl) ?_
        refine lv_iconst (v := 4) hx hb dL_law_765 (by decide) ?_
        refine z_callE (x := 0) (vx_runV (As := [.int (nI P), .int 4]) (rest := []) ⟨hx, hb, hml, hown, hts⟩ (c_X1_pallet l hf D cI q (gOf τ) hq (nI P) 4 (ok_J hJ) (hz_J hJ)) (cwV 2 hts gL_law_X1_pallet rfl rfl rfl kd_X1_pallet ⟨Nat.le_of_ble_eq_true rfl, Nat.le_of_ble_eq_true rfl⟩) (pV_P (wA_G hP) hK hE hX) rfl rfl hl.1 rfl (lv_room (Nat.le_of_ble_eq_true rfl)) dL_law_766 ⟨by omega, by omega⟩) (fun E9 h9 => h9.1 (congrArg Prod.fst ((vP4 hJ hP9).trans (congrArg (fun z => ((0, z, gOf τ) : Nat × Int32 × SG)) ((by rw [hg]; rfl : bI (mGon τ P) = 0)))))) (fun r9 h9 => h9.2.trans (congrArg (fun z => z.2.1) ((vP4 hJ hP9).trans (congrArg (fun z => ((0, z, gOf τ) : Nat × Int32 × SG)) ((by rw [hg]; rfl : bI (mGon τ P) = 0)))))) ?_
        refine lv_iconst (v := 1) hx hb dL_law_769 (by decide) ?_
        refine lv_icmp_eq (tgt := 785) hx hb dL_law_770 (by decide) (fun c_7 => absurd c_7 (by decide)) (fun c_7 => ?_)
        refine lv_aload_n hx hb dL_law_773 rfl (lv_at hl 3 rfl) ?_
        refine lv_iload hx hb dL_law_774 (lv_at hl 13 rfl) ?_
        refine lv_iconst (v := 1) hx hb dL_law_776 (by decide) ?_
        refine z_callE (x := 30) (vx_runV (As := [.int (nI P), .int 1]) (rest := []) ⟨hx, hb, hml, hown, hts⟩ (c_X1_pallet l hf D cI q (gOf τ) hq (nI P) 1 (ok_J hJ) (hz_J hJ)) (cwV 2 hts gL_law_X1_pallet rfl rfl rfl kd_X1_pallet ⟨Nat.le_of_ble_eq_true rfl, Nat.le_of_ble_eq_true rfl⟩) (pV_P (wA_G hP) hK hE hX) rfl rfl hl.1 rfl (lv_room (Nat.le_of_ble_eq_true rfl)) dL_law_777 ⟨by omega, by omega⟩) (fun E9 h9 => h9.1 (congrArg Prod.fst ((vP1 hJ hP9).trans (congrArg (fun z => ((0, z, gOf τ) : Nat × Int32 × SG)) ((by rw [hm30]; rfl : nI (mMan τ P) = 30)))))) (fun r9 h9 => h9.2.trans (congrArg (fun z => z.2.1) ((vP1 hJ hP9).trans (congrArg (fun z => ((0, z, gOf τ) : Nat × Int32 × SG)) ((by rw [hm30]; rfl : nI (mMan τ P) = 30)))))) ?_
        refine lv_bipush (v := 30) hx hb dL_law_780 (by decide) ?_
        refine lv_icmp_ne (tgt := 789) hx hb dL_law_782 (by decide) (fun c_8 => absurd (by decide) c_8) (fun c_8 => ?_)
        refine lv_iconst (v := 1) hx hb dL_law_785 (by decide) ?_
        refine lv_goto (tgt := 822) hx hb dL_law_786 (by decide) ?_
        refine lv_istore (lv' := [(6, .int 1), (17, .int ((-1013))), (16, .int 1), (0, .ref b), (1, .ref (q 0)), (2, .ref (q 12)), (3, .ref (q 13)), (4, .int (nI (mN τ))), (5, .int ow0), (7, .int (nI TN)), (8, .int (nI t)), (10, .int (nI Y)), (11, .int (nI dd)), (12, .int (nI P)), (13, .int (nI O)), (14, .int (nI G)), (15, .int (nI MO))]) hx hb dL_law_822 hl (by decide) rfl (fun ls hl => ?_)
        refine lv_goto (tgt := 1045) hx hb dL_law_824 (by decide) ?_
        exact kk τ al sp _ _ _ hJ (ow_le hB (by omega)) ge_rf (Nat.le_refl _) (by omega) hP hS (lv_sub hl [3, 4, 5, 6, 7, 8, 0, 9, 10, 13, 14] rfl)
    · skip
      rw [ec] at hP1 ⊢
      have hP := wA_call hq14 hP hP1 hk9
      clear hP1
      generalize H1 = H at *
      have hX : EX (adQ 12 q) s H := EX_narrow (EX_kept hX0 hS.2.1) hA12
      refine lv_topE (y := 0) (by rw [hh]; rfl) ?_
      have hl : lv_has ls 20 [(16, .int 1), (0, .ref b), (1, .ref (q 0)), (2, .ref (q 12)), (3, .ref (q 13)), (4, .int (nI (mN τ'))), (5, .int ow0), (6, .int 1), (7, .int (nI TN)), (8, .int (nI t)), (10, .int (nI Y)), (11, .int (nI dd)), (12, .int (nI P)), (13, .int (nI O)), (14, .int (nI G)), (15, .int (nI MO))] := by rw [hn']; exact hl
      refine lv_istore (lv' := [(17, .int 0), (16, .int 1), (0, .ref b), (1, .ref (q 0)), (2, .ref (q 12)), (3, .ref (q 13)), (4, .int (nI (mN τ'))), (5, .int ow0), (6, .int 1), (7, .int (nI TN)), (8, .int (nI t)), (10, .int (nI Y)), (11, .int (nI dd)), (12, .int (nI P)), (13, .int (nI O)), (14, .int (nI G)), (15, .int (nI MO))]) hx hb dL_law_747 hl (by decide) rfl (fun ls hl => ?_)
      refine lv_iload hx hb dL_law_749 (lv_at hl 0 rfl) ?_
      refine lv_if_ge (tgt := 793) hx hb dL_law_751 (by decide) (fun c_9 => ?_) (fun c_9 => absurd (by decide) c_9)
      refine lv_iload hx hb dL_law_793 (lv_at hl 0 rfl) ?_
      refine lv_iconst (v := 1) hx hb dL_law_795 (by decide) ?_
      refine lv_icmp_ne (tgt := 803) hx hb dL_law_796 (by decide) (fun c_10 => ?_) (fun c_10 => absurd c_10 (by decide))
      refine lv_iconst (v := 0) hx hb dL_law_803 (by decide) ?_
      refine lv_iload hx hb dL_law_804 (lv_at hl 1 rfl) ?_
      refine lv_if_ne (tgt := 813) hx hb dL_law_806 (by decide) (fun c_11 => ?_) (fun c_11 => absurd c_11 (by decide))
      refine lv_iconst (v := 0) hx hb dL_law_813 (by decide) ?_
      refine lv_icmp_ne (tgt := 821) hx hb dL_law_814 (by decide) (fun c_12 => absurd (by decide) c_12) (fun c_12 => ?_)
      refine lv_iconst (v := 1) hx hb dL_law_817 (by decide) ?_
      refine lv_goto (tgt := 822) hx hb dL_law_818 (by decide) ?_
      refine lv_istore (lv' := [(6, .int 1), (17, .int 0), (16, .int 1), (0, .ref b), (1, .ref (q 0)), (2, .ref (q 12)), (3, .ref (q 13)), (4, .int (nI (mN τ'))), (5, .int ow0), (7, .int (nI TN)), (8, .int (nI t)), (10, .int (nI Y)), (11, .int (nI dd)), (12, .int (nI P)), (13, .int (nI O)), (14, .int (nI G)), (15, .int (nI MO))]) hx hb dL_law_822 hl (by decide) rfl (fun ls hl => ?_)
      refine lv_goto (tgt := 1045) hx hb dL_law_824 (by decide) ?_
      exact kk τ' al sp _ _ _ hJ' hB' hge' (by omega) (by omega) hP hS (lv_sub hl [3, 4, 5, 6, 7, 8, 0, 9, 10, 13, 14] rfl)
  · skip
    refine lv_aload_n hx hb dL_law_720 rfl (lv_at hl 1 rfl) ?_
    refine lv_iload hx hb dL_law_721 (lv_at hl 11 rfl) ?_
    refine lv_iconst (v := 3) hx hb dL_law_723 (by decide) ?_
    refine z_callE (x := 0) (vx_runV (As := [.int (nI P), .int 3]) (rest := []) ⟨hx, hb, hml, hown, hts⟩ (c_X1_pallet l hf D cI q (gOf τ) hq (nI P) 3 (ok_J hJ) (hz_J hJ)) (cwV 2 hts gL_law_X1_pallet rfl rfl rfl kd_X1_pallet ⟨Nat.le_of_ble_eq_true rfl, Nat.le_of_ble_eq_true rfl⟩) (pV_P (wA_G hP) hK hE hX) rfl rfl hl.1 rfl (lv_room (Nat.le_of_ble_eq_true rfl)) dL_law_724 ⟨by omega, by omega⟩) (fun E9 h9 => h9.1 (congrArg Prod.fst ((vP3 hJ hP9).trans (congrArg (fun z => ((0, z, gOf τ) : Nat × Int32 × SG)) ((by rw [hh]; rfl : bI (mHel τ P) = 0)))))) (fun r9 h9 => h9.2.trans (congrArg (fun z => z.2.1) ((vP3 hJ hP9).trans (congrArg (fun z => ((0, z, gOf τ) : Nat × Int32 × SG)) ((by rw [hh]; rfl : bI (mHel τ P) = 0)))))) ?_
    refine lv_iconst (v := 1) hx hb dL_law_727 (by decide) ?_
    refine lv_icmp_ne (tgt := 735) hx hb dL_law_728 (by decide) (fun c_13 => ?_) (fun c_13 => absurd c_13 (by decide))
    refine lv_iconst (v := 0) hx hb dL_law_735 (by decide) ?_
    refine lv_istore (lv' := [(16, .int 0), (0, .ref b), (1, .ref (q 0)), (2, .ref (q 12)), (3, .ref (q 13)), (4, .int (nI (mN τ))), (5, .int ow0), (6, .int 1), (7, .int (nI TN)), (8, .int (nI t)), (10, .int (nI Y)), (11, .int (nI dd)), (12, .int (nI P)), (13, .int (nI O)), (14, .int (nI G)), (15, .int (nI MO))]) hx hb dL_law_736 hl (by decide) rfl (fun ls hl => ?_)
    refine lv_aload_n hx hb dL_law_738 rfl (lv_at hl 2 rfl) ?_
    refine lv_iconst (v := 5) hx hb dL_law_739 (by decide) ?_
    refine lv_iload hx hb dL_law_740 (lv_at hl 12 rfl) ?_
    refine lv_iconst (v := 0) hx hb dL_law_742 (by decide) ?_
    refine lv_iconst (v := 0) hx hb dL_law_743 (by decide) ?_
    refine w_call (vx_runSW (As := [.ref (q 0), .int 5, .int (nI P), .int 0, .int 0]) (rest := []) ⟨hx, hb, hml, hown, hts⟩ (c_L_ask_hold l hf D cI q hq (gOf τ) (ok_J hJ) (hz_J hJ) (nI P) 0 0) (vx_cwSW 5 hts gL_law_L_ask rfl rfl rfl kn_L_ask ⟨Nat.le_of_ble_eq_true rfl, Nat.le_of_ble_eq_true rfl⟩) (pS_Q (wA_G hP) hK hE hX hN) rfl rfl hl.1 rfl (lv_room (Nat.le_of_ble_eq_true rfl)) dL_law_744 ⟨by omega, by omega⟩) hS hA12 (fun v H1 l1 hv hz9 hk9 hS => ?_)
    obtain ⟨rfl, hP1⟩ := hv
    rcases j_hold hJ hB (by omega) hP9 with ⟨hgm, ec⟩ | ⟨τ', ec, ⟨hJ', hB', hge'⟩, hn'⟩
    · skip
      rw [ec] at hP1 ⊢
      have hP := wA_call hq14 hP hP1 hk9
      clear hP1
      generalize H1 = H at *
      have hX : EX (adQ 12 q) s H := EX_narrow (EX_kept hX0 hS.2.1) hA12
      refine lv_topE (y := (-1013)) (rfl) ?_
      have hg2 : mGon τ P = true ∨ (mGon τ P = false ∧ mMan τ P = 30) := by cases hq9 : mGon τ P <;> simp_all
      rcases hg2 with hg | ⟨hg, hm30⟩
      · skip
        refine lv_istore (lv' := [(17, .int ((-1013))), (16, .int 0), (0, .ref b), (1, .ref (q 0)), (2, .ref (q 12)), (3, .ref (q 13)), (4, .int (nI (mN τ))), (5, .int ow0), (6, .int 1), (7, .int (nI TN)), (8, .int (nI t)), (10, .int (nI Y)), (11, .int (nI dd)), (12, .int (nI P)), (13, .int (nI O)), (14, .int (nI G)), (15, .int (nI MO))]) hx hb dL_law_747 hl (by decide) rfl (fun ls hl => ?_)
        refine lv_iload hx hb dL_law_749 (lv_at hl 0 rfl) ?_
        refine lv_if_ge (tgt := 793) hx hb dL_law_751 (by decide) (fun c_14 => absurd c_14 (by decide)) (fun c_14 => ?_)
        refine lv_iload hx hb dL_law_754 (lv_at hl 0 rfl) ?_
        refine lv_sipush (v := (-1013)) hx hb dL_law_756 (by decide) ?_
        refine lv_icmp_ne (tgt := 789) hx hb dL_law_759 (by decide) (fun c_15 => absurd (by decide) c_15) (fun c_15 => ?_)
        refine lv_aload_n hx hb dL_law_762 rfl (lv_at hl 3 rfl) ?_
        refine lv_iload hx hb dL_law_763 (lv_at hl 13 rfl) ?_
        refine lv_iconst (v := 4) hx hb dL_law_765 (by decide) ?_
        refine z_callE (x := 1) (vx_runV (As := [.int (nI P), .int 4]) (rest := []) ⟨hx, hb, hml, hown, hts⟩ (c_X1_pallet l hf D cI q (gOf τ) hq (nI P) 4 (ok_J hJ) (hz_J hJ)) (cwV 2 hts gL_law_X1_pallet rfl rfl rfl kd_X1_pallet ⟨Nat.le_of_ble_eq_true rfl, Nat.le_of_ble_eq_true rfl⟩) (pV_P (wA_G hP) hK hE hX) rfl rfl hl.1 rfl (lv_room (Nat.le_of_ble_eq_true rfl)) dL_law_766 ⟨by omega, by omega⟩) (fun E9 h9 => h9.1 (congrArg Prod.fst ((vP4 hJ hP9).trans (congrArg (fun z => ((0, z, gOf τ) : Nat × Int32 × SG)) ((by rw [hg]; rfl : bI (mGon τ P) = 1)))))) (fun r9 h9 => h9.2.trans (congrArg (fun z => z.2.1) ((vP4 hJ hP9).trans (congrArg (fun z => ((0, z, gOf τ) : Nat × Int32 × SG)) ((by rw [hg]; rfl : bI (mGon τ P) = 1)))))) ?_
        refine lv_iconst (v := 1) hx hb dL_law_769 (by decide) ?_
        refine lv_icmp_eq (tgt := 785) hx hb dL_law_770 (by decide) (fun c_16 => ?_) (fun c_16 => absurd (by decide) c_16)
        refine lv_iconst (v := 1) hx hb dL_law_785 (by decide) ?_
        refine lv_goto (tgt := 822) hx hb dL_law_786 (by decide) ?_
        refine lv_istore (lv' := [(6, .int 1), (17, .int ((-1013))), (16, .int 0), (0, .ref b), (1, .ref (q 0)), (2, .ref (q 12)), (3, .ref (q 13)), (4, .int (nI (mN τ))), (5, .int ow0), (7, .int (nI TN)), (8, .int (nI t)), (10, .int (nI Y)), (11, .int (nI dd)), (12, .int (nI P)), (13, .int (nI O)), (14, .int (nI G)), (15, .int (nI MO))]) hx hb dL_law_822 hl (by decide) rfl (fun ls hl => ?_)
        refine lv_goto (tgt := 1045) hx hb dL_law_824 (by decide) ?_
        exact kk τ al sp _ _ _ hJ (ow_le hB (by omega)) ge_rf (Nat.le_refl _) (by omega) hP hS (lv_sub hl [3, 4, 5, 6, 7, 8, 0, 9, 10, 13, 14] rfl)
      · skip
        refine lv_istore (lv' := [(17, .int ((-1013))), (16, .int 0), (0, .ref b), (1, .ref (q 0)), (2, .ref (q 12)), (3, .ref (q 13)), (4, .int (nI (mN τ))), (5, .int ow0), (6, .int 1), (7, .int (nI TN)), (8, .int (nI t)), (10, .int (nI Y)), (11, .int (nI dd)), (12, .int (nI P)), (13, .int (nI O)), (14, .int (nI G)), (15, .int (nI MO))]) hx hb dL_law_747 hl (by decide) rfl (fun ls hl => ?_)
        refine lv_iload hx hb dL_law_749 (lv_at hl 0 rfl) ?_
        refine lv_if_ge (tgt := 793) hx hb dL_law_751 (by decide) (fun c_17 => absurd c_17 (by decide)) (fun c_17 => ?_)
        refine lv_iload hx hb dL_law_754 (lv_at hl 0 rfl) ?_
        refine lv_sipush (v := (-1013)) hx hb dL_law_756 (by decide) ?_
        refine lv_icmp_ne (tgt := 789) hx hb dL_law_759 (by decide) (fun c_18 => absurd (by decide) c_18) (fun c_18 => ?_)
        refine lv_aload_n hx hb dL_law_762 rfl (lv_at hl 3 rfl) ?_
        refine lv_iload hx hb dL_law_763 (lv_at hl 13 rfl) ?_
        refine lv_iconst (v := 4) hx hb dL_law_765 (by decide) ?_
        refine z_callE (x := 0) (vx_runV (As := [.int (nI P), .int 4]) (rest := []) ⟨hx, hb, hml, hown, hts⟩ (c_X1_pallet l hf D cI q (gOf τ) hq (nI P) 4 (ok_J hJ) (hz_J hJ)) (cwV 2 hts gL_law_X1_pallet rfl rfl rfl kd_X1_pallet ⟨Nat.le_of_ble_eq_true rfl, Nat.le_of_ble_eq_true rfl⟩) (pV_P (wA_G hP) hK hE hX) rfl rfl hl.1 rfl (lv_room (Nat.le_of_ble_eq_true rfl)) dL_law_766 ⟨by omega, by omega⟩) (fun E9 h9 => h9.1 (congrArg Prod.fst ((vP4 hJ hP9).trans (congrArg (fun z => ((0, z, gOf τ) : Nat × Int32 × SG)) ((by rw [hg]; rfl : bI (mGon τ P) = 0)))))) (fun r9 h9 => h9.2.trans (congrArg (fun z => z.2.1) ((vP4 hJ hP9).trans (congrArg (fun z => ((0, z, gOf τ) : Nat × Int32 × SG)) ((by rw [hg]; rfl : bI (mGon τ P) = 0)))))) ?_
        refine lv_iconst (v := 1) hx hb dL_law_769 (by decide) ?_
        refine lv_icmp_eq (tgt := 785) hx hb dL_law_770 (by decide) (fun c_19 => absurd c_19 (by decide)) (fun c_19 => ?_)
        refine lv_aload_n hx hb dL_law_773 rfl (lv_at hl 3 rfl) ?_
        refine lv_iload hx hb dL_law_774 (lv_at hl 13 rfl) ?_
        refine lv_iconst (v := 1) hx hb dL_law_776 (by decide) ?_
        refine z_callE (x := 30) (vx_runV (As := [.int (nI P), .int 1]) (rest := []) ⟨hx, hb, hml, hown, hts⟩ (c_X1_pallet l hf D cI q (gOf τ) hq (nI P) 1 (ok_J hJ) (hz_J hJ)) (cwV 2 hts gL_law_X1_pallet rfl rfl rfl kd_X1_pallet ⟨Nat.le_of_ble_eq_true rfl, Nat.le_of_ble_eq_true rfl⟩) (pV_P (wA_G hP) hK hE hX) rfl rfl hl.1 rfl (lv_room (Nat.le_of_ble_eq_true rfl)) dL_law_777 ⟨by omega, by omega⟩) (fun E9 h9 => h9.1 (congrArg Prod.fst ((vP1 hJ hP9).trans (congrArg (fun z => ((0, z, gOf τ) : Nat × Int32 × SG)) ((by rw [hm30]; rfl : nI (mMan τ P) = 30)))))) (fun r9 h9 => h9.2.trans (congrArg (fun z => z.2.1) ((vP1 hJ hP9).trans (congrArg (fun z => ((0, z, gOf τ) : Nat × Int32 × SG)) ((by rw [hm30]; rfl : nI (mMan τ P) = 30)))))) ?_
        refine lv_bipush (v := 30) hx hb dL_law_780 (by decide) ?_
        refine lv_icmp_ne (tgt := 789) hx hb dL_law_782 (by decide) (fun c_20 => absurd (by decide) c_20) (fun c_20 => ?_)
        refine lv_iconst (v := 1) hx hb dL_law_785 (by decide) ?_
        refine lv_goto (tgt := 822) hx hb dL_law_786 (by decide) ?_
        refine lv_istore (lv' := [(6, .int 1), (17, .int ((-1013))), (16, .int 0), (0, .ref b), (1, .ref (q 0)), (2, .ref (q 12)), (3, .ref (q 13)), (4, .int (nI (mN τ))), (5, .int ow0), (7, .int (nI TN)), (8, .int (nI t)), (10, .int (nI Y)), (11, .int (nI dd)), (12, .int (nI P)), (13, .int (nI O)), (14, .int (nI G)), (15, .int (nI MO))]) hx hb dL_law_822 hl (by decide) rfl (fun ls hl => ?_)
        refine lv_goto (tgt := 1045) hx hb dL_law_824 (by decide) ?_
        exact kk τ al sp _ _ _ hJ (ow_le hB (by omega)) ge_rf (Nat.le_refl _) (by omega) hP hS (lv_sub hl [3, 4, 5, 6, 7, 8, 0, 9, 10, 13, 14] rfl)
    · skip
      rw [ec] at hP1 ⊢
      have hP := wA_call hq14 hP hP1 hk9
      clear hP1
      generalize H1 = H at *
      have hX : EX (adQ 12 q) s H := EX_narrow (EX_kept hX0 hS.2.1) hA12
      refine lv_topE (y := 1) (by rw [hh]; rfl) ?_
      have hl : lv_has ls 20 [(16, .int 0), (0, .ref b), (1, .ref (q 0)), (2, .ref (q 12)), (3, .ref (q 13)), (4, .int (nI (mN τ'))), (5, .int ow0), (6, .int 1), (7, .int (nI TN)), (8, .int (nI t)), (10, .int (nI Y)), (11, .int (nI dd)), (12, .int (nI P)), (13, .int (nI O)), (14, .int (nI G)), (15, .int (nI MO))] := by rw [hn']; exact hl
      refine lv_istore (lv' := [(17, .int 1), (16, .int 0), (0, .ref b), (1, .ref (q 0)), (2, .ref (q 12)), (3, .ref (q 13)), (4, .int (nI (mN τ'))), (5, .int ow0), (6, .int 1), (7, .int (nI TN)), (8, .int (nI t)), (10, .int (nI Y)), (11, .int (nI dd)), (12, .int (nI P)), (13, .int (nI O)), (14, .int (nI G)), (15, .int (nI MO))]) hx hb dL_law_747 hl (by decide) rfl (fun ls hl => ?_)
      refine lv_iload hx hb dL_law_749 (lv_at hl 0 rfl) ?_
      refine lv_if_ge (tgt := 793) hx hb dL_law_751 (by decide) (fun c_21 => ?_) (fun c_21 => absurd (by decide) c_21)
      refine lv_iload hx hb dL_law_793 (lv_at hl 0 rfl) ?_
      refine lv_iconst (v := 1) hx hb dL_law_795 (by decide) ?_
      refine lv_icmp_ne (tgt := 803) hx hb dL_law_796 (by decide) (fun c_22 => absurd (by decide) c_22) (fun c_22 => ?_)
      refine lv_iconst (v := 1) hx hb dL_law_799 (by decide) ?_
      refine lv_goto (tgt := 804) hx hb dL_law_800 (by decide) ?_
      refine lv_iload hx hb dL_law_804 (lv_at hl 1 rfl) ?_
      refine lv_if_ne (tgt := 813) hx hb dL_law_806 (by decide) (fun c_23 => absurd (by decide) c_23) (fun c_23 => ?_)
      refine lv_iconst (v := 1) hx hb dL_law_809 (by decide) ?_
      refine lv_goto (tgt := 814) hx hb dL_law_810 (by decide) ?_
      refine lv_icmp_ne (tgt := 821) hx hb dL_law_814 (by decide) (fun c_24 => absurd (by decide) c_24) (fun c_24 => ?_)
      refine lv_iconst (v := 1) hx hb dL_law_817 (by decide) ?_
      refine lv_goto (tgt := 822) hx hb dL_law_818 (by decide) ?_
      refine lv_istore (lv' := [(6, .int 1), (17, .int 1), (16, .int 0), (0, .ref b), (1, .ref (q 0)), (2, .ref (q 12)), (3, .ref (q 13)), (4, .int (nI (mN τ'))), (5, .int ow0), (7, .int (nI TN)), (8, .int (nI t)), (10, .int (nI Y)), (11, .int (nI dd)), (12, .int (nI P)), (13, .int (nI O)), (14, .int (nI G)), (15, .int (nI MO))]) hx hb dL_law_822 hl (by decide) rfl (fun ls hl => ?_)
      refine lv_goto (tgt := 1045) hx hb dL_law_824 (by decide) ?_
      exact kk τ' al sp _ _ _ hJ' hB' hge' (by omega) (by omega) hP hS (lv_sub hl [3, 4, 5, 6, 7, 8, 0, 9, 10, 13, 14] rfl)
set_option maxHeartbeats 4000000 in
set_option maxRecDepth 100000 in
theorem br_spoil {p : Program} {l : Launch} {e : Env} {s : State} {m : MethodId} {below : List Frame} {meth : Method} {c : Code} {b L : Nat} {xs : Nat → Int32} {D : va_G} {cI : ClassId} {q : Nat → Nat} (hf : l.stackTraces = false) (C0 : LC24 p s m c b L xs D cI q) {τ : SM} {al sp : Nat → Int32} {B : Int} (hJ : J τ al sp) (hB : OW (mOwe τ) B) (hb : B ≤ 80000) {P O G MO Y dd t TN : Nat} {ow0 : Int32} (hP9 : P < mN τ) (hO9 : O < mN τ) (hG : G < 6) (hM1 : 1 ≤ MO) (hM2 : MO ≤ 30) (hY : Y < 2 ^ 27) (hdd : dd < 32) {cells slots : Nat} (hc : cells + 2 ≤ 240) (hs : slots + 12 ≤ 5300) {H : Heap} {locs : List Loc} (hP : va_P D vwCl (wA cI q (gOf τ) al sp) H) (hS : va_S (fun a : Nat => s.heap.size ≤ a) s.heap H locs) {ls : Array Slot} (hl : lv_has ls 20 [(0, .ref b), (1, .ref (q 0)), (2, .ref (q 12)), (3, .ref (q 13)), (4, .int (nI (mN τ))), (5, .int ow0), (6, .int 1), (7, .int (nI TN)), (8, .int (nI t)), (10, .int (nI Y)), (11, .int (nI dd)), (12, .int (nI P)), (13, .int (nI O)), (14, .int (nI G)), (15, .int (nI MO))]) {Q : State → Prop}
    (kk : ∀ (τ' : SM) (al' sp' : Nat → Int32) (H : Heap) (locs : List Loc) (ls : Array Slot), J τ' al' sp' → OW (mOwe τ') (B + 20) → GE (mOwe τ) (mOwe τ') → mN τ ≤ mN τ' → 0 < mN τ' → va_P D vwCl (wA cI q (gOf τ') al' sp') H → va_S (fun a : Nat => s.heap.size ≤ a) s.heap H locs → lv_has ls 20 [(0, .ref b), (1, .ref (q 0)), (2, .ref (q 12)), (3, .ref (q 13)), (4, .int (nI (mN τ'))), (5, .int ow0), (6, .int 1), (7, .int (nI TN)), (8, .int (nI t)), (12, .int (nI P)), (13, .int (nI O))] → W p l e R240 s m #[Value.ref b] below meth c H locs (cells + 1) (slots + 6) Q (F0 m 1045 ls [])) : W p l e R240 s m #[Value.ref b] below meth c H locs (cells) (slots) Q (F0 m 841 ls []) := by
  obtain ⟨hx, hb, hml, hown, hts, hXs, hbl, hq14, hZs, hK, hE, hN, hX0⟩ := id C0
  have hbA : ¬ (fun a : Nat => s.heap.size ≤ a) b := Nat.not_le.mpr hbl
  have hA14 : ∀ a, adQ 14 q a → (fun a : Nat => s.heap.size ≤ a) a := fun a ⟨k, h1, h2⟩ => by rw [h2]; exact hZs k (by omega)
  have hA12 : ∀ a, adQ 12 q a → (fun a : Nat => s.heap.size ≤ a) a := fun a ⟨k, h1, h2⟩ => by rw [h2]; exact hZs k (by omega)
  have hq : ijQ 12 q := ij12 hq14
  have hRc : R240.cells = 240 := rfl
  have hRs : R240.slots = 5300 := rfl
  have hn14 := hJ.1.2.2.2.1
  have hX : EX (adQ 12 q) s H := EX_narrow (EX_kept hX0 hS.2.1) hA12
  have hpos := hJ.2.2.2.1 P hP9
  have hm30 := hJ.1.1.2.1 P
  obtain ⟨E, hEm, hEe⟩ : ∃ E, E < mMan τ P ∧ Y / 2 ^ 10 % mMan τ P = E := ⟨_, Nat.mod_lt _ hpos, rfl⟩
  refine lv_iload hx hb dL_law_841 (lv_at hl 9 rfl) ?_
  refine lv_bipush (v := 10) hx hb dL_law_843 (by decide) ?_
  refine lv_ishr hx hb dL_law_845 ?_
  refine lv_topE (y := nI (Y / 2 ^ 10)) ((show nI Y >>> (10 &&& 31) = nI (Y / 2 ^ 10) from pk_shrN (by omega) _ 10 (by decide))) ?_
  refine lv_aload_n hx hb dL_law_846 rfl (lv_at hl 1 rfl) ?_
  refine lv_iload hx hb dL_law_847 (lv_at hl 11 rfl) ?_
  refine lv_iconst (v := 1) hx hb dL_law_849 (by decide) ?_
  refine z_callE (x := nI (mMan τ P)) (vx_runV (As := [.int (nI P), .int 1]) (rest := [.int (nI (Y / 2 ^ 10))]) ⟨hx, hb, hml, hown, hts⟩ (c_X1_pallet l hf D cI q (gOf τ) hq (nI P) 1 (ok_J hJ) (hz_J hJ)) (cwV 2 hts gL_law_X1_pallet rfl rfl rfl kd_X1_pallet ⟨Nat.le_of_ble_eq_true rfl, Nat.le_of_ble_eq_true rfl⟩) (pV_P (wA_G hP) hK hE hX) rfl rfl hl.1 rfl (lv_room (Nat.le_of_ble_eq_true rfl)) dL_law_850 ⟨by omega, by omega⟩) (fun E9 h9 => h9.1 (congrArg Prod.fst (vP1 hJ hP9))) (fun r9 h9 => h9.2.trans (congrArg (fun z => z.2.1) (vP1 hJ hP9))) ?_
  refine lv_irem hx hb dL_law_853 (fun z => by have := (nI_eq (b := 0) (by omega) (by omega)).mp z; omega) ?_
  refine lv_topE (y := nI E) ((pk_rem (by omega) hpos (by omega)).trans (by rw [hEe])) ?_
  refine lv_istore (lv' := [(16, .int (nI E)), (0, .ref b), (1, .ref (q 0)), (2, .ref (q 12)), (3, .ref (q 13)), (4, .int (nI (mN τ))), (5, .int ow0), (6, .int 1), (7, .int (nI TN)), (8, .int (nI t)), (10, .int (nI Y)), (11, .int (nI dd)), (12, .int (nI P)), (13, .int (nI O)), (14, .int (nI G)), (15, .int (nI MO))]) hx hb dL_law_854 hl (by decide) rfl (fun ls hl => ?_)
  rcases hJ.2.1.2.2.1 P with hs0 | ⟨F, hF, hs0⟩
  · skip
    have hw : mAmo τ (P * 30 + E) = mWas τ (P * 30 + E) := (hJ.2.1.2.1 P E hEm).2 (s0_ne hs0 (by omega))
    have hwr := hJ.2.1.2.2.2.1 (P * 30 + E)
    rw [← hw] at hwr
    have h999 : ¬ mAmo τ (P * 30 + E) = 999 := fun z => by rw [z, show (999 : Int32).toInt = 999 by decide] at hwr; omega
    have hv1 : (mAmo τ (P * 30 + E) + 1).toInt = (mAmo τ (P * 30 + E)).toInt + 1 := by rw [i_add (by rw [show (1 : Int32).toInt = 1 by decide]; omega) (by rw [show (1 : Int32).toInt = 1 by decide]; omega), show (1 : Int32).toInt = 1 by decide]
    refine lv_aload_n hx hb dL_law_856 rfl (lv_at hl 4 rfl) ?_
    refine lv_iload hx hb dL_law_857 (lv_at hl 12 rfl) ?_
    refine ald_13 (k := P) hx hb hK (wA_s hP) rfl (by omega) dL_law_859 ?_
    refine lv_topE (y := 0) (hs0) ?_
    refine lv_if_ne (tgt := 940) hx hb dL_law_860 (by decide) (fun c_1 => absurd (by decide) c_1) (fun c_1 => ?_)
    refine lv_aload_n hx hb dL_law_863 rfl (lv_at hl 2 rfl) ?_
    refine lv_iload hx hb dL_law_864 (lv_at hl 12 rfl) ?_
    refine lv_iload hx hb dL_law_866 (lv_at hl 0 rfl) ?_
    refine lv_iconst (v := 3) hx hb dL_law_868 (by decide) ?_
    refine z_callE (x := mAmo τ (P * 30 + E)) (vx_runV (As := [.int (nI P), .int (nI E), .int 3]) (rest := []) ⟨hx, hb, hml, hown, hts⟩ (c_X1_entry l hf D cI q (gOf τ) hq (nI P) (nI E) 3 (ok_J hJ) (hz_J hJ)) (cwV 3 hts gL_law_X1_entry rfl rfl rfl kd_X1_entry ⟨Nat.le_of_ble_eq_true rfl, Nat.le_of_ble_eq_true rfl⟩) (pV_P (wA_G hP) hK hE hX) rfl rfl hl.1 rfl (lv_room (Nat.le_of_ble_eq_true rfl)) dL_law_869 ⟨by omega, by omega⟩) (fun E9 h9 => h9.1 (congrArg Prod.fst (vE3 hJ hP9 hEm))) (fun r9 h9 => h9.2.trans (congrArg (fun z => z.2.1) (vE3 hJ hP9 hEm))) ?_
    refine lv_istore (lv' := [(17, .int (mAmo τ (P * 30 + E))), (16, .int (nI E)), (0, .ref b), (1, .ref (q 0)), (2, .ref (q 12)), (3, .ref (q 13)), (4, .int (nI (mN τ))), (5, .int ow0), (6, .int 1), (7, .int (nI TN)), (8, .int (nI t)), (10, .int (nI Y)), (11, .int (nI dd)), (12, .int (nI P)), (13, .int (nI O)), (14, .int (nI G)), (15, .int (nI MO))]) hx hb dL_law_872 hl (by decide) rfl (fun ls hl => ?_)
    refine lv_aload_n hx hb dL_law_874 rfl (lv_at hl 3 rfl) ?_
    refine lv_bipush (v := 6) hx hb dL_law_875 (by decide) ?_
    refine lv_iload hx hb dL_law_877 (lv_at hl 13 rfl) ?_
    refine lv_iload hx hb dL_law_879 (lv_at hl 1 rfl) ?_
    refine lv_iload hx hb dL_law_881 (lv_at hl 0 rfl) ?_
    refine lv_sipush (v := 999) hx hb dL_law_883 (by decide) ?_
    refine lv_icmp_ne (tgt := 893) hx hb dL_law_886 (by decide) (fun c_2 => ?_) (fun c_2 => absurd c_2 (h999))
    refine lv_iload hx hb dL_law_893 (lv_at hl 0 rfl) ?_
    refine lv_iconst (v := 1) hx hb dL_law_895 (by decide) ?_
    refine lv_iadd hx hb dL_law_896 ?_
    refine w_call (vx_runSW (As := [.ref (q 0), .int 6, .int (nI P), .int (nI E), .int ((mAmo τ (P * 30 + E) + 1))]) (rest := []) ⟨hx, hb, hml, hown, hts⟩ (c_L_ask_spoil l hf D cI q hq (gOf τ) (ok_J hJ) (hz_J hJ) (nI P) (nI E) ((mAmo τ (P * 30 + E) + 1))) (vx_cwSW 5 hts gL_law_L_ask rfl rfl rfl kn_L_ask ⟨Nat.le_of_ble_eq_true rfl, Nat.le_of_ble_eq_true rfl⟩) (pS_Q (wA_G hP) hK hE hX hN) rfl rfl hl.1 rfl (lv_room (Nat.le_of_ble_eq_true rfl)) dL_law_897 ⟨by omega, by omega⟩) hS hA12 (fun v H1 l1 hv hz9 hk9 hS => ?_)
    obtain ⟨rfl, hP1⟩ := hv
    obtain ⟨τ', ec, ⟨hJ', hB', hge'⟩, hn'⟩ := j_spoil hJ hB hP9 hEm hs0 (v := mAmo τ (P * 30 + E) + 1) (fun z => by rw [z] at hv1; omega) (by omega) (by omega)
    rw [ec] at hP1 ⊢
    have hP := wA_call hq14 hP hP1 hk9
    clear hP1
    generalize H1 = H at *
    have hX : EX (adQ 12 q) s H := EX_narrow (EX_kept hX0 hS.2.1) hA12
    refine lv_topE (y := mAmo τ (P * 30 + E)) (rfl) ?_
    have hsp' : va_up sp P (nI (E + 1)) P = nI (E + 1) := va_up_self _ _ _
    have hE' : E < mMan τ' P := by
      rcases hJ'.2.1.2.2.1 P with q9 | ⟨F9, q8, q9⟩
      · exact absurd ((nI_eq (b := 0) (by omega) (by omega)).mp (hsp'.symm.trans q9)) (by omega)
      · have h30 := hJ'.1.1.2.1 P
        have := (nI_eq (by omega) (by omega)).mp (hsp'.symm.trans q9)
        omega
    have hmf := mf_1 hJ'.2.1 hJ'.1.1.2.1 hE' hsp'
    have hms : msF τ' P = false := by
      cases hq9 : msF τ' P
      · rfl
      · have q8 := ms_sp hJ'.2.1 hJ'.1.1.2.1 hq9
        exact absurd ((nI_eq (b := 0) (by omega) (by omega)).mp (hsp'.symm.trans q8)) (by omega)
    have hl : lv_has ls 20 [(17, .int (mAmo τ (P * 30 + E))), (16, .int (nI E)), (0, .ref b), (1, .ref (q 0)), (2, .ref (q 12)), (3, .ref (q 13)), (4, .int (nI (mN τ'))), (5, .int ow0), (6, .int 1), (7, .int (nI TN)), (8, .int (nI t)), (10, .int (nI Y)), (11, .int (nI dd)), (12, .int (nI P)), (13, .int (nI O)), (14, .int (nI G)), (15, .int (nI MO))] := by rw [hn']; exact hl
    refine lv_iload hx hb dL_law_900 (lv_at hl 0 rfl) ?_
    refine lv_icmp_ne (tgt := 929) hx hb dL_law_902 (by decide) (fun c_3 => absurd (rfl) c_3) (fun c_3 => ?_)
    refine lv_aload_n hx hb dL_law_905 rfl (lv_at hl 3 rfl) ?_
    refine lv_iload hx hb dL_law_906 (lv_at hl 13 rfl) ?_
    refine z_callE (x := nI E) (vx_runV (As := [.int (nI P)]) (rest := []) ⟨hx, hb, hml, hown, hts⟩ (c_X1_broken l hf D cI q (gOf τ') hq (nI P) (ok_J hJ') (hz_J hJ')) (cwV 1 hts gL_law_X1_broken rfl rfl rfl kd_X1_broken ⟨Nat.le_of_ble_eq_true rfl, Nat.le_of_ble_eq_true rfl⟩) (pV_P (wA_G hP) hK hE hX) rfl rfl hl.1 rfl (lv_room (Nat.le_of_ble_eq_true rfl)) dL_law_908 ⟨by omega, by omega⟩) (fun E9 h9 => h9.1 (congrArg Prod.fst ((vB hJ' (by omega)).trans (congrArg (fun z => ((0, z, gOf τ') : Nat × Int32 × SG)) (hmf))))) (fun r9 h9 => h9.2.trans (congrArg (fun z => z.2.1) ((vB hJ' (by omega)).trans (congrArg (fun z => ((0, z, gOf τ') : Nat × Int32 × SG)) (hmf))))) ?_
    refine lv_iload hx hb dL_law_911 (lv_at hl 1 rfl) ?_
    refine neN E E (tgt := 929) hx hb rfl rfl (by omega) (by omega) dL_law_913 (by decide) (fun c_4 => absurd c_4 (by omega)) (fun c_4 => ?_)
    refine lv_aload_n hx hb dL_law_916 rfl (lv_at hl 3 rfl) ?_
    refine lv_iload hx hb dL_law_917 (lv_at hl 13 rfl) ?_
    refine z_callE (x := 0) (vx_runV (As := [.int (nI P)]) (rest := []) ⟨hx, hb, hml, hown, hts⟩ (c_X1_isSound l hf D cI q (gOf τ') hq (nI P) (ok_J hJ') (hz_J hJ')) (cwV 1 hts gL_law_X1_isSound rfl rfl rfl kd_X1_isSound ⟨Nat.le_of_ble_eq_true rfl, Nat.le_of_ble_eq_true rfl⟩) (pV_P (wA_G hP) hK hE hX) rfl rfl hl.1 rfl (lv_room (Nat.le_of_ble_eq_true rfl)) dL_law_919 ⟨by omega, by omega⟩) (fun E9 h9 => h9.1 (congrArg Prod.fst ((vS hJ' (by omega)).trans (congrArg (fun z => ((0, z, gOf τ') : Nat × Bool × SG)) (hms))))) (fun r9 h9 => h9.2.trans (congrArg (fun z => bI z.2.1) ((vS hJ' (by omega)).trans (congrArg (fun z => ((0, z, gOf τ') : Nat × Bool × SG)) (hms))))) ?_
    refine lv_if_ne (tgt := 929) hx hb dL_law_922 (by decide) (fun c_5 => absurd (by decide) c_5) (fun c_5 => ?_)
    refine lv_iconst (v := 1) hx hb dL_law_925 (by decide) ?_
    refine lv_goto (tgt := 930) hx hb dL_law_926 (by decide) ?_
    refine lv_istore (lv' := [(6, .int 1), (17, .int (mAmo τ (P * 30 + E))), (16, .int (nI E)), (0, .ref b), (1, .ref (q 0)), (2, .ref (q 12)), (3, .ref (q 13)), (4, .int (nI (mN τ'))), (5, .int ow0), (7, .int (nI TN)), (8, .int (nI t)), (10, .int (nI Y)), (11, .int (nI dd)), (12, .int (nI P)), (13, .int (nI O)), (14, .int (nI G)), (15, .int (nI MO))]) hx hb dL_law_930 hl (by decide) rfl (fun ls hl => ?_)
    refine lv_aload_n hx hb dL_law_932 rfl (lv_at hl 6 rfl) ?_
    refine lv_iload hx hb dL_law_933 (lv_at hl 13 rfl) ?_
    refine lv_iload hx hb dL_law_935 (lv_at hl 2 rfl) ?_
    refine lv_iconst (v := 1) hx hb dL_law_937 (by decide) ?_
    refine lv_iadd hx hb dL_law_938 ?_
    refine lv_topE (y := nI (E + 1)) (nI_1 E) ?_
    refine ast_13 (k := P) hx hb hK hP hq14 hA14 hS rfl (by omega) dL_law_939 (fun H locs hP hS => ?_)
    have hX : EX (adQ 12 q) s H := EX_narrow (EX_kept hX0 hS.2.1) hA12
    refine lv_goto (tgt := 1045) hx hb dL_law_940 (by decide) ?_
    exact kk τ' al (va_up sp P (nI (E + 1))) _ _ _ hJ' hB' hge' (by omega) (by omega) hP hS (lv_sub hl [3, 4, 5, 6, 7, 8, 0, 9, 10, 13, 14] rfl)
  · skip
    refine lv_aload_n hx hb dL_law_856 rfl (lv_at hl 4 rfl) ?_
    refine lv_iload hx hb dL_law_857 (lv_at hl 12 rfl) ?_
    refine ald_13 (k := P) hx hb hK (wA_s hP) rfl (by omega) dL_law_859 ?_
    refine lv_topE (y := nI (F + 1)) (hs0) ?_
    refine neZN (F + 1) (tgt := 940) hx hb rfl (by omega) dL_law_860 (by decide) (fun c_6 => ?_) (fun c_6 => absurd c_6 (by omega))
    refine lv_goto (tgt := 1045) hx hb dL_law_940 (by decide) ?_
    refine W.widen (k := cells + 1) (n := slots + 6) (by omega) (by omega) ?_
    exact kk τ al sp _ _ _ hJ (ow_le hB (by omega)) ge_rf (Nat.le_refl _) (by omega) hP hS (lv_sub hl [1, 2, 3, 4, 5, 6, 7, 8, 9, 12, 13] rfl)
set_option maxHeartbeats 4000000 in
set_option maxRecDepth 100000 in
theorem br_rep {p : Program} {l : Launch} {e : Env} {s : State} {m : MethodId} {below : List Frame} {meth : Method} {c : Code} {b L : Nat} {xs : Nat → Int32} {D : va_G} {cI : ClassId} {q : Nat → Nat} (hf : l.stackTraces = false) (C0 : LC24 p s m c b L xs D cI q) {τ : SM} {al sp : Nat → Int32} {B : Int} (hJ : J τ al sp) (hB : OW (mOwe τ) B) (hb : B ≤ 80000) {P O G MO Y dd t TN : Nat} {ow0 : Int32} (hP9 : P < mN τ) (hO9 : O < mN τ) (hG : G < 6) (hM1 : 1 ≤ MO) (hM2 : MO ≤ 30) (hY : Y < 2 ^ 27) (hdd : dd < 32) {cells slots : Nat} (hc : cells + 2 ≤ 240) (hs : slots + 12 ≤ 5300) {H : Heap} {locs : List Loc} (hP : va_P D vwCl (wA cI q (gOf τ) al sp) H) (hS : va_S (fun a : Nat => s.heap.size ≤ a) s.heap H locs) {ls : Array Slot} (hl : lv_has ls 20 [(0, .ref b), (1, .ref (q 0)), (2, .ref (q 12)), (3, .ref (q 13)), (4, .int (nI (mN τ))), (5, .int ow0), (6, .int 1), (7, .int (nI TN)), (8, .int (nI t)), (10, .int (nI Y)), (11, .int (nI dd)), (12, .int (nI P)), (13, .int (nI O)), (14, .int (nI G)), (15, .int (nI MO))]) {Q : State → Prop}
    (kk : ∀ (τ' : SM) (al' sp' : Nat → Int32) (H : Heap) (locs : List Loc) (ls : Array Slot), J τ' al' sp' → OW (mOwe τ') (B + 20) → GE (mOwe τ) (mOwe τ') → mN τ ≤ mN τ' → 0 < mN τ' → va_P D vwCl (wA cI q (gOf τ') al' sp') H → va_S (fun a : Nat => s.heap.size ≤ a) s.heap H locs → lv_has ls 20 [(0, .ref b), (1, .ref (q 0)), (2, .ref (q 12)), (3, .ref (q 13)), (4, .int (nI (mN τ'))), (5, .int ow0), (6, .int 1), (7, .int (nI TN)), (8, .int (nI t)), (12, .int (nI P)), (13, .int (nI O))] → W p l e R240 s m #[Value.ref b] below meth c H locs (cells + 1) (slots + 6) Q (F0 m 1045 ls [])) : W p l e R240 s m #[Value.ref b] below meth c H locs (cells) (slots) Q (F0 m 943 ls []) := by
  obtain ⟨hx, hb, hml, hown, hts, hXs, hbl, hq14, hZs, hK, hE, hN, hX0⟩ := id C0
  have hbA : ¬ (fun a : Nat => s.heap.size ≤ a) b := Nat.not_le.mpr hbl
  have hA14 : ∀ a, adQ 14 q a → (fun a : Nat => s.heap.size ≤ a) a := fun a ⟨k, h1, h2⟩ => by rw [h2]; exact hZs k (by omega)
  have hA12 : ∀ a, adQ 12 q a → (fun a : Nat => s.heap.size ≤ a) a := fun a ⟨k, h1, h2⟩ => by rw [h2]; exact hZs k (by omega)
  have hq : ijQ 12 q := ij12 hq14
  have hRc : R240.cells = 240 := rfl
  have hRs : R240.slots = 5300 := rfl
  have hn14 := hJ.1.2.2.2.1
  have hX : EX (adQ 12 q) s H := EX_narrow (EX_kept hX0 hS.2.1) hA12
  have hpos := hJ.2.2.2.1 P hP9
  refine lv_iload hx hb dL_law_943 (lv_at hl 10 rfl) ?_
  refine lv_bipush (v := 30) hx hb dL_law_945 (by decide) ?_
  refine geN dd 30 (tgt := 1045) hx hb rfl rfl (by omega) (by omega) dL_law_947 (by decide) (fun c_d => ?_) (fun c_d => ?_)
  · skip
    refine W.widen (k := cells + 1) (n := slots + 6) (by omega) (by omega) ?_
    exact kk τ al sp _ _ _ hJ (ow_le hB (by omega)) ge_rf (Nat.le_refl _) (by omega) hP hS (lv_sub hl [0, 1, 2, 3, 4, 5, 6, 7, 8, 11, 12] rfl)
  rcases hJ.2.1.2.2.1 P with hs0 | ⟨F, hF, hs0⟩
  · skip
    refine lv_aload_n hx hb dL_law_950 rfl (lv_at hl 3 rfl) ?_
    refine lv_iload hx hb dL_law_951 (lv_at hl 11 rfl) ?_
    refine ald_13 (k := P) hx hb hK (wA_s hP) rfl (by omega) dL_law_953 ?_
    refine lv_topE (y := 0) (hs0) ?_
    refine lv_if_ne (tgt := 963) hx hb dL_law_954 (by decide) (fun c_1 => absurd (by decide) c_1) (fun c_1 => ?_)
    refine lv_sipush (v := (-1013)) hx hb dL_law_957 (by decide) ?_
    refine lv_goto (tgt := 978) hx hb dL_law_960 (by decide) ?_
    refine lv_istore (lv' := [(16, .int ((-1013))), (0, .ref b), (1, .ref (q 0)), (2, .ref (q 12)), (3, .ref (q 13)), (4, .int (nI (mN τ))), (5, .int ow0), (6, .int 1), (7, .int (nI TN)), (8, .int (nI t)), (10, .int (nI Y)), (11, .int (nI dd)), (12, .int (nI P)), (13, .int (nI O)), (14, .int (nI G)), (15, .int (nI MO))]) hx hb dL_law_978 hl (by decide) rfl (fun ls hl => ?_)
    refine lv_aload_n hx hb dL_law_980 rfl (lv_at hl 4 rfl) ?_
    refine lv_iload hx hb dL_law_981 (lv_at hl 12 rfl) ?_
    refine ald_13 (k := P) hx hb hK (wA_s hP) rfl (by omega) dL_law_983 ?_
    refine lv_topE (y := 0) (hs0) ?_
    refine lv_if_ne (tgt := 1011) hx hb dL_law_984 (by decide) (fun c_2 => absurd (by decide) c_2) (fun c_2 => ?_)
    refine lv_aload_n hx hb dL_law_987 rfl (lv_at hl 2 rfl) ?_
    refine lv_bipush (v := 7) hx hb dL_law_988 (by decide) ?_
    refine lv_iload hx hb dL_law_990 (lv_at hl 12 rfl) ?_
    refine lv_iconst (v := 0) hx hb dL_law_992 (by decide) ?_
    refine lv_iconst (v := 0) hx hb dL_law_993 (by decide) ?_
    refine w_call (vx_runSW (As := [.ref (q 0), .int 7, .int (nI P), .int 0, .int 0]) (rest := []) ⟨hx, hb, hml, hown, hts⟩ (c_L_ask_repair l hf D cI q hq (gOf τ) (ok_J hJ) (hz_J hJ) (nI P) 0 0) (vx_cwSW 5 hts gL_law_L_ask rfl rfl rfl kn_L_ask ⟨Nat.le_of_ble_eq_true rfl, Nat.le_of_ble_eq_true rfl⟩) (pS_Q (wA_G hP) hK hE hX hN) rfl rfl hl.1 rfl (lv_room (Nat.le_of_ble_eq_true rfl)) dL_law_994 ⟨by omega, by omega⟩) hS hA12 (fun v H1 l1 hv hz9 hk9 hS => ?_)
    obtain ⟨rfl, hP1⟩ := hv
    have ec : cRepair (gOf τ) (nI P) 0 = (3, 0, gOf τ) := j_rep0 hJ hP9 hs0
    rw [ec] at hP1 ⊢
    have hP := wA_call hq14 hP hP1 hk9
    clear hP1
    generalize H1 = H at *
    have hX : EX (adQ 12 q) s H := EX_narrow (EX_kept hX0 hS.2.1) hA12
    refine lv_topE (y := (-1013)) (rfl) ?_
    refine lv_sipush (v := (-1013)) hx hb dL_law_997 (by decide) ?_
    refine lv_icmp_ne (tgt := 1007) hx hb dL_law_1000 (by decide) (fun c_3 => absurd (by decide) c_3) (fun c_3 => ?_)
    refine lv_iconst (v := 1) hx hb dL_law_1003 (by decide) ?_
    refine lv_goto (tgt := 1038) hx hb dL_law_1004 (by decide) ?_
    refine lv_istore (lv' := [(6, .int 1), (16, .int ((-1013))), (0, .ref b), (1, .ref (q 0)), (2, .ref (q 12)), (3, .ref (q 13)), (4, .int (nI (mN τ))), (5, .int ow0), (7, .int (nI TN)), (8, .int (nI t)), (10, .int (nI Y)), (11, .int (nI dd)), (12, .int (nI P)), (13, .int (nI O)), (14, .int (nI G)), (15, .int (nI MO))]) hx hb dL_law_1038 hl (by decide) rfl (fun ls hl => ?_)
    refine lv_aload_n hx hb dL_law_1040 rfl (lv_at hl 5 rfl) ?_
    refine lv_iload hx hb dL_law_1041 (lv_at hl 12 rfl) ?_
    refine lv_iconst (v := 0) hx hb dL_law_1043 (by decide) ?_
    refine ast_13 (k := P) hx hb hK hP hq14 hA14 hS rfl (by omega) dL_law_1044 (fun H locs hP hS => ?_)
    have hX : EX (adQ 12 q) s H := EX_narrow (EX_kept hX0 hS.2.1) hA12
    rw [up_same hs0.symm] at hP
    exact kk τ al sp _ _ _ hJ (ow_le hB (by omega)) ge_rf (Nat.le_refl _) (by omega) hP hS (lv_sub hl [2, 3, 4, 5, 6, 7, 0, 8, 9, 12, 13] rfl)
  · skip
    have hm30 := hJ.1.1.2.1 P
    refine lv_aload_n hx hb dL_law_950 rfl (lv_at hl 3 rfl) ?_
    refine lv_iload hx hb dL_law_951 (lv_at hl 11 rfl) ?_
    refine ald_13 (k := P) hx hb hK (wA_s hP) rfl (by omega) dL_law_953 ?_
    refine lv_topE (y := nI (F + 1)) (hs0) ?_
    refine neZN (F + 1) (tgt := 963) hx hb rfl (by omega) dL_law_954 (by decide) (fun c_4 => ?_) (fun c_4 => absurd c_4 (by omega))
    refine lv_aload_n hx hb dL_law_963 rfl (lv_at hl 1 rfl) ?_
    refine lv_bipush (v := 7) hx hb dL_law_964 (by decide) ?_
    refine lv_iload hx hb dL_law_966 (lv_at hl 11 rfl) ?_
    refine lv_aload_n hx hb dL_law_968 rfl (lv_at hl 3 rfl) ?_
    refine lv_iload hx hb dL_law_969 (lv_at hl 11 rfl) ?_
    refine ald_13 (k := P) hx hb hK (wA_s hP) rfl (by omega) dL_law_971 ?_
    refine lv_topE (y := nI (F + 1)) (hs0) ?_
    refine lv_iconst (v := 1) hx hb dL_law_972 (by decide) ?_
    refine lv_isub hx hb dL_law_973 ?_
    refine lv_topE (y := nI F) ((show nI (F + 1) - nI 1 = nI F from pk_sub (a := F + 1) (b := 1) (by omega))) ?_
    refine lv_iconst (v := 0) hx hb dL_law_974 (by decide) ?_
    refine w_call (vx_runSW (As := [.ref (q 0), .int 7, .int (nI P), .int (nI F), .int 0]) (rest := []) ⟨hx, hb, hml, hown, hts⟩ (c_L_ask_repair l hf D cI q hq (gOf τ) (ok_J hJ) (hz_J hJ) (nI P) (nI F) 0) (vx_cwSW 5 hts gL_law_L_ask rfl rfl rfl kn_L_ask ⟨Nat.le_of_ble_eq_true rfl, Nat.le_of_ble_eq_true rfl⟩) (pS_Q (wA_G hP) hK hE hX hN) rfl rfl hl.1 rfl (lv_room (Nat.le_of_ble_eq_true rfl)) dL_law_975 ⟨by omega, by omega⟩) hS hA12 (fun v H1 l1 hv hz9 hk9 hS => ?_)
    obtain ⟨rfl, hP1⟩ := hv
    obtain ⟨τ', k, hk7, ec, ⟨hJ', hB', hge'⟩, hn'⟩ := j_rep hJ hB (by omega) hP9 hF hs0
    rw [ec] at hP1 ⊢
    have hP := wA_call hq14 hP hP1 hk9
    clear hP1
    generalize H1 = H at *
    have hX : EX (adQ 12 q) s H := EX_narrow (EX_kept hX0 hS.2.1) hA12
    refine lv_topE (y := nI k) (rfl) ?_
    have hmf := mf_0 hJ'.2.1 hJ'.1.1.2.1 (P := P) (va_up_self _ _ _)
    have hl : lv_has ls 20 [(0, .ref b), (1, .ref (q 0)), (2, .ref (q 12)), (3, .ref (q 13)), (4, .int (nI (mN τ'))), (5, .int ow0), (6, .int 1), (7, .int (nI TN)), (8, .int (nI t)), (10, .int (nI Y)), (11, .int (nI dd)), (12, .int (nI P)), (13, .int (nI O)), (14, .int (nI G)), (15, .int (nI MO))] := by rw [hn']; exact hl
    refine lv_istore (lv' := [(16, .int (nI k)), (0, .ref b), (1, .ref (q 0)), (2, .ref (q 12)), (3, .ref (q 13)), (4, .int (nI (mN τ'))), (5, .int ow0), (6, .int 1), (7, .int (nI TN)), (8, .int (nI t)), (10, .int (nI Y)), (11, .int (nI dd)), (12, .int (nI P)), (13, .int (nI O)), (14, .int (nI G)), (15, .int (nI MO))]) hx hb dL_law_978 hl (by decide) rfl (fun ls hl => ?_)
    refine lv_aload_n hx hb dL_law_980 rfl (lv_at hl 4 rfl) ?_
    refine lv_iload hx hb dL_law_981 (lv_at hl 12 rfl) ?_
    refine ald_13 (k := P) hx hb hK (wA_s hP) rfl (by omega) dL_law_983 ?_
    refine lv_topE (y := nI (F + 1)) (hs0) ?_
    refine neZN (F + 1) (tgt := 1011) hx hb rfl (by omega) dL_law_984 (by decide) (fun c_5 => ?_) (fun c_5 => absurd c_5 (by omega))
    refine lv_iload hx hb dL_law_1011 (lv_at hl 0 rfl) ?_
    refine lv_if_lt (tgt := 1037) hx hb dL_law_1013 (by decide) (fun c_6 => absurd c_6 (nI_pos (by omega))) (fun c_6 => ?_)
    refine lv_iload hx hb dL_law_1016 (lv_at hl 0 rfl) ?_
    refine lv_bipush (v := 7) hx hb dL_law_1018 (by decide) ?_
    refine geN k 7 (tgt := 1037) hx hb rfl rfl (by omega) (by omega) dL_law_1020 (by decide) (fun c_7 => absurd c_7 (by omega)) (fun c_7 => ?_)
    refine lv_aload_n hx hb dL_law_1023 rfl (lv_at hl 2 rfl) ?_
    refine lv_iload hx hb dL_law_1024 (lv_at hl 12 rfl) ?_
    refine z_callE (x := (-1)) (vx_runV (As := [.int (nI P)]) (rest := []) ⟨hx, hb, hml, hown, hts⟩ (c_X1_broken l hf D cI q (gOf τ') hq (nI P) (ok_J hJ') (hz_J hJ')) (cwV 1 hts gL_law_X1_broken rfl rfl rfl kd_X1_broken ⟨Nat.le_of_ble_eq_true rfl, Nat.le_of_ble_eq_true rfl⟩) (pV_P (wA_G hP) hK hE hX) rfl rfl hl.1 rfl (lv_room (Nat.le_of_ble_eq_true rfl)) dL_law_1026 ⟨by omega, by omega⟩) (fun E9 h9 => h9.1 (congrArg Prod.fst ((vB hJ' (by omega)).trans (congrArg (fun z => ((0, z, gOf τ') : Nat × Int32 × SG)) (hmf))))) (fun r9 h9 => h9.2.trans (congrArg (fun z => z.2.1) ((vB hJ' (by omega)).trans (congrArg (fun z => ((0, z, gOf τ') : Nat × Int32 × SG)) (hmf))))) ?_
    refine lv_iconst (v := (-1)) hx hb dL_law_1029 (by decide) ?_
    refine lv_icmp_ne (tgt := 1037) hx hb dL_law_1030 (by decide) (fun c_8 => absurd (by decide) c_8) (fun c_8 => ?_)
    refine lv_iconst (v := 1) hx hb dL_law_1033 (by decide) ?_
    refine lv_goto (tgt := 1038) hx hb dL_law_1034 (by decide) ?_
    refine lv_istore (lv' := [(6, .int 1), (16, .int (nI k)), (0, .ref b), (1, .ref (q 0)), (2, .ref (q 12)), (3, .ref (q 13)), (4, .int (nI (mN τ'))), (5, .int ow0), (7, .int (nI TN)), (8, .int (nI t)), (10, .int (nI Y)), (11, .int (nI dd)), (12, .int (nI P)), (13, .int (nI O)), (14, .int (nI G)), (15, .int (nI MO))]) hx hb dL_law_1038 hl (by decide) rfl (fun ls hl => ?_)
    refine lv_aload_n hx hb dL_law_1040 rfl (lv_at hl 5 rfl) ?_
    refine lv_iload hx hb dL_law_1041 (lv_at hl 12 rfl) ?_
    refine lv_iconst (v := 0) hx hb dL_law_1043 (by decide) ?_
    refine ast_13 (k := P) hx hb hK hP hq14 hA14 hS rfl (by omega) dL_law_1044 (fun H locs hP hS => ?_)
    have hX : EX (adQ 12 q) s H := EX_narrow (EX_kept hX0 hS.2.1) hA12
    exact kk τ' al (va_up sp P 0) _ _ _ hJ' hB' hge' (by omega) (by omega) hP hS (lv_sub hl [2, 3, 4, 5, 6, 7, 0, 8, 9, 12, 13] rfl)
