set_option maxHeartbeats 4000000 in
set_option maxRecDepth 100000 in
theorem lc_make {p : Program} {l : Launch} {e : Env} {s : State} {m : MethodId} {below : List Frame} {meth : Method} {c : Code} {b L : Nat} {xs : Nat → Int32} {D : va_G} {cI cZ cJ : ClassId} {Z : Nat → Nat} (hf : l.stackTraces = false) (C0 : LC p s m c b L xs D cI cZ cJ Z) (hL : L ≤ 2048) {Rel : SG → SM → Prop} (hFx : ∀ σ τ, Rel σ τ → fxG σ ∧ fxM τ) {i : Nat} (hst : stepI Rel (fun σ => cMake σ (xs (i + 1))) (fun τ => mMake τ (xs (i + 1))) kB) (hi : i + 4 ≤ L) {k n : Nat} (hkc : k + 1 ≤ 1060) (hkn : n + 6 ≤ 16143) {σ : SG} {τ : SM} {o : Nat → Int64} (hR : Rel σ τ) {H : Heap} {locs : List Loc} (hP : va_P D vwCl (wA cI cZ cJ Z σ τ o) H) (hS : va_S (fun a : Nat => s.heap.size ≤ a) s.heap H locs) {ls : Array Slot} (hl : lv_has ls 7 [(0, .ref b), (1, .ref (Z 0)), (2, .ref (Z 13)), (3, .ref (Z 12)), (4, .int (nI i))]) {Q : State → Prop}
  (kk : ∀ (σ : SG) (τ : SM) (o : Nat → Int64) (H : Heap) (locs : List Loc) (ls : Array Slot), Rel σ τ → va_P D vwCl (wA cI cZ cJ Z σ τ o) H → va_S (fun a : Nat => s.heap.size ≤ a) s.heap H locs → lv_has ls 7 [(0, .ref b), (1, .ref (Z 0)), (2, .ref (Z 13)), (3, .ref (Z 12)), (4, .int (nI i))] → W p l e room_1 s m #[Value.ref b] below meth c H locs (k + 1) (n + 6) Q (F0 m 1410 ls [])) : W p l e room_1 s m #[Value.ref b] below meth c H locs k n Q (F0 m 128 ls []) := by
  obtain ⟨hx, hb, hml, hown, hts, hXs, hbl, hZ, hZs, hK, hE, hN, hX0⟩ := C0
  have hbA : ¬ (fun a : Nat => s.heap.size ≤ a) b := Nat.not_le.mpr hbl
  have hA13 : ∀ a, adQ 13 Z a → (fun a : Nat => s.heap.size ≤ a) a := fun a ⟨k, h1, h2⟩ => by rw [h2]; exact hZs k (by omega)
  have hA20 : ∀ a, adQ 20 (fun k => Z (13 + k)) a → (fun a : Nat => s.heap.size ≤ a) a := fun a ⟨k, h1, h2⟩ => by rw [h2]; exact hZs (13 + k) (by omega)
  obtain ⟨hG, hM⟩ := hFx σ τ hR
  have hs := hst σ τ hR
  have hs1 : nI (kB (cMake σ (xs (i + 1))).1) = mThr (mMake τ (xs (i + 1))).2 := hs.1
  have hs2 : (kB (cMake σ (xs (i + 1))).1) < 4 := hs.2.1
  have hs3 : (kB (cMake σ (xs (i + 1))).1) = 0 → (cMake σ (xs (i + 1))).1 = 0 := hs.2.2.1
  have hs4 : (cMake σ (xs (i + 1))).1 = 0 → (cMake σ (xs (i + 1))).2.1 = (mMake τ (xs (i + 1))).1 := hs.2.2.2.1
  have hs5 : Rel (cMake σ (xs (i + 1))).2.2 (mMake τ (xs (i + 1))).2 := hs.2.2.2.2
  have hX : EX (adQ 13 Z) s H := EX_narrow (EX_kept hX0 hS.2.1) hA13
  refine lv_aload_n hx hb dL_law_128 rfl (lv_at hl 1 rfl) ?_
  refine lv_aload_n hx hb dL_law_129 rfl (lv_at hl 0 rfl) ?_
  refine lv_iload hx hb dL_law_130 (lv_at hl 4 rfl) ?_
  refine lv_iconst (v := 1) hx hb dL_law_132 (by decide) ?_
  refine addN i 1 hx hb rfl rfl dL_law_133 ?_
  refine lrd (i := i + 1) hx hb hXs hbl hbA hS rfl (by omega) hL dL_law_134 ?_
  refine lv_aload_n hx hb dL_law_135 rfl (lv_at hl 3 rfl) ?_
  refine w_call (vx_runSW (As := [.ref (Z 0), .int (xs (i + 1)), .ref (Z 12)]) (rest := []) ⟨hx, hb, hml, hown, hts⟩ (c_L_make l hf D cI cJ Z (ijL hZ) σ hG.1 hG.2 (xs (i + 1)) o) (vx_cwSW 3 hts gL_law_L_make rfl rfl rfl kn_L_make ⟨Nat.le_of_ble_eq_true rfl, Nat.le_of_ble_eq_true rfl⟩) (pS_L hP hK hE hN hX) rfl rfl hl.1 rfl (lv_room (Nat.le_of_ble_eq_true rfl)) dL_law_136 ⟨hkc, hkn⟩) hS hA13 (fun v H1 l1 hv hz9 hk9 hS => ?_)
  obtain ⟨rfl, hP1⟩ := hv
  have hP := wA_callL hZ hP hP1 hk9
  refine lv_istore (lv' := [(5, .int (nI (kB (cMake σ (xs (i + 1))).1))), (0, .ref b), (1, .ref (Z 0)), (2, .ref (Z 13)), (3, .ref (Z 12)), (4, .int (nI i))]) hx hb dL_law_139 hl (by decide) rfl (fun ls hl => ?_)
  refine lv_aload_n hx hb dL_law_141 rfl (lv_at hl 3 rfl) ?_
  refine lv_aload_n hx hb dL_law_142 rfl (lv_at hl 1 rfl) ?_
  refine lv_iload hx hb dL_law_143 (lv_at hl 5 rfl) ?_
  refine lv_iconst (v := 1) hx hb dL_law_145 (by decide) ?_
  refine addN i 1 hx hb rfl rfl dL_law_146 ?_
  refine lrd (i := i + 1) hx hb hXs hbl hbA hS rfl (by omega) hL dL_law_147 ?_
  refine w_call (va_runV (As := [.int (xs (i + 1))]) (rest := []) ⟨hx, hb, hml, hown, hts⟩ (c_X2_make l D cI cZ (fun k => Z (13 + k)) τ (ijM hZ) (xs (i + 1)) hM.1 hM.2.1 hM.2.2.1 hM.2.2.2.1 hM.2.2.2.2) (cwV 1 hts gL_law_X2_make rfl rfl rfl kd_X2_make ⟨Nat.le_of_ble_eq_true rfl, Nat.le_of_ble_eq_true rfl⟩) (pV_A hP hK) rfl rfl hl.1 rfl (lv_room (Nat.le_of_ble_eq_true rfl)) dL_law_148 ⟨hkc, hkn⟩) hS hA20 (fun v H2 l2 hv hz9 hk9 hS => ?_)
  obtain ⟨rfl, hP2⟩ := hv
  have hP := wA_callM hZ hP hP2 hk9
  refine lv_istore (lv' := [(6, .int (mMake τ (xs (i + 1))).1), (5, .int (nI (kB (cMake σ (xs (i + 1))).1))), (0, .ref b), (1, .ref (Z 0)), (2, .ref (Z 13)), (3, .ref (Z 12)), (4, .int (nI i))]) hx hb dL_law_151 hl (by decide) rfl (fun ls hl => ?_)
  refine lv_aload_n hx hb dL_law_153 rfl (lv_at hl 4 rfl) ?_
  refine r_callE (x := mThr (mMake τ (xs (i + 1))).2) (va_runV (As := []) (rest := []) ⟨hx, hb, hml, hown, hts⟩ (c_X2_thrown l D cI cZ (fun k => Z (13 + k)) (mMake τ (xs (i + 1))).2) (cwV 0 hts gL_law_X2_thrown rfl rfl rfl kd_X2_thrown ⟨Nat.le_of_ble_eq_true rfl, Nat.le_of_ble_eq_true rfl⟩) (pV_A hP hK) rfl rfl hl.1 rfl (lv_room (Nat.le_of_ble_eq_true rfl)) dL_law_154 ⟨hkc, hkn⟩) ?_
  refine lv_iload hx hb dL_law_157 (lv_at hl 1 rfl) ?_
  refine lv_icmp_eq (tgt := 164) hx hb dL_law_159 (by decide) (fun c_1 => ?_) (fun c_1 => ?_)
  rotate_left
  · exact absurd hs1.symm c_1
  refine lv_iload hx hb dL_law_164 (lv_at hl 1 rfl) ?_
  refine neZN (kB (cMake σ (xs (i + 1))).1) (tgt := 181) hx hb rfl (by omega) dL_law_166 (by decide) (fun c_2 => ?_) (fun c_2 => ?_)
  · skip
    refine lv_goto (tgt := 1410) hx hb dL_law_181 (by decide) ?_
    exact kk _ _ _ _ _ _ hs5 hP hS (lv_sub hl [2, 3, 4, 5, 6] rfl)
  · have hc0 := hs3 c_2
    refine lv_aload_n hx hb dL_law_169 rfl (lv_at hl 5 rfl) ?_
    refine lv_iconst (v := 0) hx hb dL_law_170 (by decide) ?_
    refine lld_12 hx hb hK hP dL_law_171 ?_
    refine lv_iload hx hb dL_law_172 (lv_at hl 0 rfl) ?_
    refine lv_i2l (v := (mMake τ (xs (i + 1))).1.toInt64) hx hb dL_law_174 rfl ?_
    have he : (oF o (cMake σ (xs (i + 1))).1 (cMake σ (xs (i + 1))).2.1) 0 = (mMake τ (xs (i + 1))).1.toInt64 := by rw [hc0, oF0, hs4 hc0]; exact pk_uLs
    refine W.lcmp hx hb dL_law_175 ?_
    refine lv_if_eq (tgt := 181) hx hb dL_law_176 (by decide) (fun c_3 => ?_) (fun c_3 => ?_)
    · skip
      refine lv_goto (tgt := 1410) hx hb dL_law_181 (by decide) ?_
      exact kk _ _ _ _ _ _ hs5 hP hS (lv_sub hl [2, 3, 4, 5, 6] rfl)
    · exact absurd (cmp_eq he) c_3
set_option maxHeartbeats 4000000 in
set_option maxRecDepth 100000 in
theorem lc_load {p : Program} {l : Launch} {e : Env} {s : State} {m : MethodId} {below : List Frame} {meth : Method} {c : Code} {b L : Nat} {xs : Nat → Int32} {D : va_G} {cI cZ cJ : ClassId} {Z : Nat → Nat} (hf : l.stackTraces = false) (C0 : LC p s m c b L xs D cI cZ cJ Z) (hL : L ≤ 2048) {Rel : SG → SM → Prop} (hFx : ∀ σ τ, Rel σ τ → fxG σ ∧ fxM τ) {i : Nat} (hst : stepI Rel (fun σ => cLoad σ (xs (i + 1)) (xs (i + 2)) (xs (i + 3))) (fun τ => mLoad τ (xs (i + 1)) (xs (i + 2)) (xs (i + 3))) (fun z => z)) (hi : i + 4 ≤ L) {k n : Nat} (hkc : k + 1 ≤ 1060) (hkn : n + 6 ≤ 16143) {σ : SG} {τ : SM} {o : Nat → Int64} (hR : Rel σ τ) {H : Heap} {locs : List Loc} (hP : va_P D vwCl (wA cI cZ cJ Z σ τ o) H) (hS : va_S (fun a : Nat => s.heap.size ≤ a) s.heap H locs) {ls : Array Slot} (hl : lv_has ls 7 [(0, .ref b), (1, .ref (Z 0)), (2, .ref (Z 13)), (3, .ref (Z 12)), (4, .int (nI i))]) {Q : State → Prop}
  (kk : ∀ (σ : SG) (τ : SM) (o : Nat → Int64) (H : Heap) (locs : List Loc) (ls : Array Slot), Rel σ τ → va_P D vwCl (wA cI cZ cJ Z σ τ o) H → va_S (fun a : Nat => s.heap.size ≤ a) s.heap H locs → lv_has ls 7 [(0, .ref b), (1, .ref (Z 0)), (2, .ref (Z 13)), (3, .ref (Z 12)), (4, .int (nI i))] → W p l e room_1 s m #[Value.ref b] below meth c H locs (k + 1) (n + 6) Q (F0 m 1410 ls [])) : W p l e room_1 s m #[Value.ref b] below meth c H locs k n Q (F0 m 184 ls []) := by
  obtain ⟨hx, hb, hml, hown, hts, hXs, hbl, hZ, hZs, hK, hE, hN, hX0⟩ := C0
  have hbA : ¬ (fun a : Nat => s.heap.size ≤ a) b := Nat.not_le.mpr hbl
  have hA13 : ∀ a, adQ 13 Z a → (fun a : Nat => s.heap.size ≤ a) a := fun a ⟨k, h1, h2⟩ => by rw [h2]; exact hZs k (by omega)
  have hA20 : ∀ a, adQ 20 (fun k => Z (13 + k)) a → (fun a : Nat => s.heap.size ≤ a) a := fun a ⟨k, h1, h2⟩ => by rw [h2]; exact hZs (13 + k) (by omega)
  obtain ⟨hG, hM⟩ := hFx σ τ hR
  have hs := hst σ τ hR
  have hs1 : nI ((cLoad σ (xs (i + 1)) (xs (i + 2)) (xs (i + 3))).1) = mThr (mLoad τ (xs (i + 1)) (xs (i + 2)) (xs (i + 3))).2 := hs.1
  have hs2 : ((cLoad σ (xs (i + 1)) (xs (i + 2)) (xs (i + 3))).1) < 4 := hs.2.1
  have hs3 : ((cLoad σ (xs (i + 1)) (xs (i + 2)) (xs (i + 3))).1) = 0 → (cLoad σ (xs (i + 1)) (xs (i + 2)) (xs (i + 3))).1 = 0 := hs.2.2.1
  have hs4 : (cLoad σ (xs (i + 1)) (xs (i + 2)) (xs (i + 3))).1 = 0 → (cLoad σ (xs (i + 1)) (xs (i + 2)) (xs (i + 3))).2.1 = (mLoad τ (xs (i + 1)) (xs (i + 2)) (xs (i + 3))).1 := hs.2.2.2.1
  have hs5 : Rel (cLoad σ (xs (i + 1)) (xs (i + 2)) (xs (i + 3))).2.2 (mLoad τ (xs (i + 1)) (xs (i + 2)) (xs (i + 3))).2 := hs.2.2.2.2
  have hX : EX (adQ 13 Z) s H := EX_narrow (EX_kept hX0 hS.2.1) hA13
  refine lv_aload_n hx hb dL_law_184 rfl (lv_at hl 1 rfl) ?_
  refine lv_aload_n hx hb dL_law_185 rfl (lv_at hl 0 rfl) ?_
  refine lv_iload hx hb dL_law_186 (lv_at hl 4 rfl) ?_
  refine lv_iconst (v := 1) hx hb dL_law_188 (by decide) ?_
  refine addN i 1 hx hb rfl rfl dL_law_189 ?_
  refine lrd (i := i + 1) hx hb hXs hbl hbA hS rfl (by omega) hL dL_law_190 ?_
  refine lv_aload_n hx hb dL_law_191 rfl (lv_at hl 0 rfl) ?_
  refine lv_iload hx hb dL_law_192 (lv_at hl 4 rfl) ?_
  refine lv_iconst (v := 2) hx hb dL_law_194 (by decide) ?_
  refine addN i 2 hx hb rfl rfl dL_law_195 ?_
  refine lrd (i := i + 2) hx hb hXs hbl hbA hS rfl (by omega) hL dL_law_196 ?_
  refine lv_aload_n hx hb dL_law_197 rfl (lv_at hl 0 rfl) ?_
  refine lv_iload hx hb dL_law_198 (lv_at hl 4 rfl) ?_
  refine lv_iconst (v := 3) hx hb dL_law_200 (by decide) ?_
  refine addN i 3 hx hb rfl rfl dL_law_201 ?_
  refine lrd (i := i + 3) hx hb hXs hbl hbA hS rfl (by omega) hL dL_law_202 ?_
  refine lv_aload_n hx hb dL_law_203 rfl (lv_at hl 3 rfl) ?_
  refine w_call (vx_runSW (As := [.ref (Z 0), .int (xs (i + 1)), .int (xs (i + 2)), .int (xs (i + 3)), .ref (Z 12)]) (rest := []) ⟨hx, hb, hml, hown, hts⟩ (c_L_load l hf D cI cJ Z (ijL hZ) σ hG.1 hG.2 (xs (i + 1)) (xs (i + 2)) (xs (i + 3)) o) (vx_cwSW 5 hts gL_law_L_load rfl rfl rfl kn_L_load ⟨Nat.le_of_ble_eq_true rfl, Nat.le_of_ble_eq_true rfl⟩) (pS_L hP hK hE hN hX) rfl rfl hl.1 rfl (lv_room (Nat.le_of_ble_eq_true rfl)) dL_law_204 ⟨hkc, hkn⟩) hS hA13 (fun v H1 l1 hv hz9 hk9 hS => ?_)
  obtain ⟨rfl, hP1⟩ := hv
  have hP := wA_callL hZ hP hP1 hk9
  refine lv_istore (lv' := [(5, .int (nI ((cLoad σ (xs (i + 1)) (xs (i + 2)) (xs (i + 3))).1))), (0, .ref b), (1, .ref (Z 0)), (2, .ref (Z 13)), (3, .ref (Z 12)), (4, .int (nI i))]) hx hb dL_law_207 hl (by decide) rfl (fun ls hl => ?_)
  refine lv_aload_n hx hb dL_law_209 rfl (lv_at hl 3 rfl) ?_
  refine lv_aload_n hx hb dL_law_210 rfl (lv_at hl 1 rfl) ?_
  refine lv_iload hx hb dL_law_211 (lv_at hl 5 rfl) ?_
  refine lv_iconst (v := 1) hx hb dL_law_213 (by decide) ?_
  refine addN i 1 hx hb rfl rfl dL_law_214 ?_
  refine lrd (i := i + 1) hx hb hXs hbl hbA hS rfl (by omega) hL dL_law_215 ?_
  refine lv_aload_n hx hb dL_law_216 rfl (lv_at hl 1 rfl) ?_
  refine lv_iload hx hb dL_law_217 (lv_at hl 5 rfl) ?_
  refine lv_iconst (v := 2) hx hb dL_law_219 (by decide) ?_
  refine addN i 2 hx hb rfl rfl dL_law_220 ?_
  refine lrd (i := i + 2) hx hb hXs hbl hbA hS rfl (by omega) hL dL_law_221 ?_
  refine lv_aload_n hx hb dL_law_222 rfl (lv_at hl 1 rfl) ?_
  refine lv_iload hx hb dL_law_223 (lv_at hl 5 rfl) ?_
  refine lv_iconst (v := 3) hx hb dL_law_225 (by decide) ?_
  refine addN i 3 hx hb rfl rfl dL_law_226 ?_
  refine lrd (i := i + 3) hx hb hXs hbl hbA hS rfl (by omega) hL dL_law_227 ?_
  refine w_call (va_runV (As := [.int (xs (i + 1)), .int (xs (i + 2)), .int (xs (i + 3))]) (rest := []) ⟨hx, hb, hml, hown, hts⟩ (c_X2_load l D cI cZ (fun k => Z (13 + k)) τ (ijM hZ) (xs (i + 1)) (xs (i + 2)) (xs (i + 3)) hM.1 hM.2.1 hM.2.2.1 hM.2.2.2.1 hM.2.2.2.2) (cwV 3 hts gL_law_X2_load rfl rfl rfl kd_X2_load ⟨Nat.le_of_ble_eq_true rfl, Nat.le_of_ble_eq_true rfl⟩) (pV_A hP hK) rfl rfl hl.1 rfl (lv_room (Nat.le_of_ble_eq_true rfl)) dL_law_228 ⟨hkc, hkn⟩) hS hA20 (fun v H2 l2 hv hz9 hk9 hS => ?_)
  obtain ⟨rfl, hP2⟩ := hv
  have hP := wA_callM hZ hP hP2 hk9
  refine lv_istore (lv' := [(6, .int (mLoad τ (xs (i + 1)) (xs (i + 2)) (xs (i + 3))).1), (5, .int (nI ((cLoad σ (xs (i + 1)) (xs (i + 2)) (xs (i + 3))).1))), (0, .ref b), (1, .ref (Z 0)), (2, .ref (Z 13)), (3, .ref (Z 12)), (4, .int (nI i))]) hx hb dL_law_231 hl (by decide) rfl (fun ls hl => ?_)
  refine lv_aload_n hx hb dL_law_233 rfl (lv_at hl 4 rfl) ?_
  refine r_callE (x := mThr (mLoad τ (xs (i + 1)) (xs (i + 2)) (xs (i + 3))).2) (va_runV (As := []) (rest := []) ⟨hx, hb, hml, hown, hts⟩ (c_X2_thrown l D cI cZ (fun k => Z (13 + k)) (mLoad τ (xs (i + 1)) (xs (i + 2)) (xs (i + 3))).2) (cwV 0 hts gL_law_X2_thrown rfl rfl rfl kd_X2_thrown ⟨Nat.le_of_ble_eq_true rfl, Nat.le_of_ble_eq_true rfl⟩) (pV_A hP hK) rfl rfl hl.1 rfl (lv_room (Nat.le_of_ble_eq_true rfl)) dL_law_234 ⟨hkc, hkn⟩) ?_
  refine lv_iload hx hb dL_law_237 (lv_at hl 1 rfl) ?_
  refine lv_icmp_eq (tgt := 244) hx hb dL_law_239 (by decide) (fun c_1 => ?_) (fun c_1 => ?_)
  rotate_left
  · exact absurd hs1.symm c_1
  refine lv_iload hx hb dL_law_244 (lv_at hl 1 rfl) ?_
  refine neZN ((cLoad σ (xs (i + 1)) (xs (i + 2)) (xs (i + 3))).1) (tgt := 261) hx hb rfl (by omega) dL_law_246 (by decide) (fun c_2 => ?_) (fun c_2 => ?_)
  · skip
    refine lv_goto (tgt := 1410) hx hb dL_law_261 (by decide) ?_
    exact kk _ _ _ _ _ _ hs5 hP hS (lv_sub hl [2, 3, 4, 5, 6] rfl)
  · have hc0 := hs3 c_2
    refine lv_aload_n hx hb dL_law_249 rfl (lv_at hl 5 rfl) ?_
    refine lv_iconst (v := 0) hx hb dL_law_250 (by decide) ?_
    refine lld_12 hx hb hK hP dL_law_251 ?_
    refine lv_iload hx hb dL_law_252 (lv_at hl 0 rfl) ?_
    refine lv_i2l (v := (mLoad τ (xs (i + 1)) (xs (i + 2)) (xs (i + 3))).1.toInt64) hx hb dL_law_254 rfl ?_
    have he : (oF o (cLoad σ (xs (i + 1)) (xs (i + 2)) (xs (i + 3))).1 (cLoad σ (xs (i + 1)) (xs (i + 2)) (xs (i + 3))).2.1) 0 = (mLoad τ (xs (i + 1)) (xs (i + 2)) (xs (i + 3))).1.toInt64 := by rw [hc0, oF0, hs4 hc0]; exact pk_uLs
    refine W.lcmp hx hb dL_law_255 ?_
    refine lv_if_eq (tgt := 261) hx hb dL_law_256 (by decide) (fun c_3 => ?_) (fun c_3 => ?_)
    · skip
      refine lv_goto (tgt := 1410) hx hb dL_law_261 (by decide) ?_
      exact kk _ _ _ _ _ _ hs5 hP hS (lv_sub hl [2, 3, 4, 5, 6] rfl)
    · exact absurd (cmp_eq he) c_3
set_option maxHeartbeats 4000000 in
set_option maxRecDepth 100000 in
theorem lc_part {p : Program} {l : Launch} {e : Env} {s : State} {m : MethodId} {below : List Frame} {meth : Method} {c : Code} {b L : Nat} {xs : Nat → Int32} {D : va_G} {cI cZ cJ : ClassId} {Z : Nat → Nat} (hf : l.stackTraces = false) (C0 : LC p s m c b L xs D cI cZ cJ Z) (hL : L ≤ 2048) {Rel : SG → SM → Prop} (hFx : ∀ σ τ, Rel σ τ → fxG σ ∧ fxM τ) {i : Nat} (hst : stepI Rel (fun σ => cPart σ (xs (i + 1)) (xs (i + 2)) (xs (i + 3))) (fun τ => mPart τ (xs (i + 1)) (xs (i + 2)) (xs (i + 3))) (fun z => z)) (hi : i + 4 ≤ L) {k n : Nat} (hkc : k + 1 ≤ 1060) (hkn : n + 6 ≤ 16143) {σ : SG} {τ : SM} {o : Nat → Int64} (hR : Rel σ τ) {H : Heap} {locs : List Loc} (hP : va_P D vwCl (wA cI cZ cJ Z σ τ o) H) (hS : va_S (fun a : Nat => s.heap.size ≤ a) s.heap H locs) {ls : Array Slot} (hl : lv_has ls 7 [(0, .ref b), (1, .ref (Z 0)), (2, .ref (Z 13)), (3, .ref (Z 12)), (4, .int (nI i))]) {Q : State → Prop}
  (kk : ∀ (σ : SG) (τ : SM) (o : Nat → Int64) (H : Heap) (locs : List Loc) (ls : Array Slot), Rel σ τ → va_P D vwCl (wA cI cZ cJ Z σ τ o) H → va_S (fun a : Nat => s.heap.size ≤ a) s.heap H locs → lv_has ls 7 [(0, .ref b), (1, .ref (Z 0)), (2, .ref (Z 13)), (3, .ref (Z 12)), (4, .int (nI i))] → W p l e room_1 s m #[Value.ref b] below meth c H locs (k + 1) (n + 6) Q (F0 m 1410 ls [])) : W p l e room_1 s m #[Value.ref b] below meth c H locs k n Q (F0 m 264 ls []) := by
  obtain ⟨hx, hb, hml, hown, hts, hXs, hbl, hZ, hZs, hK, hE, hN, hX0⟩ := C0
  have hbA : ¬ (fun a : Nat => s.heap.size ≤ a) b := Nat.not_le.mpr hbl
  have hA13 : ∀ a, adQ 13 Z a → (fun a : Nat => s.heap.size ≤ a) a := fun a ⟨k, h1, h2⟩ => by rw [h2]; exact hZs k (by omega)
  have hA20 : ∀ a, adQ 20 (fun k => Z (13 + k)) a → (fun a : Nat => s.heap.size ≤ a) a := fun a ⟨k, h1, h2⟩ => by rw [h2]; exact hZs (13 + k) (by omega)
  obtain ⟨hG, hM⟩ := hFx σ τ hR
  have hs := hst σ τ hR
  have hs1 : nI ((cPart σ (xs (i + 1)) (xs (i + 2)) (xs (i + 3))).1) = mThr (mPart τ (xs (i + 1)) (xs (i + 2)) (xs (i + 3))).2 := hs.1
  have hs2 : ((cPart σ (xs (i + 1)) (xs (i + 2)) (xs (i + 3))).1) < 4 := hs.2.1
  have hs3 : ((cPart σ (xs (i + 1)) (xs (i + 2)) (xs (i + 3))).1) = 0 → (cPart σ (xs (i + 1)) (xs (i + 2)) (xs (i + 3))).1 = 0 := hs.2.2.1
  have hs4 : (cPart σ (xs (i + 1)) (xs (i + 2)) (xs (i + 3))).1 = 0 → (cPart σ (xs (i + 1)) (xs (i + 2)) (xs (i + 3))).2.1 = (mPart τ (xs (i + 1)) (xs (i + 2)) (xs (i + 3))).1 := hs.2.2.2.1
  have hs5 : Rel (cPart σ (xs (i + 1)) (xs (i + 2)) (xs (i + 3))).2.2 (mPart τ (xs (i + 1)) (xs (i + 2)) (xs (i + 3))).2 := hs.2.2.2.2
  have hX : EX (adQ 13 Z) s H := EX_narrow (EX_kept hX0 hS.2.1) hA13
  refine lv_aload_n hx hb dL_law_264 rfl (lv_at hl 1 rfl) ?_
  refine lv_aload_n hx hb dL_law_265 rfl (lv_at hl 0 rfl) ?_
  refine lv_iload hx hb dL_law_266 (lv_at hl 4 rfl) ?_
  refine lv_iconst (v := 1) hx hb dL_law_268 (by decide) ?_
  refine addN i 1 hx hb rfl rfl dL_law_269 ?_
  refine lrd (i := i + 1) hx hb hXs hbl hbA hS rfl (by omega) hL dL_law_270 ?_
  refine lv_aload_n hx hb dL_law_271 rfl (lv_at hl 0 rfl) ?_
  refine lv_iload hx hb dL_law_272 (lv_at hl 4 rfl) ?_
  refine lv_iconst (v := 2) hx hb dL_law_274 (by decide) ?_
  refine addN i 2 hx hb rfl rfl dL_law_275 ?_
  refine lrd (i := i + 2) hx hb hXs hbl hbA hS rfl (by omega) hL dL_law_276 ?_
  refine lv_aload_n hx hb dL_law_277 rfl (lv_at hl 0 rfl) ?_
  refine lv_iload hx hb dL_law_278 (lv_at hl 4 rfl) ?_
  refine lv_iconst (v := 3) hx hb dL_law_280 (by decide) ?_
  refine addN i 3 hx hb rfl rfl dL_law_281 ?_
  refine lrd (i := i + 3) hx hb hXs hbl hbA hS rfl (by omega) hL dL_law_282 ?_
  refine lv_aload_n hx hb dL_law_283 rfl (lv_at hl 3 rfl) ?_
  refine w_call (vx_runSW (As := [.ref (Z 0), .int (xs (i + 1)), .int (xs (i + 2)), .int (xs (i + 3)), .ref (Z 12)]) (rest := []) ⟨hx, hb, hml, hown, hts⟩ (c_L_part l hf D cI cJ Z (ijL hZ) σ hG.1 hG.2 (xs (i + 1)) (xs (i + 2)) (xs (i + 3)) o) (vx_cwSW 5 hts gL_law_L_part rfl rfl rfl kn_L_part ⟨Nat.le_of_ble_eq_true rfl, Nat.le_of_ble_eq_true rfl⟩) (pS_L hP hK hE hN hX) rfl rfl hl.1 rfl (lv_room (Nat.le_of_ble_eq_true rfl)) dL_law_284 ⟨hkc, hkn⟩) hS hA13 (fun v H1 l1 hv hz9 hk9 hS => ?_)
  obtain ⟨rfl, hP1⟩ := hv
  have hP := wA_callL hZ hP hP1 hk9
  refine lv_istore (lv' := [(5, .int (nI ((cPart σ (xs (i + 1)) (xs (i + 2)) (xs (i + 3))).1))), (0, .ref b), (1, .ref (Z 0)), (2, .ref (Z 13)), (3, .ref (Z 12)), (4, .int (nI i))]) hx hb dL_law_287 hl (by decide) rfl (fun ls hl => ?_)
  refine lv_aload_n hx hb dL_law_289 rfl (lv_at hl 3 rfl) ?_
  refine lv_aload_n hx hb dL_law_290 rfl (lv_at hl 1 rfl) ?_
  refine lv_iload hx hb dL_law_291 (lv_at hl 5 rfl) ?_
  refine lv_iconst (v := 1) hx hb dL_law_293 (by decide) ?_
  refine addN i 1 hx hb rfl rfl dL_law_294 ?_
  refine lrd (i := i + 1) hx hb hXs hbl hbA hS rfl (by omega) hL dL_law_295 ?_
  refine lv_aload_n hx hb dL_law_296 rfl (lv_at hl 1 rfl) ?_
  refine lv_iload hx hb dL_law_297 (lv_at hl 5 rfl) ?_
  refine lv_iconst (v := 2) hx hb dL_law_299 (by decide) ?_
  refine addN i 2 hx hb rfl rfl dL_law_300 ?_
  refine lrd (i := i + 2) hx hb hXs hbl hbA hS rfl (by omega) hL dL_law_301 ?_
  refine lv_aload_n hx hb dL_law_302 rfl (lv_at hl 1 rfl) ?_
  refine lv_iload hx hb dL_law_303 (lv_at hl 5 rfl) ?_
  refine lv_iconst (v := 3) hx hb dL_law_305 (by decide) ?_
  refine addN i 3 hx hb rfl rfl dL_law_306 ?_
  refine lrd (i := i + 3) hx hb hXs hbl hbA hS rfl (by omega) hL dL_law_307 ?_
  refine w_call (va_runV (As := [.int (xs (i + 1)), .int (xs (i + 2)), .int (xs (i + 3))]) (rest := []) ⟨hx, hb, hml, hown, hts⟩ (c_X2_part l D cI cZ (fun k => Z (13 + k)) τ (ijM hZ) (xs (i + 1)) (xs (i + 2)) (xs (i + 3)) hM.1 hM.2.1 hM.2.2.1 hM.2.2.2.1 hM.2.2.2.2) (cwV 3 hts gL_law_X2_part rfl rfl rfl kd_X2_part ⟨Nat.le_of_ble_eq_true rfl, Nat.le_of_ble_eq_true rfl⟩) (pV_A hP hK) rfl rfl hl.1 rfl (lv_room (Nat.le_of_ble_eq_true rfl)) dL_law_308 ⟨hkc, hkn⟩) hS hA20 (fun v H2 l2 hv hz9 hk9 hS => ?_)
  obtain ⟨rfl, hP2⟩ := hv
  have hP := wA_callM hZ hP hP2 hk9
  refine lv_istore (lv' := [(6, .int (mPart τ (xs (i + 1)) (xs (i + 2)) (xs (i + 3))).1), (5, .int (nI ((cPart σ (xs (i + 1)) (xs (i + 2)) (xs (i + 3))).1))), (0, .ref b), (1, .ref (Z 0)), (2, .ref (Z 13)), (3, .ref (Z 12)), (4, .int (nI i))]) hx hb dL_law_311 hl (by decide) rfl (fun ls hl => ?_)
  refine lv_aload_n hx hb dL_law_313 rfl (lv_at hl 4 rfl) ?_
  refine r_callE (x := mThr (mPart τ (xs (i + 1)) (xs (i + 2)) (xs (i + 3))).2) (va_runV (As := []) (rest := []) ⟨hx, hb, hml, hown, hts⟩ (c_X2_thrown l D cI cZ (fun k => Z (13 + k)) (mPart τ (xs (i + 1)) (xs (i + 2)) (xs (i + 3))).2) (cwV 0 hts gL_law_X2_thrown rfl rfl rfl kd_X2_thrown ⟨Nat.le_of_ble_eq_true rfl, Nat.le_of_ble_eq_true rfl⟩) (pV_A hP hK) rfl rfl hl.1 rfl (lv_room (Nat.le_of_ble_eq_true rfl)) dL_law_314 ⟨hkc, hkn⟩) ?_
  refine lv_iload hx hb dL_law_317 (lv_at hl 1 rfl) ?_
  refine lv_icmp_eq (tgt := 324) hx hb dL_law_319 (by decide) (fun c_1 => ?_) (fun c_1 => ?_)
  rotate_left
  · exact absurd hs1.symm c_1
  refine lv_iload hx hb dL_law_324 (lv_at hl 1 rfl) ?_
  refine neZN ((cPart σ (xs (i + 1)) (xs (i + 2)) (xs (i + 3))).1) (tgt := 341) hx hb rfl (by omega) dL_law_326 (by decide) (fun c_2 => ?_) (fun c_2 => ?_)
  · skip
    refine lv_goto (tgt := 1410) hx hb dL_law_341 (by decide) ?_
    exact kk _ _ _ _ _ _ hs5 hP hS (lv_sub hl [2, 3, 4, 5, 6] rfl)
  · have hc0 := hs3 c_2
    refine lv_aload_n hx hb dL_law_329 rfl (lv_at hl 5 rfl) ?_
    refine lv_iconst (v := 0) hx hb dL_law_330 (by decide) ?_
    refine lld_12 hx hb hK hP dL_law_331 ?_
    refine lv_iload hx hb dL_law_332 (lv_at hl 0 rfl) ?_
    refine lv_i2l (v := (mPart τ (xs (i + 1)) (xs (i + 2)) (xs (i + 3))).1.toInt64) hx hb dL_law_334 rfl ?_
    have he : (oF o (cPart σ (xs (i + 1)) (xs (i + 2)) (xs (i + 3))).1 (cPart σ (xs (i + 1)) (xs (i + 2)) (xs (i + 3))).2.1) 0 = (mPart τ (xs (i + 1)) (xs (i + 2)) (xs (i + 3))).1.toInt64 := by rw [hc0, oF0, hs4 hc0]; exact pk_uLs
    refine W.lcmp hx hb dL_law_335 ?_
    refine lv_if_eq (tgt := 341) hx hb dL_law_336 (by decide) (fun c_3 => ?_) (fun c_3 => ?_)
    · skip
      refine lv_goto (tgt := 1410) hx hb dL_law_341 (by decide) ?_
      exact kk _ _ _ _ _ _ hs5 hP hS (lv_sub hl [2, 3, 4, 5, 6] rfl)
    · exact absurd (cmp_eq he) c_3
set_option maxHeartbeats 4000000 in
set_option maxRecDepth 100000 in
theorem lc_join {p : Program} {l : Launch} {e : Env} {s : State} {m : MethodId} {below : List Frame} {meth : Method} {c : Code} {b L : Nat} {xs : Nat → Int32} {D : va_G} {cI cZ cJ : ClassId} {Z : Nat → Nat} (hf : l.stackTraces = false) (C0 : LC p s m c b L xs D cI cZ cJ Z) (hL : L ≤ 2048) {Rel : SG → SM → Prop} (hFx : ∀ σ τ, Rel σ τ → fxG σ ∧ fxM τ) {i : Nat} (hst : stepI Rel (fun σ => cJoin σ (xs (i + 1)) (xs (i + 2))) (fun τ => mJoin τ (xs (i + 1)) (xs (i + 2))) (fun z => z)) (hi : i + 4 ≤ L) {k n : Nat} (hkc : k + 1 ≤ 1060) (hkn : n + 6 ≤ 16143) {σ : SG} {τ : SM} {o : Nat → Int64} (hR : Rel σ τ) {H : Heap} {locs : List Loc} (hP : va_P D vwCl (wA cI cZ cJ Z σ τ o) H) (hS : va_S (fun a : Nat => s.heap.size ≤ a) s.heap H locs) {ls : Array Slot} (hl : lv_has ls 7 [(0, .ref b), (1, .ref (Z 0)), (2, .ref (Z 13)), (3, .ref (Z 12)), (4, .int (nI i))]) {Q : State → Prop}
  (kk : ∀ (σ : SG) (τ : SM) (o : Nat → Int64) (H : Heap) (locs : List Loc) (ls : Array Slot), Rel σ τ → va_P D vwCl (wA cI cZ cJ Z σ τ o) H → va_S (fun a : Nat => s.heap.size ≤ a) s.heap H locs → lv_has ls 7 [(0, .ref b), (1, .ref (Z 0)), (2, .ref (Z 13)), (3, .ref (Z 12)), (4, .int (nI i))] → W p l e room_1 s m #[Value.ref b] below meth c H locs (k + 1) (n + 6) Q (F0 m 1410 ls [])) : W p l e room_1 s m #[Value.ref b] below meth c H locs k n Q (F0 m 344 ls []) := by
  obtain ⟨hx, hb, hml, hown, hts, hXs, hbl, hZ, hZs, hK, hE, hN, hX0⟩ := C0
  have hbA : ¬ (fun a : Nat => s.heap.size ≤ a) b := Nat.not_le.mpr hbl
  have hA13 : ∀ a, adQ 13 Z a → (fun a : Nat => s.heap.size ≤ a) a := fun a ⟨k, h1, h2⟩ => by rw [h2]; exact hZs k (by omega)
  have hA20 : ∀ a, adQ 20 (fun k => Z (13 + k)) a → (fun a : Nat => s.heap.size ≤ a) a := fun a ⟨k, h1, h2⟩ => by rw [h2]; exact hZs (13 + k) (by omega)
  obtain ⟨hG, hM⟩ := hFx σ τ hR
  have hs := hst σ τ hR
  have hs1 : nI ((cJoin σ (xs (i + 1)) (xs (i + 2))).1) = mThr (mJoin τ (xs (i + 1)) (xs (i + 2))).2 := hs.1
  have hs2 : ((cJoin σ (xs (i + 1)) (xs (i + 2))).1) < 4 := hs.2.1
  have hs3 : ((cJoin σ (xs (i + 1)) (xs (i + 2))).1) = 0 → (cJoin σ (xs (i + 1)) (xs (i + 2))).1 = 0 := hs.2.2.1
  have hs4 : (cJoin σ (xs (i + 1)) (xs (i + 2))).1 = 0 → (cJoin σ (xs (i + 1)) (xs (i + 2))).2.1 = (mJoin τ (xs (i + 1)) (xs (i + 2))).1 := hs.2.2.2.1
  have hs5 : Rel (cJoin σ (xs (i + 1)) (xs (i + 2))).2.2 (mJoin τ (xs (i + 1)) (xs (i + 2))).2 := hs.2.2.2.2
  have hX : EX (adQ 13 Z) s H := EX_narrow (EX_kept hX0 hS.2.1) hA13
  refine lv_aload_n hx hb dL_law_344 rfl (lv_at hl 1 rfl) ?_
  refine lv_aload_n hx hb dL_law_345 rfl (lv_at hl 0 rfl) ?_
  refine lv_iload hx hb dL_law_346 (lv_at hl 4 rfl) ?_
  refine lv_iconst (v := 1) hx hb dL_law_348 (by decide) ?_
  refine addN i 1 hx hb rfl rfl dL_law_349 ?_
  refine lrd (i := i + 1) hx hb hXs hbl hbA hS rfl (by omega) hL dL_law_350 ?_
  refine lv_aload_n hx hb dL_law_351 rfl (lv_at hl 0 rfl) ?_
  refine lv_iload hx hb dL_law_352 (lv_at hl 4 rfl) ?_
  refine lv_iconst (v := 2) hx hb dL_law_354 (by decide) ?_
  refine addN i 2 hx hb rfl rfl dL_law_355 ?_
  refine lrd (i := i + 2) hx hb hXs hbl hbA hS rfl (by omega) hL dL_law_356 ?_
  refine lv_aload_n hx hb dL_law_357 rfl (lv_at hl 3 rfl) ?_
  refine w_call (vx_runSW (As := [.ref (Z 0), .int (xs (i + 1)), .int (xs (i + 2)), .ref (Z 12)]) (rest := []) ⟨hx, hb, hml, hown, hts⟩ (c_L_join l hf D cI cJ Z (ijL hZ) σ hG.1 hG.2 (xs (i + 1)) (xs (i + 2)) o) (vx_cwSW 4 hts gL_law_L_join rfl rfl rfl kn_L_join ⟨Nat.le_of_ble_eq_true rfl, Nat.le_of_ble_eq_true rfl⟩) (pS_L hP hK hE hN hX) rfl rfl hl.1 rfl (lv_room (Nat.le_of_ble_eq_true rfl)) dL_law_358 ⟨hkc, hkn⟩) hS hA13 (fun v H1 l1 hv hz9 hk9 hS => ?_)
  obtain ⟨rfl, hP1⟩ := hv
  have hP := wA_callL hZ hP hP1 hk9
  refine lv_istore (lv' := [(5, .int (nI ((cJoin σ (xs (i + 1)) (xs (i + 2))).1))), (0, .ref b), (1, .ref (Z 0)), (2, .ref (Z 13)), (3, .ref (Z 12)), (4, .int (nI i))]) hx hb dL_law_361 hl (by decide) rfl (fun ls hl => ?_)
  refine lv_aload_n hx hb dL_law_363 rfl (lv_at hl 3 rfl) ?_
  refine lv_aload_n hx hb dL_law_364 rfl (lv_at hl 1 rfl) ?_
  refine lv_iload hx hb dL_law_365 (lv_at hl 5 rfl) ?_
  refine lv_iconst (v := 1) hx hb dL_law_367 (by decide) ?_
  refine addN i 1 hx hb rfl rfl dL_law_368 ?_
  refine lrd (i := i + 1) hx hb hXs hbl hbA hS rfl (by omega) hL dL_law_369 ?_
  refine lv_aload_n hx hb dL_law_370 rfl (lv_at hl 1 rfl) ?_
  refine lv_iload hx hb dL_law_371 (lv_at hl 5 rfl) ?_
  refine lv_iconst (v := 2) hx hb dL_law_373 (by decide) ?_
  refine addN i 2 hx hb rfl rfl dL_law_374 ?_
  refine lrd (i := i + 2) hx hb hXs hbl hbA hS rfl (by omega) hL dL_law_375 ?_
  refine w_call (va_runV (As := [.int (xs (i + 1)), .int (xs (i + 2))]) (rest := []) ⟨hx, hb, hml, hown, hts⟩ (c_X2_join l D cI cZ (fun k => Z (13 + k)) τ (ijM hZ) (xs (i + 1)) (xs (i + 2)) hM.1 hM.2.1 hM.2.2.1 hM.2.2.2.1 hM.2.2.2.2) (cwV 2 hts gL_law_X2_join rfl rfl rfl kd_X2_join ⟨Nat.le_of_ble_eq_true rfl, Nat.le_of_ble_eq_true rfl⟩) (pV_A hP hK) rfl rfl hl.1 rfl (lv_room (Nat.le_of_ble_eq_true rfl)) dL_law_376 ⟨hkc, hkn⟩) hS hA20 (fun v H2 l2 hv hz9 hk9 hS => ?_)
  obtain ⟨rfl, hP2⟩ := hv
  have hP := wA_callM hZ hP hP2 hk9
  refine lv_istore (lv' := [(6, .int (mJoin τ (xs (i + 1)) (xs (i + 2))).1), (5, .int (nI ((cJoin σ (xs (i + 1)) (xs (i + 2))).1))), (0, .ref b), (1, .ref (Z 0)), (2, .ref (Z 13)), (3, .ref (Z 12)), (4, .int (nI i))]) hx hb dL_law_379 hl (by decide) rfl (fun ls hl => ?_)
  refine lv_aload_n hx hb dL_law_381 rfl (lv_at hl 4 rfl) ?_
  refine r_callE (x := mThr (mJoin τ (xs (i + 1)) (xs (i + 2))).2) (va_runV (As := []) (rest := []) ⟨hx, hb, hml, hown, hts⟩ (c_X2_thrown l D cI cZ (fun k => Z (13 + k)) (mJoin τ (xs (i + 1)) (xs (i + 2))).2) (cwV 0 hts gL_law_X2_thrown rfl rfl rfl kd_X2_thrown ⟨Nat.le_of_ble_eq_true rfl, Nat.le_of_ble_eq_true rfl⟩) (pV_A hP hK) rfl rfl hl.1 rfl (lv_room (Nat.le_of_ble_eq_true rfl)) dL_law_382 ⟨hkc, hkn⟩) ?_
  refine lv_iload hx hb dL_law_385 (lv_at hl 1 rfl) ?_
  refine lv_icmp_eq (tgt := 392) hx hb dL_law_387 (by decide) (fun c_1 => ?_) (fun c_1 => ?_)
  rotate_left
  · exact absurd hs1.symm c_1
  refine lv_iload hx hb dL_law_392 (lv_at hl 1 rfl) ?_
  refine neZN ((cJoin σ (xs (i + 1)) (xs (i + 2))).1) (tgt := 409) hx hb rfl (by omega) dL_law_394 (by decide) (fun c_2 => ?_) (fun c_2 => ?_)
  · skip
    refine lv_goto (tgt := 1410) hx hb dL_law_409 (by decide) ?_
    exact kk _ _ _ _ _ _ hs5 hP hS (lv_sub hl [2, 3, 4, 5, 6] rfl)
  · have hc0 := hs3 c_2
    refine lv_aload_n hx hb dL_law_397 rfl (lv_at hl 5 rfl) ?_
    refine lv_iconst (v := 0) hx hb dL_law_398 (by decide) ?_
    refine lld_12 hx hb hK hP dL_law_399 ?_
    refine lv_iload hx hb dL_law_400 (lv_at hl 0 rfl) ?_
    refine lv_i2l (v := (mJoin τ (xs (i + 1)) (xs (i + 2))).1.toInt64) hx hb dL_law_402 rfl ?_
    have he : (oF o (cJoin σ (xs (i + 1)) (xs (i + 2))).1 (cJoin σ (xs (i + 1)) (xs (i + 2))).2.1) 0 = (mJoin τ (xs (i + 1)) (xs (i + 2))).1.toInt64 := by rw [hc0, oF0, hs4 hc0]; exact pk_uLs
    refine W.lcmp hx hb dL_law_403 ?_
    refine lv_if_eq (tgt := 409) hx hb dL_law_404 (by decide) (fun c_3 => ?_) (fun c_3 => ?_)
    · skip
      refine lv_goto (tgt := 1410) hx hb dL_law_409 (by decide) ?_
      exact kk _ _ _ _ _ _ hs5 hP hS (lv_sub hl [2, 3, 4, 5, 6] rfl)
    · exact absurd (cmp_eq he) c_3
set_option maxHeartbeats 4000000 in
set_option maxRecDepth 100000 in
theorem lc_move {p : Program} {l : Launch} {e : Env} {s : State} {m : MethodId} {below : List Frame} {meth : Method} {c : Code} {b L : Nat} {xs : Nat → Int32} {D : va_G} {cI cZ cJ : ClassId} {Z : Nat → Nat} (hf : l.stackTraces = false) (C0 : LC p s m c b L xs D cI cZ cJ Z) (hL : L ≤ 2048) {Rel : SG → SM → Prop} (hFx : ∀ σ τ, Rel σ τ → fxG σ ∧ fxM τ) {i : Nat} (hst : stepI Rel (fun σ => cMove σ (xs (i + 1)) (xs (i + 2))) (fun τ => mMove τ (xs (i + 1)) (xs (i + 2))) kB) (hi : i + 4 ≤ L) {k n : Nat} (hkc : k + 1 ≤ 1060) (hkn : n + 6 ≤ 16143) {σ : SG} {τ : SM} {o : Nat → Int64} (hR : Rel σ τ) {H : Heap} {locs : List Loc} (hP : va_P D vwCl (wA cI cZ cJ Z σ τ o) H) (hS : va_S (fun a : Nat => s.heap.size ≤ a) s.heap H locs) {ls : Array Slot} (hl : lv_has ls 7 [(0, .ref b), (1, .ref (Z 0)), (2, .ref (Z 13)), (3, .ref (Z 12)), (4, .int (nI i))]) {Q : State → Prop}
  (kk : ∀ (σ : SG) (τ : SM) (o : Nat → Int64) (H : Heap) (locs : List Loc) (ls : Array Slot), Rel σ τ → va_P D vwCl (wA cI cZ cJ Z σ τ o) H → va_S (fun a : Nat => s.heap.size ≤ a) s.heap H locs → lv_has ls 7 [(0, .ref b), (1, .ref (Z 0)), (2, .ref (Z 13)), (3, .ref (Z 12)), (4, .int (nI i))] → W p l e room_1 s m #[Value.ref b] below meth c H locs (k + 1) (n + 6) Q (F0 m 1410 ls [])) : W p l e room_1 s m #[Value.ref b] below meth c H locs k n Q (F0 m 412 ls []) := by
  obtain ⟨hx, hb, hml, hown, hts, hXs, hbl, hZ, hZs, hK, hE, hN, hX0⟩ := C0
  have hbA : ¬ (fun a : Nat => s.heap.size ≤ a) b := Nat.not_le.mpr hbl
  have hA13 : ∀ a, adQ 13 Z a → (fun a : Nat => s.heap.size ≤ a) a := fun a ⟨k, h1, h2⟩ => by rw [h2]; exact hZs k (by omega)
  have hA20 : ∀ a, adQ 20 (fun k => Z (13 + k)) a → (fun a : Nat => s.heap.size ≤ a) a := fun a ⟨k, h1, h2⟩ => by rw [h2]; exact hZs (13 + k) (by omega)
  obtain ⟨hG, hM⟩ := hFx σ τ hR
  have hs := hst σ τ hR
  have hs1 : nI (kB (cMove σ (xs (i + 1)) (xs (i + 2))).1) = mThr (mMove τ (xs (i + 1)) (xs (i + 2))).2 := hs.1
  have hs2 : (kB (cMove σ (xs (i + 1)) (xs (i + 2))).1) < 4 := hs.2.1
  have hs3 : (kB (cMove σ (xs (i + 1)) (xs (i + 2))).1) = 0 → (cMove σ (xs (i + 1)) (xs (i + 2))).1 = 0 := hs.2.2.1
  have hs4 : (cMove σ (xs (i + 1)) (xs (i + 2))).1 = 0 → (cMove σ (xs (i + 1)) (xs (i + 2))).2.1 = (mMove τ (xs (i + 1)) (xs (i + 2))).1 := hs.2.2.2.1
  have hs5 : Rel (cMove σ (xs (i + 1)) (xs (i + 2))).2.2 (mMove τ (xs (i + 1)) (xs (i + 2))).2 := hs.2.2.2.2
  have hX : EX (adQ 13 Z) s H := EX_narrow (EX_kept hX0 hS.2.1) hA13
  refine lv_aload_n hx hb dL_law_412 rfl (lv_at hl 1 rfl) ?_
  refine lv_aload_n hx hb dL_law_413 rfl (lv_at hl 0 rfl) ?_
  refine lv_iload hx hb dL_law_414 (lv_at hl 4 rfl) ?_
  refine lv_iconst (v := 1) hx hb dL_law_416 (by decide) ?_
  refine addN i 1 hx hb rfl rfl dL_law_417 ?_
  refine lrd (i := i + 1) hx hb hXs hbl hbA hS rfl (by omega) hL dL_law_418 ?_
  refine lv_aload_n hx hb dL_law_419 rfl (lv_at hl 0 rfl) ?_
  refine lv_iload hx hb dL_law_420 (lv_at hl 4 rfl) ?_
  refine lv_iconst (v := 2) hx hb dL_law_422 (by decide) ?_
  refine addN i 2 hx hb rfl rfl dL_law_423 ?_
  refine lrd (i := i + 2) hx hb hXs hbl hbA hS rfl (by omega) hL dL_law_424 ?_
  refine lv_aload_n hx hb dL_law_425 rfl (lv_at hl 3 rfl) ?_
  refine w_call (vx_runSW (As := [.ref (Z 0), .int (xs (i + 1)), .int (xs (i + 2)), .ref (Z 12)]) (rest := []) ⟨hx, hb, hml, hown, hts⟩ (c_L_move l hf D cI cJ Z (ijL hZ) σ hG.1 hG.2 (xs (i + 1)) (xs (i + 2)) o) (vx_cwSW 4 hts gL_law_L_move rfl rfl rfl kn_L_move ⟨Nat.le_of_ble_eq_true rfl, Nat.le_of_ble_eq_true rfl⟩) (pS_L hP hK hE hN hX) rfl rfl hl.1 rfl (lv_room (Nat.le_of_ble_eq_true rfl)) dL_law_426 ⟨hkc, hkn⟩) hS hA13 (fun v H1 l1 hv hz9 hk9 hS => ?_)
  obtain ⟨rfl, hP1⟩ := hv
  have hP := wA_callL hZ hP hP1 hk9
  refine lv_istore (lv' := [(5, .int (nI (kB (cMove σ (xs (i + 1)) (xs (i + 2))).1))), (0, .ref b), (1, .ref (Z 0)), (2, .ref (Z 13)), (3, .ref (Z 12)), (4, .int (nI i))]) hx hb dL_law_429 hl (by decide) rfl (fun ls hl => ?_)
  refine lv_aload_n hx hb dL_law_431 rfl (lv_at hl 3 rfl) ?_
  refine lv_aload_n hx hb dL_law_432 rfl (lv_at hl 1 rfl) ?_
  refine lv_iload hx hb dL_law_433 (lv_at hl 5 rfl) ?_
  refine lv_iconst (v := 1) hx hb dL_law_435 (by decide) ?_
  refine addN i 1 hx hb rfl rfl dL_law_436 ?_
  refine lrd (i := i + 1) hx hb hXs hbl hbA hS rfl (by omega) hL dL_law_437 ?_
  refine lv_aload_n hx hb dL_law_438 rfl (lv_at hl 1 rfl) ?_
  refine lv_iload hx hb dL_law_439 (lv_at hl 5 rfl) ?_
  refine lv_iconst (v := 2) hx hb dL_law_441 (by decide) ?_
  refine addN i 2 hx hb rfl rfl dL_law_442 ?_
  refine lrd (i := i + 2) hx hb hXs hbl hbA hS rfl (by omega) hL dL_law_443 ?_
  refine w_call (va_runV (As := [.int (xs (i + 1)), .int (xs (i + 2))]) (rest := []) ⟨hx, hb, hml, hown, hts⟩ (c_X2_move l D cI cZ (fun k => Z (13 + k)) τ (ijM hZ) (xs (i + 1)) (xs (i + 2)) hM.1 hM.2.1 hM.2.2.1 hM.2.2.2.1 hM.2.2.2.2) (cwV 2 hts gL_law_X2_move rfl rfl rfl kd_X2_move ⟨Nat.le_of_ble_eq_true rfl, Nat.le_of_ble_eq_true rfl⟩) (pV_A hP hK) rfl rfl hl.1 rfl (lv_room (Nat.le_of_ble_eq_true rfl)) dL_law_444 ⟨hkc, hkn⟩) hS hA20 (fun v H2 l2 hv hz9 hk9 hS => ?_)
  obtain ⟨rfl, hP2⟩ := hv
  have hP := wA_callM hZ hP hP2 hk9
  refine lv_istore (lv' := [(6, .int (mMove τ (xs (i + 1)) (xs (i + 2))).1), (5, .int (nI (kB (cMove σ (xs (i + 1)) (xs (i + 2))).1))), (0, .ref b), (1, .ref (Z 0)), (2, .ref (Z 13)), (3, .ref (Z 12)), (4, .int (nI i))]) hx hb dL_law_447 hl (by decide) rfl (fun ls hl => ?_)
  refine lv_aload_n hx hb dL_law_449 rfl (lv_at hl 4 rfl) ?_
  refine r_callE (x := mThr (mMove τ (xs (i + 1)) (xs (i + 2))).2) (va_runV (As := []) (rest := []) ⟨hx, hb, hml, hown, hts⟩ (c_X2_thrown l D cI cZ (fun k => Z (13 + k)) (mMove τ (xs (i + 1)) (xs (i + 2))).2) (cwV 0 hts gL_law_X2_thrown rfl rfl rfl kd_X2_thrown ⟨Nat.le_of_ble_eq_true rfl, Nat.le_of_ble_eq_true rfl⟩) (pV_A hP hK) rfl rfl hl.1 rfl (lv_room (Nat.le_of_ble_eq_true rfl)) dL_law_450 ⟨hkc, hkn⟩) ?_
  refine lv_iload hx hb dL_law_453 (lv_at hl 1 rfl) ?_
  refine lv_icmp_eq (tgt := 460) hx hb dL_law_455 (by decide) (fun c_1 => ?_) (fun c_1 => ?_)
  rotate_left
  · exact absurd hs1.symm c_1
  refine lv_iload hx hb dL_law_460 (lv_at hl 1 rfl) ?_
  refine neZN (kB (cMove σ (xs (i + 1)) (xs (i + 2))).1) (tgt := 477) hx hb rfl (by omega) dL_law_462 (by decide) (fun c_2 => ?_) (fun c_2 => ?_)
  · skip
    refine lv_goto (tgt := 1410) hx hb dL_law_477 (by decide) ?_
    exact kk _ _ _ _ _ _ hs5 hP hS (lv_sub hl [2, 3, 4, 5, 6] rfl)
  · have hc0 := hs3 c_2
    refine lv_aload_n hx hb dL_law_465 rfl (lv_at hl 5 rfl) ?_
    refine lv_iconst (v := 0) hx hb dL_law_466 (by decide) ?_
    refine lld_12 hx hb hK hP dL_law_467 ?_
    refine lv_iload hx hb dL_law_468 (lv_at hl 0 rfl) ?_
    refine lv_i2l (v := (mMove τ (xs (i + 1)) (xs (i + 2))).1.toInt64) hx hb dL_law_470 rfl ?_
    have he : (oF o (cMove σ (xs (i + 1)) (xs (i + 2))).1 (cMove σ (xs (i + 1)) (xs (i + 2))).2.1) 0 = (mMove τ (xs (i + 1)) (xs (i + 2))).1.toInt64 := by rw [hc0, oF0, hs4 hc0]; exact pk_uLs
    refine W.lcmp hx hb dL_law_471 ?_
    refine lv_if_eq (tgt := 477) hx hb dL_law_472 (by decide) (fun c_3 => ?_) (fun c_3 => ?_)
    · skip
      refine lv_goto (tgt := 1410) hx hb dL_law_477 (by decide) ?_
      exact kk _ _ _ _ _ _ hs5 hP hS (lv_sub hl [2, 3, 4, 5, 6] rfl)
    · exact absurd (cmp_eq he) c_3
set_option maxHeartbeats 4000000 in
set_option maxRecDepth 100000 in
theorem lc_hold {p : Program} {l : Launch} {e : Env} {s : State} {m : MethodId} {below : List Frame} {meth : Method} {c : Code} {b L : Nat} {xs : Nat → Int32} {D : va_G} {cI cZ cJ : ClassId} {Z : Nat → Nat} (hf : l.stackTraces = false) (C0 : LC p s m c b L xs D cI cZ cJ Z) (hL : L ≤ 2048) {Rel : SG → SM → Prop} (hFx : ∀ σ τ, Rel σ τ → fxG σ ∧ fxM τ) {i : Nat} (hst : stepB Rel (fun σ => cHold σ (xs (i + 1))) (fun τ => mHold τ (xs (i + 1))) kB) (hi : i + 4 ≤ L) {k n : Nat} (hkc : k + 1 ≤ 1060) (hkn : n + 6 ≤ 16143) {σ : SG} {τ : SM} {o : Nat → Int64} (hR : Rel σ τ) {H : Heap} {locs : List Loc} (hP : va_P D vwCl (wA cI cZ cJ Z σ τ o) H) (hS : va_S (fun a : Nat => s.heap.size ≤ a) s.heap H locs) {ls : Array Slot} (hl : lv_has ls 7 [(0, .ref b), (1, .ref (Z 0)), (2, .ref (Z 13)), (3, .ref (Z 12)), (4, .int (nI i))]) {Q : State → Prop}
  (kk : ∀ (σ : SG) (τ : SM) (o : Nat → Int64) (H : Heap) (locs : List Loc) (ls : Array Slot), Rel σ τ → va_P D vwCl (wA cI cZ cJ Z σ τ o) H → va_S (fun a : Nat => s.heap.size ≤ a) s.heap H locs → lv_has ls 7 [(0, .ref b), (1, .ref (Z 0)), (2, .ref (Z 13)), (3, .ref (Z 12)), (4, .int (nI i))] → W p l e room_1 s m #[Value.ref b] below meth c H locs (k + 1) (n + 6) Q (F0 m 1410 ls [])) : W p l e room_1 s m #[Value.ref b] below meth c H locs k n Q (F0 m 480 ls []) := by
  obtain ⟨hx, hb, hml, hown, hts, hXs, hbl, hZ, hZs, hK, hE, hN, hX0⟩ := C0
  have hbA : ¬ (fun a : Nat => s.heap.size ≤ a) b := Nat.not_le.mpr hbl
  have hA13 : ∀ a, adQ 13 Z a → (fun a : Nat => s.heap.size ≤ a) a := fun a ⟨k, h1, h2⟩ => by rw [h2]; exact hZs k (by omega)
  have hA20 : ∀ a, adQ 20 (fun k => Z (13 + k)) a → (fun a : Nat => s.heap.size ≤ a) a := fun a ⟨k, h1, h2⟩ => by rw [h2]; exact hZs (13 + k) (by omega)
  obtain ⟨hG, hM⟩ := hFx σ τ hR
  have hs := hst σ τ hR
  have hs1 : nI (kB (cHold σ (xs (i + 1))).1) = mThr (mHold τ (xs (i + 1))).2 := hs.1
  have hs2 : (kB (cHold σ (xs (i + 1))).1) < 4 := hs.2.1
  have hs3 : (kB (cHold σ (xs (i + 1))).1) = 0 → (cHold σ (xs (i + 1))).1 = 0 := hs.2.2.1
  have hs4 : (cHold σ (xs (i + 1))).1 = 0 → (cHold σ (xs (i + 1))).2.1 = (mHold τ (xs (i + 1))).1 := hs.2.2.2.1
  have hs5 : Rel (cHold σ (xs (i + 1))).2.2 (mHold τ (xs (i + 1))).2 := hs.2.2.2.2
  have hX : EX (adQ 13 Z) s H := EX_narrow (EX_kept hX0 hS.2.1) hA13
  refine lv_aload_n hx hb dL_law_480 rfl (lv_at hl 1 rfl) ?_
  refine lv_aload_n hx hb dL_law_481 rfl (lv_at hl 0 rfl) ?_
  refine lv_iload hx hb dL_law_482 (lv_at hl 4 rfl) ?_
  refine lv_iconst (v := 1) hx hb dL_law_484 (by decide) ?_
  refine addN i 1 hx hb rfl rfl dL_law_485 ?_
  refine lrd (i := i + 1) hx hb hXs hbl hbA hS rfl (by omega) hL dL_law_486 ?_
  refine lv_aload_n hx hb dL_law_487 rfl (lv_at hl 3 rfl) ?_
  refine w_call (vx_runSW (As := [.ref (Z 0), .int (xs (i + 1)), .ref (Z 12)]) (rest := []) ⟨hx, hb, hml, hown, hts⟩ (c_L_hold l hf D cI cJ Z (ijL hZ) σ hG.1 hG.2 (xs (i + 1)) o) (vx_cwSW 3 hts gL_law_L_hold rfl rfl rfl kn_L_hold ⟨Nat.le_of_ble_eq_true rfl, Nat.le_of_ble_eq_true rfl⟩) (pS_L hP hK hE hN hX) rfl rfl hl.1 rfl (lv_room (Nat.le_of_ble_eq_true rfl)) dL_law_488 ⟨hkc, hkn⟩) hS hA13 (fun v H1 l1 hv hz9 hk9 hS => ?_)
  obtain ⟨rfl, hP1⟩ := hv
  have hP := wA_callL hZ hP hP1 hk9
  refine lv_istore (lv' := [(5, .int (nI (kB (cHold σ (xs (i + 1))).1))), (0, .ref b), (1, .ref (Z 0)), (2, .ref (Z 13)), (3, .ref (Z 12)), (4, .int (nI i))]) hx hb dL_law_491 hl (by decide) rfl (fun ls hl => ?_)
  refine lv_aload_n hx hb dL_law_493 rfl (lv_at hl 3 rfl) ?_
  refine lv_aload_n hx hb dL_law_494 rfl (lv_at hl 1 rfl) ?_
  refine lv_iload hx hb dL_law_495 (lv_at hl 5 rfl) ?_
  refine lv_iconst (v := 1) hx hb dL_law_497 (by decide) ?_
  refine addN i 1 hx hb rfl rfl dL_law_498 ?_
  refine lrd (i := i + 1) hx hb hXs hbl hbA hS rfl (by omega) hL dL_law_499 ?_
  refine w_call (va_runV (As := [.int (xs (i + 1))]) (rest := []) ⟨hx, hb, hml, hown, hts⟩ (c_X2_hold l D cI cZ (fun k => Z (13 + k)) τ (ijM hZ) (xs (i + 1)) hM.1 hM.2.1 hM.2.2.1 hM.2.2.2.1 hM.2.2.2.2) (cwV 1 hts gL_law_X2_hold rfl rfl rfl kd_X2_hold ⟨Nat.le_of_ble_eq_true rfl, Nat.le_of_ble_eq_true rfl⟩) (pV_A hP hK) rfl rfl hl.1 rfl (lv_room (Nat.le_of_ble_eq_true rfl)) dL_law_500 ⟨hkc, hkn⟩) hS hA20 (fun v H2 l2 hv hz9 hk9 hS => ?_)
  obtain ⟨rfl, hP2⟩ := hv
  have hP := wA_callM hZ hP hP2 hk9
  refine lv_istore (lv' := [(6, .int (bI (mHold τ (xs (i + 1))).1)), (5, .int (nI (kB (cHold σ (xs (i + 1))).1))), (0, .ref b), (1, .ref (Z 0)), (2, .ref (Z 13)), (3, .ref (Z 12)), (4, .int (nI i))]) hx hb dL_law_503 hl (by decide) rfl (fun ls hl => ?_)
  refine lv_aload_n hx hb dL_law_505 rfl (lv_at hl 4 rfl) ?_
  refine r_callE (x := mThr (mHold τ (xs (i + 1))).2) (va_runV (As := []) (rest := []) ⟨hx, hb, hml, hown, hts⟩ (c_X2_thrown l D cI cZ (fun k => Z (13 + k)) (mHold τ (xs (i + 1))).2) (cwV 0 hts gL_law_X2_thrown rfl rfl rfl kd_X2_thrown ⟨Nat.le_of_ble_eq_true rfl, Nat.le_of_ble_eq_true rfl⟩) (pV_A hP hK) rfl rfl hl.1 rfl (lv_room (Nat.le_of_ble_eq_true rfl)) dL_law_506 ⟨hkc, hkn⟩) ?_
  refine lv_iload hx hb dL_law_509 (lv_at hl 1 rfl) ?_
  refine lv_icmp_eq (tgt := 516) hx hb dL_law_511 (by decide) (fun c_1 => ?_) (fun c_1 => ?_)
  rotate_left
  · exact absurd hs1.symm c_1
  refine lv_iload hx hb dL_law_516 (lv_at hl 1 rfl) ?_
  refine neZN (kB (cHold σ (xs (i + 1))).1) (tgt := 540) hx hb rfl (by omega) dL_law_518 (by decide) (fun c_2 => ?_) (fun c_2 => ?_)
  · skip
    refine lv_goto (tgt := 1410) hx hb dL_law_540 (by decide) ?_
    exact kk _ _ _ _ _ _ hs5 hP hS (lv_sub hl [2, 3, 4, 5, 6] rfl)
  · have hc0 := hs3 c_2
    refine lv_aload_n hx hb dL_law_521 rfl (lv_at hl 5 rfl) ?_
    refine lv_iconst (v := 0) hx hb dL_law_522 (by decide) ?_
    refine lld_12 hx hb hK hP dL_law_523 ?_
    refine lv_iload hx hb dL_law_524 (lv_at hl 0 rfl) ?_
    have he : (oF o (cHold σ (xs (i + 1))).1 (bI (cHold σ (xs (i + 1))).2.1)) 0 = (bI (mHold τ (xs (i + 1))).1).toInt64 := by rw [hc0, oF0, hs4 hc0]; exact pk_uLs
    refine eqB ((mHold τ (xs (i + 1))).1) (tgt := 533) hx hb rfl dL_law_526 (by decide) (fun c_4 => ?_) (fun c_4 => ?_)
    · skip
      refine lv_lconst (v := 0) hx hb dL_law_533 (by decide) ?_
      refine W.lcmp hx hb dL_law_534 ?_
      refine lv_if_eq (tgt := 540) hx hb dL_law_535 (by decide) (fun c_3 => ?_) (fun c_3 => ?_)
      · skip
        refine lv_goto (tgt := 1410) hx hb dL_law_540 (by decide) ?_
        exact kk _ _ _ _ _ _ hs5 hP hS (lv_sub hl [2, 3, 4, 5, 6] rfl)
      · exact absurd (cmp_eq (by rw [he, c_4]; exact tI0)) c_3
    · skip
      refine lv_lconst (v := 1) hx hb dL_law_529 (by decide) ?_
      refine lv_goto (tgt := 534) hx hb dL_law_530 (by decide) ?_
      refine W.lcmp hx hb dL_law_534 ?_
      refine lv_if_eq (tgt := 540) hx hb dL_law_535 (by decide) (fun c_3 => ?_) (fun c_3 => ?_)
      · skip
        refine lv_goto (tgt := 1410) hx hb dL_law_540 (by decide) ?_
        exact kk _ _ _ _ _ _ hs5 hP hS (lv_sub hl [2, 3, 4, 5, 6] rfl)
      · exact absurd (cmp_eq (by rw [he, c_4]; exact tI1)) c_3
set_option maxHeartbeats 4000000 in
set_option maxRecDepth 100000 in
theorem lc_spoil {p : Program} {l : Launch} {e : Env} {s : State} {m : MethodId} {below : List Frame} {meth : Method} {c : Code} {b L : Nat} {xs : Nat → Int32} {D : va_G} {cI cZ cJ : ClassId} {Z : Nat → Nat} (hf : l.stackTraces = false) (C0 : LC p s m c b L xs D cI cZ cJ Z) (hL : L ≤ 2048) {Rel : SG → SM → Prop} (hFx : ∀ σ τ, Rel σ τ → fxG σ ∧ fxM τ) {i : Nat} (hst : stepI Rel (fun σ => cSpoil σ (xs (i + 1)) (xs (i + 2)) (xs (i + 3))) (fun τ => mSpoil τ (xs (i + 1)) (xs (i + 2)) (xs (i + 3))) (fun z => z)) (hi : i + 4 ≤ L) {k n : Nat} (hkc : k + 1 ≤ 1060) (hkn : n + 6 ≤ 16143) {σ : SG} {τ : SM} {o : Nat → Int64} (hR : Rel σ τ) {H : Heap} {locs : List Loc} (hP : va_P D vwCl (wA cI cZ cJ Z σ τ o) H) (hS : va_S (fun a : Nat => s.heap.size ≤ a) s.heap H locs) {ls : Array Slot} (hl : lv_has ls 7 [(0, .ref b), (1, .ref (Z 0)), (2, .ref (Z 13)), (3, .ref (Z 12)), (4, .int (nI i))]) {Q : State → Prop}
  (kk : ∀ (σ : SG) (τ : SM) (o : Nat → Int64) (H : Heap) (locs : List Loc) (ls : Array Slot), Rel σ τ → va_P D vwCl (wA cI cZ cJ Z σ τ o) H → va_S (fun a : Nat => s.heap.size ≤ a) s.heap H locs → lv_has ls 7 [(0, .ref b), (1, .ref (Z 0)), (2, .ref (Z 13)), (3, .ref (Z 12)), (4, .int (nI i))] → W p l e room_1 s m #[Value.ref b] below meth c H locs (k + 1) (n + 6) Q (F0 m 1410 ls [])) : W p l e room_1 s m #[Value.ref b] below meth c H locs k n Q (F0 m 543 ls []) := by
  obtain ⟨hx, hb, hml, hown, hts, hXs, hbl, hZ, hZs, hK, hE, hN, hX0⟩ := C0
  have hbA : ¬ (fun a : Nat => s.heap.size ≤ a) b := Nat.not_le.mpr hbl
  have hA13 : ∀ a, adQ 13 Z a → (fun a : Nat => s.heap.size ≤ a) a := fun a ⟨k, h1, h2⟩ => by rw [h2]; exact hZs k (by omega)
  have hA20 : ∀ a, adQ 20 (fun k => Z (13 + k)) a → (fun a : Nat => s.heap.size ≤ a) a := fun a ⟨k, h1, h2⟩ => by rw [h2]; exact hZs (13 + k) (by omega)
  obtain ⟨hG, hM⟩ := hFx σ τ hR
  have hs := hst σ τ hR
  have hs1 : nI ((cSpoil σ (xs (i + 1)) (xs (i + 2)) (xs (i + 3))).1) = mThr (mSpoil τ (xs (i + 1)) (xs (i + 2)) (xs (i + 3))).2 := hs.1
  have hs2 : ((cSpoil σ (xs (i + 1)) (xs (i + 2)) (xs (i + 3))).1) < 4 := hs.2.1
  have hs3 : ((cSpoil σ (xs (i + 1)) (xs (i + 2)) (xs (i + 3))).1) = 0 → (cSpoil σ (xs (i + 1)) (xs (i + 2)) (xs (i + 3))).1 = 0 := hs.2.2.1
  have hs4 : (cSpoil σ (xs (i + 1)) (xs (i + 2)) (xs (i + 3))).1 = 0 → (cSpoil σ (xs (i + 1)) (xs (i + 2)) (xs (i + 3))).2.1 = (mSpoil τ (xs (i + 1)) (xs (i + 2)) (xs (i + 3))).1 := hs.2.2.2.1
  have hs5 : Rel (cSpoil σ (xs (i + 1)) (xs (i + 2)) (xs (i + 3))).2.2 (mSpoil τ (xs (i + 1)) (xs (i + 2)) (xs (i + 3))).2 := hs.2.2.2.2
  have hX : EX (adQ 13 Z) s H := EX_narrow (EX_kept hX0 hS.2.1) hA13
  refine lv_aload_n hx hb dL_law_543 rfl (lv_at hl 1 rfl) ?_
  refine lv_aload_n hx hb dL_law_544 rfl (lv_at hl 0 rfl) ?_
  refine lv_iload hx hb dL_law_545 (lv_at hl 4 rfl) ?_
  refine lv_iconst (v := 1) hx hb dL_law_547 (by decide) ?_
  refine addN i 1 hx hb rfl rfl dL_law_548 ?_
  refine lrd (i := i + 1) hx hb hXs hbl hbA hS rfl (by omega) hL dL_law_549 ?_
  refine lv_aload_n hx hb dL_law_550 rfl (lv_at hl 0 rfl) ?_
  refine lv_iload hx hb dL_law_551 (lv_at hl 4 rfl) ?_
  refine lv_iconst (v := 2) hx hb dL_law_553 (by decide) ?_
  refine addN i 2 hx hb rfl rfl dL_law_554 ?_
  refine lrd (i := i + 2) hx hb hXs hbl hbA hS rfl (by omega) hL dL_law_555 ?_
  refine lv_aload_n hx hb dL_law_556 rfl (lv_at hl 0 rfl) ?_
  refine lv_iload hx hb dL_law_557 (lv_at hl 4 rfl) ?_
  refine lv_iconst (v := 3) hx hb dL_law_559 (by decide) ?_
  refine addN i 3 hx hb rfl rfl dL_law_560 ?_
  refine lrd (i := i + 3) hx hb hXs hbl hbA hS rfl (by omega) hL dL_law_561 ?_
  refine lv_aload_n hx hb dL_law_562 rfl (lv_at hl 3 rfl) ?_
  refine w_call (vx_runSW (As := [.ref (Z 0), .int (xs (i + 1)), .int (xs (i + 2)), .int (xs (i + 3)), .ref (Z 12)]) (rest := []) ⟨hx, hb, hml, hown, hts⟩ (c_L_spoil l hf D cI cJ Z (ijL hZ) σ hG.1 hG.2 (xs (i + 1)) (xs (i + 2)) (xs (i + 3)) o) (vx_cwSW 5 hts gL_law_L_spoil rfl rfl rfl kn_L_spoil ⟨Nat.le_of_ble_eq_true rfl, Nat.le_of_ble_eq_true rfl⟩) (pS_L hP hK hE hN hX) rfl rfl hl.1 rfl (lv_room (Nat.le_of_ble_eq_true rfl)) dL_law_563 ⟨hkc, hkn⟩) hS hA13 (fun v H1 l1 hv hz9 hk9 hS => ?_)
  obtain ⟨rfl, hP1⟩ := hv
  have hP := wA_callL hZ hP hP1 hk9
  refine lv_istore (lv' := [(5, .int (nI ((cSpoil σ (xs (i + 1)) (xs (i + 2)) (xs (i + 3))).1))), (0, .ref b), (1, .ref (Z 0)), (2, .ref (Z 13)), (3, .ref (Z 12)), (4, .int (nI i))]) hx hb dL_law_566 hl (by decide) rfl (fun ls hl => ?_)
  refine lv_aload_n hx hb dL_law_568 rfl (lv_at hl 3 rfl) ?_
  refine lv_aload_n hx hb dL_law_569 rfl (lv_at hl 1 rfl) ?_
  refine lv_iload hx hb dL_law_570 (lv_at hl 5 rfl) ?_
  refine lv_iconst (v := 1) hx hb dL_law_572 (by decide) ?_
  refine addN i 1 hx hb rfl rfl dL_law_573 ?_
  refine lrd (i := i + 1) hx hb hXs hbl hbA hS rfl (by omega) hL dL_law_574 ?_
  refine lv_aload_n hx hb dL_law_575 rfl (lv_at hl 1 rfl) ?_
  refine lv_iload hx hb dL_law_576 (lv_at hl 5 rfl) ?_
  refine lv_iconst (v := 2) hx hb dL_law_578 (by decide) ?_
  refine addN i 2 hx hb rfl rfl dL_law_579 ?_
  refine lrd (i := i + 2) hx hb hXs hbl hbA hS rfl (by omega) hL dL_law_580 ?_
  refine lv_aload_n hx hb dL_law_581 rfl (lv_at hl 1 rfl) ?_
  refine lv_iload hx hb dL_law_582 (lv_at hl 5 rfl) ?_
  refine lv_iconst (v := 3) hx hb dL_law_584 (by decide) ?_
  refine addN i 3 hx hb rfl rfl dL_law_585 ?_
  refine lrd (i := i + 3) hx hb hXs hbl hbA hS rfl (by omega) hL dL_law_586 ?_
  refine w_call (va_runV (As := [.int (xs (i + 1)), .int (xs (i + 2)), .int (xs (i + 3))]) (rest := []) ⟨hx, hb, hml, hown, hts⟩ (c_X2_spoil l D cI cZ (fun k => Z (13 + k)) τ (ijM hZ) (xs (i + 1)) (xs (i + 2)) (xs (i + 3)) hM.1 hM.2.1 hM.2.2.1 hM.2.2.2.1 hM.2.2.2.2) (cwV 3 hts gL_law_X2_spoil rfl rfl rfl kd_X2_spoil ⟨Nat.le_of_ble_eq_true rfl, Nat.le_of_ble_eq_true rfl⟩) (pV_A hP hK) rfl rfl hl.1 rfl (lv_room (Nat.le_of_ble_eq_true rfl)) dL_law_587 ⟨hkc, hkn⟩) hS hA20 (fun v H2 l2 hv hz9 hk9 hS => ?_)
  obtain ⟨rfl, hP2⟩ := hv
  have hP := wA_callM hZ hP hP2 hk9
  refine lv_istore (lv' := [(6, .int (mSpoil τ (xs (i + 1)) (xs (i + 2)) (xs (i + 3))).1), (5, .int (nI ((cSpoil σ (xs (i + 1)) (xs (i + 2)) (xs (i + 3))).1))), (0, .ref b), (1, .ref (Z 0)), (2, .ref (Z 13)), (3, .ref (Z 12)), (4, .int (nI i))]) hx hb dL_law_590 hl (by decide) rfl (fun ls hl => ?_)
  refine lv_aload_n hx hb dL_law_592 rfl (lv_at hl 4 rfl) ?_
  refine r_callE (x := mThr (mSpoil τ (xs (i + 1)) (xs (i + 2)) (xs (i + 3))).2) (va_runV (As := []) (rest := []) ⟨hx, hb, hml, hown, hts⟩ (c_X2_thrown l D cI cZ (fun k => Z (13 + k)) (mSpoil τ (xs (i + 1)) (xs (i + 2)) (xs (i + 3))).2) (cwV 0 hts gL_law_X2_thrown rfl rfl rfl kd_X2_thrown ⟨Nat.le_of_ble_eq_true rfl, Nat.le_of_ble_eq_true rfl⟩) (pV_A hP hK) rfl rfl hl.1 rfl (lv_room (Nat.le_of_ble_eq_true rfl)) dL_law_593 ⟨hkc, hkn⟩) ?_
  refine lv_iload hx hb dL_law_596 (lv_at hl 1 rfl) ?_
  refine lv_icmp_eq (tgt := 603) hx hb dL_law_598 (by decide) (fun c_1 => ?_) (fun c_1 => ?_)
  rotate_left
  · exact absurd hs1.symm c_1
  refine lv_iload hx hb dL_law_603 (lv_at hl 1 rfl) ?_
  refine neZN ((cSpoil σ (xs (i + 1)) (xs (i + 2)) (xs (i + 3))).1) (tgt := 620) hx hb rfl (by omega) dL_law_605 (by decide) (fun c_2 => ?_) (fun c_2 => ?_)
  · skip
    refine lv_goto (tgt := 1410) hx hb dL_law_620 (by decide) ?_
    exact kk _ _ _ _ _ _ hs5 hP hS (lv_sub hl [2, 3, 4, 5, 6] rfl)
  · have hc0 := hs3 c_2
    refine lv_aload_n hx hb dL_law_608 rfl (lv_at hl 5 rfl) ?_
    refine lv_iconst (v := 0) hx hb dL_law_609 (by decide) ?_
    refine lld_12 hx hb hK hP dL_law_610 ?_
    refine lv_iload hx hb dL_law_611 (lv_at hl 0 rfl) ?_
    refine lv_i2l (v := (mSpoil τ (xs (i + 1)) (xs (i + 2)) (xs (i + 3))).1.toInt64) hx hb dL_law_613 rfl ?_
    have he : (oF o (cSpoil σ (xs (i + 1)) (xs (i + 2)) (xs (i + 3))).1 (cSpoil σ (xs (i + 1)) (xs (i + 2)) (xs (i + 3))).2.1) 0 = (mSpoil τ (xs (i + 1)) (xs (i + 2)) (xs (i + 3))).1.toInt64 := by rw [hc0, oF0, hs4 hc0]; exact pk_uLs
    refine W.lcmp hx hb dL_law_614 ?_
    refine lv_if_eq (tgt := 620) hx hb dL_law_615 (by decide) (fun c_3 => ?_) (fun c_3 => ?_)
    · skip
      refine lv_goto (tgt := 1410) hx hb dL_law_620 (by decide) ?_
      exact kk _ _ _ _ _ _ hs5 hP hS (lv_sub hl [2, 3, 4, 5, 6] rfl)
    · exact absurd (cmp_eq he) c_3
set_option maxHeartbeats 4000000 in
set_option maxRecDepth 100000 in
theorem lc_lose {p : Program} {l : Launch} {e : Env} {s : State} {m : MethodId} {below : List Frame} {meth : Method} {c : Code} {b L : Nat} {xs : Nat → Int32} {D : va_G} {cI cZ cJ : ClassId} {Z : Nat → Nat} (hf : l.stackTraces = false) (C0 : LC p s m c b L xs D cI cZ cJ Z) (hL : L ≤ 2048) {Rel : SG → SM → Prop} (hFx : ∀ σ τ, Rel σ τ → fxG σ ∧ fxM τ) {i : Nat} (hst : stepI Rel (fun σ => cLose σ (xs (i + 1))) (fun τ => mLose τ (xs (i + 1))) (fun z => z)) (hi : i + 4 ≤ L) {k n : Nat} (hkc : k + 1 ≤ 1060) (hkn : n + 6 ≤ 16143) {σ : SG} {τ : SM} {o : Nat → Int64} (hR : Rel σ τ) {H : Heap} {locs : List Loc} (hP : va_P D vwCl (wA cI cZ cJ Z σ τ o) H) (hS : va_S (fun a : Nat => s.heap.size ≤ a) s.heap H locs) {ls : Array Slot} (hl : lv_has ls 7 [(0, .ref b), (1, .ref (Z 0)), (2, .ref (Z 13)), (3, .ref (Z 12)), (4, .int (nI i))]) {Q : State → Prop}
  (kk : ∀ (σ : SG) (τ : SM) (o : Nat → Int64) (H : Heap) (locs : List Loc) (ls : Array Slot), Rel σ τ → va_P D vwCl (wA cI cZ cJ Z σ τ o) H → va_S (fun a : Nat => s.heap.size ≤ a) s.heap H locs → lv_has ls 7 [(0, .ref b), (1, .ref (Z 0)), (2, .ref (Z 13)), (3, .ref (Z 12)), (4, .int (nI i))] → W p l e room_1 s m #[Value.ref b] below meth c H locs (k + 1) (n + 6) Q (F0 m 1410 ls [])) : W p l e room_1 s m #[Value.ref b] below meth c H locs k n Q (F0 m 623 ls []) := by
  obtain ⟨hx, hb, hml, hown, hts, hXs, hbl, hZ, hZs, hK, hE, hN, hX0⟩ := C0
  have hbA : ¬ (fun a : Nat => s.heap.size ≤ a) b := Nat.not_le.mpr hbl
  have hA13 : ∀ a, adQ 13 Z a → (fun a : Nat => s.heap.size ≤ a) a := fun a ⟨k, h1, h2⟩ => by rw [h2]; exact hZs k (by omega)
  have hA20 : ∀ a, adQ 20 (fun k => Z (13 + k)) a → (fun a : Nat => s.heap.size ≤ a) a := fun a ⟨k, h1, h2⟩ => by rw [h2]; exact hZs (13 + k) (by omega)
  obtain ⟨hG, hM⟩ := hFx σ τ hR
  have hs := hst σ τ hR
  have hs1 : nI ((cLose σ (xs (i + 1))).1) = mThr (mLose τ (xs (i + 1))).2 := hs.1
  have hs2 : ((cLose σ (xs (i + 1))).1) < 4 := hs.2.1
  have hs3 : ((cLose σ (xs (i + 1))).1) = 0 → (cLose σ (xs (i + 1))).1 = 0 := hs.2.2.1
  have hs4 : (cLose σ (xs (i + 1))).1 = 0 → (cLose σ (xs (i + 1))).2.1 = (mLose τ (xs (i + 1))).1 := hs.2.2.2.1
  have hs5 : Rel (cLose σ (xs (i + 1))).2.2 (mLose τ (xs (i + 1))).2 := hs.2.2.2.2
  have hX : EX (adQ 13 Z) s H := EX_narrow (EX_kept hX0 hS.2.1) hA13
  refine lv_aload_n hx hb dL_law_623 rfl (lv_at hl 1 rfl) ?_
  refine lv_aload_n hx hb dL_law_624 rfl (lv_at hl 0 rfl) ?_
  refine lv_iload hx hb dL_law_625 (lv_at hl 4 rfl) ?_
  refine lv_iconst (v := 1) hx hb dL_law_627 (by decide) ?_
  refine addN i 1 hx hb rfl rfl dL_law_628 ?_
  refine lrd (i := i + 1) hx hb hXs hbl hbA hS rfl (by omega) hL dL_law_629 ?_
  refine lv_aload_n hx hb dL_law_630 rfl (lv_at hl 3 rfl) ?_
  refine w_call (vx_runSW (As := [.ref (Z 0), .int (xs (i + 1)), .ref (Z 12)]) (rest := []) ⟨hx, hb, hml, hown, hts⟩ (c_L_lose l hf D cI cJ Z (ijL hZ) σ hG.1 hG.2 (xs (i + 1)) o) (vx_cwSW 3 hts gL_law_L_lose rfl rfl rfl kn_L_lose ⟨Nat.le_of_ble_eq_true rfl, Nat.le_of_ble_eq_true rfl⟩) (pS_L hP hK hE hN hX) rfl rfl hl.1 rfl (lv_room (Nat.le_of_ble_eq_true rfl)) dL_law_631 ⟨hkc, hkn⟩) hS hA13 (fun v H1 l1 hv hz9 hk9 hS => ?_)
  obtain ⟨rfl, hP1⟩ := hv
  have hP := wA_callL hZ hP hP1 hk9
  refine lv_istore (lv' := [(5, .int (nI ((cLose σ (xs (i + 1))).1))), (0, .ref b), (1, .ref (Z 0)), (2, .ref (Z 13)), (3, .ref (Z 12)), (4, .int (nI i))]) hx hb dL_law_634 hl (by decide) rfl (fun ls hl => ?_)
  refine lv_aload_n hx hb dL_law_636 rfl (lv_at hl 3 rfl) ?_
  refine lv_aload_n hx hb dL_law_637 rfl (lv_at hl 1 rfl) ?_
  refine lv_iload hx hb dL_law_638 (lv_at hl 5 rfl) ?_
  refine lv_iconst (v := 1) hx hb dL_law_640 (by decide) ?_
  refine addN i 1 hx hb rfl rfl dL_law_641 ?_
  refine lrd (i := i + 1) hx hb hXs hbl hbA hS rfl (by omega) hL dL_law_642 ?_
  refine w_call (va_runV (As := [.int (xs (i + 1))]) (rest := []) ⟨hx, hb, hml, hown, hts⟩ (c_X2_lose l D cI cZ (fun k => Z (13 + k)) τ (ijM hZ) (xs (i + 1)) hM.1 hM.2.1 hM.2.2.1 hM.2.2.2.1 hM.2.2.2.2) (cwV 1 hts gL_law_X2_lose rfl rfl rfl kd_X2_lose ⟨Nat.le_of_ble_eq_true rfl, Nat.le_of_ble_eq_true rfl⟩) (pV_A hP hK) rfl rfl hl.1 rfl (lv_room (Nat.le_of_ble_eq_true rfl)) dL_law_643 ⟨hkc, hkn⟩) hS hA20 (fun v H2 l2 hv hz9 hk9 hS => ?_)
  obtain ⟨rfl, hP2⟩ := hv
  have hP := wA_callM hZ hP hP2 hk9
  refine lv_istore (lv' := [(6, .int (mLose τ (xs (i + 1))).1), (5, .int (nI ((cLose σ (xs (i + 1))).1))), (0, .ref b), (1, .ref (Z 0)), (2, .ref (Z 13)), (3, .ref (Z 12)), (4, .int (nI i))]) hx hb dL_law_646 hl (by decide) rfl (fun ls hl => ?_)
  refine lv_aload_n hx hb dL_law_648 rfl (lv_at hl 4 rfl) ?_
  refine r_callE (x := mThr (mLose τ (xs (i + 1))).2) (va_runV (As := []) (rest := []) ⟨hx, hb, hml, hown, hts⟩ (c_X2_thrown l D cI cZ (fun k => Z (13 + k)) (mLose τ (xs (i + 1))).2) (cwV 0 hts gL_law_X2_thrown rfl rfl rfl kd_X2_thrown ⟨Nat.le_of_ble_eq_true rfl, Nat.le_of_ble_eq_true rfl⟩) (pV_A hP hK) rfl rfl hl.1 rfl (lv_room (Nat.le_of_ble_eq_true rfl)) dL_law_649 ⟨hkc, hkn⟩) ?_
  refine lv_iload hx hb dL_law_652 (lv_at hl 1 rfl) ?_
  refine lv_icmp_eq (tgt := 659) hx hb dL_law_654 (by decide) (fun c_1 => ?_) (fun c_1 => ?_)
  rotate_left
  · exact absurd hs1.symm c_1
  refine lv_iload hx hb dL_law_659 (lv_at hl 1 rfl) ?_
  refine neZN ((cLose σ (xs (i + 1))).1) (tgt := 676) hx hb rfl (by omega) dL_law_661 (by decide) (fun c_2 => ?_) (fun c_2 => ?_)
  · skip
    refine lv_goto (tgt := 1410) hx hb dL_law_676 (by decide) ?_
    exact kk _ _ _ _ _ _ hs5 hP hS (lv_sub hl [2, 3, 4, 5, 6] rfl)
  · have hc0 := hs3 c_2
    refine lv_aload_n hx hb dL_law_664 rfl (lv_at hl 5 rfl) ?_
    refine lv_iconst (v := 0) hx hb dL_law_665 (by decide) ?_
    refine lld_12 hx hb hK hP dL_law_666 ?_
    refine lv_iload hx hb dL_law_667 (lv_at hl 0 rfl) ?_
    refine lv_i2l (v := (mLose τ (xs (i + 1))).1.toInt64) hx hb dL_law_669 rfl ?_
    have he : (oF o (cLose σ (xs (i + 1))).1 (cLose σ (xs (i + 1))).2.1) 0 = (mLose τ (xs (i + 1))).1.toInt64 := by rw [hc0, oF0, hs4 hc0]; exact pk_uLs
    refine W.lcmp hx hb dL_law_670 ?_
    refine lv_if_eq (tgt := 676) hx hb dL_law_671 (by decide) (fun c_3 => ?_) (fun c_3 => ?_)
    · skip
      refine lv_goto (tgt := 1410) hx hb dL_law_676 (by decide) ?_
      exact kk _ _ _ _ _ _ hs5 hP hS (lv_sub hl [2, 3, 4, 5, 6] rfl)
    · exact absurd (cmp_eq he) c_3
set_option maxHeartbeats 4000000 in
set_option maxRecDepth 100000 in
theorem lc_repair {p : Program} {l : Launch} {e : Env} {s : State} {m : MethodId} {below : List Frame} {meth : Method} {c : Code} {b L : Nat} {xs : Nat → Int32} {D : va_G} {cI cZ cJ : ClassId} {Z : Nat → Nat} (hf : l.stackTraces = false) (C0 : LC p s m c b L xs D cI cZ cJ Z) (hL : L ≤ 2048) {Rel : SG → SM → Prop} (hFx : ∀ σ τ, Rel σ τ → fxG σ ∧ fxM τ) {i : Nat} (hst : stepI Rel (fun σ => cRepair σ (xs (i + 1)) (xs (i + 2))) (fun τ => mRepair τ (xs (i + 1)) (xs (i + 2))) kB) (hi : i + 4 ≤ L) {k n : Nat} (hkc : k + 1 ≤ 1060) (hkn : n + 6 ≤ 16143) {σ : SG} {τ : SM} {o : Nat → Int64} (hR : Rel σ τ) {H : Heap} {locs : List Loc} (hP : va_P D vwCl (wA cI cZ cJ Z σ τ o) H) (hS : va_S (fun a : Nat => s.heap.size ≤ a) s.heap H locs) {ls : Array Slot} (hl : lv_has ls 7 [(0, .ref b), (1, .ref (Z 0)), (2, .ref (Z 13)), (3, .ref (Z 12)), (4, .int (nI i))]) {Q : State → Prop}
  (kk : ∀ (σ : SG) (τ : SM) (o : Nat → Int64) (H : Heap) (locs : List Loc) (ls : Array Slot), Rel σ τ → va_P D vwCl (wA cI cZ cJ Z σ τ o) H → va_S (fun a : Nat => s.heap.size ≤ a) s.heap H locs → lv_has ls 7 [(0, .ref b), (1, .ref (Z 0)), (2, .ref (Z 13)), (3, .ref (Z 12)), (4, .int (nI i))] → W p l e room_1 s m #[Value.ref b] below meth c H locs (k + 1) (n + 6) Q (F0 m 1410 ls [])) : W p l e room_1 s m #[Value.ref b] below meth c H locs k n Q (F0 m 679 ls []) := by
  obtain ⟨hx, hb, hml, hown, hts, hXs, hbl, hZ, hZs, hK, hE, hN, hX0⟩ := C0
  have hbA : ¬ (fun a : Nat => s.heap.size ≤ a) b := Nat.not_le.mpr hbl
  have hA13 : ∀ a, adQ 13 Z a → (fun a : Nat => s.heap.size ≤ a) a := fun a ⟨k, h1, h2⟩ => by rw [h2]; exact hZs k (by omega)
  have hA20 : ∀ a, adQ 20 (fun k => Z (13 + k)) a → (fun a : Nat => s.heap.size ≤ a) a := fun a ⟨k, h1, h2⟩ => by rw [h2]; exact hZs (13 + k) (by omega)
  obtain ⟨hG, hM⟩ := hFx σ τ hR
  have hs := hst σ τ hR
  have hs1 : nI (kB (cRepair σ (xs (i + 1)) (xs (i + 2))).1) = mThr (mRepair τ (xs (i + 1)) (xs (i + 2))).2 := hs.1
  have hs2 : (kB (cRepair σ (xs (i + 1)) (xs (i + 2))).1) < 4 := hs.2.1
  have hs3 : (kB (cRepair σ (xs (i + 1)) (xs (i + 2))).1) = 0 → (cRepair σ (xs (i + 1)) (xs (i + 2))).1 = 0 := hs.2.2.1
  have hs4 : (cRepair σ (xs (i + 1)) (xs (i + 2))).1 = 0 → (cRepair σ (xs (i + 1)) (xs (i + 2))).2.1 = (mRepair τ (xs (i + 1)) (xs (i + 2))).1 := hs.2.2.2.1
  have hs5 : Rel (cRepair σ (xs (i + 1)) (xs (i + 2))).2.2 (mRepair τ (xs (i + 1)) (xs (i + 2))).2 := hs.2.2.2.2
  have hX : EX (adQ 13 Z) s H := EX_narrow (EX_kept hX0 hS.2.1) hA13
  refine lv_aload_n hx hb dL_law_679 rfl (lv_at hl 1 rfl) ?_
  refine lv_aload_n hx hb dL_law_680 rfl (lv_at hl 0 rfl) ?_
  refine lv_iload hx hb dL_law_681 (lv_at hl 4 rfl) ?_
  refine lv_iconst (v := 1) hx hb dL_law_683 (by decide) ?_
  refine addN i 1 hx hb rfl rfl dL_law_684 ?_
  refine lrd (i := i + 1) hx hb hXs hbl hbA hS rfl (by omega) hL dL_law_685 ?_
  refine lv_aload_n hx hb dL_law_686 rfl (lv_at hl 0 rfl) ?_
  refine lv_iload hx hb dL_law_687 (lv_at hl 4 rfl) ?_
  refine lv_iconst (v := 2) hx hb dL_law_689 (by decide) ?_
  refine addN i 2 hx hb rfl rfl dL_law_690 ?_
  refine lrd (i := i + 2) hx hb hXs hbl hbA hS rfl (by omega) hL dL_law_691 ?_
  refine lv_aload_n hx hb dL_law_692 rfl (lv_at hl 3 rfl) ?_
  refine w_call (vx_runSW (As := [.ref (Z 0), .int (xs (i + 1)), .int (xs (i + 2)), .ref (Z 12)]) (rest := []) ⟨hx, hb, hml, hown, hts⟩ (c_L_repair l hf D cI cJ Z (ijL hZ) σ hG.1 hG.2 (xs (i + 1)) (xs (i + 2)) o) (vx_cwSW 4 hts gL_law_L_repair rfl rfl rfl kn_L_repair ⟨Nat.le_of_ble_eq_true rfl, Nat.le_of_ble_eq_true rfl⟩) (pS_L hP hK hE hN hX) rfl rfl hl.1 rfl (lv_room (Nat.le_of_ble_eq_true rfl)) dL_law_693 ⟨hkc, hkn⟩) hS hA13 (fun v H1 l1 hv hz9 hk9 hS => ?_)
  obtain ⟨rfl, hP1⟩ := hv
  have hP := wA_callL hZ hP hP1 hk9
  refine lv_istore (lv' := [(5, .int (nI (kB (cRepair σ (xs (i + 1)) (xs (i + 2))).1))), (0, .ref b), (1, .ref (Z 0)), (2, .ref (Z 13)), (3, .ref (Z 12)), (4, .int (nI i))]) hx hb dL_law_696 hl (by decide) rfl (fun ls hl => ?_)
  refine lv_aload_n hx hb dL_law_698 rfl (lv_at hl 3 rfl) ?_
  refine lv_aload_n hx hb dL_law_699 rfl (lv_at hl 1 rfl) ?_
  refine lv_iload hx hb dL_law_700 (lv_at hl 5 rfl) ?_
  refine lv_iconst (v := 1) hx hb dL_law_702 (by decide) ?_
  refine addN i 1 hx hb rfl rfl dL_law_703 ?_
  refine lrd (i := i + 1) hx hb hXs hbl hbA hS rfl (by omega) hL dL_law_704 ?_
  refine lv_aload_n hx hb dL_law_705 rfl (lv_at hl 1 rfl) ?_
  refine lv_iload hx hb dL_law_706 (lv_at hl 5 rfl) ?_
  refine lv_iconst (v := 2) hx hb dL_law_708 (by decide) ?_
  refine addN i 2 hx hb rfl rfl dL_law_709 ?_
  refine lrd (i := i + 2) hx hb hXs hbl hbA hS rfl (by omega) hL dL_law_710 ?_
  refine w_call (va_runV (As := [.int (xs (i + 1)), .int (xs (i + 2))]) (rest := []) ⟨hx, hb, hml, hown, hts⟩ (c_X2_repair l D cI cZ (fun k => Z (13 + k)) τ (ijM hZ) (xs (i + 1)) (xs (i + 2)) hM.1 hM.2.1 hM.2.2.1 hM.2.2.2.1 hM.2.2.2.2) (cwV 2 hts gL_law_X2_repair rfl rfl rfl kd_X2_repair ⟨Nat.le_of_ble_eq_true rfl, Nat.le_of_ble_eq_true rfl⟩) (pV_A hP hK) rfl rfl hl.1 rfl (lv_room (Nat.le_of_ble_eq_true rfl)) dL_law_711 ⟨hkc, hkn⟩) hS hA20 (fun v H2 l2 hv hz9 hk9 hS => ?_)
  obtain ⟨rfl, hP2⟩ := hv
  have hP := wA_callM hZ hP hP2 hk9
  refine lv_istore (lv' := [(6, .int (mRepair τ (xs (i + 1)) (xs (i + 2))).1), (5, .int (nI (kB (cRepair σ (xs (i + 1)) (xs (i + 2))).1))), (0, .ref b), (1, .ref (Z 0)), (2, .ref (Z 13)), (3, .ref (Z 12)), (4, .int (nI i))]) hx hb dL_law_714 hl (by decide) rfl (fun ls hl => ?_)
  refine lv_aload_n hx hb dL_law_716 rfl (lv_at hl 4 rfl) ?_
  refine r_callE (x := mThr (mRepair τ (xs (i + 1)) (xs (i + 2))).2) (va_runV (As := []) (rest := []) ⟨hx, hb, hml, hown, hts⟩ (c_X2_thrown l D cI cZ (fun k => Z (13 + k)) (mRepair τ (xs (i + 1)) (xs (i + 2))).2) (cwV 0 hts gL_law_X2_thrown rfl rfl rfl kd_X2_thrown ⟨Nat.le_of_ble_eq_true rfl, Nat.le_of_ble_eq_true rfl⟩) (pV_A hP hK) rfl rfl hl.1 rfl (lv_room (Nat.le_of_ble_eq_true rfl)) dL_law_717 ⟨hkc, hkn⟩) ?_
  refine lv_iload hx hb dL_law_720 (lv_at hl 1 rfl) ?_
  refine lv_icmp_eq (tgt := 727) hx hb dL_law_722 (by decide) (fun c_1 => ?_) (fun c_1 => ?_)
  rotate_left
  · exact absurd hs1.symm c_1
  refine lv_iload hx hb dL_law_727 (lv_at hl 1 rfl) ?_
  refine neZN (kB (cRepair σ (xs (i + 1)) (xs (i + 2))).1) (tgt := 744) hx hb rfl (by omega) dL_law_729 (by decide) (fun c_2 => ?_) (fun c_2 => ?_)
  · skip
    refine lv_goto (tgt := 1410) hx hb dL_law_744 (by decide) ?_
    exact kk _ _ _ _ _ _ hs5 hP hS (lv_sub hl [2, 3, 4, 5, 6] rfl)
  · have hc0 := hs3 c_2
    refine lv_aload_n hx hb dL_law_732 rfl (lv_at hl 5 rfl) ?_
    refine lv_iconst (v := 0) hx hb dL_law_733 (by decide) ?_
    refine lld_12 hx hb hK hP dL_law_734 ?_
    refine lv_iload hx hb dL_law_735 (lv_at hl 0 rfl) ?_
    refine lv_i2l (v := (mRepair τ (xs (i + 1)) (xs (i + 2))).1.toInt64) hx hb dL_law_737 rfl ?_
    have he : (oF o (cRepair σ (xs (i + 1)) (xs (i + 2))).1 (cRepair σ (xs (i + 1)) (xs (i + 2))).2.1) 0 = (mRepair τ (xs (i + 1)) (xs (i + 2))).1.toInt64 := by rw [hc0, oF0, hs4 hc0]; exact pk_uLs
    refine W.lcmp hx hb dL_law_738 ?_
    refine lv_if_eq (tgt := 744) hx hb dL_law_739 (by decide) (fun c_3 => ?_) (fun c_3 => ?_)
    · skip
      refine lv_goto (tgt := 1410) hx hb dL_law_744 (by decide) ?_
      exact kk _ _ _ _ _ _ hs5 hP hS (lv_sub hl [2, 3, 4, 5, 6] rfl)
    · exact absurd (cmp_eq he) c_3
set_option maxHeartbeats 4000000 in
set_option maxRecDepth 100000 in
theorem lc_broken {p : Program} {l : Launch} {e : Env} {s : State} {m : MethodId} {below : List Frame} {meth : Method} {c : Code} {b L : Nat} {xs : Nat → Int32} {D : va_G} {cI cZ cJ : ClassId} {Z : Nat → Nat} (hf : l.stackTraces = false) (C0 : LC p s m c b L xs D cI cZ cJ Z) (hL : L ≤ 2048) {Rel : SG → SM → Prop} (hFx : ∀ σ τ, Rel σ τ → fxG σ ∧ fxM τ) {i : Nat} (hst : stepI Rel (fun σ => cBroken σ (xs (i + 1))) (fun τ => mBroken τ (xs (i + 1))) (fun z => z)) (hi : i + 4 ≤ L) {k n : Nat} (hkc : k + 1 ≤ 1060) (hkn : n + 6 ≤ 16143) {σ : SG} {τ : SM} {o : Nat → Int64} (hR : Rel σ τ) {H : Heap} {locs : List Loc} (hP : va_P D vwCl (wA cI cZ cJ Z σ τ o) H) (hS : va_S (fun a : Nat => s.heap.size ≤ a) s.heap H locs) {ls : Array Slot} (hl : lv_has ls 7 [(0, .ref b), (1, .ref (Z 0)), (2, .ref (Z 13)), (3, .ref (Z 12)), (4, .int (nI i))]) {Q : State → Prop}
  (kk : ∀ (σ : SG) (τ : SM) (o : Nat → Int64) (H : Heap) (locs : List Loc) (ls : Array Slot), Rel σ τ → va_P D vwCl (wA cI cZ cJ Z σ τ o) H → va_S (fun a : Nat => s.heap.size ≤ a) s.heap H locs → lv_has ls 7 [(0, .ref b), (1, .ref (Z 0)), (2, .ref (Z 13)), (3, .ref (Z 12)), (4, .int (nI i))] → W p l e room_1 s m #[Value.ref b] below meth c H locs (k + 1) (n + 6) Q (F0 m 1410 ls [])) : W p l e room_1 s m #[Value.ref b] below meth c H locs k n Q (F0 m 747 ls []) := by
  obtain ⟨hx, hb, hml, hown, hts, hXs, hbl, hZ, hZs, hK, hE, hN, hX0⟩ := C0
  have hbA : ¬ (fun a : Nat => s.heap.size ≤ a) b := Nat.not_le.mpr hbl
  have hA13 : ∀ a, adQ 13 Z a → (fun a : Nat => s.heap.size ≤ a) a := fun a ⟨k, h1, h2⟩ => by rw [h2]; exact hZs k (by omega)
  have hA20 : ∀ a, adQ 20 (fun k => Z (13 + k)) a → (fun a : Nat => s.heap.size ≤ a) a := fun a ⟨k, h1, h2⟩ => by rw [h2]; exact hZs (13 + k) (by omega)
  obtain ⟨hG, hM⟩ := hFx σ τ hR
  have hs := hst σ τ hR
  have hs1 : nI ((cBroken σ (xs (i + 1))).1) = mThr (mBroken τ (xs (i + 1))).2 := hs.1
  have hs2 : ((cBroken σ (xs (i + 1))).1) < 4 := hs.2.1
  have hs3 : ((cBroken σ (xs (i + 1))).1) = 0 → (cBroken σ (xs (i + 1))).1 = 0 := hs.2.2.1
  have hs4 : (cBroken σ (xs (i + 1))).1 = 0 → (cBroken σ (xs (i + 1))).2.1 = (mBroken τ (xs (i + 1))).1 := hs.2.2.2.1
  have hs5 : Rel (cBroken σ (xs (i + 1))).2.2 (mBroken τ (xs (i + 1))).2 := hs.2.2.2.2
  have hX : EX (adQ 13 Z) s H := EX_narrow (EX_kept hX0 hS.2.1) hA13
  refine lv_aload_n hx hb dL_law_747 rfl (lv_at hl 1 rfl) ?_
  refine lv_aload_n hx hb dL_law_748 rfl (lv_at hl 0 rfl) ?_
  refine lv_iload hx hb dL_law_749 (lv_at hl 4 rfl) ?_
  refine lv_iconst (v := 1) hx hb dL_law_751 (by decide) ?_
  refine addN i 1 hx hb rfl rfl dL_law_752 ?_
  refine lrd (i := i + 1) hx hb hXs hbl hbA hS rfl (by omega) hL dL_law_753 ?_
  refine lv_aload_n hx hb dL_law_754 rfl (lv_at hl 3 rfl) ?_
  refine w_call (vx_runSW (As := [.ref (Z 0), .int (xs (i + 1)), .ref (Z 12)]) (rest := []) ⟨hx, hb, hml, hown, hts⟩ (c_L_broken l hf D cI cJ Z (ijL hZ) σ hG.1 hG.2 (xs (i + 1)) o) (vx_cwSW 3 hts gL_law_L_broken rfl rfl rfl kn_L_broken ⟨Nat.le_of_ble_eq_true rfl, Nat.le_of_ble_eq_true rfl⟩) (pS_L hP hK hE hN hX) rfl rfl hl.1 rfl (lv_room (Nat.le_of_ble_eq_true rfl)) dL_law_755 ⟨hkc, hkn⟩) hS hA13 (fun v H1 l1 hv hz9 hk9 hS => ?_)
  obtain ⟨rfl, hP1⟩ := hv
  have hP := wA_callL hZ hP hP1 hk9
  refine lv_istore (lv' := [(5, .int (nI ((cBroken σ (xs (i + 1))).1))), (0, .ref b), (1, .ref (Z 0)), (2, .ref (Z 13)), (3, .ref (Z 12)), (4, .int (nI i))]) hx hb dL_law_758 hl (by decide) rfl (fun ls hl => ?_)
  refine lv_aload_n hx hb dL_law_760 rfl (lv_at hl 3 rfl) ?_
  refine lv_aload_n hx hb dL_law_761 rfl (lv_at hl 1 rfl) ?_
  refine lv_iload hx hb dL_law_762 (lv_at hl 5 rfl) ?_
  refine lv_iconst (v := 1) hx hb dL_law_764 (by decide) ?_
  refine addN i 1 hx hb rfl rfl dL_law_765 ?_
  refine lrd (i := i + 1) hx hb hXs hbl hbA hS rfl (by omega) hL dL_law_766 ?_
  refine w_call (va_runV (As := [.int (xs (i + 1))]) (rest := []) ⟨hx, hb, hml, hown, hts⟩ (c_X2_broken l D cI cZ (fun k => Z (13 + k)) τ (ijM hZ) (xs (i + 1)) hM.1 hM.2.1 hM.2.2.1 hM.2.2.2.1 hM.2.2.2.2) (cwV 1 hts gL_law_X2_broken rfl rfl rfl kd_X2_broken ⟨Nat.le_of_ble_eq_true rfl, Nat.le_of_ble_eq_true rfl⟩) (pV_A hP hK) rfl rfl hl.1 rfl (lv_room (Nat.le_of_ble_eq_true rfl)) dL_law_767 ⟨hkc, hkn⟩) hS hA20 (fun v H2 l2 hv hz9 hk9 hS => ?_)
  obtain ⟨rfl, hP2⟩ := hv
  have hP := wA_callM hZ hP hP2 hk9
  refine lv_istore (lv' := [(6, .int (mBroken τ (xs (i + 1))).1), (5, .int (nI ((cBroken σ (xs (i + 1))).1))), (0, .ref b), (1, .ref (Z 0)), (2, .ref (Z 13)), (3, .ref (Z 12)), (4, .int (nI i))]) hx hb dL_law_770 hl (by decide) rfl (fun ls hl => ?_)
  refine lv_aload_n hx hb dL_law_772 rfl (lv_at hl 4 rfl) ?_
  refine r_callE (x := mThr (mBroken τ (xs (i + 1))).2) (va_runV (As := []) (rest := []) ⟨hx, hb, hml, hown, hts⟩ (c_X2_thrown l D cI cZ (fun k => Z (13 + k)) (mBroken τ (xs (i + 1))).2) (cwV 0 hts gL_law_X2_thrown rfl rfl rfl kd_X2_thrown ⟨Nat.le_of_ble_eq_true rfl, Nat.le_of_ble_eq_true rfl⟩) (pV_A hP hK) rfl rfl hl.1 rfl (lv_room (Nat.le_of_ble_eq_true rfl)) dL_law_773 ⟨hkc, hkn⟩) ?_
  refine lv_iload hx hb dL_law_776 (lv_at hl 1 rfl) ?_
  refine lv_icmp_eq (tgt := 783) hx hb dL_law_778 (by decide) (fun c_1 => ?_) (fun c_1 => ?_)
  rotate_left
  · exact absurd hs1.symm c_1
  refine lv_iload hx hb dL_law_783 (lv_at hl 1 rfl) ?_
  refine neZN ((cBroken σ (xs (i + 1))).1) (tgt := 800) hx hb rfl (by omega) dL_law_785 (by decide) (fun c_2 => ?_) (fun c_2 => ?_)
  · skip
    refine lv_goto (tgt := 1410) hx hb dL_law_800 (by decide) ?_
    exact kk _ _ _ _ _ _ hs5 hP hS (lv_sub hl [2, 3, 4, 5, 6] rfl)
  · have hc0 := hs3 c_2
    refine lv_aload_n hx hb dL_law_788 rfl (lv_at hl 5 rfl) ?_
    refine lv_iconst (v := 0) hx hb dL_law_789 (by decide) ?_
    refine lld_12 hx hb hK hP dL_law_790 ?_
    refine lv_iload hx hb dL_law_791 (lv_at hl 0 rfl) ?_
    refine lv_i2l (v := (mBroken τ (xs (i + 1))).1.toInt64) hx hb dL_law_793 rfl ?_
    have he : (oF o (cBroken σ (xs (i + 1))).1 (cBroken σ (xs (i + 1))).2.1) 0 = (mBroken τ (xs (i + 1))).1.toInt64 := by rw [hc0, oF0, hs4 hc0]; exact pk_uLs
    refine W.lcmp hx hb dL_law_794 ?_
    refine lv_if_eq (tgt := 800) hx hb dL_law_795 (by decide) (fun c_3 => ?_) (fun c_3 => ?_)
    · skip
      refine lv_goto (tgt := 1410) hx hb dL_law_800 (by decide) ?_
      exact kk _ _ _ _ _ _ hs5 hP hS (lv_sub hl [2, 3, 4, 5, 6] rfl)
    · exact absurd (cmp_eq he) c_3
set_option maxHeartbeats 4000000 in
set_option maxRecDepth 100000 in
theorem lc_isSound {p : Program} {l : Launch} {e : Env} {s : State} {m : MethodId} {below : List Frame} {meth : Method} {c : Code} {b L : Nat} {xs : Nat → Int32} {D : va_G} {cI cZ cJ : ClassId} {Z : Nat → Nat} (hf : l.stackTraces = false) (C0 : LC p s m c b L xs D cI cZ cJ Z) (hL : L ≤ 2048) {Rel : SG → SM → Prop} (hFx : ∀ σ τ, Rel σ τ → fxG σ ∧ fxM τ) {i : Nat} (hst : stepB Rel (fun σ => cSound σ (xs (i + 1))) (fun τ => mSound τ (xs (i + 1))) (fun z => z)) (hi : i + 4 ≤ L) {k n : Nat} (hkc : k + 1 ≤ 1060) (hkn : n + 6 ≤ 16143) {σ : SG} {τ : SM} {o : Nat → Int64} (hR : Rel σ τ) {H : Heap} {locs : List Loc} (hP : va_P D vwCl (wA cI cZ cJ Z σ τ o) H) (hS : va_S (fun a : Nat => s.heap.size ≤ a) s.heap H locs) {ls : Array Slot} (hl : lv_has ls 7 [(0, .ref b), (1, .ref (Z 0)), (2, .ref (Z 13)), (3, .ref (Z 12)), (4, .int (nI i))]) {Q : State → Prop}
  (kk : ∀ (σ : SG) (τ : SM) (o : Nat → Int64) (H : Heap) (locs : List Loc) (ls : Array Slot), Rel σ τ → va_P D vwCl (wA cI cZ cJ Z σ τ o) H → va_S (fun a : Nat => s.heap.size ≤ a) s.heap H locs → lv_has ls 7 [(0, .ref b), (1, .ref (Z 0)), (2, .ref (Z 13)), (3, .ref (Z 12)), (4, .int (nI i))] → W p l e room_1 s m #[Value.ref b] below meth c H locs (k + 1) (n + 6) Q (F0 m 1410 ls [])) : W p l e room_1 s m #[Value.ref b] below meth c H locs k n Q (F0 m 803 ls []) := by
  obtain ⟨hx, hb, hml, hown, hts, hXs, hbl, hZ, hZs, hK, hE, hN, hX0⟩ := C0
  have hbA : ¬ (fun a : Nat => s.heap.size ≤ a) b := Nat.not_le.mpr hbl
  have hA13 : ∀ a, adQ 13 Z a → (fun a : Nat => s.heap.size ≤ a) a := fun a ⟨k, h1, h2⟩ => by rw [h2]; exact hZs k (by omega)
  have hA20 : ∀ a, adQ 20 (fun k => Z (13 + k)) a → (fun a : Nat => s.heap.size ≤ a) a := fun a ⟨k, h1, h2⟩ => by rw [h2]; exact hZs (13 + k) (by omega)
  obtain ⟨hG, hM⟩ := hFx σ τ hR
  have hs := hst σ τ hR
  have hs1 : nI ((cSound σ (xs (i + 1))).1) = mThr (mSound τ (xs (i + 1))).2 := hs.1
  have hs2 : ((cSound σ (xs (i + 1))).1) < 4 := hs.2.1
  have hs3 : ((cSound σ (xs (i + 1))).1) = 0 → (cSound σ (xs (i + 1))).1 = 0 := hs.2.2.1
  have hs4 : (cSound σ (xs (i + 1))).1 = 0 → (cSound σ (xs (i + 1))).2.1 = (mSound τ (xs (i + 1))).1 := hs.2.2.2.1
  have hs5 : Rel (cSound σ (xs (i + 1))).2.2 (mSound τ (xs (i + 1))).2 := hs.2.2.2.2
  have hX : EX (adQ 13 Z) s H := EX_narrow (EX_kept hX0 hS.2.1) hA13
  refine lv_aload_n hx hb dL_law_803 rfl (lv_at hl 1 rfl) ?_
  refine lv_aload_n hx hb dL_law_804 rfl (lv_at hl 0 rfl) ?_
  refine lv_iload hx hb dL_law_805 (lv_at hl 4 rfl) ?_
  refine lv_iconst (v := 1) hx hb dL_law_807 (by decide) ?_
  refine addN i 1 hx hb rfl rfl dL_law_808 ?_
  refine lrd (i := i + 1) hx hb hXs hbl hbA hS rfl (by omega) hL dL_law_809 ?_
  refine lv_aload_n hx hb dL_law_810 rfl (lv_at hl 3 rfl) ?_
  refine w_call (vx_runSW (As := [.ref (Z 0), .int (xs (i + 1)), .ref (Z 12)]) (rest := []) ⟨hx, hb, hml, hown, hts⟩ (c_L_isSound l hf D cI cJ Z (ijL hZ) σ hG.1 hG.2 (xs (i + 1)) o) (vx_cwSW 3 hts gL_law_L_isSound rfl rfl rfl kn_L_isSound ⟨Nat.le_of_ble_eq_true rfl, Nat.le_of_ble_eq_true rfl⟩) (pS_L hP hK hE hN hX) rfl rfl hl.1 rfl (lv_room (Nat.le_of_ble_eq_true rfl)) dL_law_811 ⟨hkc, hkn⟩) hS hA13 (fun v H1 l1 hv hz9 hk9 hS => ?_)
  obtain ⟨rfl, hP1⟩ := hv
  have hP := wA_callL hZ hP hP1 hk9
  refine lv_istore (lv' := [(5, .int (nI ((cSound σ (xs (i + 1))).1))), (0, .ref b), (1, .ref (Z 0)), (2, .ref (Z 13)), (3, .ref (Z 12)), (4, .int (nI i))]) hx hb dL_law_814 hl (by decide) rfl (fun ls hl => ?_)
  refine lv_aload_n hx hb dL_law_816 rfl (lv_at hl 3 rfl) ?_
  refine lv_aload_n hx hb dL_law_817 rfl (lv_at hl 1 rfl) ?_
  refine lv_iload hx hb dL_law_818 (lv_at hl 5 rfl) ?_
  refine lv_iconst (v := 1) hx hb dL_law_820 (by decide) ?_
  refine addN i 1 hx hb rfl rfl dL_law_821 ?_
  refine lrd (i := i + 1) hx hb hXs hbl hbA hS rfl (by omega) hL dL_law_822 ?_
  refine w_call (va_runV (As := [.int (xs (i + 1))]) (rest := []) ⟨hx, hb, hml, hown, hts⟩ (c_X2_isSound l D cI cZ (fun k => Z (13 + k)) τ (ijM hZ) (xs (i + 1)) hM.1 hM.2.1 hM.2.2.1 hM.2.2.2.1 hM.2.2.2.2) (cwV 1 hts gL_law_X2_isSound rfl rfl rfl kd_X2_isSound ⟨Nat.le_of_ble_eq_true rfl, Nat.le_of_ble_eq_true rfl⟩) (pV_A hP hK) rfl rfl hl.1 rfl (lv_room (Nat.le_of_ble_eq_true rfl)) dL_law_823 ⟨hkc, hkn⟩) hS hA20 (fun v H2 l2 hv hz9 hk9 hS => ?_)
  obtain ⟨rfl, hP2⟩ := hv
  have hP := wA_callM hZ hP hP2 hk9
  refine lv_istore (lv' := [(6, .int (bI (mSound τ (xs (i + 1))).1)), (5, .int (nI ((cSound σ (xs (i + 1))).1))), (0, .ref b), (1, .ref (Z 0)), (2, .ref (Z 13)), (3, .ref (Z 12)), (4, .int (nI i))]) hx hb dL_law_826 hl (by decide) rfl (fun ls hl => ?_)
  refine lv_aload_n hx hb dL_law_828 rfl (lv_at hl 4 rfl) ?_
  refine r_callE (x := mThr (mSound τ (xs (i + 1))).2) (va_runV (As := []) (rest := []) ⟨hx, hb, hml, hown, hts⟩ (c_X2_thrown l D cI cZ (fun k => Z (13 + k)) (mSound τ (xs (i + 1))).2) (cwV 0 hts gL_law_X2_thrown rfl rfl rfl kd_X2_thrown ⟨Nat.le_of_ble_eq_true rfl, Nat.le_of_ble_eq_true rfl⟩) (pV_A hP hK) rfl rfl hl.1 rfl (lv_room (Nat.le_of_ble_eq_true rfl)) dL_law_829 ⟨hkc, hkn⟩) ?_
  refine lv_iload hx hb dL_law_832 (lv_at hl 1 rfl) ?_
  refine lv_icmp_eq (tgt := 839) hx hb dL_law_834 (by decide) (fun c_1 => ?_) (fun c_1 => ?_)
  rotate_left
  · exact absurd hs1.symm c_1
  refine lv_iload hx hb dL_law_839 (lv_at hl 1 rfl) ?_
  refine neZN ((cSound σ (xs (i + 1))).1) (tgt := 863) hx hb rfl (by omega) dL_law_841 (by decide) (fun c_2 => ?_) (fun c_2 => ?_)
  · skip
    refine lv_goto (tgt := 1410) hx hb dL_law_863 (by decide) ?_
    exact kk _ _ _ _ _ _ hs5 hP hS (lv_sub hl [2, 3, 4, 5, 6] rfl)
  · have hc0 := hs3 c_2
    refine lv_aload_n hx hb dL_law_844 rfl (lv_at hl 5 rfl) ?_
    refine lv_iconst (v := 0) hx hb dL_law_845 (by decide) ?_
    refine lld_12 hx hb hK hP dL_law_846 ?_
    refine lv_iload hx hb dL_law_847 (lv_at hl 0 rfl) ?_
    have he : (oF o (cSound σ (xs (i + 1))).1 (bI (cSound σ (xs (i + 1))).2.1)) 0 = (bI (mSound τ (xs (i + 1))).1).toInt64 := by rw [hc0, oF0, hs4 hc0]; exact pk_uLs
    refine eqB ((mSound τ (xs (i + 1))).1) (tgt := 856) hx hb rfl dL_law_849 (by decide) (fun c_4 => ?_) (fun c_4 => ?_)
    · skip
      refine lv_lconst (v := 0) hx hb dL_law_856 (by decide) ?_
      refine W.lcmp hx hb dL_law_857 ?_
      refine lv_if_eq (tgt := 863) hx hb dL_law_858 (by decide) (fun c_3 => ?_) (fun c_3 => ?_)
      · skip
        refine lv_goto (tgt := 1410) hx hb dL_law_863 (by decide) ?_
        exact kk _ _ _ _ _ _ hs5 hP hS (lv_sub hl [2, 3, 4, 5, 6] rfl)
      · exact absurd (cmp_eq (by rw [he, c_4]; exact tI0)) c_3
    · skip
      refine lv_lconst (v := 1) hx hb dL_law_852 (by decide) ?_
      refine lv_goto (tgt := 857) hx hb dL_law_853 (by decide) ?_
      refine W.lcmp hx hb dL_law_857 ?_
      refine lv_if_eq (tgt := 863) hx hb dL_law_858 (by decide) (fun c_3 => ?_) (fun c_3 => ?_)
      · skip
        refine lv_goto (tgt := 1410) hx hb dL_law_863 (by decide) ?_
        exact kk _ _ _ _ _ _ hs5 hP hS (lv_sub hl [2, 3, 4, 5, 6] rfl)
      · exact absurd (cmp_eq (by rw [he, c_4]; exact tI1)) c_3
set_option maxHeartbeats 4000000 in
set_option maxRecDepth 100000 in
theorem lc_pallet {p : Program} {l : Launch} {e : Env} {s : State} {m : MethodId} {below : List Frame} {meth : Method} {c : Code} {b L : Nat} {xs : Nat → Int32} {D : va_G} {cI cZ cJ : ClassId} {Z : Nat → Nat} (hf : l.stackTraces = false) (C0 : LC p s m c b L xs D cI cZ cJ Z) (hL : L ≤ 2048) {Rel : SG → SM → Prop} (hFx : ∀ σ τ, Rel σ τ → fxG σ ∧ fxM τ) {i : Nat} (hst : stepI Rel (fun σ => cPallet σ (xs (i + 1)) (xs (i + 2))) (fun τ => mPallet τ (xs (i + 1)) (xs (i + 2))) (fun z => z)) (hi : i + 4 ≤ L) {k n : Nat} (hkc : k + 1 ≤ 1060) (hkn : n + 6 ≤ 16143) {σ : SG} {τ : SM} {o : Nat → Int64} (hR : Rel σ τ) {H : Heap} {locs : List Loc} (hP : va_P D vwCl (wA cI cZ cJ Z σ τ o) H) (hS : va_S (fun a : Nat => s.heap.size ≤ a) s.heap H locs) {ls : Array Slot} (hl : lv_has ls 7 [(0, .ref b), (1, .ref (Z 0)), (2, .ref (Z 13)), (3, .ref (Z 12)), (4, .int (nI i))]) {Q : State → Prop}
  (kk : ∀ (σ : SG) (τ : SM) (o : Nat → Int64) (H : Heap) (locs : List Loc) (ls : Array Slot), Rel σ τ → va_P D vwCl (wA cI cZ cJ Z σ τ o) H → va_S (fun a : Nat => s.heap.size ≤ a) s.heap H locs → lv_has ls 7 [(0, .ref b), (1, .ref (Z 0)), (2, .ref (Z 13)), (3, .ref (Z 12)), (4, .int (nI i))] → W p l e room_1 s m #[Value.ref b] below meth c H locs (k + 1) (n + 6) Q (F0 m 1410 ls [])) : W p l e room_1 s m #[Value.ref b] below meth c H locs k n Q (F0 m 866 ls []) := by
  obtain ⟨hx, hb, hml, hown, hts, hXs, hbl, hZ, hZs, hK, hE, hN, hX0⟩ := C0
  have hbA : ¬ (fun a : Nat => s.heap.size ≤ a) b := Nat.not_le.mpr hbl
  have hA13 : ∀ a, adQ 13 Z a → (fun a : Nat => s.heap.size ≤ a) a := fun a ⟨k, h1, h2⟩ => by rw [h2]; exact hZs k (by omega)
  have hA20 : ∀ a, adQ 20 (fun k => Z (13 + k)) a → (fun a : Nat => s.heap.size ≤ a) a := fun a ⟨k, h1, h2⟩ => by rw [h2]; exact hZs (13 + k) (by omega)
  obtain ⟨hG, hM⟩ := hFx σ τ hR
  have hs := hst σ τ hR
  have hs1 : nI ((cPallet σ (xs (i + 1)) (xs (i + 2))).1) = mThr (mPallet τ (xs (i + 1)) (xs (i + 2))).2 := hs.1
  have hs2 : ((cPallet σ (xs (i + 1)) (xs (i + 2))).1) < 4 := hs.2.1
  have hs3 : ((cPallet σ (xs (i + 1)) (xs (i + 2))).1) = 0 → (cPallet σ (xs (i + 1)) (xs (i + 2))).1 = 0 := hs.2.2.1
  have hs4 : (cPallet σ (xs (i + 1)) (xs (i + 2))).1 = 0 → (cPallet σ (xs (i + 1)) (xs (i + 2))).2.1 = (mPallet τ (xs (i + 1)) (xs (i + 2))).1 := hs.2.2.2.1
  have hs5 : Rel (cPallet σ (xs (i + 1)) (xs (i + 2))).2.2 (mPallet τ (xs (i + 1)) (xs (i + 2))).2 := hs.2.2.2.2
  have hX : EX (adQ 13 Z) s H := EX_narrow (EX_kept hX0 hS.2.1) hA13
  refine lv_aload_n hx hb dL_law_866 rfl (lv_at hl 1 rfl) ?_
  refine lv_aload_n hx hb dL_law_867 rfl (lv_at hl 0 rfl) ?_
  refine lv_iload hx hb dL_law_868 (lv_at hl 4 rfl) ?_
  refine lv_iconst (v := 1) hx hb dL_law_870 (by decide) ?_
  refine addN i 1 hx hb rfl rfl dL_law_871 ?_
  refine lrd (i := i + 1) hx hb hXs hbl hbA hS rfl (by omega) hL dL_law_872 ?_
  refine lv_aload_n hx hb dL_law_873 rfl (lv_at hl 0 rfl) ?_
  refine lv_iload hx hb dL_law_874 (lv_at hl 4 rfl) ?_
  refine lv_iconst (v := 2) hx hb dL_law_876 (by decide) ?_
  refine addN i 2 hx hb rfl rfl dL_law_877 ?_
  refine lrd (i := i + 2) hx hb hXs hbl hbA hS rfl (by omega) hL dL_law_878 ?_
  refine lv_aload_n hx hb dL_law_879 rfl (lv_at hl 3 rfl) ?_
  refine w_call (vx_runSW (As := [.ref (Z 0), .int (xs (i + 1)), .int (xs (i + 2)), .ref (Z 12)]) (rest := []) ⟨hx, hb, hml, hown, hts⟩ (c_L_pallet l hf D cI cJ Z (ijL hZ) σ hG.1 hG.2 (xs (i + 1)) (xs (i + 2)) o) (vx_cwSW 4 hts gL_law_L_pallet rfl rfl rfl kn_L_pallet ⟨Nat.le_of_ble_eq_true rfl, Nat.le_of_ble_eq_true rfl⟩) (pS_L hP hK hE hN hX) rfl rfl hl.1 rfl (lv_room (Nat.le_of_ble_eq_true rfl)) dL_law_880 ⟨hkc, hkn⟩) hS hA13 (fun v H1 l1 hv hz9 hk9 hS => ?_)
  obtain ⟨rfl, hP1⟩ := hv
  have hP := wA_callL hZ hP hP1 hk9
  refine lv_istore (lv' := [(5, .int (nI ((cPallet σ (xs (i + 1)) (xs (i + 2))).1))), (0, .ref b), (1, .ref (Z 0)), (2, .ref (Z 13)), (3, .ref (Z 12)), (4, .int (nI i))]) hx hb dL_law_883 hl (by decide) rfl (fun ls hl => ?_)
  refine lv_aload_n hx hb dL_law_885 rfl (lv_at hl 3 rfl) ?_
  refine lv_aload_n hx hb dL_law_886 rfl (lv_at hl 1 rfl) ?_
  refine lv_iload hx hb dL_law_887 (lv_at hl 5 rfl) ?_
  refine lv_iconst (v := 1) hx hb dL_law_889 (by decide) ?_
  refine addN i 1 hx hb rfl rfl dL_law_890 ?_
  refine lrd (i := i + 1) hx hb hXs hbl hbA hS rfl (by omega) hL dL_law_891 ?_
  refine lv_aload_n hx hb dL_law_892 rfl (lv_at hl 1 rfl) ?_
  refine lv_iload hx hb dL_law_893 (lv_at hl 5 rfl) ?_
  refine lv_iconst (v := 2) hx hb dL_law_895 (by decide) ?_
  refine addN i 2 hx hb rfl rfl dL_law_896 ?_
  refine lrd (i := i + 2) hx hb hXs hbl hbA hS rfl (by omega) hL dL_law_897 ?_
  refine w_call (va_runV (As := [.int (xs (i + 1)), .int (xs (i + 2))]) (rest := []) ⟨hx, hb, hml, hown, hts⟩ (c_X2_pallet l D cI cZ (fun k => Z (13 + k)) τ (ijM hZ) (xs (i + 1)) (xs (i + 2)) hM.1 hM.2.1 hM.2.2.1 hM.2.2.2.1 hM.2.2.2.2) (cwV 2 hts gL_law_X2_pallet rfl rfl rfl kd_X2_pallet ⟨Nat.le_of_ble_eq_true rfl, Nat.le_of_ble_eq_true rfl⟩) (pV_A hP hK) rfl rfl hl.1 rfl (lv_room (Nat.le_of_ble_eq_true rfl)) dL_law_898 ⟨hkc, hkn⟩) hS hA20 (fun v H2 l2 hv hz9 hk9 hS => ?_)
  obtain ⟨rfl, hP2⟩ := hv
  have hP := wA_callM hZ hP hP2 hk9
  refine lv_istore (lv' := [(6, .int (mPallet τ (xs (i + 1)) (xs (i + 2))).1), (5, .int (nI ((cPallet σ (xs (i + 1)) (xs (i + 2))).1))), (0, .ref b), (1, .ref (Z 0)), (2, .ref (Z 13)), (3, .ref (Z 12)), (4, .int (nI i))]) hx hb dL_law_901 hl (by decide) rfl (fun ls hl => ?_)
  refine lv_aload_n hx hb dL_law_903 rfl (lv_at hl 4 rfl) ?_
  refine r_callE (x := mThr (mPallet τ (xs (i + 1)) (xs (i + 2))).2) (va_runV (As := []) (rest := []) ⟨hx, hb, hml, hown, hts⟩ (c_X2_thrown l D cI cZ (fun k => Z (13 + k)) (mPallet τ (xs (i + 1)) (xs (i + 2))).2) (cwV 0 hts gL_law_X2_thrown rfl rfl rfl kd_X2_thrown ⟨Nat.le_of_ble_eq_true rfl, Nat.le_of_ble_eq_true rfl⟩) (pV_A hP hK) rfl rfl hl.1 rfl (lv_room (Nat.le_of_ble_eq_true rfl)) dL_law_904 ⟨hkc, hkn⟩) ?_
  refine lv_iload hx hb dL_law_907 (lv_at hl 1 rfl) ?_
  refine lv_icmp_eq (tgt := 914) hx hb dL_law_909 (by decide) (fun c_1 => ?_) (fun c_1 => ?_)
  rotate_left
  · exact absurd hs1.symm c_1
  refine lv_iload hx hb dL_law_914 (lv_at hl 1 rfl) ?_
  refine neZN ((cPallet σ (xs (i + 1)) (xs (i + 2))).1) (tgt := 931) hx hb rfl (by omega) dL_law_916 (by decide) (fun c_2 => ?_) (fun c_2 => ?_)
  · skip
    refine lv_goto (tgt := 1410) hx hb dL_law_931 (by decide) ?_
    exact kk _ _ _ _ _ _ hs5 hP hS (lv_sub hl [2, 3, 4, 5, 6] rfl)
  · have hc0 := hs3 c_2
    refine lv_aload_n hx hb dL_law_919 rfl (lv_at hl 5 rfl) ?_
    refine lv_iconst (v := 0) hx hb dL_law_920 (by decide) ?_
    refine lld_12 hx hb hK hP dL_law_921 ?_
    refine lv_iload hx hb dL_law_922 (lv_at hl 0 rfl) ?_
    refine lv_i2l (v := (mPallet τ (xs (i + 1)) (xs (i + 2))).1.toInt64) hx hb dL_law_924 rfl ?_
    have he : (oF o (cPallet σ (xs (i + 1)) (xs (i + 2))).1 (cPallet σ (xs (i + 1)) (xs (i + 2))).2.1) 0 = (mPallet τ (xs (i + 1)) (xs (i + 2))).1.toInt64 := by rw [hc0, oF0, hs4 hc0]; exact pk_uLs
    refine W.lcmp hx hb dL_law_925 ?_
    refine lv_if_eq (tgt := 931) hx hb dL_law_926 (by decide) (fun c_3 => ?_) (fun c_3 => ?_)
    · skip
      refine lv_goto (tgt := 1410) hx hb dL_law_931 (by decide) ?_
      exact kk _ _ _ _ _ _ hs5 hP hS (lv_sub hl [2, 3, 4, 5, 6] rfl)
    · exact absurd (cmp_eq he) c_3
set_option maxHeartbeats 4000000 in
set_option maxRecDepth 100000 in
theorem lc_entry {p : Program} {l : Launch} {e : Env} {s : State} {m : MethodId} {below : List Frame} {meth : Method} {c : Code} {b L : Nat} {xs : Nat → Int32} {D : va_G} {cI cZ cJ : ClassId} {Z : Nat → Nat} (hf : l.stackTraces = false) (C0 : LC p s m c b L xs D cI cZ cJ Z) (hL : L ≤ 2048) {Rel : SG → SM → Prop} (hFx : ∀ σ τ, Rel σ τ → fxG σ ∧ fxM τ) {i : Nat} (hst : stepI Rel (fun σ => cEntry σ (xs (i + 1)) (xs (i + 2)) (xs (i + 3))) (fun τ => mEntry τ (xs (i + 1)) (xs (i + 2)) (xs (i + 3))) (fun z => z)) (hi : i + 4 ≤ L) {k n : Nat} (hkc : k + 1 ≤ 1060) (hkn : n + 6 ≤ 16143) {σ : SG} {τ : SM} {o : Nat → Int64} (hR : Rel σ τ) {H : Heap} {locs : List Loc} (hP : va_P D vwCl (wA cI cZ cJ Z σ τ o) H) (hS : va_S (fun a : Nat => s.heap.size ≤ a) s.heap H locs) {ls : Array Slot} (hl : lv_has ls 7 [(0, .ref b), (1, .ref (Z 0)), (2, .ref (Z 13)), (3, .ref (Z 12)), (4, .int (nI i))]) {Q : State → Prop}
  (kk : ∀ (σ : SG) (τ : SM) (o : Nat → Int64) (H : Heap) (locs : List Loc) (ls : Array Slot), Rel σ τ → va_P D vwCl (wA cI cZ cJ Z σ τ o) H → va_S (fun a : Nat => s.heap.size ≤ a) s.heap H locs → lv_has ls 7 [(0, .ref b), (1, .ref (Z 0)), (2, .ref (Z 13)), (3, .ref (Z 12)), (4, .int (nI i))] → W p l e room_1 s m #[Value.ref b] below meth c H locs (k + 1) (n + 6) Q (F0 m 1410 ls [])) : W p l e room_1 s m #[Value.ref b] below meth c H locs k n Q (F0 m 934 ls []) := by
  obtain ⟨hx, hb, hml, hown, hts, hXs, hbl, hZ, hZs, hK, hE, hN, hX0⟩ := C0
  have hbA : ¬ (fun a : Nat => s.heap.size ≤ a) b := Nat.not_le.mpr hbl
  have hA13 : ∀ a, adQ 13 Z a → (fun a : Nat => s.heap.size ≤ a) a := fun a ⟨k, h1, h2⟩ => by rw [h2]; exact hZs k (by omega)
  have hA20 : ∀ a, adQ 20 (fun k => Z (13 + k)) a → (fun a : Nat => s.heap.size ≤ a) a := fun a ⟨k, h1, h2⟩ => by rw [h2]; exact hZs (13 + k) (by omega)
  obtain ⟨hG, hM⟩ := hFx σ τ hR
  have hs := hst σ τ hR
  have hs1 : nI ((cEntry σ (xs (i + 1)) (xs (i + 2)) (xs (i + 3))).1) = mThr (mEntry τ (xs (i + 1)) (xs (i + 2)) (xs (i + 3))).2 := hs.1
  have hs2 : ((cEntry σ (xs (i + 1)) (xs (i + 2)) (xs (i + 3))).1) < 4 := hs.2.1
  have hs3 : ((cEntry σ (xs (i + 1)) (xs (i + 2)) (xs (i + 3))).1) = 0 → (cEntry σ (xs (i + 1)) (xs (i + 2)) (xs (i + 3))).1 = 0 := hs.2.2.1
  have hs4 : (cEntry σ (xs (i + 1)) (xs (i + 2)) (xs (i + 3))).1 = 0 → (cEntry σ (xs (i + 1)) (xs (i + 2)) (xs (i + 3))).2.1 = (mEntry τ (xs (i + 1)) (xs (i + 2)) (xs (i + 3))).1 := hs.2.2.2.1
  have hs5 : Rel (cEntry σ (xs (i + 1)) (xs (i + 2)) (xs (i + 3))).2.2 (mEntry τ (xs (i + 1)) (xs (i + 2)) (xs (i + 3))).2 := hs.2.2.2.2
  have hX : EX (adQ 13 Z) s H := EX_narrow (EX_kept hX0 hS.2.1) hA13
  refine lv_aload_n hx hb dL_law_934 rfl (lv_at hl 1 rfl) ?_
  refine lv_aload_n hx hb dL_law_935 rfl (lv_at hl 0 rfl) ?_
  refine lv_iload hx hb dL_law_936 (lv_at hl 4 rfl) ?_
  refine lv_iconst (v := 1) hx hb dL_law_938 (by decide) ?_
  refine addN i 1 hx hb rfl rfl dL_law_939 ?_
  refine lrd (i := i + 1) hx hb hXs hbl hbA hS rfl (by omega) hL dL_law_940 ?_
  refine lv_aload_n hx hb dL_law_941 rfl (lv_at hl 0 rfl) ?_
  refine lv_iload hx hb dL_law_942 (lv_at hl 4 rfl) ?_
  refine lv_iconst (v := 2) hx hb dL_law_944 (by decide) ?_
  refine addN i 2 hx hb rfl rfl dL_law_945 ?_
  refine lrd (i := i + 2) hx hb hXs hbl hbA hS rfl (by omega) hL dL_law_946 ?_
  refine lv_aload_n hx hb dL_law_947 rfl (lv_at hl 0 rfl) ?_
  refine lv_iload hx hb dL_law_948 (lv_at hl 4 rfl) ?_
  refine lv_iconst (v := 3) hx hb dL_law_950 (by decide) ?_
  refine addN i 3 hx hb rfl rfl dL_law_951 ?_
  refine lrd (i := i + 3) hx hb hXs hbl hbA hS rfl (by omega) hL dL_law_952 ?_
  refine lv_aload_n hx hb dL_law_953 rfl (lv_at hl 3 rfl) ?_
  refine w_call (vx_runSW (As := [.ref (Z 0), .int (xs (i + 1)), .int (xs (i + 2)), .int (xs (i + 3)), .ref (Z 12)]) (rest := []) ⟨hx, hb, hml, hown, hts⟩ (c_L_entry l hf D cI cJ Z (ijL hZ) σ hG.1 hG.2 (xs (i + 1)) (xs (i + 2)) (xs (i + 3)) o) (vx_cwSW 5 hts gL_law_L_entry rfl rfl rfl kn_L_entry ⟨Nat.le_of_ble_eq_true rfl, Nat.le_of_ble_eq_true rfl⟩) (pS_L hP hK hE hN hX) rfl rfl hl.1 rfl (lv_room (Nat.le_of_ble_eq_true rfl)) dL_law_954 ⟨hkc, hkn⟩) hS hA13 (fun v H1 l1 hv hz9 hk9 hS => ?_)
  obtain ⟨rfl, hP1⟩ := hv
  have hP := wA_callL hZ hP hP1 hk9
  refine lv_istore (lv' := [(5, .int (nI ((cEntry σ (xs (i + 1)) (xs (i + 2)) (xs (i + 3))).1))), (0, .ref b), (1, .ref (Z 0)), (2, .ref (Z 13)), (3, .ref (Z 12)), (4, .int (nI i))]) hx hb dL_law_957 hl (by decide) rfl (fun ls hl => ?_)
  refine lv_aload_n hx hb dL_law_959 rfl (lv_at hl 3 rfl) ?_
  refine lv_aload_n hx hb dL_law_960 rfl (lv_at hl 1 rfl) ?_
  refine lv_iload hx hb dL_law_961 (lv_at hl 5 rfl) ?_
  refine lv_iconst (v := 1) hx hb dL_law_963 (by decide) ?_
  refine addN i 1 hx hb rfl rfl dL_law_964 ?_
  refine lrd (i := i + 1) hx hb hXs hbl hbA hS rfl (by omega) hL dL_law_965 ?_
  refine lv_aload_n hx hb dL_law_966 rfl (lv_at hl 1 rfl) ?_
  refine lv_iload hx hb dL_law_967 (lv_at hl 5 rfl) ?_
  refine lv_iconst (v := 2) hx hb dL_law_969 (by decide) ?_
  refine addN i 2 hx hb rfl rfl dL_law_970 ?_
  refine lrd (i := i + 2) hx hb hXs hbl hbA hS rfl (by omega) hL dL_law_971 ?_
  refine lv_aload_n hx hb dL_law_972 rfl (lv_at hl 1 rfl) ?_
  refine lv_iload hx hb dL_law_973 (lv_at hl 5 rfl) ?_
  refine lv_iconst (v := 3) hx hb dL_law_975 (by decide) ?_
  refine addN i 3 hx hb rfl rfl dL_law_976 ?_
  refine lrd (i := i + 3) hx hb hXs hbl hbA hS rfl (by omega) hL dL_law_977 ?_
  refine w_call (va_runV (As := [.int (xs (i + 1)), .int (xs (i + 2)), .int (xs (i + 3))]) (rest := []) ⟨hx, hb, hml, hown, hts⟩ (c_X2_entry l D cI cZ (fun k => Z (13 + k)) τ (ijM hZ) (xs (i + 1)) (xs (i + 2)) (xs (i + 3)) hM.1 hM.2.1 hM.2.2.1 hM.2.2.2.1 hM.2.2.2.2) (cwV 3 hts gL_law_X2_entry rfl rfl rfl kd_X2_entry ⟨Nat.le_of_ble_eq_true rfl, Nat.le_of_ble_eq_true rfl⟩) (pV_A hP hK) rfl rfl hl.1 rfl (lv_room (Nat.le_of_ble_eq_true rfl)) dL_law_978 ⟨hkc, hkn⟩) hS hA20 (fun v H2 l2 hv hz9 hk9 hS => ?_)
  obtain ⟨rfl, hP2⟩ := hv
  have hP := wA_callM hZ hP hP2 hk9
  refine lv_istore (lv' := [(6, .int (mEntry τ (xs (i + 1)) (xs (i + 2)) (xs (i + 3))).1), (5, .int (nI ((cEntry σ (xs (i + 1)) (xs (i + 2)) (xs (i + 3))).1))), (0, .ref b), (1, .ref (Z 0)), (2, .ref (Z 13)), (3, .ref (Z 12)), (4, .int (nI i))]) hx hb dL_law_981 hl (by decide) rfl (fun ls hl => ?_)
  refine lv_aload_n hx hb dL_law_983 rfl (lv_at hl 4 rfl) ?_
  refine r_callE (x := mThr (mEntry τ (xs (i + 1)) (xs (i + 2)) (xs (i + 3))).2) (va_runV (As := []) (rest := []) ⟨hx, hb, hml, hown, hts⟩ (c_X2_thrown l D cI cZ (fun k => Z (13 + k)) (mEntry τ (xs (i + 1)) (xs (i + 2)) (xs (i + 3))).2) (cwV 0 hts gL_law_X2_thrown rfl rfl rfl kd_X2_thrown ⟨Nat.le_of_ble_eq_true rfl, Nat.le_of_ble_eq_true rfl⟩) (pV_A hP hK) rfl rfl hl.1 rfl (lv_room (Nat.le_of_ble_eq_true rfl)) dL_law_984 ⟨hkc, hkn⟩) ?_
  refine lv_iload hx hb dL_law_987 (lv_at hl 1 rfl) ?_
  refine lv_icmp_eq (tgt := 994) hx hb dL_law_989 (by decide) (fun c_1 => ?_) (fun c_1 => ?_)
  rotate_left
  · exact absurd hs1.symm c_1
  refine lv_iload hx hb dL_law_994 (lv_at hl 1 rfl) ?_
  refine neZN ((cEntry σ (xs (i + 1)) (xs (i + 2)) (xs (i + 3))).1) (tgt := 1011) hx hb rfl (by omega) dL_law_996 (by decide) (fun c_2 => ?_) (fun c_2 => ?_)
  · skip
    refine lv_goto (tgt := 1410) hx hb dL_law_1011 (by decide) ?_
    exact kk _ _ _ _ _ _ hs5 hP hS (lv_sub hl [2, 3, 4, 5, 6] rfl)
  · have hc0 := hs3 c_2
    refine lv_aload_n hx hb dL_law_999 rfl (lv_at hl 5 rfl) ?_
    refine lv_iconst (v := 0) hx hb dL_law_1000 (by decide) ?_
    refine lld_12 hx hb hK hP dL_law_1001 ?_
    refine lv_iload hx hb dL_law_1002 (lv_at hl 0 rfl) ?_
    refine lv_i2l (v := (mEntry τ (xs (i + 1)) (xs (i + 2)) (xs (i + 3))).1.toInt64) hx hb dL_law_1004 rfl ?_
    have he : (oF o (cEntry σ (xs (i + 1)) (xs (i + 2)) (xs (i + 3))).1 (cEntry σ (xs (i + 1)) (xs (i + 2)) (xs (i + 3))).2.1) 0 = (mEntry τ (xs (i + 1)) (xs (i + 2)) (xs (i + 3))).1.toInt64 := by rw [hc0, oF0, hs4 hc0]; exact pk_uLs
    refine W.lcmp hx hb dL_law_1005 ?_
    refine lv_if_eq (tgt := 1011) hx hb dL_law_1006 (by decide) (fun c_3 => ?_) (fun c_3 => ?_)
    · skip
      refine lv_goto (tgt := 1410) hx hb dL_law_1011 (by decide) ?_
      exact kk _ _ _ _ _ _ hs5 hP hS (lv_sub hl [2, 3, 4, 5, 6] rfl)
    · exact absurd (cmp_eq he) c_3
set_option maxHeartbeats 4000000 in
set_option maxRecDepth 100000 in
theorem lc_contents {p : Program} {l : Launch} {e : Env} {s : State} {m : MethodId} {below : List Frame} {meth : Method} {c : Code} {b L : Nat} {xs : Nat → Int32} {D : va_G} {cI cZ cJ : ClassId} {Z : Nat → Nat} (hf : l.stackTraces = false) (C0 : LC p s m c b L xs D cI cZ cJ Z) (hL : L ≤ 2048) {Rel : SG → SM → Prop} (hFx : ∀ σ τ, Rel σ τ → fxG σ ∧ fxM τ) {i : Nat} (hst : stepI Rel (fun σ => cContents σ (xs (i + 1)) (xs (i + 2))) (fun τ => mContents τ (xs (i + 1)) (xs (i + 2))) (fun z => z)) (hi : i + 4 ≤ L) {k n : Nat} (hkc : k + 1 ≤ 1060) (hkn : n + 6 ≤ 16143) {σ : SG} {τ : SM} {o : Nat → Int64} (hR : Rel σ τ) {H : Heap} {locs : List Loc} (hP : va_P D vwCl (wA cI cZ cJ Z σ τ o) H) (hS : va_S (fun a : Nat => s.heap.size ≤ a) s.heap H locs) {ls : Array Slot} (hl : lv_has ls 7 [(0, .ref b), (1, .ref (Z 0)), (2, .ref (Z 13)), (3, .ref (Z 12)), (4, .int (nI i))]) {Q : State → Prop}
  (kk : ∀ (σ : SG) (τ : SM) (o : Nat → Int64) (H : Heap) (locs : List Loc) (ls : Array Slot), Rel σ τ → va_P D vwCl (wA cI cZ cJ Z σ τ o) H → va_S (fun a : Nat => s.heap.size ≤ a) s.heap H locs → lv_has ls 7 [(0, .ref b), (1, .ref (Z 0)), (2, .ref (Z 13)), (3, .ref (Z 12)), (4, .int (nI i))] → W p l e room_1 s m #[Value.ref b] below meth c H locs (k + 1) (n + 6) Q (F0 m 1410 ls [])) : W p l e room_1 s m #[Value.ref b] below meth c H locs k n Q (F0 m 1014 ls []) := by
  obtain ⟨hx, hb, hml, hown, hts, hXs, hbl, hZ, hZs, hK, hE, hN, hX0⟩ := C0
  have hbA : ¬ (fun a : Nat => s.heap.size ≤ a) b := Nat.not_le.mpr hbl
  have hA13 : ∀ a, adQ 13 Z a → (fun a : Nat => s.heap.size ≤ a) a := fun a ⟨k, h1, h2⟩ => by rw [h2]; exact hZs k (by omega)
  have hA20 : ∀ a, adQ 20 (fun k => Z (13 + k)) a → (fun a : Nat => s.heap.size ≤ a) a := fun a ⟨k, h1, h2⟩ => by rw [h2]; exact hZs (13 + k) (by omega)
  obtain ⟨hG, hM⟩ := hFx σ τ hR
  have hs := hst σ τ hR
  have hs1 : nI ((cContents σ (xs (i + 1)) (xs (i + 2))).1) = mThr (mContents τ (xs (i + 1)) (xs (i + 2))).2 := hs.1
  have hs2 : ((cContents σ (xs (i + 1)) (xs (i + 2))).1) < 4 := hs.2.1
  have hs3 : ((cContents σ (xs (i + 1)) (xs (i + 2))).1) = 0 → (cContents σ (xs (i + 1)) (xs (i + 2))).1 = 0 := hs.2.2.1
  have hs4 : (cContents σ (xs (i + 1)) (xs (i + 2))).1 = 0 → (cContents σ (xs (i + 1)) (xs (i + 2))).2.1 = (mContents τ (xs (i + 1)) (xs (i + 2))).1 := hs.2.2.2.1
  have hs5 : Rel (cContents σ (xs (i + 1)) (xs (i + 2))).2.2 (mContents τ (xs (i + 1)) (xs (i + 2))).2 := hs.2.2.2.2
  have hX : EX (adQ 13 Z) s H := EX_narrow (EX_kept hX0 hS.2.1) hA13
  refine lv_aload_n hx hb dL_law_1014 rfl (lv_at hl 1 rfl) ?_
  refine lv_aload_n hx hb dL_law_1015 rfl (lv_at hl 0 rfl) ?_
  refine lv_iload hx hb dL_law_1016 (lv_at hl 4 rfl) ?_
  refine lv_iconst (v := 1) hx hb dL_law_1018 (by decide) ?_
  refine addN i 1 hx hb rfl rfl dL_law_1019 ?_
  refine lrd (i := i + 1) hx hb hXs hbl hbA hS rfl (by omega) hL dL_law_1020 ?_
  refine lv_aload_n hx hb dL_law_1021 rfl (lv_at hl 0 rfl) ?_
  refine lv_iload hx hb dL_law_1022 (lv_at hl 4 rfl) ?_
  refine lv_iconst (v := 2) hx hb dL_law_1024 (by decide) ?_
  refine addN i 2 hx hb rfl rfl dL_law_1025 ?_
  refine lrd (i := i + 2) hx hb hXs hbl hbA hS rfl (by omega) hL dL_law_1026 ?_
  refine lv_aload_n hx hb dL_law_1027 rfl (lv_at hl 3 rfl) ?_
  refine w_call (vx_runSW (As := [.ref (Z 0), .int (xs (i + 1)), .int (xs (i + 2)), .ref (Z 12)]) (rest := []) ⟨hx, hb, hml, hown, hts⟩ (c_L_contents l hf D cI cJ Z (ijL hZ) σ hG.1 hG.2 (xs (i + 1)) (xs (i + 2)) o) (vx_cwSW 4 hts gL_law_L_contents rfl rfl rfl kn_L_contents ⟨Nat.le_of_ble_eq_true rfl, Nat.le_of_ble_eq_true rfl⟩) (pS_L hP hK hE hN hX) rfl rfl hl.1 rfl (lv_room (Nat.le_of_ble_eq_true rfl)) dL_law_1028 ⟨hkc, hkn⟩) hS hA13 (fun v H1 l1 hv hz9 hk9 hS => ?_)
  obtain ⟨rfl, hP1⟩ := hv
  have hP := wA_callL hZ hP hP1 hk9
  refine lv_istore (lv' := [(5, .int (nI ((cContents σ (xs (i + 1)) (xs (i + 2))).1))), (0, .ref b), (1, .ref (Z 0)), (2, .ref (Z 13)), (3, .ref (Z 12)), (4, .int (nI i))]) hx hb dL_law_1031 hl (by decide) rfl (fun ls hl => ?_)
  refine lv_aload_n hx hb dL_law_1033 rfl (lv_at hl 3 rfl) ?_
  refine lv_aload_n hx hb dL_law_1034 rfl (lv_at hl 1 rfl) ?_
  refine lv_iload hx hb dL_law_1035 (lv_at hl 5 rfl) ?_
  refine lv_iconst (v := 1) hx hb dL_law_1037 (by decide) ?_
  refine addN i 1 hx hb rfl rfl dL_law_1038 ?_
  refine lrd (i := i + 1) hx hb hXs hbl hbA hS rfl (by omega) hL dL_law_1039 ?_
  refine lv_aload_n hx hb dL_law_1040 rfl (lv_at hl 1 rfl) ?_
  refine lv_iload hx hb dL_law_1041 (lv_at hl 5 rfl) ?_
  refine lv_iconst (v := 2) hx hb dL_law_1043 (by decide) ?_
  refine addN i 2 hx hb rfl rfl dL_law_1044 ?_
  refine lrd (i := i + 2) hx hb hXs hbl hbA hS rfl (by omega) hL dL_law_1045 ?_
  refine w_call (va_runV (As := [.int (xs (i + 1)), .int (xs (i + 2))]) (rest := []) ⟨hx, hb, hml, hown, hts⟩ (c_X2_contents l D cI cZ (fun k => Z (13 + k)) τ (ijM hZ) (xs (i + 1)) (xs (i + 2)) hM.1 hM.2.1 hM.2.2.1 hM.2.2.2.1 hM.2.2.2.2) (cwV 2 hts gL_law_X2_contents rfl rfl rfl kd_X2_contents ⟨Nat.le_of_ble_eq_true rfl, Nat.le_of_ble_eq_true rfl⟩) (pV_A hP hK) rfl rfl hl.1 rfl (lv_room (Nat.le_of_ble_eq_true rfl)) dL_law_1046 ⟨hkc, hkn⟩) hS hA20 (fun v H2 l2 hv hz9 hk9 hS => ?_)
  obtain ⟨rfl, hP2⟩ := hv
  have hP := wA_callM hZ hP hP2 hk9
  refine lv_istore (lv' := [(6, .int (mContents τ (xs (i + 1)) (xs (i + 2))).1), (5, .int (nI ((cContents σ (xs (i + 1)) (xs (i + 2))).1))), (0, .ref b), (1, .ref (Z 0)), (2, .ref (Z 13)), (3, .ref (Z 12)), (4, .int (nI i))]) hx hb dL_law_1049 hl (by decide) rfl (fun ls hl => ?_)
  refine lv_aload_n hx hb dL_law_1051 rfl (lv_at hl 4 rfl) ?_
  refine r_callE (x := mThr (mContents τ (xs (i + 1)) (xs (i + 2))).2) (va_runV (As := []) (rest := []) ⟨hx, hb, hml, hown, hts⟩ (c_X2_thrown l D cI cZ (fun k => Z (13 + k)) (mContents τ (xs (i + 1)) (xs (i + 2))).2) (cwV 0 hts gL_law_X2_thrown rfl rfl rfl kd_X2_thrown ⟨Nat.le_of_ble_eq_true rfl, Nat.le_of_ble_eq_true rfl⟩) (pV_A hP hK) rfl rfl hl.1 rfl (lv_room (Nat.le_of_ble_eq_true rfl)) dL_law_1052 ⟨hkc, hkn⟩) ?_
  refine lv_iload hx hb dL_law_1055 (lv_at hl 1 rfl) ?_
  refine lv_icmp_eq (tgt := 1062) hx hb dL_law_1057 (by decide) (fun c_1 => ?_) (fun c_1 => ?_)
  rotate_left
  · exact absurd hs1.symm c_1
  refine lv_iload hx hb dL_law_1062 (lv_at hl 1 rfl) ?_
  refine neZN ((cContents σ (xs (i + 1)) (xs (i + 2))).1) (tgt := 1079) hx hb rfl (by omega) dL_law_1064 (by decide) (fun c_2 => ?_) (fun c_2 => ?_)
  · skip
    refine lv_goto (tgt := 1410) hx hb dL_law_1079 (by decide) ?_
    exact kk _ _ _ _ _ _ hs5 hP hS (lv_sub hl [2, 3, 4, 5, 6] rfl)
  · have hc0 := hs3 c_2
    refine lv_aload_n hx hb dL_law_1067 rfl (lv_at hl 5 rfl) ?_
    refine lv_iconst (v := 0) hx hb dL_law_1068 (by decide) ?_
    refine lld_12 hx hb hK hP dL_law_1069 ?_
    refine lv_iload hx hb dL_law_1070 (lv_at hl 0 rfl) ?_
    refine lv_i2l (v := (mContents τ (xs (i + 1)) (xs (i + 2))).1.toInt64) hx hb dL_law_1072 rfl ?_
    have he : (oF o (cContents σ (xs (i + 1)) (xs (i + 2))).1 (cContents σ (xs (i + 1)) (xs (i + 2))).2.1) 0 = (mContents τ (xs (i + 1)) (xs (i + 2))).1.toInt64 := by rw [hc0, oF0, hs4 hc0]; exact pk_uLs
    refine W.lcmp hx hb dL_law_1073 ?_
    refine lv_if_eq (tgt := 1079) hx hb dL_law_1074 (by decide) (fun c_3 => ?_) (fun c_3 => ?_)
    · skip
      refine lv_goto (tgt := 1410) hx hb dL_law_1079 (by decide) ?_
      exact kk _ _ _ _ _ _ hs5 hP hS (lv_sub hl [2, 3, 4, 5, 6] rfl)
    · exact absurd (cmp_eq he) c_3
set_option maxHeartbeats 4000000 in
set_option maxRecDepth 100000 in
theorem lc_contentsAnew {p : Program} {l : Launch} {e : Env} {s : State} {m : MethodId} {below : List Frame} {meth : Method} {c : Code} {b L : Nat} {xs : Nat → Int32} {D : va_G} {cI cZ cJ : ClassId} {Z : Nat → Nat} (hf : l.stackTraces = false) (C0 : LC p s m c b L xs D cI cZ cJ Z) (hL : L ≤ 2048) {Rel : SG → SM → Prop} (hFx : ∀ σ τ, Rel σ τ → fxG σ ∧ fxM τ) {i : Nat} (hst : stepI Rel (fun σ => cAnew σ (xs (i + 1)) (xs (i + 2))) (fun τ => mAnew τ (xs (i + 1)) (xs (i + 2))) (fun z => z)) (hi : i + 4 ≤ L) {k n : Nat} (hkc : k + 1 ≤ 1060) (hkn : n + 6 ≤ 16143) {σ : SG} {τ : SM} {o : Nat → Int64} (hR : Rel σ τ) {H : Heap} {locs : List Loc} (hP : va_P D vwCl (wA cI cZ cJ Z σ τ o) H) (hS : va_S (fun a : Nat => s.heap.size ≤ a) s.heap H locs) {ls : Array Slot} (hl : lv_has ls 7 [(0, .ref b), (1, .ref (Z 0)), (2, .ref (Z 13)), (3, .ref (Z 12)), (4, .int (nI i))]) {Q : State → Prop}
  (kk : ∀ (σ : SG) (τ : SM) (o : Nat → Int64) (H : Heap) (locs : List Loc) (ls : Array Slot), Rel σ τ → va_P D vwCl (wA cI cZ cJ Z σ τ o) H → va_S (fun a : Nat => s.heap.size ≤ a) s.heap H locs → lv_has ls 7 [(0, .ref b), (1, .ref (Z 0)), (2, .ref (Z 13)), (3, .ref (Z 12)), (4, .int (nI i))] → W p l e room_1 s m #[Value.ref b] below meth c H locs (k + 1) (n + 6) Q (F0 m 1410 ls [])) : W p l e room_1 s m #[Value.ref b] below meth c H locs k n Q (F0 m 1082 ls []) := by
  obtain ⟨hx, hb, hml, hown, hts, hXs, hbl, hZ, hZs, hK, hE, hN, hX0⟩ := C0
  have hbA : ¬ (fun a : Nat => s.heap.size ≤ a) b := Nat.not_le.mpr hbl
  have hA13 : ∀ a, adQ 13 Z a → (fun a : Nat => s.heap.size ≤ a) a := fun a ⟨k, h1, h2⟩ => by rw [h2]; exact hZs k (by omega)
  have hA20 : ∀ a, adQ 20 (fun k => Z (13 + k)) a → (fun a : Nat => s.heap.size ≤ a) a := fun a ⟨k, h1, h2⟩ => by rw [h2]; exact hZs (13 + k) (by omega)
  obtain ⟨hG, hM⟩ := hFx σ τ hR
  have hs := hst σ τ hR
  have hs1 : nI ((cAnew σ (xs (i + 1)) (xs (i + 2))).1) = mThr (mAnew τ (xs (i + 1)) (xs (i + 2))).2 := hs.1
  have hs2 : ((cAnew σ (xs (i + 1)) (xs (i + 2))).1) < 4 := hs.2.1
  have hs3 : ((cAnew σ (xs (i + 1)) (xs (i + 2))).1) = 0 → (cAnew σ (xs (i + 1)) (xs (i + 2))).1 = 0 := hs.2.2.1
  have hs4 : (cAnew σ (xs (i + 1)) (xs (i + 2))).1 = 0 → (cAnew σ (xs (i + 1)) (xs (i + 2))).2.1 = (mAnew τ (xs (i + 1)) (xs (i + 2))).1 := hs.2.2.2.1
  have hs5 : Rel (cAnew σ (xs (i + 1)) (xs (i + 2))).2.2 (mAnew τ (xs (i + 1)) (xs (i + 2))).2 := hs.2.2.2.2
  have hX : EX (adQ 13 Z) s H := EX_narrow (EX_kept hX0 hS.2.1) hA13
  refine lv_aload_n hx hb dL_law_1082 rfl (lv_at hl 1 rfl) ?_
  refine lv_aload_n hx hb dL_law_1083 rfl (lv_at hl 0 rfl) ?_
  refine lv_iload hx hb dL_law_1084 (lv_at hl 4 rfl) ?_
  refine lv_iconst (v := 1) hx hb dL_law_1086 (by decide) ?_
  refine addN i 1 hx hb rfl rfl dL_law_1087 ?_
  refine lrd (i := i + 1) hx hb hXs hbl hbA hS rfl (by omega) hL dL_law_1088 ?_
  refine lv_aload_n hx hb dL_law_1089 rfl (lv_at hl 0 rfl) ?_
  refine lv_iload hx hb dL_law_1090 (lv_at hl 4 rfl) ?_
  refine lv_iconst (v := 2) hx hb dL_law_1092 (by decide) ?_
  refine addN i 2 hx hb rfl rfl dL_law_1093 ?_
  refine lrd (i := i + 2) hx hb hXs hbl hbA hS rfl (by omega) hL dL_law_1094 ?_
  refine lv_aload_n hx hb dL_law_1095 rfl (lv_at hl 3 rfl) ?_
  refine w_call (vx_runSW (As := [.ref (Z 0), .int (xs (i + 1)), .int (xs (i + 2)), .ref (Z 12)]) (rest := []) ⟨hx, hb, hml, hown, hts⟩ (c_L_contentsAnew l hf D cI cJ Z (ijL hZ) σ hG.1 hG.2 (xs (i + 1)) (xs (i + 2)) o) (vx_cwSW 4 hts gL_law_L_contentsAnew rfl rfl rfl kn_L_contentsAnew ⟨Nat.le_of_ble_eq_true rfl, Nat.le_of_ble_eq_true rfl⟩) (pS_L hP hK hE hN hX) rfl rfl hl.1 rfl (lv_room (Nat.le_of_ble_eq_true rfl)) dL_law_1096 ⟨hkc, hkn⟩) hS hA13 (fun v H1 l1 hv hz9 hk9 hS => ?_)
  obtain ⟨rfl, hP1⟩ := hv
  have hP := wA_callL hZ hP hP1 hk9
  refine lv_istore (lv' := [(5, .int (nI ((cAnew σ (xs (i + 1)) (xs (i + 2))).1))), (0, .ref b), (1, .ref (Z 0)), (2, .ref (Z 13)), (3, .ref (Z 12)), (4, .int (nI i))]) hx hb dL_law_1099 hl (by decide) rfl (fun ls hl => ?_)
  refine lv_aload_n hx hb dL_law_1101 rfl (lv_at hl 3 rfl) ?_
  refine lv_aload_n hx hb dL_law_1102 rfl (lv_at hl 1 rfl) ?_
  refine lv_iload hx hb dL_law_1103 (lv_at hl 5 rfl) ?_
  refine lv_iconst (v := 1) hx hb dL_law_1105 (by decide) ?_
  refine addN i 1 hx hb rfl rfl dL_law_1106 ?_
  refine lrd (i := i + 1) hx hb hXs hbl hbA hS rfl (by omega) hL dL_law_1107 ?_
  refine lv_aload_n hx hb dL_law_1108 rfl (lv_at hl 1 rfl) ?_
  refine lv_iload hx hb dL_law_1109 (lv_at hl 5 rfl) ?_
  refine lv_iconst (v := 2) hx hb dL_law_1111 (by decide) ?_
  refine addN i 2 hx hb rfl rfl dL_law_1112 ?_
  refine lrd (i := i + 2) hx hb hXs hbl hbA hS rfl (by omega) hL dL_law_1113 ?_
  refine w_call (va_runV (As := [.int (xs (i + 1)), .int (xs (i + 2))]) (rest := []) ⟨hx, hb, hml, hown, hts⟩ (c_X2_contentsAnew l D cI cZ (fun k => Z (13 + k)) τ (ijM hZ) (xs (i + 1)) (xs (i + 2)) hM.1 hM.2.1 hM.2.2.1 hM.2.2.2.1 hM.2.2.2.2) (cwV 2 hts gL_law_X2_contentsAnew rfl rfl rfl kd_X2_contentsAnew ⟨Nat.le_of_ble_eq_true rfl, Nat.le_of_ble_eq_true rfl⟩) (pV_A hP hK) rfl rfl hl.1 rfl (lv_room (Nat.le_of_ble_eq_true rfl)) dL_law_1114 ⟨hkc, hkn⟩) hS hA20 (fun v H2 l2 hv hz9 hk9 hS => ?_)
  obtain ⟨rfl, hP2⟩ := hv
  have hP := wA_callM hZ hP hP2 hk9
  refine lv_istore (lv' := [(6, .int (mAnew τ (xs (i + 1)) (xs (i + 2))).1), (5, .int (nI ((cAnew σ (xs (i + 1)) (xs (i + 2))).1))), (0, .ref b), (1, .ref (Z 0)), (2, .ref (Z 13)), (3, .ref (Z 12)), (4, .int (nI i))]) hx hb dL_law_1117 hl (by decide) rfl (fun ls hl => ?_)
  refine lv_aload_n hx hb dL_law_1119 rfl (lv_at hl 4 rfl) ?_
  refine r_callE (x := mThr (mAnew τ (xs (i + 1)) (xs (i + 2))).2) (va_runV (As := []) (rest := []) ⟨hx, hb, hml, hown, hts⟩ (c_X2_thrown l D cI cZ (fun k => Z (13 + k)) (mAnew τ (xs (i + 1)) (xs (i + 2))).2) (cwV 0 hts gL_law_X2_thrown rfl rfl rfl kd_X2_thrown ⟨Nat.le_of_ble_eq_true rfl, Nat.le_of_ble_eq_true rfl⟩) (pV_A hP hK) rfl rfl hl.1 rfl (lv_room (Nat.le_of_ble_eq_true rfl)) dL_law_1120 ⟨hkc, hkn⟩) ?_
  refine lv_iload hx hb dL_law_1123 (lv_at hl 1 rfl) ?_
  refine lv_icmp_eq (tgt := 1130) hx hb dL_law_1125 (by decide) (fun c_1 => ?_) (fun c_1 => ?_)
  rotate_left
  · exact absurd hs1.symm c_1
  refine lv_iload hx hb dL_law_1130 (lv_at hl 1 rfl) ?_
  refine neZN ((cAnew σ (xs (i + 1)) (xs (i + 2))).1) (tgt := 1147) hx hb rfl (by omega) dL_law_1132 (by decide) (fun c_2 => ?_) (fun c_2 => ?_)
  · skip
    refine lv_goto (tgt := 1410) hx hb dL_law_1147 (by decide) ?_
    exact kk _ _ _ _ _ _ hs5 hP hS (lv_sub hl [2, 3, 4, 5, 6] rfl)
  · have hc0 := hs3 c_2
    refine lv_aload_n hx hb dL_law_1135 rfl (lv_at hl 5 rfl) ?_
    refine lv_iconst (v := 0) hx hb dL_law_1136 (by decide) ?_
    refine lld_12 hx hb hK hP dL_law_1137 ?_
    refine lv_iload hx hb dL_law_1138 (lv_at hl 0 rfl) ?_
    refine lv_i2l (v := (mAnew τ (xs (i + 1)) (xs (i + 2))).1.toInt64) hx hb dL_law_1140 rfl ?_
    have he : (oF o (cAnew σ (xs (i + 1)) (xs (i + 2))).1 (cAnew σ (xs (i + 1)) (xs (i + 2))).2.1) 0 = (mAnew τ (xs (i + 1)) (xs (i + 2))).1.toInt64 := by rw [hc0, oF0, hs4 hc0]; exact pk_uLs
    refine W.lcmp hx hb dL_law_1141 ?_
    refine lv_if_eq (tgt := 1147) hx hb dL_law_1142 (by decide) (fun c_3 => ?_) (fun c_3 => ?_)
    · skip
      refine lv_goto (tgt := 1410) hx hb dL_law_1147 (by decide) ?_
      exact kk _ _ _ _ _ _ hs5 hP hS (lv_sub hl [2, 3, 4, 5, 6] rfl)
    · exact absurd (cmp_eq he) c_3
set_option maxHeartbeats 4000000 in
set_option maxRecDepth 100000 in
theorem lc_declare {p : Program} {l : Launch} {e : Env} {s : State} {m : MethodId} {below : List Frame} {meth : Method} {c : Code} {b L : Nat} {xs : Nat → Int32} {D : va_G} {cI cZ cJ : ClassId} {Z : Nat → Nat} (hf : l.stackTraces = false) (C0 : LC p s m c b L xs D cI cZ cJ Z) (hL : L ≤ 2048) {Rel : SG → SM → Prop} (hFx : ∀ σ τ, Rel σ τ → fxG σ ∧ fxM τ) {i : Nat} (hst : stepI Rel (fun σ => cDeclare σ (xs (i + 1)) (xs (i + 2)) (xs (i + 3))) (fun τ => mDeclare τ (xs (i + 1)) (xs (i + 2)) (xs (i + 3))) (fun z => z)) (hi : i + 4 ≤ L) {k n : Nat} (hkc : k + 1 ≤ 1060) (hkn : n + 6 ≤ 16143) {σ : SG} {τ : SM} {o : Nat → Int64} (hR : Rel σ τ) {H : Heap} {locs : List Loc} (hP : va_P D vwCl (wA cI cZ cJ Z σ τ o) H) (hS : va_S (fun a : Nat => s.heap.size ≤ a) s.heap H locs) {ls : Array Slot} (hl : lv_has ls 7 [(0, .ref b), (1, .ref (Z 0)), (2, .ref (Z 13)), (3, .ref (Z 12)), (4, .int (nI i))]) {Q : State → Prop}
  (kk : ∀ (σ : SG) (τ : SM) (o : Nat → Int64) (H : Heap) (locs : List Loc) (ls : Array Slot), Rel σ τ → va_P D vwCl (wA cI cZ cJ Z σ τ o) H → va_S (fun a : Nat => s.heap.size ≤ a) s.heap H locs → lv_has ls 7 [(0, .ref b), (1, .ref (Z 0)), (2, .ref (Z 13)), (3, .ref (Z 12)), (4, .int (nI i))] → W p l e room_1 s m #[Value.ref b] below meth c H locs (k + 1) (n + 6) Q (F0 m 1410 ls [])) : W p l e room_1 s m #[Value.ref b] below meth c H locs k n Q (F0 m 1150 ls []) := by
  obtain ⟨hx, hb, hml, hown, hts, hXs, hbl, hZ, hZs, hK, hE, hN, hX0⟩ := C0
  have hbA : ¬ (fun a : Nat => s.heap.size ≤ a) b := Nat.not_le.mpr hbl
  have hA13 : ∀ a, adQ 13 Z a → (fun a : Nat => s.heap.size ≤ a) a := fun a ⟨k, h1, h2⟩ => by rw [h2]; exact hZs k (by omega)
  have hA20 : ∀ a, adQ 20 (fun k => Z (13 + k)) a → (fun a : Nat => s.heap.size ≤ a) a := fun a ⟨k, h1, h2⟩ => by rw [h2]; exact hZs (13 + k) (by omega)
  obtain ⟨hG, hM⟩ := hFx σ τ hR
  have hs := hst σ τ hR
  have hs1 : nI ((cDeclare σ (xs (i + 1)) (xs (i + 2)) (xs (i + 3))).1) = mThr (mDeclare τ (xs (i + 1)) (xs (i + 2)) (xs (i + 3))).2 := hs.1
  have hs2 : ((cDeclare σ (xs (i + 1)) (xs (i + 2)) (xs (i + 3))).1) < 4 := hs.2.1
  have hs3 : ((cDeclare σ (xs (i + 1)) (xs (i + 2)) (xs (i + 3))).1) = 0 → (cDeclare σ (xs (i + 1)) (xs (i + 2)) (xs (i + 3))).1 = 0 := hs.2.2.1
  have hs4 : (cDeclare σ (xs (i + 1)) (xs (i + 2)) (xs (i + 3))).1 = 0 → (cDeclare σ (xs (i + 1)) (xs (i + 2)) (xs (i + 3))).2.1 = (mDeclare τ (xs (i + 1)) (xs (i + 2)) (xs (i + 3))).1 := hs.2.2.2.1
  have hs5 : Rel (cDeclare σ (xs (i + 1)) (xs (i + 2)) (xs (i + 3))).2.2 (mDeclare τ (xs (i + 1)) (xs (i + 2)) (xs (i + 3))).2 := hs.2.2.2.2
  have hX : EX (adQ 13 Z) s H := EX_narrow (EX_kept hX0 hS.2.1) hA13
  refine lv_aload_n hx hb dL_law_1150 rfl (lv_at hl 1 rfl) ?_
  refine lv_aload_n hx hb dL_law_1151 rfl (lv_at hl 0 rfl) ?_
  refine lv_iload hx hb dL_law_1152 (lv_at hl 4 rfl) ?_
  refine lv_iconst (v := 1) hx hb dL_law_1154 (by decide) ?_
  refine addN i 1 hx hb rfl rfl dL_law_1155 ?_
  refine lrd (i := i + 1) hx hb hXs hbl hbA hS rfl (by omega) hL dL_law_1156 ?_
  refine lv_aload_n hx hb dL_law_1157 rfl (lv_at hl 0 rfl) ?_
  refine lv_iload hx hb dL_law_1158 (lv_at hl 4 rfl) ?_
  refine lv_iconst (v := 2) hx hb dL_law_1160 (by decide) ?_
  refine addN i 2 hx hb rfl rfl dL_law_1161 ?_
  refine lrd (i := i + 2) hx hb hXs hbl hbA hS rfl (by omega) hL dL_law_1162 ?_
  refine lv_aload_n hx hb dL_law_1163 rfl (lv_at hl 0 rfl) ?_
  refine lv_iload hx hb dL_law_1164 (lv_at hl 4 rfl) ?_
  refine lv_iconst (v := 3) hx hb dL_law_1166 (by decide) ?_
  refine addN i 3 hx hb rfl rfl dL_law_1167 ?_
  refine lrd (i := i + 3) hx hb hXs hbl hbA hS rfl (by omega) hL dL_law_1168 ?_
  refine lv_aload_n hx hb dL_law_1169 rfl (lv_at hl 3 rfl) ?_
  refine w_call (vx_runSW (As := [.ref (Z 0), .int (xs (i + 1)), .int (xs (i + 2)), .int (xs (i + 3)), .ref (Z 12)]) (rest := []) ⟨hx, hb, hml, hown, hts⟩ (c_L_declare l hf D cI cJ Z (ijL hZ) σ hG.1 hG.2 (xs (i + 1)) (xs (i + 2)) (xs (i + 3)) o) (vx_cwSW 5 hts gL_law_L_declare rfl rfl rfl kn_L_declare ⟨Nat.le_of_ble_eq_true rfl, Nat.le_of_ble_eq_true rfl⟩) (pS_L hP hK hE hN hX) rfl rfl hl.1 rfl (lv_room (Nat.le_of_ble_eq_true rfl)) dL_law_1170 ⟨hkc, hkn⟩) hS hA13 (fun v H1 l1 hv hz9 hk9 hS => ?_)
  obtain ⟨rfl, hP1⟩ := hv
  have hP := wA_callL hZ hP hP1 hk9
  refine lv_istore (lv' := [(5, .int (nI ((cDeclare σ (xs (i + 1)) (xs (i + 2)) (xs (i + 3))).1))), (0, .ref b), (1, .ref (Z 0)), (2, .ref (Z 13)), (3, .ref (Z 12)), (4, .int (nI i))]) hx hb dL_law_1173 hl (by decide) rfl (fun ls hl => ?_)
  refine lv_aload_n hx hb dL_law_1175 rfl (lv_at hl 3 rfl) ?_
  refine lv_aload_n hx hb dL_law_1176 rfl (lv_at hl 1 rfl) ?_
  refine lv_iload hx hb dL_law_1177 (lv_at hl 5 rfl) ?_
  refine lv_iconst (v := 1) hx hb dL_law_1179 (by decide) ?_
  refine addN i 1 hx hb rfl rfl dL_law_1180 ?_
  refine lrd (i := i + 1) hx hb hXs hbl hbA hS rfl (by omega) hL dL_law_1181 ?_
  refine lv_aload_n hx hb dL_law_1182 rfl (lv_at hl 1 rfl) ?_
  refine lv_iload hx hb dL_law_1183 (lv_at hl 5 rfl) ?_
  refine lv_iconst (v := 2) hx hb dL_law_1185 (by decide) ?_
  refine addN i 2 hx hb rfl rfl dL_law_1186 ?_
  refine lrd (i := i + 2) hx hb hXs hbl hbA hS rfl (by omega) hL dL_law_1187 ?_
  refine lv_aload_n hx hb dL_law_1188 rfl (lv_at hl 1 rfl) ?_
  refine lv_iload hx hb dL_law_1189 (lv_at hl 5 rfl) ?_
  refine lv_iconst (v := 3) hx hb dL_law_1191 (by decide) ?_
  refine addN i 3 hx hb rfl rfl dL_law_1192 ?_
  refine lrd (i := i + 3) hx hb hXs hbl hbA hS rfl (by omega) hL dL_law_1193 ?_
  refine w_call (va_runV (As := [.int (xs (i + 1)), .int (xs (i + 2)), .int (xs (i + 3))]) (rest := []) ⟨hx, hb, hml, hown, hts⟩ (c_X2_declare l D cI cZ (fun k => Z (13 + k)) τ (ijM hZ) (xs (i + 1)) (xs (i + 2)) (xs (i + 3)) hM.1 hM.2.1 hM.2.2.1 hM.2.2.2.1 hM.2.2.2.2) (cwV 3 hts gL_law_X2_declare rfl rfl rfl kd_X2_declare ⟨Nat.le_of_ble_eq_true rfl, Nat.le_of_ble_eq_true rfl⟩) (pV_A hP hK) rfl rfl hl.1 rfl (lv_room (Nat.le_of_ble_eq_true rfl)) dL_law_1194 ⟨hkc, hkn⟩) hS hA20 (fun v H2 l2 hv hz9 hk9 hS => ?_)
  obtain ⟨rfl, hP2⟩ := hv
  have hP := wA_callM hZ hP hP2 hk9
  refine lv_istore (lv' := [(6, .int (mDeclare τ (xs (i + 1)) (xs (i + 2)) (xs (i + 3))).1), (5, .int (nI ((cDeclare σ (xs (i + 1)) (xs (i + 2)) (xs (i + 3))).1))), (0, .ref b), (1, .ref (Z 0)), (2, .ref (Z 13)), (3, .ref (Z 12)), (4, .int (nI i))]) hx hb dL_law_1197 hl (by decide) rfl (fun ls hl => ?_)
  refine lv_aload_n hx hb dL_law_1199 rfl (lv_at hl 4 rfl) ?_
  refine r_callE (x := mThr (mDeclare τ (xs (i + 1)) (xs (i + 2)) (xs (i + 3))).2) (va_runV (As := []) (rest := []) ⟨hx, hb, hml, hown, hts⟩ (c_X2_thrown l D cI cZ (fun k => Z (13 + k)) (mDeclare τ (xs (i + 1)) (xs (i + 2)) (xs (i + 3))).2) (cwV 0 hts gL_law_X2_thrown rfl rfl rfl kd_X2_thrown ⟨Nat.le_of_ble_eq_true rfl, Nat.le_of_ble_eq_true rfl⟩) (pV_A hP hK) rfl rfl hl.1 rfl (lv_room (Nat.le_of_ble_eq_true rfl)) dL_law_1200 ⟨hkc, hkn⟩) ?_
  refine lv_iload hx hb dL_law_1203 (lv_at hl 1 rfl) ?_
  refine lv_icmp_eq (tgt := 1210) hx hb dL_law_1205 (by decide) (fun c_1 => ?_) (fun c_1 => ?_)
  rotate_left
  · exact absurd hs1.symm c_1
  refine lv_iload hx hb dL_law_1210 (lv_at hl 1 rfl) ?_
  refine neZN ((cDeclare σ (xs (i + 1)) (xs (i + 2)) (xs (i + 3))).1) (tgt := 1227) hx hb rfl (by omega) dL_law_1212 (by decide) (fun c_2 => ?_) (fun c_2 => ?_)
  · skip
    refine lv_goto (tgt := 1410) hx hb dL_law_1227 (by decide) ?_
    exact kk _ _ _ _ _ _ hs5 hP hS (lv_sub hl [2, 3, 4, 5, 6] rfl)
  · have hc0 := hs3 c_2
    refine lv_aload_n hx hb dL_law_1215 rfl (lv_at hl 5 rfl) ?_
    refine lv_iconst (v := 0) hx hb dL_law_1216 (by decide) ?_
    refine lld_12 hx hb hK hP dL_law_1217 ?_
    refine lv_iload hx hb dL_law_1218 (lv_at hl 0 rfl) ?_
    refine lv_i2l (v := (mDeclare τ (xs (i + 1)) (xs (i + 2)) (xs (i + 3))).1.toInt64) hx hb dL_law_1220 rfl ?_
    have he : (oF o (cDeclare σ (xs (i + 1)) (xs (i + 2)) (xs (i + 3))).1 (cDeclare σ (xs (i + 1)) (xs (i + 2)) (xs (i + 3))).2.1) 0 = (mDeclare τ (xs (i + 1)) (xs (i + 2)) (xs (i + 3))).1.toInt64 := by rw [hc0, oF0, hs4 hc0]; exact pk_uLs
    refine W.lcmp hx hb dL_law_1221 ?_
    refine lv_if_eq (tgt := 1227) hx hb dL_law_1222 (by decide) (fun c_3 => ?_) (fun c_3 => ?_)
    · skip
      refine lv_goto (tgt := 1410) hx hb dL_law_1227 (by decide) ?_
      exact kk _ _ _ _ _ _ hs5 hP hS (lv_sub hl [2, 3, 4, 5, 6] rfl)
    · exact absurd (cmp_eq he) c_3
set_option maxHeartbeats 4000000 in
set_option maxRecDepth 100000 in
theorem lc_mismatch {p : Program} {l : Launch} {e : Env} {s : State} {m : MethodId} {below : List Frame} {meth : Method} {c : Code} {b L : Nat} {xs : Nat → Int32} {D : va_G} {cI cZ cJ : ClassId} {Z : Nat → Nat} (hf : l.stackTraces = false) (C0 : LC p s m c b L xs D cI cZ cJ Z) (hL : L ≤ 2048) {Rel : SG → SM → Prop} (hFx : ∀ σ τ, Rel σ τ → fxG σ ∧ fxM τ) {i : Nat} (hst : stepI Rel (fun σ => cMismatch σ (xs (i + 1))) (fun τ => mMismatch τ (xs (i + 1))) (fun z => z)) (hi : i + 4 ≤ L) {k n : Nat} (hkc : k + 1 ≤ 1060) (hkn : n + 6 ≤ 16143) {σ : SG} {τ : SM} {o : Nat → Int64} (hR : Rel σ τ) {H : Heap} {locs : List Loc} (hP : va_P D vwCl (wA cI cZ cJ Z σ τ o) H) (hS : va_S (fun a : Nat => s.heap.size ≤ a) s.heap H locs) {ls : Array Slot} (hl : lv_has ls 7 [(0, .ref b), (1, .ref (Z 0)), (2, .ref (Z 13)), (3, .ref (Z 12)), (4, .int (nI i))]) {Q : State → Prop}
  (kk : ∀ (σ : SG) (τ : SM) (o : Nat → Int64) (H : Heap) (locs : List Loc) (ls : Array Slot), Rel σ τ → va_P D vwCl (wA cI cZ cJ Z σ τ o) H → va_S (fun a : Nat => s.heap.size ≤ a) s.heap H locs → lv_has ls 7 [(0, .ref b), (1, .ref (Z 0)), (2, .ref (Z 13)), (3, .ref (Z 12)), (4, .int (nI i))] → W p l e room_1 s m #[Value.ref b] below meth c H locs (k + 1) (n + 6) Q (F0 m 1410 ls [])) : W p l e room_1 s m #[Value.ref b] below meth c H locs k n Q (F0 m 1230 ls []) := by
  obtain ⟨hx, hb, hml, hown, hts, hXs, hbl, hZ, hZs, hK, hE, hN, hX0⟩ := C0
  have hbA : ¬ (fun a : Nat => s.heap.size ≤ a) b := Nat.not_le.mpr hbl
  have hA13 : ∀ a, adQ 13 Z a → (fun a : Nat => s.heap.size ≤ a) a := fun a ⟨k, h1, h2⟩ => by rw [h2]; exact hZs k (by omega)
  have hA20 : ∀ a, adQ 20 (fun k => Z (13 + k)) a → (fun a : Nat => s.heap.size ≤ a) a := fun a ⟨k, h1, h2⟩ => by rw [h2]; exact hZs (13 + k) (by omega)
  obtain ⟨hG, hM⟩ := hFx σ τ hR
  have hs := hst σ τ hR
  have hs1 : nI ((cMismatch σ (xs (i + 1))).1) = mThr (mMismatch τ (xs (i + 1))).2 := hs.1
  have hs2 : ((cMismatch σ (xs (i + 1))).1) < 4 := hs.2.1
  have hs3 : ((cMismatch σ (xs (i + 1))).1) = 0 → (cMismatch σ (xs (i + 1))).1 = 0 := hs.2.2.1
  have hs4 : (cMismatch σ (xs (i + 1))).1 = 0 → (cMismatch σ (xs (i + 1))).2.1 = (mMismatch τ (xs (i + 1))).1 := hs.2.2.2.1
  have hs5 : Rel (cMismatch σ (xs (i + 1))).2.2 (mMismatch τ (xs (i + 1))).2 := hs.2.2.2.2
  have hX : EX (adQ 13 Z) s H := EX_narrow (EX_kept hX0 hS.2.1) hA13
  refine lv_aload_n hx hb dL_law_1230 rfl (lv_at hl 1 rfl) ?_
  refine lv_aload_n hx hb dL_law_1231 rfl (lv_at hl 0 rfl) ?_
  refine lv_iload hx hb dL_law_1232 (lv_at hl 4 rfl) ?_
  refine lv_iconst (v := 1) hx hb dL_law_1234 (by decide) ?_
  refine addN i 1 hx hb rfl rfl dL_law_1235 ?_
  refine lrd (i := i + 1) hx hb hXs hbl hbA hS rfl (by omega) hL dL_law_1236 ?_
  refine lv_aload_n hx hb dL_law_1237 rfl (lv_at hl 3 rfl) ?_
  refine w_call (vx_runSW (As := [.ref (Z 0), .int (xs (i + 1)), .ref (Z 12)]) (rest := []) ⟨hx, hb, hml, hown, hts⟩ (c_L_mismatch l hf D cI cJ Z (ijL hZ) σ hG.1 hG.2 (xs (i + 1)) o) (vx_cwSW 3 hts gL_law_L_mismatch rfl rfl rfl kn_L_mismatch ⟨Nat.le_of_ble_eq_true rfl, Nat.le_of_ble_eq_true rfl⟩) (pS_L hP hK hE hN hX) rfl rfl hl.1 rfl (lv_room (Nat.le_of_ble_eq_true rfl)) dL_law_1238 ⟨hkc, hkn⟩) hS hA13 (fun v H1 l1 hv hz9 hk9 hS => ?_)
  obtain ⟨rfl, hP1⟩ := hv
  have hP := wA_callL hZ hP hP1 hk9
  refine lv_istore (lv' := [(5, .int (nI ((cMismatch σ (xs (i + 1))).1))), (0, .ref b), (1, .ref (Z 0)), (2, .ref (Z 13)), (3, .ref (Z 12)), (4, .int (nI i))]) hx hb dL_law_1241 hl (by decide) rfl (fun ls hl => ?_)
  refine lv_aload_n hx hb dL_law_1243 rfl (lv_at hl 3 rfl) ?_
  refine lv_aload_n hx hb dL_law_1244 rfl (lv_at hl 1 rfl) ?_
  refine lv_iload hx hb dL_law_1245 (lv_at hl 5 rfl) ?_
  refine lv_iconst (v := 1) hx hb dL_law_1247 (by decide) ?_
  refine addN i 1 hx hb rfl rfl dL_law_1248 ?_
  refine lrd (i := i + 1) hx hb hXs hbl hbA hS rfl (by omega) hL dL_law_1249 ?_
  refine w_call (va_runV (As := [.int (xs (i + 1))]) (rest := []) ⟨hx, hb, hml, hown, hts⟩ (c_X2_mismatch l D cI cZ (fun k => Z (13 + k)) τ (ijM hZ) (xs (i + 1)) hM.1 hM.2.1 hM.2.2.1 hM.2.2.2.1 hM.2.2.2.2) (cwV 1 hts gL_law_X2_mismatch rfl rfl rfl kd_X2_mismatch ⟨Nat.le_of_ble_eq_true rfl, Nat.le_of_ble_eq_true rfl⟩) (pV_A hP hK) rfl rfl hl.1 rfl (lv_room (Nat.le_of_ble_eq_true rfl)) dL_law_1250 ⟨hkc, hkn⟩) hS hA20 (fun v H2 l2 hv hz9 hk9 hS => ?_)
  obtain ⟨rfl, hP2⟩ := hv
  have hP := wA_callM hZ hP hP2 hk9
  refine lv_istore (lv' := [(6, .int (mMismatch τ (xs (i + 1))).1), (5, .int (nI ((cMismatch σ (xs (i + 1))).1))), (0, .ref b), (1, .ref (Z 0)), (2, .ref (Z 13)), (3, .ref (Z 12)), (4, .int (nI i))]) hx hb dL_law_1253 hl (by decide) rfl (fun ls hl => ?_)
  refine lv_aload_n hx hb dL_law_1255 rfl (lv_at hl 4 rfl) ?_
  refine r_callE (x := mThr (mMismatch τ (xs (i + 1))).2) (va_runV (As := []) (rest := []) ⟨hx, hb, hml, hown, hts⟩ (c_X2_thrown l D cI cZ (fun k => Z (13 + k)) (mMismatch τ (xs (i + 1))).2) (cwV 0 hts gL_law_X2_thrown rfl rfl rfl kd_X2_thrown ⟨Nat.le_of_ble_eq_true rfl, Nat.le_of_ble_eq_true rfl⟩) (pV_A hP hK) rfl rfl hl.1 rfl (lv_room (Nat.le_of_ble_eq_true rfl)) dL_law_1256 ⟨hkc, hkn⟩) ?_
  refine lv_iload hx hb dL_law_1259 (lv_at hl 1 rfl) ?_
  refine lv_icmp_eq (tgt := 1266) hx hb dL_law_1261 (by decide) (fun c_1 => ?_) (fun c_1 => ?_)
  rotate_left
  · exact absurd hs1.symm c_1
  refine lv_iload hx hb dL_law_1266 (lv_at hl 1 rfl) ?_
  refine neZN ((cMismatch σ (xs (i + 1))).1) (tgt := 1283) hx hb rfl (by omega) dL_law_1268 (by decide) (fun c_2 => ?_) (fun c_2 => ?_)
  · skip
    refine lv_goto (tgt := 1410) hx hb dL_law_1283 (by decide) ?_
    exact kk _ _ _ _ _ _ hs5 hP hS (lv_sub hl [2, 3, 4, 5, 6] rfl)
  · have hc0 := hs3 c_2
    refine lv_aload_n hx hb dL_law_1271 rfl (lv_at hl 5 rfl) ?_
    refine lv_iconst (v := 0) hx hb dL_law_1272 (by decide) ?_
    refine lld_12 hx hb hK hP dL_law_1273 ?_
    refine lv_iload hx hb dL_law_1274 (lv_at hl 0 rfl) ?_
    refine lv_i2l (v := (mMismatch τ (xs (i + 1))).1.toInt64) hx hb dL_law_1276 rfl ?_
    have he : (oF o (cMismatch σ (xs (i + 1))).1 (cMismatch σ (xs (i + 1))).2.1) 0 = (mMismatch τ (xs (i + 1))).1.toInt64 := by rw [hc0, oF0, hs4 hc0]; exact pk_uLs
    refine W.lcmp hx hb dL_law_1277 ?_
    refine lv_if_eq (tgt := 1283) hx hb dL_law_1278 (by decide) (fun c_3 => ?_) (fun c_3 => ?_)
    · skip
      refine lv_goto (tgt := 1410) hx hb dL_law_1283 (by decide) ?_
      exact kk _ _ _ _ _ _ hs5 hP hS (lv_sub hl [2, 3, 4, 5, 6] rfl)
    · exact absurd (cmp_eq he) c_3
set_option maxHeartbeats 4000000 in
set_option maxRecDepth 100000 in
theorem lc_fee {p : Program} {l : Launch} {e : Env} {s : State} {m : MethodId} {below : List Frame} {meth : Method} {c : Code} {b L : Nat} {xs : Nat → Int32} {D : va_G} {cI cZ cJ : ClassId} {Z : Nat → Nat} (hf : l.stackTraces = false) (C0 : LC p s m c b L xs D cI cZ cJ Z) (hL : L ≤ 2048) {Rel : SG → SM → Prop} (hFx : ∀ σ τ, Rel σ τ → fxG σ ∧ fxM τ) {i : Nat} (hst : stepI Rel (fun σ => cFeeF σ (xs (i + 1)) (xs (i + 2))) (fun τ => mFeeF τ (xs (i + 1)) (xs (i + 2))) kE) (hi : i + 4 ≤ L) {k n : Nat} (hkc : k + 1 ≤ 1060) (hkn : n + 6 ≤ 16143) {σ : SG} {τ : SM} {o : Nat → Int64} (hR : Rel σ τ) {H : Heap} {locs : List Loc} (hP : va_P D vwCl (wA cI cZ cJ Z σ τ o) H) (hS : va_S (fun a : Nat => s.heap.size ≤ a) s.heap H locs) {ls : Array Slot} (hl : lv_has ls 7 [(0, .ref b), (1, .ref (Z 0)), (2, .ref (Z 13)), (3, .ref (Z 12)), (4, .int (nI i))]) {Q : State → Prop}
  (kk : ∀ (σ : SG) (τ : SM) (o : Nat → Int64) (H : Heap) (locs : List Loc) (ls : Array Slot), Rel σ τ → va_P D vwCl (wA cI cZ cJ Z σ τ o) H → va_S (fun a : Nat => s.heap.size ≤ a) s.heap H locs → lv_has ls 7 [(0, .ref b), (1, .ref (Z 0)), (2, .ref (Z 13)), (3, .ref (Z 12)), (4, .int (nI i))] → W p l e room_1 s m #[Value.ref b] below meth c H locs (k + 1) (n + 6) Q (F0 m 1410 ls [])) : W p l e room_1 s m #[Value.ref b] below meth c H locs k n Q (F0 m 1286 ls []) := by
  obtain ⟨hx, hb, hml, hown, hts, hXs, hbl, hZ, hZs, hK, hE, hN, hX0⟩ := C0
  have hbA : ¬ (fun a : Nat => s.heap.size ≤ a) b := Nat.not_le.mpr hbl
  have hA13 : ∀ a, adQ 13 Z a → (fun a : Nat => s.heap.size ≤ a) a := fun a ⟨k, h1, h2⟩ => by rw [h2]; exact hZs k (by omega)
  have hA20 : ∀ a, adQ 20 (fun k => Z (13 + k)) a → (fun a : Nat => s.heap.size ≤ a) a := fun a ⟨k, h1, h2⟩ => by rw [h2]; exact hZs (13 + k) (by omega)
  obtain ⟨hG, hM⟩ := hFx σ τ hR
  have hs := hst σ τ hR
  have hs1 : nI (kE (cFeeF σ (xs (i + 1)) (xs (i + 2))).1) = mThr (mFeeF τ (xs (i + 1)) (xs (i + 2))).2 := hs.1
  have hs2 : (kE (cFeeF σ (xs (i + 1)) (xs (i + 2))).1) < 4 := hs.2.1
  have hs3 : (kE (cFeeF σ (xs (i + 1)) (xs (i + 2))).1) = 0 → (cFeeF σ (xs (i + 1)) (xs (i + 2))).1 = 0 := hs.2.2.1
  have hs4 : (cFeeF σ (xs (i + 1)) (xs (i + 2))).1 = 0 → (cFeeF σ (xs (i + 1)) (xs (i + 2))).2.1 = (mFeeF τ (xs (i + 1)) (xs (i + 2))).1 := hs.2.2.2.1
  have hs5 : Rel (cFeeF σ (xs (i + 1)) (xs (i + 2))).2.2 (mFeeF τ (xs (i + 1)) (xs (i + 2))).2 := hs.2.2.2.2
  have hX : EX (adQ 13 Z) s H := EX_narrow (EX_kept hX0 hS.2.1) hA13
  refine lv_aload_n hx hb dL_law_1286 rfl (lv_at hl 1 rfl) ?_
  refine lv_aload_n hx hb dL_law_1287 rfl (lv_at hl 0 rfl) ?_
  refine lv_iload hx hb dL_law_1288 (lv_at hl 4 rfl) ?_
  refine lv_iconst (v := 1) hx hb dL_law_1290 (by decide) ?_
  refine addN i 1 hx hb rfl rfl dL_law_1291 ?_
  refine lrd (i := i + 1) hx hb hXs hbl hbA hS rfl (by omega) hL dL_law_1292 ?_
  refine lv_aload_n hx hb dL_law_1293 rfl (lv_at hl 0 rfl) ?_
  refine lv_iload hx hb dL_law_1294 (lv_at hl 4 rfl) ?_
  refine lv_iconst (v := 2) hx hb dL_law_1296 (by decide) ?_
  refine addN i 2 hx hb rfl rfl dL_law_1297 ?_
  refine lrd (i := i + 2) hx hb hXs hbl hbA hS rfl (by omega) hL dL_law_1298 ?_
  refine lv_aload_n hx hb dL_law_1299 rfl (lv_at hl 3 rfl) ?_
  refine w_call (vx_runSW (As := [.ref (Z 0), .int (xs (i + 1)), .int (xs (i + 2)), .ref (Z 12)]) (rest := []) ⟨hx, hb, hml, hown, hts⟩ (c_L_fee l hf D cI cJ Z (ijL hZ) σ hG.1 hG.2 (xs (i + 1)) (xs (i + 2)) o) (vx_cwSW 4 hts gL_law_L_fee rfl rfl rfl kn_L_fee ⟨Nat.le_of_ble_eq_true rfl, Nat.le_of_ble_eq_true rfl⟩) (pS_L hP hK hE hN hX) rfl rfl hl.1 rfl (lv_room (Nat.le_of_ble_eq_true rfl)) dL_law_1300 ⟨hkc, hkn⟩) hS hA13 (fun v H1 l1 hv hz9 hk9 hS => ?_)
  obtain ⟨rfl, hP1⟩ := hv
  have hP := wA_callL hZ hP hP1 hk9
  refine lv_istore (lv' := [(5, .int (nI (kE (cFeeF σ (xs (i + 1)) (xs (i + 2))).1))), (0, .ref b), (1, .ref (Z 0)), (2, .ref (Z 13)), (3, .ref (Z 12)), (4, .int (nI i))]) hx hb dL_law_1303 hl (by decide) rfl (fun ls hl => ?_)
  refine lv_aload_n hx hb dL_law_1305 rfl (lv_at hl 3 rfl) ?_
  refine lv_aload_n hx hb dL_law_1306 rfl (lv_at hl 1 rfl) ?_
  refine lv_iload hx hb dL_law_1307 (lv_at hl 5 rfl) ?_
  refine lv_iconst (v := 1) hx hb dL_law_1309 (by decide) ?_
  refine addN i 1 hx hb rfl rfl dL_law_1310 ?_
  refine lrd (i := i + 1) hx hb hXs hbl hbA hS rfl (by omega) hL dL_law_1311 ?_
  refine lv_aload_n hx hb dL_law_1312 rfl (lv_at hl 1 rfl) ?_
  refine lv_iload hx hb dL_law_1313 (lv_at hl 5 rfl) ?_
  refine lv_iconst (v := 2) hx hb dL_law_1315 (by decide) ?_
  refine addN i 2 hx hb rfl rfl dL_law_1316 ?_
  refine lrd (i := i + 2) hx hb hXs hbl hbA hS rfl (by omega) hL dL_law_1317 ?_
  refine w_call (va_runV (As := [.int (xs (i + 1)), .int (xs (i + 2))]) (rest := []) ⟨hx, hb, hml, hown, hts⟩ (c_X2_fee l D cI cZ (fun k => Z (13 + k)) τ (ijM hZ) (xs (i + 1)) (xs (i + 2)) hM.1 hM.2.1 hM.2.2.1 hM.2.2.2.1 hM.2.2.2.2) (cwV 2 hts gL_law_X2_fee rfl rfl rfl kd_X2_fee ⟨Nat.le_of_ble_eq_true rfl, Nat.le_of_ble_eq_true rfl⟩) (pV_A hP hK) rfl rfl hl.1 rfl (lv_room (Nat.le_of_ble_eq_true rfl)) dL_law_1318 ⟨hkc, hkn⟩) hS hA20 (fun v H2 l2 hv hz9 hk9 hS => ?_)
  obtain ⟨rfl, hP2⟩ := hv
  have hP := wA_callM hZ hP hP2 hk9
  refine lv_istore (lv' := [(6, .int (mFeeF τ (xs (i + 1)) (xs (i + 2))).1), (5, .int (nI (kE (cFeeF σ (xs (i + 1)) (xs (i + 2))).1))), (0, .ref b), (1, .ref (Z 0)), (2, .ref (Z 13)), (3, .ref (Z 12)), (4, .int (nI i))]) hx hb dL_law_1321 hl (by decide) rfl (fun ls hl => ?_)
  refine lv_aload_n hx hb dL_law_1323 rfl (lv_at hl 4 rfl) ?_
  refine r_callE (x := mThr (mFeeF τ (xs (i + 1)) (xs (i + 2))).2) (va_runV (As := []) (rest := []) ⟨hx, hb, hml, hown, hts⟩ (c_X2_thrown l D cI cZ (fun k => Z (13 + k)) (mFeeF τ (xs (i + 1)) (xs (i + 2))).2) (cwV 0 hts gL_law_X2_thrown rfl rfl rfl kd_X2_thrown ⟨Nat.le_of_ble_eq_true rfl, Nat.le_of_ble_eq_true rfl⟩) (pV_A hP hK) rfl rfl hl.1 rfl (lv_room (Nat.le_of_ble_eq_true rfl)) dL_law_1324 ⟨hkc, hkn⟩) ?_
  refine lv_iload hx hb dL_law_1327 (lv_at hl 1 rfl) ?_
  refine lv_icmp_eq (tgt := 1334) hx hb dL_law_1329 (by decide) (fun c_1 => ?_) (fun c_1 => ?_)
  rotate_left
  · exact absurd hs1.symm c_1
  refine lv_iload hx hb dL_law_1334 (lv_at hl 1 rfl) ?_
  refine neZN (kE (cFeeF σ (xs (i + 1)) (xs (i + 2))).1) (tgt := 1351) hx hb rfl (by omega) dL_law_1336 (by decide) (fun c_2 => ?_) (fun c_2 => ?_)
  · skip
    refine lv_goto (tgt := 1410) hx hb dL_law_1351 (by decide) ?_
    exact kk _ _ _ _ _ _ hs5 hP hS (lv_sub hl [2, 3, 4, 5, 6] rfl)
  · have hc0 := hs3 c_2
    refine lv_aload_n hx hb dL_law_1339 rfl (lv_at hl 5 rfl) ?_
    refine lv_iconst (v := 0) hx hb dL_law_1340 (by decide) ?_
    refine lld_12 hx hb hK hP dL_law_1341 ?_
    refine lv_iload hx hb dL_law_1342 (lv_at hl 0 rfl) ?_
    refine lv_i2l (v := (mFeeF τ (xs (i + 1)) (xs (i + 2))).1.toInt64) hx hb dL_law_1344 rfl ?_
    have he : (oF o (cFeeF σ (xs (i + 1)) (xs (i + 2))).1 (cFeeF σ (xs (i + 1)) (xs (i + 2))).2.1) 0 = (mFeeF τ (xs (i + 1)) (xs (i + 2))).1.toInt64 := by rw [hc0, oF0, hs4 hc0]; exact pk_uLs
    refine W.lcmp hx hb dL_law_1345 ?_
    refine lv_if_eq (tgt := 1351) hx hb dL_law_1346 (by decide) (fun c_3 => ?_) (fun c_3 => ?_)
    · skip
      refine lv_goto (tgt := 1410) hx hb dL_law_1351 (by decide) ?_
      exact kk _ _ _ _ _ _ hs5 hP hS (lv_sub hl [2, 3, 4, 5, 6] rfl)
    · exact absurd (cmp_eq he) c_3
set_option maxHeartbeats 4000000 in
set_option maxRecDepth 100000 in
theorem lc_owed {p : Program} {l : Launch} {e : Env} {s : State} {m : MethodId} {below : List Frame} {meth : Method} {c : Code} {b L : Nat} {xs : Nat → Int32} {D : va_G} {cI cZ cJ : ClassId} {Z : Nat → Nat} (hf : l.stackTraces = false) (C0 : LC p s m c b L xs D cI cZ cJ Z) (hL : L ≤ 2048) {Rel : SG → SM → Prop} (hFx : ∀ σ τ, Rel σ τ → fxG σ ∧ fxM τ) {i : Nat} (hst : stepI Rel (fun σ => cOwed σ (xs (i + 1))) (fun τ => mOwed τ (xs (i + 1))) (fun z => z)) (hi : i + 4 ≤ L) {k n : Nat} (hkc : k + 1 ≤ 1060) (hkn : n + 6 ≤ 16143) {σ : SG} {τ : SM} {o : Nat → Int64} (hR : Rel σ τ) {H : Heap} {locs : List Loc} (hP : va_P D vwCl (wA cI cZ cJ Z σ τ o) H) (hS : va_S (fun a : Nat => s.heap.size ≤ a) s.heap H locs) {ls : Array Slot} (hl : lv_has ls 7 [(0, .ref b), (1, .ref (Z 0)), (2, .ref (Z 13)), (3, .ref (Z 12)), (4, .int (nI i))]) {Q : State → Prop}
  (kk : ∀ (σ : SG) (τ : SM) (o : Nat → Int64) (H : Heap) (locs : List Loc) (ls : Array Slot), Rel σ τ → va_P D vwCl (wA cI cZ cJ Z σ τ o) H → va_S (fun a : Nat => s.heap.size ≤ a) s.heap H locs → lv_has ls 7 [(0, .ref b), (1, .ref (Z 0)), (2, .ref (Z 13)), (3, .ref (Z 12)), (4, .int (nI i))] → W p l e room_1 s m #[Value.ref b] below meth c H locs (k + 1) (n + 6) Q (F0 m 1410 ls [])) : W p l e room_1 s m #[Value.ref b] below meth c H locs k n Q (F0 m 1354 ls []) := by
  obtain ⟨hx, hb, hml, hown, hts, hXs, hbl, hZ, hZs, hK, hE, hN, hX0⟩ := C0
  have hbA : ¬ (fun a : Nat => s.heap.size ≤ a) b := Nat.not_le.mpr hbl
  have hA13 : ∀ a, adQ 13 Z a → (fun a : Nat => s.heap.size ≤ a) a := fun a ⟨k, h1, h2⟩ => by rw [h2]; exact hZs k (by omega)
  have hA20 : ∀ a, adQ 20 (fun k => Z (13 + k)) a → (fun a : Nat => s.heap.size ≤ a) a := fun a ⟨k, h1, h2⟩ => by rw [h2]; exact hZs (13 + k) (by omega)
  obtain ⟨hG, hM⟩ := hFx σ τ hR
  have hs := hst σ τ hR
  have hs1 : nI ((cOwed σ (xs (i + 1))).1) = mThr (mOwed τ (xs (i + 1))).2 := hs.1
  have hs2 : ((cOwed σ (xs (i + 1))).1) < 4 := hs.2.1
  have hs3 : ((cOwed σ (xs (i + 1))).1) = 0 → (cOwed σ (xs (i + 1))).1 = 0 := hs.2.2.1
  have hs4 : (cOwed σ (xs (i + 1))).1 = 0 → (cOwed σ (xs (i + 1))).2.1 = (mOwed τ (xs (i + 1))).1 := hs.2.2.2.1
  have hs5 : Rel (cOwed σ (xs (i + 1))).2.2 (mOwed τ (xs (i + 1))).2 := hs.2.2.2.2
  have hX : EX (adQ 13 Z) s H := EX_narrow (EX_kept hX0 hS.2.1) hA13
  refine lv_aload_n hx hb dL_law_1354 rfl (lv_at hl 1 rfl) ?_
  refine lv_aload_n hx hb dL_law_1355 rfl (lv_at hl 0 rfl) ?_
  refine lv_iload hx hb dL_law_1356 (lv_at hl 4 rfl) ?_
  refine lv_iconst (v := 1) hx hb dL_law_1358 (by decide) ?_
  refine addN i 1 hx hb rfl rfl dL_law_1359 ?_
  refine lrd (i := i + 1) hx hb hXs hbl hbA hS rfl (by omega) hL dL_law_1360 ?_
  refine lv_aload_n hx hb dL_law_1361 rfl (lv_at hl 3 rfl) ?_
  refine w_call (vx_runSW (As := [.ref (Z 0), .int (xs (i + 1)), .ref (Z 12)]) (rest := []) ⟨hx, hb, hml, hown, hts⟩ (c_L_owed l hf D cI cJ Z (ijL hZ) σ hG.1 hG.2 (xs (i + 1)) o) (vx_cwSW 3 hts gL_law_L_owed rfl rfl rfl kn_L_owed ⟨Nat.le_of_ble_eq_true rfl, Nat.le_of_ble_eq_true rfl⟩) (pS_L hP hK hE hN hX) rfl rfl hl.1 rfl (lv_room (Nat.le_of_ble_eq_true rfl)) dL_law_1362 ⟨hkc, hkn⟩) hS hA13 (fun v H1 l1 hv hz9 hk9 hS => ?_)
  obtain ⟨rfl, hP1⟩ := hv
  have hP := wA_callL hZ hP hP1 hk9
  refine lv_istore (lv' := [(5, .int (nI ((cOwed σ (xs (i + 1))).1))), (0, .ref b), (1, .ref (Z 0)), (2, .ref (Z 13)), (3, .ref (Z 12)), (4, .int (nI i))]) hx hb dL_law_1365 hl (by decide) rfl (fun ls hl => ?_)
  refine lv_aload_n hx hb dL_law_1367 rfl (lv_at hl 3 rfl) ?_
  refine lv_aload_n hx hb dL_law_1368 rfl (lv_at hl 1 rfl) ?_
  refine lv_iload hx hb dL_law_1369 (lv_at hl 5 rfl) ?_
  refine lv_iconst (v := 1) hx hb dL_law_1371 (by decide) ?_
  refine addN i 1 hx hb rfl rfl dL_law_1372 ?_
  refine lrd (i := i + 1) hx hb hXs hbl hbA hS rfl (by omega) hL dL_law_1373 ?_
  refine w_call (va_runV (As := [.int (xs (i + 1))]) (rest := []) ⟨hx, hb, hml, hown, hts⟩ (c_X2_owed l D cI cZ (fun k => Z (13 + k)) τ (ijM hZ) (xs (i + 1)) hM.1 hM.2.1 hM.2.2.1 hM.2.2.2.1 hM.2.2.2.2) (cwV 1 hts gL_law_X2_owed rfl rfl rfl kd_X2_owed ⟨Nat.le_of_ble_eq_true rfl, Nat.le_of_ble_eq_true rfl⟩) (pV_A hP hK) rfl rfl hl.1 rfl (lv_room (Nat.le_of_ble_eq_true rfl)) dL_law_1374 ⟨hkc, hkn⟩) hS hA20 (fun v H2 l2 hv hz9 hk9 hS => ?_)
  obtain ⟨rfl, hP2⟩ := hv
  have hP := wA_callM hZ hP hP2 hk9
  refine lv_istore (lv' := [(6, .int (mOwed τ (xs (i + 1))).1), (5, .int (nI ((cOwed σ (xs (i + 1))).1))), (0, .ref b), (1, .ref (Z 0)), (2, .ref (Z 13)), (3, .ref (Z 12)), (4, .int (nI i))]) hx hb dL_law_1377 hl (by decide) rfl (fun ls hl => ?_)
  refine lv_aload_n hx hb dL_law_1379 rfl (lv_at hl 4 rfl) ?_
  refine r_callE (x := mThr (mOwed τ (xs (i + 1))).2) (va_runV (As := []) (rest := []) ⟨hx, hb, hml, hown, hts⟩ (c_X2_thrown l D cI cZ (fun k => Z (13 + k)) (mOwed τ (xs (i + 1))).2) (cwV 0 hts gL_law_X2_thrown rfl rfl rfl kd_X2_thrown ⟨Nat.le_of_ble_eq_true rfl, Nat.le_of_ble_eq_true rfl⟩) (pV_A hP hK) rfl rfl hl.1 rfl (lv_room (Nat.le_of_ble_eq_true rfl)) dL_law_1380 ⟨hkc, hkn⟩) ?_
  refine lv_iload hx hb dL_law_1383 (lv_at hl 1 rfl) ?_
  refine lv_icmp_eq (tgt := 1390) hx hb dL_law_1385 (by decide) (fun c_1 => ?_) (fun c_1 => ?_)
  rotate_left
  · exact absurd hs1.symm c_1
  refine lv_iload hx hb dL_law_1390 (lv_at hl 1 rfl) ?_
  refine neZN ((cOwed σ (xs (i + 1))).1) (tgt := 1407) hx hb rfl (by omega) dL_law_1392 (by decide) (fun c_2 => ?_) (fun c_2 => ?_)
  · skip
    refine lv_goto (tgt := 1410) hx hb dL_law_1407 (by decide) ?_
    exact kk _ _ _ _ _ _ hs5 hP hS (lv_sub hl [2, 3, 4, 5, 6] rfl)
  · have hc0 := hs3 c_2
    refine lv_aload_n hx hb dL_law_1395 rfl (lv_at hl 5 rfl) ?_
    refine lv_iconst (v := 0) hx hb dL_law_1396 (by decide) ?_
    refine lld_12 hx hb hK hP dL_law_1397 ?_
    refine lv_iload hx hb dL_law_1398 (lv_at hl 0 rfl) ?_
    refine lv_i2l (v := (mOwed τ (xs (i + 1))).1.toInt64) hx hb dL_law_1400 rfl ?_
    have he : (oF o (cOwed σ (xs (i + 1))).1 (cOwed σ (xs (i + 1))).2.1) 0 = (mOwed τ (xs (i + 1))).1.toInt64 := by rw [hc0, oF0, hs4 hc0]; exact pk_uLs
    refine W.lcmp hx hb dL_law_1401 ?_
    refine lv_if_eq (tgt := 1407) hx hb dL_law_1402 (by decide) (fun c_3 => ?_) (fun c_3 => ?_)
    · skip
      refine lv_goto (tgt := 1410) hx hb dL_law_1407 (by decide) ?_
      exact kk _ _ _ _ _ _ hs5 hP hS (lv_sub hl [2, 3, 4, 5, 6] rfl)
    · exact absurd (cmp_eq he) c_3
