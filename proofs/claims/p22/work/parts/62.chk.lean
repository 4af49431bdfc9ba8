/-! the checks of the law on the state behind k makes -/
def hS : Nat → Int32
  | 0 => 17
  | n + 1 => 31 * hS n + 0
theorem z_kn_L_isChain : yL_isChain.cls ≠ "java/lang/invoke/MethodHandle" ∧ yL_isChain.cls ≠ "java/lang/invoke/VarHandle" ∧ (parseMethodDescriptor yL_isChain.desc).map (fun d => d.parameters.length) = some 2 := by decide +kernel
set_option maxHeartbeats 4000000 in
set_option maxRecDepth 100000 in
theorem c_L_isChain0 (l : Launch) (hf : l.stackTraces = false) (D : va_G) (cI : ClassId) (q : Nat → Nat) (hq : ijQ 12 q) (k : Nat) (hk : k ≤ 14) (h0 : 0 < k) : vx_Met l yL_isChain wsL_isChain ({ frames := 8, cells := 1, slots := 6, locals := 125 }) (va_Pc [.ref (q 0), .int (nI 0)] (PX D cI q (kS k))) (rX (fun r => r = 1)) (xQ (fun _ => False)) 1 6 noF := by
  refine openXRZ (cc := cL_isChain) (maxL := 12) (by decide) rfl (Nat.le_of_ble_eq_true rfl) ?_
  intro p e s m args below meth c hx hb hml hts hown hpre Q RET OUT ls hl
  have hown : s.vm.findClass RL = some m.cls := hown
  have hl : lv_has ls 12 [(0, .ref (q 0)), (1, .int (nI 0))] := hl
  obtain ⟨⟨hP, hK, hE⟩, hX⟩ := hpre
  refine lv_aload_n hx hb dL_isChain_0 rfl (lv_at hl 0 rfl) ?_
  refine lv_iload_n hx hb dL_isChain_1 rfl (lv_at hl 1 rfl) ?_
  refine lv_iconst (v := 1) hx hb dL_isChain_2 (by decide) ?_
  refine z_callE (x := 1) (vx_runV (As := [.int (nI 0), .int 1]) (rest := []) ⟨hx, hb, hml, hown, hts⟩ (c_X1_pallet l hf D cI q (kS k) hq (nI 0) 1 (ok_kS hk) hz_kS) (cwV 2 hts gL_isChain_X1_pallet rfl rfl rfl kd_X1_pallet ⟨Nat.le_of_ble_eq_true rfl, Nat.le_of_ble_eq_true rfl⟩) (z_pV_P hP hK hE hX) rfl rfl hl.1 rfl (lv_room (Nat.le_of_ble_eq_true rfl)) dL_isChain_3 ⟨Nat.le_of_ble_eq_true rfl, Nat.le_of_ble_eq_true rfl⟩) (fun E9 h9 => h9.1 (congrArg Prod.fst (evP1 hk h0))) (fun r9 h9 => h9.2.trans (congrArg (fun z => z.2.1) (evP1 hk h0))) ?_
  refine lv_istore_n (lv' := [(2, .int 1), (0, .ref (q 0)), (1, .int (nI 0))]) hx hb dL_isChain_6 rfl hl (by decide) rfl (fun ls hl => ?_)
  refine lv_aload_n hx hb dL_isChain_7 rfl (lv_at hl 1 rfl) ?_
  refine lv_iload_n hx hb dL_isChain_8 rfl (lv_at hl 2 rfl) ?_
  refine z_callE (x := (-1)) (vx_runV (As := [.int (nI 0)]) (rest := []) ⟨hx, hb, hml, hown, hts⟩ (c_X1_broken l hf D cI q (kS k) hq (nI 0) (ok_kS hk) hz_kS) (cwV 1 hts gL_isChain_X1_broken rfl rfl rfl kd_X1_broken ⟨Nat.le_of_ble_eq_true rfl, Nat.le_of_ble_eq_true rfl⟩) (z_pV_P hP hK hE hX) rfl rfl hl.1 rfl (lv_room (Nat.le_of_ble_eq_true rfl)) dL_isChain_9 ⟨Nat.le_of_ble_eq_true rfl, Nat.le_of_ble_eq_true rfl⟩) (fun E9 h9 => h9.1 (congrArg Prod.fst (evB hk h0))) (fun r9 h9 => h9.2.trans (congrArg (fun z => z.2.1) (evB hk h0))) ?_
  refine lv_istore_n (lv' := [(3, .int ((-1))), (2, .int 1), (0, .ref (q 0)), (1, .int (nI 0))]) hx hb dL_isChain_12 rfl hl (by decide) rfl (fun ls hl => ?_)
  refine lv_iload_n hx hb dL_isChain_13 rfl (lv_at hl 1 rfl) ?_
  refine lv_if_le (tgt := 37) hx hb dL_isChain_14 (by decide) (fun c_1 => absurd c_1 (by decide)) (fun c_1 => ?_)
  refine lv_iload_n hx hb dL_isChain_17 rfl (lv_at hl 1 rfl) ?_
  refine lv_bipush (v := 31) hx hb dL_isChain_18 (by decide) ?_
  refine lv_icmp_ge (tgt := 37) hx hb dL_isChain_20 (by decide) (fun c_2 => absurd c_2 (by decide)) (fun c_2 => ?_)
  refine lv_iload_n hx hb dL_isChain_23 rfl (lv_at hl 0 rfl) ?_
  refine lv_iconst (v := (-1)) hx hb dL_isChain_24 (by decide) ?_
  refine lv_icmp_lt (tgt := 37) hx hb dL_isChain_25 (by decide) (fun c_3 => absurd c_3 (by decide)) (fun c_3 => ?_)
  refine lv_iload_n hx hb dL_isChain_28 rfl (lv_at hl 0 rfl) ?_
  refine lv_iload_n hx hb dL_isChain_29 rfl (lv_at hl 1 rfl) ?_
  refine lv_icmp_ge (tgt := 37) hx hb dL_isChain_30 (by decide) (fun c_4 => absurd c_4 (by decide)) (fun c_4 => ?_)
  refine lv_iconst (v := 1) hx hb dL_isChain_33 (by decide) ?_
  refine lv_goto (tgt := 38) hx hb dL_isChain_34 (by decide) ?_
  refine lv_istore (lv' := [(4, .int 1), (3, .int ((-1))), (2, .int 1), (0, .ref (q 0)), (1, .int (nI 0))]) hx hb dL_isChain_38 hl (by decide) rfl (fun ls hl => ?_)
  refine lv_iconst (v := 0) hx hb dL_isChain_40 (by decide) ?_
  refine lv_istore (lv' := [(5, .int 0), (4, .int 1), (3, .int ((-1))), (2, .int 1), (0, .ref (q 0)), (1, .int (nI 0))]) hx hb dL_isChain_41 hl (by decide) rfl (fun ls hl => ?_)
  refine lv_iload hx hb dL_isChain_43 (lv_at hl 0 rfl) ?_
  refine lv_iload_n hx hb dL_isChain_45 rfl (lv_at hl 3 rfl) ?_
  refine lv_icmp_ge (tgt := 369) hx hb dL_isChain_46 (by decide) (fun c_5 => absurd c_5 (by decide)) (fun c_5 => ?_)
  refine lv_iload hx hb dL_isChain_49 (lv_at hl 1 rfl) ?_
  refine lv_if_eq (tgt := 369) hx hb dL_isChain_51 (by decide) (fun c_6 => absurd c_6 (by decide)) (fun c_6 => ?_)
  refine lv_iload hx hb dL_isChain_54 (lv_at hl 0 rfl) ?_
  refine lv_if_ne (tgt := 64) hx hb dL_isChain_56 (by decide) (fun c_7 => absurd (by decide) c_7) (fun c_7 => ?_)
  refine lv_bipush (v := 17) hx hb dL_isChain_59 (by decide) ?_
  refine lv_goto (tgt := 75) hx hb dL_isChain_61 (by decide) ?_
  refine lv_istore (lv' := [(6, .int 17), (5, .int 0), (4, .int 1), (3, .int ((-1))), (2, .int 1), (0, .ref (q 0)), (1, .int (nI 0))]) hx hb dL_isChain_75 hl (by decide) rfl (fun ls hl => ?_)
  refine lv_iconst (v := 0) hx hb dL_isChain_77 (by decide) ?_
  refine lv_istore (lv' := [(7, .int 0), (6, .int 17), (5, .int 0), (4, .int 1), (3, .int ((-1))), (2, .int 1), (0, .ref (q 0)), (1, .int (nI 0))]) hx hb dL_isChain_78 hl (by decide) rfl (fun ls hl => ?_)
  refine loopW (N := 6) (k0 := 0) (fun n ls => lv_has ls 12 [(0, .ref (q 0)), (1, .int (nI 0)), (2, .int 1), (3, .int ((-1))), (4, .int 1), (5, .int 0), (6, .int (hS n)), (7, .int (nI n))]) (Nat.zero_le _) (lv_sub hl [6, 7, 5, 4, 3, 2, 1, 0] rfl) (fun n ls hk_n hl ih_n => ?_)
  refine lv_iload hx hb dL_isChain_80 (lv_at hl 7 rfl) ?_
  refine lv_bipush (v := 6) hx hb dL_isChain_82 (by decide) ?_
  refine geN n 6 (tgt := 110) hx hb rfl rfl (by omega) (by omega) dL_isChain_84 (by decide) (fun c_n => ?_) (fun c_n => ?_)
  · skip
    have hn6 : n = 6 := by omega
    subst hn6
    refine lv_iload hx hb dL_isChain_110 (lv_at hl 6 rfl) ?_
    refine lv_aload_n hx hb dL_isChain_112 rfl (lv_at hl 0 rfl) ?_
    refine lv_iload_n hx hb dL_isChain_113 rfl (lv_at hl 1 rfl) ?_
    refine lv_iload hx hb dL_isChain_114 (lv_at hl 5 rfl) ?_
    refine lv_bipush (v := 6) hx hb dL_isChain_116 (by decide) ?_
    refine z_callE (x := C17) (vx_runV (As := [.int (nI 0), .int 0, .int 6]) (rest := [.int (hS 6)]) ⟨hx, hb, hml, hown, hts⟩ (c_X1_entry l hf D cI q (kS k) hq (nI 0) 0 6 (ok_kS hk) hz_kS) (cwV 3 hts gL_isChain_X1_entry rfl rfl rfl kd_X1_entry ⟨Nat.le_of_ble_eq_true rfl, Nat.le_of_ble_eq_true rfl⟩) (z_pV_P hP hK hE hX) rfl rfl hl.1 rfl (lv_room (Nat.le_of_ble_eq_true rfl)) dL_isChain_118 ⟨Nat.le_of_ble_eq_true rfl, Nat.le_of_ble_eq_true rfl⟩) (fun E9 h9 => h9.1 (congrArg Prod.fst (evE6 hk h0))) (fun r9 h9 => h9.2.trans (congrArg (fun z => z.2.1) (evE6 hk h0))) ?_
    refine lv_icmp_ne (tgt := 128) hx hb dL_isChain_121 (by decide) (fun c_8 => absurd (by decide) c_8) (fun c_8 => ?_)
    refine lv_iconst (v := 1) hx hb dL_isChain_124 (by decide) ?_
    refine lv_goto (tgt := 129) hx hb dL_isChain_125 (by decide) ?_
    refine lv_istore (lv' := [(7, .int 1), (0, .ref (q 0)), (1, .int (nI 0)), (2, .int 1), (3, .int ((-1))), (4, .int 1), (5, .int 0), (6, .int (hS 6))]) hx hb dL_isChain_129 hl (by decide) rfl (fun ls hl => ?_)
    refine lv_iload_n hx hb dL_isChain_131 rfl (lv_at hl 4 rfl) ?_
    refine lv_if_lt (tgt := 141) hx hb dL_isChain_132 (by decide) (fun c_9 => ?_) (fun c_9 => absurd (by decide) c_9)
    refine lv_iload hx hb dL_isChain_141 (lv_at hl 0 rfl) ?_
    refine lv_goto (tgt := 162) hx hb dL_isChain_143 (by decide) ?_
    refine lv_istore (lv' := [(4, .int 1), (7, .int 1), (0, .ref (q 0)), (1, .int (nI 0)), (2, .int 1), (3, .int ((-1))), (5, .int 0), (6, .int (hS 6))]) hx hb dL_isChain_162 hl (by decide) rfl (fun ls hl => ?_)
    refine lv_aload_n hx hb dL_isChain_164 rfl (lv_at hl 2 rfl) ?_
    refine lv_iload_n hx hb dL_isChain_165 rfl (lv_at hl 3 rfl) ?_
    refine lv_iload hx hb dL_isChain_166 (lv_at hl 6 rfl) ?_
    refine lv_iconst (v := 0) hx hb dL_isChain_168 (by decide) ?_
    refine z_callE (x := 0) (vx_runV (As := [.int (nI 0), .int 0, .int 0]) (rest := []) ⟨hx, hb, hml, hown, hts⟩ (c_X1_entry l hf D cI q (kS k) hq (nI 0) 0 0 (ok_kS hk) hz_kS) (cwV 3 hts gL_isChain_X1_entry rfl rfl rfl kd_X1_entry ⟨Nat.le_of_ble_eq_true rfl, Nat.le_of_ble_eq_true rfl⟩) (z_pV_P hP hK hE hX) rfl rfl hl.1 rfl (lv_room (Nat.le_of_ble_eq_true rfl)) dL_isChain_169 ⟨Nat.le_of_ble_eq_true rfl, Nat.le_of_ble_eq_true rfl⟩) (fun E9 h9 => h9.1 (congrArg Prod.fst (evE hk h0 (w := 0) (by decide)))) (fun r9 h9 => h9.2.trans (congrArg (fun z => z.2.1) (evE hk h0 (w := 0) (by decide)))) ?_
    refine lv_istore (lv' := [(8, .int 0), (4, .int 1), (7, .int 1), (0, .ref (q 0)), (1, .int (nI 0)), (2, .int 1), (3, .int ((-1))), (5, .int 0), (6, .int (hS 6))]) hx hb dL_isChain_172 hl (by decide) rfl (fun ls hl => ?_)
    refine lv_aload_n hx hb dL_isChain_174 rfl (lv_at hl 3 rfl) ?_
    refine lv_iload_n hx hb dL_isChain_175 rfl (lv_at hl 4 rfl) ?_
    refine lv_iload hx hb dL_isChain_176 (lv_at hl 7 rfl) ?_
    refine lv_iconst (v := 4) hx hb dL_isChain_178 (by decide) ?_
    refine z_callE (x := 0) (vx_runV (As := [.int (nI 0), .int 0, .int 4]) (rest := []) ⟨hx, hb, hml, hown, hts⟩ (c_X1_entry l hf D cI q (kS k) hq (nI 0) 0 4 (ok_kS hk) hz_kS) (cwV 3 hts gL_isChain_X1_entry rfl rfl rfl kd_X1_entry ⟨Nat.le_of_ble_eq_true rfl, Nat.le_of_ble_eq_true rfl⟩) (z_pV_P hP hK hE hX) rfl rfl hl.1 rfl (lv_room (Nat.le_of_ble_eq_true rfl)) dL_isChain_179 ⟨Nat.le_of_ble_eq_true rfl, Nat.le_of_ble_eq_true rfl⟩) (fun E9 h9 => h9.1 (congrArg Prod.fst (evE hk h0 (w := 4) (by decide)))) (fun r9 h9 => h9.2.trans (congrArg (fun z => z.2.1) (evE hk h0 (w := 4) (by decide)))) ?_
    refine lv_istore (lv' := [(9, .int 0), (8, .int 0), (4, .int 1), (7, .int 1), (0, .ref (q 0)), (1, .int (nI 0)), (2, .int 1), (3, .int ((-1))), (5, .int 0), (6, .int (hS 6))]) hx hb dL_isChain_182 hl (by decide) rfl (fun ls hl => ?_)
    refine lv_aload_n hx hb dL_isChain_184 rfl (lv_at hl 4 rfl) ?_
    refine lv_iload_n hx hb dL_isChain_185 rfl (lv_at hl 5 rfl) ?_
    refine lv_iload hx hb dL_isChain_186 (lv_at hl 8 rfl) ?_
    refine lv_iconst (v := 5) hx hb dL_isChain_188 (by decide) ?_
    refine z_callE (x := 0) (vx_runV (As := [.int (nI 0), .int 0, .int 5]) (rest := []) ⟨hx, hb, hml, hown, hts⟩ (c_X1_entry l hf D cI q (kS k) hq (nI 0) 0 5 (ok_kS hk) hz_kS) (cwV 3 hts gL_isChain_X1_entry rfl rfl rfl kd_X1_entry ⟨Nat.le_of_ble_eq_true rfl, Nat.le_of_ble_eq_true rfl⟩) (z_pV_P hP hK hE hX) rfl rfl hl.1 rfl (lv_room (Nat.le_of_ble_eq_true rfl)) dL_isChain_189 ⟨Nat.le_of_ble_eq_true rfl, Nat.le_of_ble_eq_true rfl⟩) (fun E9 h9 => h9.1 (congrArg Prod.fst (evE hk h0 (w := 5) (by decide)))) (fun r9 h9 => h9.2.trans (congrArg (fun z => z.2.1) (evE hk h0 (w := 5) (by decide)))) ?_
    refine lv_istore (lv' := [(10, .int 0), (9, .int 0), (8, .int 0), (4, .int 1), (7, .int 1), (0, .ref (q 0)), (1, .int (nI 0)), (2, .int 1), (3, .int ((-1))), (5, .int 0), (6, .int (hS 6))]) hx hb dL_isChain_192 hl (by decide) rfl (fun ls hl => ?_)
    refine lv_iload hx hb dL_isChain_194 (lv_at hl 2 rfl) ?_
    refine lv_iconst (v := 3) hx hb dL_isChain_196 (by decide) ?_
    refine lv_icmp_ne (tgt := 204) hx hb dL_isChain_197 (by decide) (fun c_10 => ?_) (fun c_10 => absurd c_10 (by decide))
    refine lv_iload hx hb dL_isChain_204 (lv_at hl 2 rfl) ?_
    refine lv_iconst (v := 4) hx hb dL_isChain_206 (by decide) ?_
    refine lv_icmp_ne (tgt := 214) hx hb dL_isChain_207 (by decide) (fun c_11 => ?_) (fun c_11 => absurd c_11 (by decide))
    refine lv_iload hx hb dL_isChain_214 (lv_at hl 2 rfl) ?_
    refine lv_iconst (v := 5) hx hb dL_isChain_216 (by decide) ?_
    refine lv_icmp_ne (tgt := 225) hx hb dL_isChain_217 (by decide) (fun c_12 => ?_) (fun c_12 => absurd c_12 (by decide))
    refine lv_iload hx hb dL_isChain_225 (lv_at hl 2 rfl) ?_
    refine lv_bipush (v := 6) hx hb dL_isChain_227 (by decide) ?_
    refine lv_icmp_ne (tgt := 236) hx hb dL_isChain_229 (by decide) (fun c_13 => ?_) (fun c_13 => absurd c_13 (by decide))
    refine lv_iconst (v := (-1)) hx hb dL_isChain_236 (by decide) ?_
    refine lv_istore (lv' := [(11, .int ((-1))), (10, .int 0), (9, .int 0), (8, .int 0), (4, .int 1), (7, .int 1), (0, .ref (q 0)), (1, .int (nI 0)), (2, .int 1), (3, .int ((-1))), (5, .int 0), (6, .int (hS 6))]) hx hb dL_isChain_237 hl (by decide) rfl (fun ls hl => ?_)
    refine lv_iload hx hb dL_isChain_239 (lv_at hl 4 rfl) ?_
    refine lv_if_eq (tgt := 294) hx hb dL_isChain_241 (by decide) (fun c_14 => absurd c_14 (by decide)) (fun c_14 => ?_)
    refine lv_iload hx hb dL_isChain_244 (lv_at hl 0 rfl) ?_
    refine lv_if_lt (tgt := 290) hx hb dL_isChain_246 (by decide) (fun c_15 => ?_) (fun c_15 => absurd (by decide) c_15)
    refine lv_iconst (v := 1) hx hb dL_isChain_290 (by decide) ?_
    refine lv_goto (tgt := 295) hx hb dL_isChain_291 (by decide) ?_
    refine lv_istore (lv' := [(4, .int 1), (11, .int ((-1))), (10, .int 0), (9, .int 0), (8, .int 0), (7, .int 1), (0, .ref (q 0)), (1, .int (nI 0)), (2, .int 1), (3, .int ((-1))), (5, .int 0), (6, .int (hS 6))]) hx hb dL_isChain_295 hl (by decide) rfl (fun ls hl => ?_)
    refine lv_iload hx hb dL_isChain_297 (lv_at hl 0 rfl) ?_
    refine lv_if_eq (tgt := 360) hx hb dL_isChain_299 (by decide) (fun c_16 => absurd c_16 (by decide)) (fun c_16 => ?_)
    refine lv_iload hx hb dL_isChain_302 (lv_at hl 4 rfl) ?_
    refine lv_if_eq (tgt := 313) hx hb dL_isChain_304 (by decide) (fun c_17 => ?_) (fun c_17 => absurd (by decide) c_17)
    refine lv_iconst (v := 1) hx hb dL_isChain_313 (by decide) ?_
    refine lv_goto (tgt := 318) hx hb dL_isChain_314 (by decide) ?_
    refine lv_iload hx hb dL_isChain_318 (lv_at hl 10 rfl) ?_
    refine lv_if_ne (tgt := 327) hx hb dL_isChain_320 (by decide) (fun c_18 => absurd (by decide) c_18) (fun c_18 => ?_)
    refine lv_iconst (v := 1) hx hb dL_isChain_323 (by decide) ?_
    refine lv_goto (tgt := 328) hx hb dL_isChain_324 (by decide) ?_
    refine lv_icmp_ne (tgt := 360) hx hb dL_isChain_328 (by decide) (fun c_19 => absurd (by decide) c_19) (fun c_19 => ?_)
    refine lv_iload hx hb dL_isChain_331 (lv_at hl 4 rfl) ?_
    refine lv_bipush (v := 6) hx hb dL_isChain_333 (by decide) ?_
    refine lv_icmp_ne (tgt := 356) hx hb dL_isChain_335 (by decide) (fun c_20 => ?_) (fun c_20 => absurd c_20 (by decide))
    refine lv_iconst (v := 1) hx hb dL_isChain_356 (by decide) ?_
    refine lv_goto (tgt := 361) hx hb dL_isChain_357 (by decide) ?_
    refine lv_istore (lv' := [(4, .int 1), (11, .int ((-1))), (10, .int 0), (9, .int 0), (8, .int 0), (7, .int 1), (0, .ref (q 0)), (1, .int (nI 0)), (2, .int 1), (3, .int ((-1))), (5, .int 0), (6, .int (hS 6))]) hx hb dL_isChain_361 hl (by decide) rfl (fun ls hl => ?_)
    refine lv_iinc (v := 1) (lv' := [(5, .int 1), (4, .int 1), (11, .int ((-1))), (10, .int 0), (9, .int 0), (8, .int 0), (7, .int 1), (0, .ref (q 0)), (1, .int (nI 0)), (2, .int 1), (3, .int ((-1))), (6, .int (hS 6))]) hx hb dL_isChain_363 hl (k := 10) rfl (by decide) (by decide) rfl (fun ls hl => ?_)
    refine lv_goto (tgt := 43) hx hb dL_isChain_366 (by decide) ?_
    refine lv_iload hx hb dL_isChain_43 (lv_at hl 0 rfl) ?_
    refine lv_iload_n hx hb dL_isChain_45 rfl (lv_at hl 9 rfl) ?_
    refine lv_icmp_ge (tgt := 369) hx hb dL_isChain_46 (by decide) (fun c_21 => ?_) (fun c_21 => absurd (by decide) c_21)
    refine lv_iload hx hb dL_isChain_369 (lv_at hl 1 rfl) ?_
    exact RET true _ _ rfl dL_isChain_371
  refine lv_bipush (v := 31) hx hb dL_isChain_87 (by decide) ?_
  refine lv_iload hx hb dL_isChain_89 (lv_at hl 6 rfl) ?_
  refine lv_imul hx hb dL_isChain_91 ?_
  refine lv_aload_n hx hb dL_isChain_92 rfl (lv_at hl 0 rfl) ?_
  refine lv_iload_n hx hb dL_isChain_93 rfl (lv_at hl 1 rfl) ?_
  refine lv_iload hx hb dL_isChain_94 (lv_at hl 5 rfl) ?_
  refine lv_iload hx hb dL_isChain_96 (lv_at hl 7 rfl) ?_
  refine z_callE (x := 0) (vx_runV (As := [.int (nI 0), .int 0, .int (nI n)]) (rest := [.int ((31 * hS n))]) ⟨hx, hb, hml, hown, hts⟩ (c_X1_entry l hf D cI q (kS k) hq (nI 0) 0 (nI n) (ok_kS hk) hz_kS) (cwV 3 hts gL_isChain_X1_entry rfl rfl rfl kd_X1_entry ⟨Nat.le_of_ble_eq_true rfl, Nat.le_of_ble_eq_true rfl⟩) (z_pV_P hP hK hE hX) rfl rfl hl.1 rfl (lv_room (Nat.le_of_ble_eq_true rfl)) dL_isChain_98 ⟨Nat.le_of_ble_eq_true rfl, Nat.le_of_ble_eq_true rfl⟩) (fun E9 h9 => h9.1 (congrArg Prod.fst (evE hk h0 (w := n) (by omega)))) (fun r9 h9 => h9.2.trans (congrArg (fun z => z.2.1) (evE hk h0 (w := n) (by omega)))) ?_
  refine lv_iadd hx hb dL_isChain_101 ?_
  refine lv_topE (y := hS (n + 1)) (rfl) ?_
  refine lv_istore (lv' := [(6, .int (hS (n + 1))), (0, .ref (q 0)), (1, .int (nI 0)), (2, .int 1), (3, .int ((-1))), (4, .int 1), (5, .int 0), (7, .int (nI n))]) hx hb dL_isChain_102 hl (by decide) rfl (fun ls hl => ?_)
  refine lv_iinc (v := nI (n + 1)) (lv' := [(7, .int (nI (n + 1))), (6, .int (hS (n + 1))), (0, .ref (q 0)), (1, .int (nI 0)), (2, .int 1), (3, .int ((-1))), (4, .int 1), (5, .int 0)]) hx hb dL_isChain_104 hl (k := 7) rfl (iincN n) (by decide) rfl (fun ls hl => ?_)
  refine lv_goto (tgt := 80) hx hb dL_isChain_107 (by decide) ?_
  exact ih_n (by omega) _ (lv_sub hl [2, 3, 4, 5, 6, 7, 1, 0] rfl)
theorem z_kn_L_areGoods : yL_areGoods.cls ≠ "java/lang/invoke/MethodHandle" ∧ yL_areGoods.cls ≠ "java/lang/invoke/VarHandle" ∧ (parseMethodDescriptor yL_areGoods.desc).map (fun d => d.parameters.length) = some 4 := by decide +kernel
set_option maxHeartbeats 4000000 in
set_option maxRecDepth 100000 in
theorem z_c_L_areGoods0 (l : Launch) (hf : l.stackTraces = false) (D : va_G) (cI : ClassId) (q : Nat → Nat) (hq : ijQ 12 q) (k : Nat) (hk : k ≤ 14) : vx_Met l yL_areGoods wsL_areGoods ({ frames := 8, cells := 1, slots := 6, locals := 142 }) (va_Pc [.ref (q 0), .int (nI k), .ref (q 12), .int 1] (z_PY D cI q (kS k))) (rX (fun r => r = 1)) (xQ (fun _ => False)) 1 6 noF := by
  refine openXRZ (cc := cL_areGoods) (maxL := 11) (by decide) rfl (Nat.le_of_ble_eq_true rfl) ?_
  intro p e s m args below meth c hx hb hml hts hown hpre Q RET OUT ls hl
  have hown : s.vm.findClass RL = some m.cls := hown
  have hl : lv_has ls 11 [(0, .ref (q 0)), (1, .int (nI k)), (2, .ref (q 12)), (3, .int 1)] := hl
  obtain ⟨⟨⟨hP, hK, hE⟩, hX⟩, hP2⟩ := hpre
  refine lv_iconst (v := 1) hx hb dL_areGoods_0 (by decide) ?_
  refine lv_istore (lv' := [(4, .int 1), (0, .ref (q 0)), (1, .int (nI k)), (2, .ref (q 12)), (3, .int 1)]) hx hb dL_areGoods_1 hl (by decide) rfl (fun ls hl => ?_)
  refine lv_iconst (v := 0) hx hb dL_areGoods_3 (by decide) ?_
  refine lv_istore (lv' := [(5, .int 0), (4, .int 1), (0, .ref (q 0)), (1, .int (nI k)), (2, .ref (q 12)), (3, .int 1)]) hx hb dL_areGoods_4 hl (by decide) rfl (fun ls hl => ?_)
  refine loopW (N := 6) (k0 := 0) (fun g ls => lv_has ls 11 [(0, .ref (q 0)), (1, .int (nI k)), (2, .ref (q 12)), (3, .int 1), (4, .int 1), (5, .int (nI g))]) (Nat.zero_le _) (lv_sub hl [2, 3, 4, 5, 1, 0] rfl) (fun g ls hk_g hl ih_g => ?_)
  refine lv_iload hx hb dL_areGoods_6 (lv_at hl 5 rfl) ?_
  refine lv_bipush (v := 6) hx hb dL_areGoods_8 (by decide) ?_
  refine geN g 6 (tgt := 169) hx hb rfl rfl (by omega) (by omega) dL_areGoods_10 (by decide) (fun c_g => ?_) (fun c_g => ?_)
  · skip
    refine lv_iload hx hb dL_areGoods_169 (lv_at hl 4 rfl) ?_
    exact RET true _ _ rfl dL_areGoods_171
  refine lv_iload hx hb dL_areGoods_13 (lv_at hl 4 rfl) ?_
  refine lv_if_eq (tgt := 169) hx hb dL_areGoods_15 (by decide) (fun c_1 => absurd c_1 (by decide)) (fun c_1 => ?_)
  refine lv_iconst (v := 0) hx hb dL_areGoods_18 (by decide) ?_
  refine lv_istore (lv' := [(6, .int 0), (0, .ref (q 0)), (1, .int (nI k)), (2, .ref (q 12)), (3, .int 1), (4, .int 1), (5, .int (nI g))]) hx hb dL_areGoods_19 hl (by decide) rfl (fun ls hl => ?_)
  refine lv_iconst (v := 0) hx hb dL_areGoods_21 (by decide) ?_
  refine lv_istore (lv' := [(7, .int 0), (6, .int 0), (0, .ref (q 0)), (1, .int (nI k)), (2, .ref (q 12)), (3, .int 1), (4, .int 1), (5, .int (nI g))]) hx hb dL_areGoods_22 hl (by decide) rfl (fun ls hl => ?_)
  refine lv_iconst (v := 0) hx hb dL_areGoods_24 (by decide) ?_
  refine lv_istore (lv' := [(8, .int 0), (7, .int 0), (6, .int 0), (0, .ref (q 0)), (1, .int (nI k)), (2, .ref (q 12)), (3, .int 1), (4, .int 1), (5, .int (nI g))]) hx hb dL_areGoods_25 hl (by decide) rfl (fun ls hl => ?_)
  refine loopW (N := k) (k0 := 0) (fun p ls => lv_has ls 11 [(0, .ref (q 0)), (1, .int (nI k)), (2, .ref (q 12)), (3, .int 1), (4, .int 1), (5, .int (nI g)), (6, .int 0), (7, .int 0), (8, .int (nI p))]) (Nat.zero_le _) (lv_sub hl [3, 4, 5, 6, 7, 8, 2, 1, 0] rfl) (fun p ls hk_p hl ih_p => ?_)
  refine lv_iload hx hb dL_areGoods_27 (lv_at hl 8 rfl) ?_
  refine lv_iload_n hx hb dL_areGoods_29 rfl (lv_at hl 1 rfl) ?_
  refine geN p k (tgt := 129) hx hb rfl rfl (by omega) (by omega) dL_areGoods_30 (by decide) (fun c_p => ?_) (fun c_p => ?_)
  · skip
    refine lv_iload hx hb dL_areGoods_129 (lv_at hl 4 rfl) ?_
    refine lv_if_eq (tgt := 160) hx hb dL_areGoods_131 (by decide) (fun c_2 => absurd c_2 (by decide)) (fun c_2 => ?_)
    refine lv_iload hx hb dL_areGoods_134 (lv_at hl 6 rfl) ?_
    refine lv_aload_n hx hb dL_areGoods_136 rfl (lv_at hl 2 rfl) ?_
    refine lv_iload hx hb dL_areGoods_137 (lv_at hl 5 rfl) ?_
    refine va_iald hx hb hK hP2 0 0 rfl rfl (vp_in_nI c_g (by decide)) dL_areGoods_139 ?_
    refine lv_icmp_ne (tgt := 160) hx hb dL_areGoods_140 (by decide) (fun c_3 => absurd (by decide) c_3) (fun c_3 => ?_)
    refine lv_iload_n hx hb dL_areGoods_143 rfl (lv_at hl 3 rfl) ?_
    refine lv_if_eq (tgt := 156) hx hb dL_areGoods_144 (by decide) (fun c_4 => absurd c_4 (by decide)) (fun c_4 => ?_)
    refine lv_iload hx hb dL_areGoods_147 (lv_at hl 7 rfl) ?_
    refine lv_aload_n hx hb dL_areGoods_149 rfl (lv_at hl 2 rfl) ?_
    refine lv_iload hx hb dL_areGoods_150 (lv_at hl 5 rfl) ?_
    refine va_iald hx hb hK hP2 0 0 rfl rfl (vp_in_nI c_g (by decide)) dL_areGoods_152 ?_
    refine lv_icmp_ne (tgt := 160) hx hb dL_areGoods_153 (by decide) (fun c_5 => absurd (by decide) c_5) (fun c_5 => ?_)
    refine lv_iconst (v := 1) hx hb dL_areGoods_156 (by decide) ?_
    refine lv_goto (tgt := 161) hx hb dL_areGoods_157 (by decide) ?_
    refine lv_istore (lv' := [(4, .int 1), (0, .ref (q 0)), (1, .int (nI k)), (2, .ref (q 12)), (3, .int 1), (5, .int (nI g)), (6, .int 0), (7, .int 0), (8, .int (nI p))]) hx hb dL_areGoods_161 hl (by decide) rfl (fun ls hl => ?_)
    refine lv_iinc (v := nI (g + 1)) (lv' := [(5, .int (nI (g + 1))), (4, .int 1), (0, .ref (q 0)), (1, .int (nI k)), (2, .ref (q 12)), (3, .int 1), (6, .int 0), (7, .int 0), (8, .int (nI p))]) hx hb dL_areGoods_163 hl (k := 5) rfl (iincN g) (by decide) rfl (fun ls hl => ?_)
    refine lv_goto (tgt := 6) hx hb dL_areGoods_166 (by decide) ?_
    exact ih_g (by omega) _ (lv_sub hl [2, 3, 4, 5, 1, 0] rfl)
  refine lv_iload hx hb dL_areGoods_33 (lv_at hl 4 rfl) ?_
  refine lv_if_eq (tgt := 129) hx hb dL_areGoods_35 (by decide) (fun c_6 => absurd c_6 (by decide)) (fun c_6 => ?_)
  refine lv_aload_n hx hb dL_areGoods_38 rfl (lv_at hl 0 rfl) ?_
  refine lv_iload hx hb dL_areGoods_39 (lv_at hl 8 rfl) ?_
  refine lv_iload hx hb dL_areGoods_41 (lv_at hl 5 rfl) ?_
  refine z_callE (x := 0) (vx_runV (As := [.int (nI p), .int (nI g)]) (rest := []) ⟨hx, hb, hml, hown, hts⟩ (c_X1_contents l hf D cI q (kS k) hq (nI p) (nI g) (ok_kS hk) hz_kS) (cwV 2 hts gL_areGoods_X1_contents rfl rfl rfl kd_X1_contents ⟨Nat.le_of_ble_eq_true rfl, Nat.le_of_ble_eq_true rfl⟩) (z_pV_P hP hK hE hX) rfl rfl hl.1 rfl (lv_room (Nat.le_of_ble_eq_true rfl)) dL_areGoods_43 ⟨Nat.le_of_ble_eq_true rfl, Nat.le_of_ble_eq_true rfl⟩) (fun E9 h9 => h9.1 (congrArg Prod.fst (evC hk c_p c_g))) (fun r9 h9 => h9.2.trans (congrArg (fun z => z.2.1) (evC hk c_p c_g))) ?_
  refine lv_istore (lv' := [(9, .int 0), (0, .ref (q 0)), (1, .int (nI k)), (2, .ref (q 12)), (3, .int 1), (4, .int 1), (5, .int (nI g)), (6, .int 0), (7, .int 0), (8, .int (nI p))]) hx hb dL_areGoods_46 hl (by decide) rfl (fun ls hl => ?_)
  refine lv_aload_n hx hb dL_areGoods_48 rfl (lv_at hl 1 rfl) ?_
  refine lv_iload hx hb dL_areGoods_49 (lv_at hl 9 rfl) ?_
  refine lv_iload hx hb dL_areGoods_51 (lv_at hl 6 rfl) ?_
  refine z_callE (x := 0) (vx_runV (As := [.int (nI p), .int (nI g)]) (rest := []) ⟨hx, hb, hml, hown, hts⟩ (c_X1_contentsAnew l hf D cI q (kS k) hq (nI p) (nI g) (ok_kS hk) hz_kS) (cwV 2 hts gL_areGoods_X1_contentsAnew rfl rfl rfl kd_X1_contentsAnew ⟨Nat.le_of_ble_eq_true rfl, Nat.le_of_ble_eq_true rfl⟩) (z_pV_P hP hK hE hX) rfl rfl hl.1 rfl (lv_room (Nat.le_of_ble_eq_true rfl)) dL_areGoods_53 ⟨Nat.le_of_ble_eq_true rfl, Nat.le_of_ble_eq_true rfl⟩) (fun E9 h9 => h9.1 (congrArg Prod.fst (evA hk c_p c_g))) (fun r9 h9 => h9.2.trans (congrArg (fun z => z.2.1) (evA hk c_p c_g))) ?_
  refine lv_istore (lv' := [(10, .int 0), (9, .int 0), (0, .ref (q 0)), (1, .int (nI k)), (2, .ref (q 12)), (3, .int 1), (4, .int 1), (5, .int (nI g)), (6, .int 0), (7, .int 0), (8, .int (nI p))]) hx hb dL_areGoods_56 hl (by decide) rfl (fun ls hl => ?_)
  refine lv_iload hx hb dL_areGoods_58 (lv_at hl 8 rfl) ?_
  refine lv_iload hx hb dL_areGoods_60 (lv_at hl 1 rfl) ?_
  refine lv_iadd hx hb dL_areGoods_62 ?_
  refine lv_topE (y := 0) (by decide) ?_
  refine lv_istore (lv' := [(6, .int 0), (10, .int 0), (9, .int 0), (0, .ref (q 0)), (1, .int (nI k)), (2, .ref (q 12)), (3, .int 1), (4, .int 1), (5, .int (nI g)), (7, .int 0), (8, .int (nI p))]) hx hb dL_areGoods_63 hl (by decide) rfl (fun ls hl => ?_)
  refine lv_iload hx hb dL_areGoods_65 (lv_at hl 9 rfl) ?_
  refine lv_iload hx hb dL_areGoods_67 (lv_at hl 1 rfl) ?_
  refine lv_iadd hx hb dL_areGoods_69 ?_
  refine lv_topE (y := 0) (by decide) ?_
  refine lv_istore (lv' := [(7, .int 0), (6, .int 0), (10, .int 0), (9, .int 0), (0, .ref (q 0)), (1, .int (nI k)), (2, .ref (q 12)), (3, .int 1), (4, .int 1), (5, .int (nI g)), (8, .int (nI p))]) hx hb dL_areGoods_70 hl (by decide) rfl (fun ls hl => ?_)
  refine lv_iload hx hb dL_areGoods_72 (lv_at hl 3 rfl) ?_
  refine lv_if_lt (tgt := 120) hx hb dL_areGoods_74 (by decide) (fun c_7 => absurd c_7 (by decide)) (fun c_7 => ?_)
  refine lv_iload hx hb dL_areGoods_77 (lv_at hl 3 rfl) ?_
  refine lv_sipush (v := 999) hx hb dL_areGoods_79 (by decide) ?_
  refine lv_icmp_gt (tgt := 120) hx hb dL_areGoods_82 (by decide) (fun c_8 => absurd c_8 (by decide)) (fun c_8 => ?_)
  refine lv_aload_n hx hb dL_areGoods_85 rfl (lv_at hl 4 rfl) ?_
  refine lv_iload hx hb dL_areGoods_86 (lv_at hl 10 rfl) ?_
  refine lv_iconst (v := 4) hx hb dL_areGoods_88 (by decide) ?_
  refine z_callE (x := 0) (vx_runV (As := [.int (nI p), .int 4]) (rest := []) ⟨hx, hb, hml, hown, hts⟩ (c_X1_pallet l hf D cI q (kS k) hq (nI p) 4 (ok_kS hk) hz_kS) (cwV 2 hts gL_areGoods_X1_pallet rfl rfl rfl kd_X1_pallet ⟨Nat.le_of_ble_eq_true rfl, Nat.le_of_ble_eq_true rfl⟩) (z_pV_P hP hK hE hX) rfl rfl hl.1 rfl (lv_room (Nat.le_of_ble_eq_true rfl)) dL_areGoods_89 ⟨Nat.le_of_ble_eq_true rfl, Nat.le_of_ble_eq_true rfl⟩) (fun E9 h9 => h9.1 (congrArg Prod.fst (evP4 hk c_p))) (fun r9 h9 => h9.2.trans (congrArg (fun z => z.2.1) (evP4 hk c_p))) ?_
  refine lv_if_eq (tgt := 105) hx hb dL_areGoods_92 (by decide) (fun c_9 => ?_) (fun c_9 => absurd (by decide) c_9)
  refine lv_iload_n hx hb dL_areGoods_105 rfl (lv_at hl 7 rfl) ?_
  refine lv_if_eq (tgt := 116) hx hb dL_areGoods_106 (by decide) (fun c_10 => absurd c_10 (by decide)) (fun c_10 => ?_)
  refine lv_iload hx hb dL_areGoods_109 (lv_at hl 3 rfl) ?_
  refine lv_iload hx hb dL_areGoods_111 (lv_at hl 2 rfl) ?_
  refine lv_icmp_ne (tgt := 120) hx hb dL_areGoods_113 (by decide) (fun c_11 => absurd (by decide) c_11) (fun c_11 => ?_)
  refine lv_iconst (v := 1) hx hb dL_areGoods_116 (by decide) ?_
  refine lv_goto (tgt := 121) hx hb dL_areGoods_117 (by decide) ?_
  refine lv_istore (lv' := [(4, .int 1), (7, .int 0), (6, .int 0), (10, .int 0), (9, .int 0), (0, .ref (q 0)), (1, .int (nI k)), (2, .ref (q 12)), (3, .int 1), (5, .int (nI g)), (8, .int (nI p))]) hx hb dL_areGoods_121 hl (by decide) rfl (fun ls hl => ?_)
  refine lv_iinc (v := nI (p + 1)) (lv' := [(8, .int (nI (p + 1))), (4, .int 1), (7, .int 0), (6, .int 0), (10, .int 0), (9, .int 0), (0, .ref (q 0)), (1, .int (nI k)), (2, .ref (q 12)), (3, .int 1), (5, .int (nI g))]) hx hb dL_areGoods_123 hl (k := 10) rfl (iincN p) (by decide) rfl (fun ls hl => ?_)
  refine lv_goto (tgt := 27) hx hb dL_areGoods_126 (by decide) ?_
  exact ih_p (by omega) _ (lv_sub hl [6, 7, 8, 9, 1, 10, 3, 2, 0] rfl)
theorem z_kn_L_areTrucks : yL_areTrucks.cls ≠ "java/lang/invoke/MethodHandle" ∧ yL_areTrucks.cls ≠ "java/lang/invoke/VarHandle" ∧ (parseMethodDescriptor yL_areTrucks.desc).map (fun d => d.parameters.length) = some 2 := by decide +kernel
set_option maxHeartbeats 4000000 in
set_option maxRecDepth 100000 in
theorem c_L_areTrucks0 (l : Launch) (hf : l.stackTraces = false) (D : va_G) (cI : ClassId) (q : Nat → Nat) (hq : ijQ 12 q) (k : Nat) (hk : k ≤ 14) : vx_Met l yL_areTrucks wsL_areTrucks ({ frames := 8, cells := 1, slots := 6, locals := 167 }) (va_Pc [.ref (q 0), .int (nI k)] (PX D cI q (kS k))) (rX (fun r => r = 1)) (xQ (fun _ => False)) 1 6 noF := by
  refine openXRZ (cc := cL_areTrucks) (maxL := 8) (by decide) rfl (Nat.le_of_ble_eq_true rfl) ?_
  intro p e s m args below meth c hx hb hml hts hown hpre Q RET OUT ls hl
  have hown : s.vm.findClass RL = some m.cls := hown
  have hl : lv_has ls 8 [(0, .ref (q 0)), (1, .int (nI k))] := hl
  obtain ⟨⟨hP, hK, hE⟩, hX⟩ := hpre
  refine lv_iconst (v := 0) hx hb dL_areTrucks_0 (by decide) ?_
  refine lv_istore_n (lv' := [(2, .int 0), (0, .ref (q 0)), (1, .int (nI k))]) hx hb dL_areTrucks_1 rfl hl (by decide) rfl (fun ls hl => ?_)
  refine lv_iconst (v := 0) hx hb dL_areTrucks_2 (by decide) ?_
  refine lv_istore_n (lv' := [(3, .int 0), (2, .int 0), (0, .ref (q 0)), (1, .int (nI k))]) hx hb dL_areTrucks_3 rfl hl (by decide) rfl (fun ls hl => ?_)
  refine lv_iconst (v := 1) hx hb dL_areTrucks_4 (by decide) ?_
  refine lv_istore (lv' := [(4, .int 1), (3, .int 0), (2, .int 0), (0, .ref (q 0)), (1, .int (nI k))]) hx hb dL_areTrucks_5 hl (by decide) rfl (fun ls hl => ?_)
  refine lv_iconst (v := 0) hx hb dL_areTrucks_7 (by decide) ?_
  refine lv_istore (lv' := [(5, .int 0), (4, .int 1), (3, .int 0), (2, .int 0), (0, .ref (q 0)), (1, .int (nI k))]) hx hb dL_areTrucks_8 hl (by decide) rfl (fun ls hl => ?_)
  refine loopW (N := k) (k0 := 0) (fun p ls => lv_has ls 8 [(0, .ref (q 0)), (1, .int (nI k)), (2, .int 0), (3, .int 0), (4, .int 1), (5, .int (nI p))]) (Nat.zero_le _) (lv_sub hl [4, 5, 3, 2, 1, 0] rfl) (fun p ls hk_p hl ih_p => ?_)
  refine lv_iload hx hb dL_areTrucks_10 (lv_at hl 5 rfl) ?_
  refine lv_iload_n hx hb dL_areTrucks_12 rfl (lv_at hl 1 rfl) ?_
  refine geN p k (tgt := 123) hx hb rfl rfl (by omega) (by omega) dL_areTrucks_13 (by decide) (fun c_p => ?_) (fun c_p => ?_)
  · skip
    refine lv_iload hx hb dL_areTrucks_123 (lv_at hl 4 rfl) ?_
    refine lv_if_eq (tgt := 162) hx hb dL_areTrucks_125 (by decide) (fun c_1 => absurd c_1 (by decide)) (fun c_1 => ?_)
    refine lv_iload_n hx hb dL_areTrucks_128 rfl (lv_at hl 2 rfl) ?_
    refine lv_sipush (v := 200) hx hb dL_areTrucks_129 (by decide) ?_
    refine lv_icmp_gt (tgt := 162) hx hb dL_areTrucks_132 (by decide) (fun c_2 => absurd c_2 (by decide)) (fun c_2 => ?_)
    refine lv_iload_n hx hb dL_areTrucks_135 rfl (lv_at hl 3 rfl) ?_
    refine lv_sipush (v := 200) hx hb dL_areTrucks_136 (by decide) ?_
    refine lv_icmp_gt (tgt := 162) hx hb dL_areTrucks_139 (by decide) (fun c_3 => absurd c_3 (by decide)) (fun c_3 => ?_)
    refine lv_aload_n hx hb dL_areTrucks_142 rfl (lv_at hl 0 rfl) ?_
    refine lv_iconst (v := 4) hx hb dL_areTrucks_143 (by decide) ?_
    refine z_callE (x := 0) (vx_runV (As := [.int 4]) (rest := []) ⟨hx, hb, hml, hown, hts⟩ (c_X1_mismatch l hf D cI q (kS k) hq 4 (ok_kS hk) hz_kS) (cwV 1 hts gL_areTrucks_X1_mismatch rfl rfl rfl kd_X1_mismatch ⟨Nat.le_of_ble_eq_true rfl, Nat.le_of_ble_eq_true rfl⟩) (z_pV_P hP hK hE hX) rfl rfl hl.1 rfl (lv_room (Nat.le_of_ble_eq_true rfl)) dL_areTrucks_144 ⟨Nat.le_of_ble_eq_true rfl, Nat.le_of_ble_eq_true rfl⟩) (fun E9 h9 => h9.1 (congrArg Prod.fst (evM4))) (fun r9 h9 => h9.2.trans (congrArg (fun z => z.2.1) (evM4))) ?_
    refine lv_if_lt (tgt := 162) hx hb dL_areTrucks_147 (by decide) (fun c_4 => absurd c_4 (by decide)) (fun c_4 => ?_)
    refine lv_aload_n hx hb dL_areTrucks_150 rfl (lv_at hl 0 rfl) ?_
    refine lv_iconst (v := 5) hx hb dL_areTrucks_151 (by decide) ?_
    refine z_callE (x := 0) (vx_runV (As := [.int 5]) (rest := []) ⟨hx, hb, hml, hown, hts⟩ (c_X1_mismatch l hf D cI q (kS k) hq 5 (ok_kS hk) hz_kS) (cwV 1 hts gL_areTrucks_X1_mismatch rfl rfl rfl kd_X1_mismatch ⟨Nat.le_of_ble_eq_true rfl, Nat.le_of_ble_eq_true rfl⟩) (z_pV_P hP hK hE hX) rfl rfl hl.1 rfl (lv_room (Nat.le_of_ble_eq_true rfl)) dL_areTrucks_152 ⟨Nat.le_of_ble_eq_true rfl, Nat.le_of_ble_eq_true rfl⟩) (fun E9 h9 => h9.1 (congrArg Prod.fst (evM5))) (fun r9 h9 => h9.2.trans (congrArg (fun z => z.2.1) (evM5))) ?_
    refine lv_if_lt (tgt := 162) hx hb dL_areTrucks_155 (by decide) (fun c_5 => absurd c_5 (by decide)) (fun c_5 => ?_)
    refine lv_iconst (v := 1) hx hb dL_areTrucks_158 (by decide) ?_
    refine lv_goto (tgt := 163) hx hb dL_areTrucks_159 (by decide) ?_
    exact RET true _ _ rfl dL_areTrucks_163
  refine lv_iload hx hb dL_areTrucks_16 (lv_at hl 4 rfl) ?_
  refine lv_if_eq (tgt := 123) hx hb dL_areTrucks_18 (by decide) (fun c_6 => absurd c_6 (by decide)) (fun c_6 => ?_)
  refine lv_iconst (v := 0) hx hb dL_areTrucks_21 (by decide) ?_
  refine lv_istore (lv' := [(6, .int 0), (0, .ref (q 0)), (1, .int (nI k)), (2, .int 0), (3, .int 0), (4, .int 1), (5, .int (nI p))]) hx hb dL_areTrucks_22 hl (by decide) rfl (fun ls hl => ?_)
  refine lv_iconst (v := 0) hx hb dL_areTrucks_24 (by decide) ?_
  refine lv_istore (lv' := [(7, .int 0), (6, .int 0), (0, .ref (q 0)), (1, .int (nI k)), (2, .int 0), (3, .int 0), (4, .int 1), (5, .int (nI p))]) hx hb dL_areTrucks_25 hl (by decide) rfl (fun ls hl => ?_)
  refine loopW (N := 6) (k0 := 0) (fun g ls => lv_has ls 8 [(0, .ref (q 0)), (1, .int (nI k)), (2, .int 0), (3, .int 0), (4, .int 1), (5, .int (nI p)), (6, .int 0), (7, .int (nI g))]) (Nat.zero_le _) (lv_sub hl [2, 3, 4, 5, 6, 7, 1, 0] rfl) (fun g ls hk_g hl ih_g => ?_)
  refine lv_iload hx hb dL_areTrucks_27 (lv_at hl 7 rfl) ?_
  refine lv_bipush (v := 6) hx hb dL_areTrucks_29 (by decide) ?_
  refine geN g 6 (tgt := 58) hx hb rfl rfl (by omega) (by omega) dL_areTrucks_31 (by decide) (fun c_g => ?_) (fun c_g => ?_)
  · skip
    refine lv_iload_n hx hb dL_areTrucks_58 rfl (lv_at hl 2 rfl) ?_
    refine lv_aload_n hx hb dL_areTrucks_59 rfl (lv_at hl 0 rfl) ?_
    refine lv_iload hx hb dL_areTrucks_60 (lv_at hl 5 rfl) ?_
    refine lv_iconst (v := 0) hx hb dL_areTrucks_62 (by decide) ?_
    refine z_callE (x := 0) (vx_runV (As := [.int (nI p), .int 0]) (rest := [.int 0]) ⟨hx, hb, hml, hown, hts⟩ (c_X1_pallet l hf D cI q (kS k) hq (nI p) 0 (ok_kS hk) hz_kS) (cwV 2 hts gL_areTrucks_X1_pallet rfl rfl rfl kd_X1_pallet ⟨Nat.le_of_ble_eq_true rfl, Nat.le_of_ble_eq_true rfl⟩) (z_pV_P hP hK hE hX) rfl rfl hl.1 rfl (lv_room (Nat.le_of_ble_eq_true rfl)) dL_areTrucks_63 ⟨Nat.le_of_ble_eq_true rfl, Nat.le_of_ble_eq_true rfl⟩) (fun E9 h9 => h9.1 (congrArg Prod.fst (evP0 hk c_p))) (fun r9 h9 => h9.2.trans (congrArg (fun z => z.2.1) (evP0 hk c_p))) ?_
    refine lv_iconst (v := 4) hx hb dL_areTrucks_66 (by decide) ?_
    refine lv_icmp_ne (tgt := 75) hx hb dL_areTrucks_67 (by decide) (fun c_7 => ?_) (fun c_7 => absurd c_7 (by decide))
    refine lv_iconst (v := 0) hx hb dL_areTrucks_75 (by decide) ?_
    refine lv_iadd hx hb dL_areTrucks_76 ?_
    refine lv_topE (y := 0) (by decide) ?_
    refine lv_istore_n (lv' := [(2, .int 0), (0, .ref (q 0)), (1, .int (nI k)), (3, .int 0), (4, .int 1), (5, .int (nI p)), (6, .int 0), (7, .int (nI g))]) hx hb dL_areTrucks_77 rfl hl (by decide) rfl (fun ls hl => ?_)
    refine lv_iload_n hx hb dL_areTrucks_78 rfl (lv_at hl 3 rfl) ?_
    refine lv_aload_n hx hb dL_areTrucks_79 rfl (lv_at hl 1 rfl) ?_
    refine lv_iload hx hb dL_areTrucks_80 (lv_at hl 5 rfl) ?_
    refine lv_iconst (v := 0) hx hb dL_areTrucks_82 (by decide) ?_
    refine z_callE (x := 0) (vx_runV (As := [.int (nI p), .int 0]) (rest := [.int 0]) ⟨hx, hb, hml, hown, hts⟩ (c_X1_pallet l hf D cI q (kS k) hq (nI p) 0 (ok_kS hk) hz_kS) (cwV 2 hts gL_areTrucks_X1_pallet rfl rfl rfl kd_X1_pallet ⟨Nat.le_of_ble_eq_true rfl, Nat.le_of_ble_eq_true rfl⟩) (z_pV_P hP hK hE hX) rfl rfl hl.1 rfl (lv_room (Nat.le_of_ble_eq_true rfl)) dL_areTrucks_83 ⟨Nat.le_of_ble_eq_true rfl, Nat.le_of_ble_eq_true rfl⟩) (fun E9 h9 => h9.1 (congrArg Prod.fst (evP0 hk c_p))) (fun r9 h9 => h9.2.trans (congrArg (fun z => z.2.1) (evP0 hk c_p))) ?_
    refine lv_iconst (v := 5) hx hb dL_areTrucks_86 (by decide) ?_
    refine lv_icmp_ne (tgt := 95) hx hb dL_areTrucks_87 (by decide) (fun c_8 => ?_) (fun c_8 => absurd c_8 (by decide))
    refine lv_iconst (v := 0) hx hb dL_areTrucks_95 (by decide) ?_
    refine lv_iadd hx hb dL_areTrucks_96 ?_
    refine lv_topE (y := 0) (by decide) ?_
    refine lv_istore_n (lv' := [(3, .int 0), (2, .int 0), (0, .ref (q 0)), (1, .int (nI k)), (4, .int 1), (5, .int (nI p)), (6, .int 0), (7, .int (nI g))]) hx hb dL_areTrucks_97 rfl hl (by decide) rfl (fun ls hl => ?_)
    refine lv_iload hx hb dL_areTrucks_98 (lv_at hl 6 rfl) ?_
    refine lv_aload_n hx hb dL_areTrucks_100 rfl (lv_at hl 2 rfl) ?_
    refine lv_iload hx hb dL_areTrucks_101 (lv_at hl 5 rfl) ?_
    refine lv_iconst (v := 2) hx hb dL_areTrucks_103 (by decide) ?_
    refine z_callE (x := 0) (vx_runV (As := [.int (nI p), .int 2]) (rest := [.int 0]) ⟨hx, hb, hml, hown, hts⟩ (c_X1_pallet l hf D cI q (kS k) hq (nI p) 2 (ok_kS hk) hz_kS) (cwV 2 hts gL_areTrucks_X1_pallet rfl rfl rfl kd_X1_pallet ⟨Nat.le_of_ble_eq_true rfl, Nat.le_of_ble_eq_true rfl⟩) (z_pV_P hP hK hE hX) rfl rfl hl.1 rfl (lv_room (Nat.le_of_ble_eq_true rfl)) dL_areTrucks_104 ⟨Nat.le_of_ble_eq_true rfl, Nat.le_of_ble_eq_true rfl⟩) (fun E9 h9 => h9.1 (congrArg Prod.fst (evP2 hk c_p))) (fun r9 h9 => h9.2.trans (congrArg (fun z => z.2.1) (evP2 hk c_p))) ?_
    refine lv_icmp_ne (tgt := 114) hx hb dL_areTrucks_107 (by decide) (fun c_9 => absurd (by decide) c_9) (fun c_9 => ?_)
    refine lv_iconst (v := 1) hx hb dL_areTrucks_110 (by decide) ?_
    refine lv_goto (tgt := 115) hx hb dL_areTrucks_111 (by decide) ?_
    refine lv_istore (lv' := [(4, .int 1), (3, .int 0), (2, .int 0), (0, .ref (q 0)), (1, .int (nI k)), (5, .int (nI p)), (6, .int 0), (7, .int (nI g))]) hx hb dL_areTrucks_115 hl (by decide) rfl (fun ls hl => ?_)
    refine lv_iinc (v := nI (p + 1)) (lv' := [(5, .int (nI (p + 1))), (4, .int 1), (3, .int 0), (2, .int 0), (0, .ref (q 0)), (1, .int (nI k)), (6, .int 0), (7, .int (nI g))]) hx hb dL_areTrucks_117 hl (k := 5) rfl (iincN p) (by decide) rfl (fun ls hl => ?_)
    refine lv_goto (tgt := 10) hx hb dL_areTrucks_120 (by decide) ?_
    exact ih_p (by omega) _ (lv_sub hl [4, 5, 3, 2, 1, 0] rfl)
  refine lv_iload hx hb dL_areTrucks_34 (lv_at hl 6 rfl) ?_
  refine lv_iload hx hb dL_areTrucks_36 (lv_at hl 7 rfl) ?_
  refine lv_iconst (v := 1) hx hb dL_areTrucks_38 (by decide) ?_
  refine lv_iadd hx hb dL_areTrucks_39 ?_
  refine lv_aload_n hx hb dL_areTrucks_40 rfl (lv_at hl 0 rfl) ?_
  refine lv_iload hx hb dL_areTrucks_41 (lv_at hl 5 rfl) ?_
  refine lv_iload hx hb dL_areTrucks_43 (lv_at hl 7 rfl) ?_
  refine z_callE (x := 0) (vx_runV (As := [.int (nI p), .int (nI g)]) (rest := [.int ((nI g + 1)), .int 0]) ⟨hx, hb, hml, hown, hts⟩ (c_X1_contents l hf D cI q (kS k) hq (nI p) (nI g) (ok_kS hk) hz_kS) (cwV 2 hts gL_areTrucks_X1_contents rfl rfl rfl kd_X1_contents ⟨Nat.le_of_ble_eq_true rfl, Nat.le_of_ble_eq_true rfl⟩) (z_pV_P hP hK hE hX) rfl rfl hl.1 rfl (lv_room (Nat.le_of_ble_eq_true rfl)) dL_areTrucks_45 ⟨Nat.le_of_ble_eq_true rfl, Nat.le_of_ble_eq_true rfl⟩) (fun E9 h9 => h9.1 (congrArg Prod.fst (evC hk c_p c_g))) (fun r9 h9 => h9.2.trans (congrArg (fun z => z.2.1) (evC hk c_p c_g))) ?_
  refine lv_imul hx hb dL_areTrucks_48 ?_
  refine lv_topE (y := 0) (Int32.mul_zero) ?_
  refine lv_iadd hx hb dL_areTrucks_49 ?_
  refine lv_topE (y := 0) (by decide) ?_
  refine lv_istore (lv' := [(6, .int 0), (0, .ref (q 0)), (1, .int (nI k)), (2, .int 0), (3, .int 0), (4, .int 1), (5, .int (nI p)), (7, .int (nI g))]) hx hb dL_areTrucks_50 hl (by decide) rfl (fun ls hl => ?_)
  refine lv_iinc (v := nI (g + 1)) (lv' := [(7, .int (nI (g + 1))), (6, .int 0), (0, .ref (q 0)), (1, .int (nI k)), (2, .int 0), (3, .int 0), (4, .int 1), (5, .int (nI p))]) hx hb dL_areTrucks_52 hl (k := 7) rfl (iincN g) (by decide) rfl (fun ls hl => ?_)
  refine lv_goto (tgt := 27) hx hb dL_areTrucks_55 (by decide) ?_
  exact ih_g (by omega) _ (lv_sub hl [2, 3, 4, 5, 6, 7, 1, 0] rfl)
