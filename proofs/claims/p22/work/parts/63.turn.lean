/-! the law on a script of zeros: every turn one make; what it makes stays, 170 turns long -/
abbrev R200 : Room := { frames := 12, cells := 200, slots := 5100, locals := 438 }
def LC22 (p : Program) (s : State) (m : MethodId) (c : Code) (b L : Nat) (xs : Nat → Int32) (D : va_G) (cI : ClassId) (q : Nat → Nat) : Prop :=
  p.tables.exec = Jvm.exec ∧ c.code = cL_law ∧ c.maxLocals = 20 ∧ s.vm.findClass RL = some m.cls ∧ (∀ w ∈ wsL_law, w.before #[Value.ref b] s = true) ∧ va_X b L xs s s.heap ∧ b < s.heap.size ∧ ijQ 14 q ∧ (∀ k, k < 14 → s.heap.size ≤ q k) ∧ va_K D vwCl [(cI, .int)] s ∧ EN s ∧ z_NC s ∧ EX (fun a : Nat => s.heap.size ≤ a) s s.heap
def spS (k j : Nat) : Int32 := if j = 0 then 0 else nI k
theorem spS_1 {k j : Nat} : spS k j + (if j = 0 then nI k else 0) = spS k (j + 1) := by
  unfold spS
  rw [if_neg (Nat.succ_ne_zero j)]
  by_cases h : j = 0
  · rw [if_pos h, if_pos h, Int32.zero_add]
  · rw [if_neg h, if_neg h, Int32.add_zero]
set_option maxHeartbeats 4000000 in
set_option maxRecDepth 100000 in
theorem z_law_tail {p : Program} {l : Launch} {e : Env} {s : State} {m : MethodId} {below : List Frame} {meth : Method} {c : Code} {b L : Nat} {xs : Nat → Int32} {D : va_G} {cI : ClassId} {q : Nat → Nat} (hf : l.stackTraces = false) (C0 : LC22 p s m c b L xs D cI q) {k0 k t : Nat} (h1 : 0 < k) (hk : k ≤ 14) (h0k : k0 ≤ k) (ht : t < 170) {cells slots : Nat} (hc : cells + 1 ≤ 200) (hs : slots + 6 ≤ 5100) {H : Heap} {locs : List Loc} (hP : va_P D vwCl (z_wA cI q (kS k)) H) (hS : va_S (fun a : Nat => s.heap.size ≤ a) s.heap H locs) {ls : Array Slot} (hl : lv_has ls 20 [(0, .ref b), (1, .ref (q 0)), (2, .ref (q 12)), (3, .ref (q 13)), (4, .int (nI k)), (5, .int (nI k0)), (6, .int 1), (7, .int 170), (8, .int (nI t)), (12, .int (nI 0)), (13, .int (nI 0))]) {Q : State → Prop}
    (kk : ∀ ls : Array Slot, lv_has ls 20 [(0, .ref b), (1, .ref (q 0)), (2, .ref (q 12)), (3, .ref (q 13)), (4, .int (nI k)), (5, .int (nI k)), (6, .int 1), (7, .int 170), (8, .int (nI (t + 1)))] → W p l e R200 s m #[Value.ref b] below meth c H locs (cells) (slots) Q (F0 m 61 ls [])) : W p l e R200 s m #[Value.ref b] below meth c H locs (cells) (slots) Q (F0 m 1045 ls []) := by
  obtain ⟨hx, hb, hml, hown, hts, hXs, hbl, hq14, hZs, hK, hE, hN, hX0⟩ := C0
  have hbA : ¬ (fun a : Nat => s.heap.size ≤ a) b := Nat.not_le.mpr hbl
  have hA12 : ∀ a, adQ 12 q a → (fun a : Nat => s.heap.size ≤ a) a := fun a ⟨k, h1, h2⟩ => by rw [h2]; exact hZs k (by omega)
  have hq : ijQ 12 q := z_ij12 hq14
  have hP2 := z_wA_a hP
  have hP3 := z_wA_s hP
  have hPA := hP
  have hP := z_wA_G hP
  have hX : EX (adQ 12 q) s H := EX_narrow (EX_kept hX0 hS.2.1) hA12
  refine lv_iconst (v := 1) hx hb dL_law_1045 (by decide) ?_
  refine lv_istore (lv' := [(16, .int 1), (0, .ref b), (1, .ref (q 0)), (2, .ref (q 12)), (3, .ref (q 13)), (4, .int (nI k)), (5, .int (nI k0)), (6, .int 1), (7, .int 170), (8, .int (nI t)), (12, .int (nI 0)), (13, .int (nI 0))]) hx hb dL_law_1046 hl (by decide) rfl (fun ls hl => ?_)
  refine lv_iconst (v := 0) hx hb dL_law_1048 (by decide) ?_
  refine lv_istore (lv' := [(17, .int 0), (16, .int 1), (0, .ref b), (1, .ref (q 0)), (2, .ref (q 12)), (3, .ref (q 13)), (4, .int (nI k)), (5, .int (nI k0)), (6, .int 1), (7, .int 170), (8, .int (nI t)), (12, .int (nI 0)), (13, .int (nI 0))]) hx hb dL_law_1049 hl (by decide) rfl (fun ls hl => ?_)
  refine loopW (N := 14) (k0 := 0) (fun j ls => lv_has ls 20 [(0, .ref b), (1, .ref (q 0)), (2, .ref (q 12)), (3, .ref (q 13)), (4, .int (nI k)), (5, .int (nI k0)), (6, .int 1), (7, .int 170), (8, .int (nI t)), (12, .int (nI 0)), (13, .int (nI 0)), (16, .int 1), (17, .int (nI j))]) (Nat.zero_le _) (lv_sub hl [2, 3, 4, 5, 6, 7, 8, 9, 10, 11, 12, 1, 0] rfl) (fun j ls hk_j hl ih_j => ?_)
  refine lv_iload hx hb dL_law_1051 (lv_at hl 12 rfl) ?_
  refine lv_bipush (v := 14) hx hb dL_law_1053 (by decide) ?_
  refine geN j 14 (tgt := 1083) hx hb rfl rfl (by omega) (by omega) dL_law_1055 (by decide) (fun c_j => ?_) (fun c_j => ?_)
  · skip
    refine lv_iconst (v := 0) hx hb dL_law_1083 (by decide) ?_
    refine lv_istore (lv' := [(17, .int 0), (0, .ref b), (1, .ref (q 0)), (2, .ref (q 12)), (3, .ref (q 13)), (4, .int (nI k)), (5, .int (nI k0)), (6, .int 1), (7, .int 170), (8, .int (nI t)), (12, .int (nI 0)), (13, .int (nI 0)), (16, .int 1)]) hx hb dL_law_1084 hl (by decide) rfl (fun ls hl => ?_)
    refine lv_iconst (v := 0) hx hb dL_law_1086 (by decide) ?_
    refine lv_istore (lv' := [(18, .int 0), (17, .int 0), (0, .ref b), (1, .ref (q 0)), (2, .ref (q 12)), (3, .ref (q 13)), (4, .int (nI k)), (5, .int (nI k0)), (6, .int 1), (7, .int 170), (8, .int (nI t)), (12, .int (nI 0)), (13, .int (nI 0)), (16, .int 1)]) hx hb dL_law_1087 hl (by decide) rfl (fun ls hl => ?_)
    refine loopW (N := 7) (k0 := 0) (fun i ls => lv_has ls 20 [(0, .ref b), (1, .ref (q 0)), (2, .ref (q 12)), (3, .ref (q 13)), (4, .int (nI k)), (5, .int (nI k0)), (6, .int 1), (7, .int 170), (8, .int (nI t)), (12, .int (nI 0)), (13, .int (nI 0)), (16, .int 1), (17, .int (spS k i)), (18, .int (nI i))]) (Nat.zero_le _) (lv_sub hl [2, 3, 4, 5, 6, 7, 8, 9, 10, 11, 12, 13, 1, 0] rfl) (fun i ls hk_i hl ih_i => ?_)
    refine lv_iload hx hb dL_law_1089 (lv_at hl 13 rfl) ?_
    refine lv_bipush (v := 7) hx hb dL_law_1091 (by decide) ?_
    refine geN i 7 (tgt := 1113) hx hb rfl rfl (by omega) (by omega) dL_law_1093 (by decide) (fun c_i => ?_) (fun c_i => ?_)
    · skip
      have hi7 : i = 7 := by omega
      subst hi7
      refine lv_iload hx hb dL_law_1113 (lv_at hl 6 rfl) ?_
      refine lv_if_eq (tgt := 1175) hx hb dL_law_1115 (by decide) (fun c_1 => absurd c_1 (by decide)) (fun c_1 => ?_)
      refine lv_iload hx hb dL_law_1118 (lv_at hl 12 rfl) ?_
      refine lv_iload hx hb dL_law_1120 (lv_at hl 5 rfl) ?_
      refine lv_icmp_lt (tgt := 1175) hx hb dL_law_1122 (by decide) (fun c_2 => absurd c_2 ((by rw [show spS k 7 = nI k from rfl]; exact fun h => Nat.not_lt.mpr h0k ((nI_ltI (by omega) (by omega)).mp h)))) (fun c_2 => ?_)
      refine lv_aload_n hx hb dL_law_1125 rfl (lv_at hl 1 rfl) ?_
      refine lv_iload hx hb dL_law_1126 (lv_at hl 9 rfl) ?_
      refine z_callE (x := 1) (vx_runS (As := [.ref (q 0), .int (nI 0)]) (rest := []) ⟨hx, hb, hml, hown, hts⟩ (c_L_isChain0 l hf D cI q hq k hk h1) (va_cwS 2 hts gL_law_L_isChain rfl rfl rfl z_kn_L_isChain ⟨Nat.le_of_ble_eq_true rfl, Nat.le_of_ble_eq_true rfl⟩) (z_pS_P hP hK hE hX) rfl rfl hl.1 rfl (lv_room (Nat.le_of_ble_eq_true rfl)) dL_law_1128 ⟨hc, hs⟩) (fun _ h9 => h9) (fun _ h9 => h9) ?_
      refine lv_if_eq (tgt := 1175) hx hb dL_law_1131 (by decide) (fun c_3 => absurd c_3 (by decide)) (fun c_3 => ?_)
      refine lv_aload_n hx hb dL_law_1134 rfl (lv_at hl 1 rfl) ?_
      refine lv_iload hx hb dL_law_1135 (lv_at hl 10 rfl) ?_
      refine z_callE (x := 1) (vx_runS (As := [.ref (q 0), .int (nI 0)]) (rest := []) ⟨hx, hb, hml, hown, hts⟩ (c_L_isChain0 l hf D cI q hq k hk h1) (va_cwS 2 hts gL_law_L_isChain rfl rfl rfl z_kn_L_isChain ⟨Nat.le_of_ble_eq_true rfl, Nat.le_of_ble_eq_true rfl⟩) (z_pS_P hP hK hE hX) rfl rfl hl.1 rfl (lv_room (Nat.le_of_ble_eq_true rfl)) dL_law_1137 ⟨hc, hs⟩) (fun _ h9 => h9) (fun _ h9 => h9) ?_
      refine lv_if_eq (tgt := 1175) hx hb dL_law_1140 (by decide) (fun c_4 => absurd c_4 (by decide)) (fun c_4 => ?_)
      refine lv_iload hx hb dL_law_1143 (lv_at hl 8 rfl) ?_
      refine lv_iconst (v := 3) hx hb dL_law_1145 (by decide) ?_
      refine lv_irem hx hb dL_law_1146 (by decide) ?_
      have J : W p l e R200 s m #[Value.ref b] below meth c H locs (cells) (slots) Q (F0 m 1171 ls []) := by
        refine lv_iconst (v := 1) hx hb dL_law_1171 (by decide) ?_
        refine lv_goto (tgt := 1176) hx hb dL_law_1172 (by decide) ?_
        refine lv_istore (lv' := [(6, .int 1), (0, .ref b), (1, .ref (q 0)), (2, .ref (q 12)), (3, .ref (q 13)), (4, .int (nI k)), (5, .int (nI k0)), (7, .int 170), (8, .int (nI t)), (12, .int (nI 0)), (13, .int (nI 0)), (16, .int 1), (17, .int (spS k 7)), (18, .int (nI 7))]) hx hb dL_law_1176 hl (by decide) rfl (fun ls hl => ?_)
        refine lv_iload hx hb dL_law_1178 (lv_at hl 12 rfl) ?_
        refine lv_istore (lv' := [(5, .int (spS k 7)), (6, .int 1), (0, .ref b), (1, .ref (q 0)), (2, .ref (q 12)), (3, .ref (q 13)), (4, .int (nI k)), (7, .int 170), (8, .int (nI t)), (12, .int (nI 0)), (13, .int (nI 0)), (16, .int 1), (17, .int (spS k 7)), (18, .int (nI 7))]) hx hb dL_law_1180 hl (by decide) rfl (fun ls hl => ?_)
        refine lv_iinc (v := nI (t + 1)) (lv' := [(8, .int (nI (t + 1))), (5, .int (spS k 7)), (6, .int 1), (0, .ref b), (1, .ref (q 0)), (2, .ref (q 12)), (3, .ref (q 13)), (4, .int (nI k)), (7, .int 170), (12, .int (nI 0)), (13, .int (nI 0)), (16, .int 1), (17, .int (spS k 7)), (18, .int (nI 7))]) hx hb dL_law_1182 hl (k := 8) rfl (iincN t) (by decide) rfl (fun ls hl => ?_)
        refine lv_goto (tgt := 61) hx hb dL_law_1185 (by decide) ?_
        exact kk _ (lv_sub hl [3, 4, 5, 6, 7, 1, 2, 8, 0] rfl)
      refine lv_if_gt (tgt := 1171) hx hb dL_law_1147 (by decide) (fun _ => J) (fun _ => ?_)
      refine lv_aload_n hx hb dL_law_1150 rfl (lv_at hl 1 rfl) ?_
      refine lv_iload hx hb dL_law_1151 (lv_at hl 4 rfl) ?_
      refine lv_aload_n hx hb dL_law_1153 rfl (lv_at hl 2 rfl) ?_
      refine lv_iload hx hb dL_law_1154 (lv_at hl 11 rfl) ?_
      refine z_callE (x := 1) (vx_runS (As := [.ref (q 0), .int (nI k), .ref (q 12), .int 1]) (rest := []) ⟨hx, hb, hml, hown, hts⟩ (z_c_L_areGoods0 l hf D cI q hq k hk) (va_cwS 4 hts gL_law_L_areGoods rfl rfl rfl z_kn_L_areGoods ⟨Nat.le_of_ble_eq_true rfl, Nat.le_of_ble_eq_true rfl⟩) (z_pS_Y hP hP2 hK hE hX) rfl rfl hl.1 rfl (lv_room (Nat.le_of_ble_eq_true rfl)) dL_law_1156 ⟨hc, hs⟩) (fun _ h9 => h9) (fun _ h9 => h9) ?_
      refine lv_if_eq (tgt := 1175) hx hb dL_law_1159 (by decide) (fun c_5 => absurd c_5 (by decide)) (fun c_5 => ?_)
      refine lv_aload_n hx hb dL_law_1162 rfl (lv_at hl 1 rfl) ?_
      refine lv_iload hx hb dL_law_1163 (lv_at hl 4 rfl) ?_
      refine z_callE (x := 1) (vx_runS (As := [.ref (q 0), .int (nI k)]) (rest := []) ⟨hx, hb, hml, hown, hts⟩ (c_L_areTrucks0 l hf D cI q hq k hk) (va_cwS 2 hts gL_law_L_areTrucks rfl rfl rfl z_kn_L_areTrucks ⟨Nat.le_of_ble_eq_true rfl, Nat.le_of_ble_eq_true rfl⟩) (z_pS_P hP hK hE hX) rfl rfl hl.1 rfl (lv_room (Nat.le_of_ble_eq_true rfl)) dL_law_1165 ⟨hc, hs⟩) (fun _ h9 => h9) (fun _ h9 => h9) ?_
      refine lv_if_eq (tgt := 1175) hx hb dL_law_1168 (by decide) (fun c_6 => absurd c_6 (by decide)) (fun c_6 => ?_)
      exact J
    refine lv_iload hx hb dL_law_1096 (lv_at hl 12 rfl) ?_
    refine lv_aload_n hx hb dL_law_1098 rfl (lv_at hl 1 rfl) ?_
    refine lv_iload hx hb dL_law_1099 (lv_at hl 13 rfl) ?_
    refine z_callE (x := (if i = 0 then nI k else 0)) (vx_runV (As := [.int (nI i)]) (rest := [.int (spS k i)]) ⟨hx, hb, hml, hown, hts⟩ (c_X1_owed l hf D cI q (kS k) hq (nI i) (ok_kS hk) hz_kS) (cwV 1 hts gL_law_X1_owed rfl rfl rfl kd_X1_owed ⟨Nat.le_of_ble_eq_true rfl, Nat.le_of_ble_eq_true rfl⟩) (z_pV_P hP hK hE hX) rfl rfl hl.1 rfl (lv_room (Nat.le_of_ble_eq_true rfl)) dL_law_1101 ⟨hc, hs⟩) (fun E9 h9 => h9.1 (congrArg Prod.fst (evO c_i))) (fun r9 h9 => h9.2.trans (congrArg (fun z => z.2.1) (evO c_i))) ?_
    refine lv_iadd hx hb dL_law_1104 ?_
    refine lv_topE (y := spS k (i + 1)) (spS_1) ?_
    refine lv_istore (lv' := [(17, .int (spS k (i + 1))), (0, .ref b), (1, .ref (q 0)), (2, .ref (q 12)), (3, .ref (q 13)), (4, .int (nI k)), (5, .int (nI k0)), (6, .int 1), (7, .int 170), (8, .int (nI t)), (12, .int (nI 0)), (13, .int (nI 0)), (16, .int 1), (18, .int (nI i))]) hx hb dL_law_1105 hl (by decide) rfl (fun ls hl => ?_)
    refine lv_iinc (v := nI (i + 1)) (lv' := [(18, .int (nI (i + 1))), (17, .int (spS k (i + 1))), (0, .ref b), (1, .ref (q 0)), (2, .ref (q 12)), (3, .ref (q 13)), (4, .int (nI k)), (5, .int (nI k0)), (6, .int 1), (7, .int 170), (8, .int (nI t)), (12, .int (nI 0)), (13, .int (nI 0)), (16, .int 1)]) hx hb dL_law_1107 hl (k := 13) rfl (iincN i) (by decide) rfl (fun ls hl => ?_)
    refine lv_goto (tgt := 1089) hx hb dL_law_1110 (by decide) ?_
    exact ih_i (by omega) _ (lv_sub hl [2, 3, 4, 5, 6, 7, 8, 9, 10, 11, 12, 13, 1, 0] rfl)
  refine lv_iload hx hb dL_law_1058 (lv_at hl 11 rfl) ?_
  refine lv_if_eq (tgt := 1074) hx hb dL_law_1060 (by decide) (fun c_7 => absurd c_7 (by decide)) (fun c_7 => ?_)
  refine lv_aload_n hx hb dL_law_1063 rfl (lv_at hl 3 rfl) ?_
  refine lv_iload hx hb dL_law_1064 (lv_at hl 12 rfl) ?_
  refine va_iald hx hb hK hP3 0 0 rfl rfl (vp_in_nI c_j (by decide)) dL_law_1066 ?_
  refine lv_if_ne (tgt := 1074) hx hb dL_law_1067 (by decide) (fun c_8 => absurd (by decide) c_8) (fun c_8 => ?_)
  refine lv_iconst (v := 1) hx hb dL_law_1070 (by decide) ?_
  refine lv_goto (tgt := 1075) hx hb dL_law_1071 (by decide) ?_
  refine lv_istore (lv' := [(16, .int 1), (0, .ref b), (1, .ref (q 0)), (2, .ref (q 12)), (3, .ref (q 13)), (4, .int (nI k)), (5, .int (nI k0)), (6, .int 1), (7, .int 170), (8, .int (nI t)), (12, .int (nI 0)), (13, .int (nI 0)), (17, .int (nI j))]) hx hb dL_law_1075 hl (by decide) rfl (fun ls hl => ?_)
  refine lv_iinc (v := nI (j + 1)) (lv' := [(17, .int (nI (j + 1))), (16, .int 1), (0, .ref b), (1, .ref (q 0)), (2, .ref (q 12)), (3, .ref (q 13)), (4, .int (nI k)), (5, .int (nI k0)), (6, .int 1), (7, .int 170), (8, .int (nI t)), (12, .int (nI 0)), (13, .int (nI 0))]) hx hb dL_law_1077 hl (k := 12) rfl (iincN j) (by decide) rfl (fun ls hl => ?_)
  refine lv_goto (tgt := 1051) hx hb dL_law_1080 (by decide) ?_
  exact ih_j (by omega) _ (lv_sub hl [2, 3, 4, 5, 6, 7, 8, 9, 10, 11, 12, 1, 0] rfl)
set_option maxHeartbeats 4000000 in
set_option maxRecDepth 100000 in
theorem z_law_turn {p : Program} {l : Launch} {e : Env} {s : State} {m : MethodId} {below : List Frame} {meth : Method} {c : Code} {b L : Nat} {xs : Nat → Int32} {D : va_G} {cI : ClassId} {q : Nat → Nat} (hf : l.stackTraces = false) (C0 : LC22 p s m c b L xs D cI q) (hL : 170 ≤ L) (hL2 : L ≤ 260) (hz : ∀ j, j < 170 → xs j = 0) {k t : Nat} (hkt : k = min t 14) (ht : t < 170) {H : Heap} {locs : List Loc} (hP : va_P D vwCl (z_wA cI q (kS k)) H) (hS : va_S (fun a : Nat => s.heap.size ≤ a) s.heap H locs) (hg : s.heap.size + (t - 14) ≤ H.size) {ls : Array Slot} (hl : lv_has ls 20 [(0, .ref b), (1, .ref (q 0)), (2, .ref (q 12)), (3, .ref (q 13)), (4, .int (nI k)), (5, .int (nI k)), (6, .int 1), (7, .int 170), (8, .int (nI t))]) {Q : State → Prop}
    (kk : ∀ (H : Heap) (locs : List Loc) (ls : Array Slot) (k' : Nat), k' = min (t + 1) 14 → va_P D vwCl (z_wA cI q (kS k')) H → va_S (fun a : Nat => s.heap.size ≤ a) s.heap H locs → s.heap.size + (t + 1 - 14) ≤ H.size → lv_has ls 20 [(0, .ref b), (1, .ref (q 0)), (2, .ref (q 12)), (3, .ref (q 13)), (4, .int (nI k')), (5, .int (nI k')), (6, .int 1), (7, .int 170), (8, .int (nI (t + 1)))] → W p l e R200 s m #[Value.ref b] below meth c H locs (14 + t + 1) (3953 + 6 * t + 6) Q (F0 m 61 ls [])) : W p l e R200 s m #[Value.ref b] below meth c H locs (14 + t) (3953 + 6 * t) Q (F0 m 61 ls []) := by
  have hk : k ≤ 14 := by omega
  have C9 := C0
  obtain ⟨hx, hb, hml, hown, hts, hXs, hbl, hq14, hZs, hK, hE, hN, hX0⟩ := C9
  have hbA : ¬ (fun a : Nat => s.heap.size ≤ a) b := Nat.not_le.mpr hbl
  have hA12 : ∀ a, adQ 12 q a → (fun a : Nat => s.heap.size ≤ a) a := fun a ⟨k, h1, h2⟩ => by rw [h2]; exact hZs k (by omega)
  have hq : ijQ 12 q := z_ij12 hq14
  have hX : EX (adQ 12 q) s H := EX_narrow (EX_kept hX0 hS.2.1) hA12
  have hXH : va_X b L xs s H := hXs.kept (hS.2.1 b hbl hbA)
  refine lv_iload hx hb dL_law_61 (lv_at hl 8 rfl) ?_
  refine lv_iload hx hb dL_law_63 (lv_at hl 7 rfl) ?_
  refine geN t 170 (tgt := 1188) hx hb rfl rfl (by omega) (by omega) dL_law_65 (by decide) (fun c_1 => absurd c_1 (by omega)) (fun c_1 => ?_)
  refine lv_iload hx hb dL_law_68 (lv_at hl 6 rfl) ?_
  refine lv_if_eq (tgt := 1188) hx hb dL_law_70 (by decide) (fun c_2 => absurd c_2 (by decide)) (fun c_2 => ?_)
  refine lv_aload_n hx hb dL_law_73 rfl (lv_at hl 0 rfl) ?_
  refine lv_iload hx hb dL_law_74 (lv_at hl 8 rfl) ?_
  refine r_callE (x := xs t) (va_runS (As := [.ref b, .int (nI t)]) (rest := []) ⟨hx, hb, hml, hown, hts⟩ (z_c_L_draw l b L xs t (by omega) hL2) (va_cwS 2 hts gL_law_L_draw rfl rfl rfl z_kn_L_draw ⟨Nat.le_of_ble_eq_true rfl, Nat.le_of_ble_eq_true rfl⟩) (z_pS_X hXH) rfl rfl hl.1 rfl (lv_room (Nat.le_of_ble_eq_true rfl)) dL_law_76 ⟨(by show 14 + t + 0 ≤ 200; omega), (by show 3953 + 6 * t + 0 ≤ 5100; omega)⟩) ?_
  refine lv_topE (y := 0) (hz t ht) ?_
  refine lv_istore (lv' := [(9, .int 0), (0, .ref b), (1, .ref (q 0)), (2, .ref (q 12)), (3, .ref (q 13)), (4, .int (nI k)), (5, .int (nI k)), (6, .int 1), (7, .int 170), (8, .int (nI t))]) hx hb dL_law_79 hl (by decide) rfl (fun ls hl => ?_)
  refine lv_iload hx hb dL_law_81 (lv_at hl 0 rfl) ?_
  refine lv_iconst (v := 5) hx hb dL_law_83 (by decide) ?_
  refine lv_ishr hx hb dL_law_84 ?_
  refine lv_topE (y := 0) (by decide) ?_
  refine lv_ldc (v := 134217727) hx hb hown (hts (.constant RL 74 134217727) (by decide +kernel)) dL_law_85 ?_
  refine lv_iand hx hb dL_law_87 ?_
  refine lv_topE (y := 0) (by decide) ?_
  refine lv_istore (lv' := [(10, .int 0), (9, .int 0), (0, .ref b), (1, .ref (q 0)), (2, .ref (q 12)), (3, .ref (q 13)), (4, .int (nI k)), (5, .int (nI k)), (6, .int 1), (7, .int 170), (8, .int (nI t))]) hx hb dL_law_88 hl (by decide) rfl (fun ls hl => ?_)
  refine cutI (x := 0) (pcM := 105) (st := []) ?_ (fun J => ?_)
  rotate_left
  · skip
    refine lv_iload hx hb dL_law_90 (lv_at hl 10 rfl) ?_
    refine lv_iconst (v := 3) hx hb dL_law_92 (by decide) ?_
    refine geN t 3 (tgt := 100) hx hb rfl rfl (by omega) (by omega) dL_law_93 (by decide) (fun c_t => ?_) (fun c_t => ?_)
    · skip
      refine lv_iload hx hb dL_law_100 (lv_at hl 1 rfl) ?_
      refine lv_bipush (v := 31) hx hb dL_law_102 (by decide) ?_
      refine lv_iand hx hb dL_law_104 ?_
      refine lv_topE (y := 0) (by decide) ?_
      exact J _ rfl
    refine lv_iconst (v := 0) hx hb dL_law_96 (by decide) ?_
    refine lv_goto (tgt := 105) hx hb dL_law_97 (by decide) ?_
    exact J _ rfl
  refine lv_istore (lv' := [(11, .int 0), (10, .int 0), (9, .int 0), (0, .ref b), (1, .ref (q 0)), (2, .ref (q 12)), (3, .ref (q 13)), (4, .int (nI k)), (5, .int (nI k)), (6, .int 1), (7, .int 170), (8, .int (nI t))]) hx hb dL_law_105 hl (by decide) rfl (fun ls hl => ?_)
  refine cutI (x := 0) (pcM := 123) (st := []) ?_ (fun J => ?_)
  rotate_left
  · skip
    refine lv_iload hx hb dL_law_107 (lv_at hl 7 rfl) ?_
    refine lv_if_ne (tgt := 116) hx hb dL_law_109 (by decide) (fun c_k => ?_) (fun c_k => ?_)
    · skip
      refine lv_iload hx hb dL_law_116 (lv_at hl 1 rfl) ?_
      refine lv_iconst (v := 2) hx hb dL_law_118 (by decide) ?_
      refine lv_ishr hx hb dL_law_119 ?_
      refine lv_topE (y := 0) (by decide) ?_
      refine lv_iload hx hb dL_law_120 (lv_at hl 7 rfl) ?_
      refine lv_irem hx hb dL_law_122 (c_k) ?_
      refine lv_topE (y := 0) (zrem k (by omega)) ?_
      exact J _ rfl
    refine lv_iconst (v := 0) hx hb dL_law_112 (by decide) ?_
    refine lv_goto (tgt := 123) hx hb dL_law_113 (by decide) ?_
    exact J _ rfl
  refine lv_istore (lv' := [(12, .int 0), (11, .int 0), (10, .int 0), (9, .int 0), (0, .ref b), (1, .ref (q 0)), (2, .ref (q 12)), (3, .ref (q 13)), (4, .int (nI k)), (5, .int (nI k)), (6, .int 1), (7, .int 170), (8, .int (nI t))]) hx hb dL_law_123 hl (by decide) rfl (fun ls hl => ?_)
  refine cutI (x := 0) (pcM := 142) (st := []) ?_ (fun J => ?_)
  rotate_left
  · skip
    refine lv_iload hx hb dL_law_125 (lv_at hl 8 rfl) ?_
    refine lv_if_ne (tgt := 134) hx hb dL_law_127 (by decide) (fun c_k => ?_) (fun c_k => ?_)
    · skip
      refine lv_iload hx hb dL_law_134 (lv_at hl 2 rfl) ?_
      refine lv_bipush (v := 6) hx hb dL_law_136 (by decide) ?_
      refine lv_ishr hx hb dL_law_138 ?_
      refine lv_topE (y := 0) (by decide) ?_
      refine lv_iload hx hb dL_law_139 (lv_at hl 8 rfl) ?_
      refine lv_irem hx hb dL_law_141 (c_k) ?_
      refine lv_topE (y := 0) (zrem k (by omega)) ?_
      exact J _ rfl
    refine lv_iconst (v := 0) hx hb dL_law_130 (by decide) ?_
    refine lv_goto (tgt := 142) hx hb dL_law_131 (by decide) ?_
    exact J _ rfl
  refine lv_istore (lv' := [(13, .int 0), (12, .int 0), (11, .int 0), (10, .int 0), (9, .int 0), (0, .ref b), (1, .ref (q 0)), (2, .ref (q 12)), (3, .ref (q 13)), (4, .int (nI k)), (5, .int (nI k)), (6, .int 1), (7, .int 170), (8, .int (nI t))]) hx hb dL_law_142 hl (by decide) rfl (fun ls hl => ?_)
  refine lv_iload hx hb dL_law_144 (lv_at hl 3 rfl) ?_
  refine lv_bipush (v := 10) hx hb dL_law_146 (by decide) ?_
  refine lv_ishr hx hb dL_law_148 ?_
  refine lv_topE (y := 0) (by decide) ?_
  refine lv_bipush (v := 6) hx hb dL_law_149 (by decide) ?_
  refine lv_irem hx hb dL_law_151 (by decide) ?_
  refine lv_topE (y := 0) (by decide) ?_
  refine lv_istore (lv' := [(14, .int 0), (13, .int 0), (12, .int 0), (11, .int 0), (10, .int 0), (9, .int 0), (0, .ref b), (1, .ref (q 0)), (2, .ref (q 12)), (3, .ref (q 13)), (4, .int (nI k)), (5, .int (nI k)), (6, .int 1), (7, .int 170), (8, .int (nI t))]) hx hb dL_law_152 hl (by decide) rfl (fun ls hl => ?_)
  refine lv_iconst (v := 1) hx hb dL_law_154 (by decide) ?_
  refine lv_iload hx hb dL_law_155 (lv_at hl 4 rfl) ?_
  refine lv_bipush (v := 13) hx hb dL_law_157 (by decide) ?_
  refine lv_ishr hx hb dL_law_159 ?_
  refine lv_topE (y := 0) (by decide) ?_
  refine lv_bipush (v := 30) hx hb dL_law_160 (by decide) ?_
  refine lv_irem hx hb dL_law_162 (by decide) ?_
  refine lv_topE (y := 0) (by decide) ?_
  refine lv_iadd hx hb dL_law_163 ?_
  refine lv_topE (y := 1) (by decide) ?_
  refine lv_istore (lv' := [(15, .int 1), (14, .int 0), (13, .int 0), (12, .int 0), (11, .int 0), (10, .int 0), (9, .int 0), (0, .ref b), (1, .ref (q 0)), (2, .ref (q 12)), (3, .ref (q 13)), (4, .int (nI k)), (5, .int (nI k)), (6, .int 1), (7, .int 170), (8, .int (nI t))]) hx hb dL_law_164 hl (by decide) rfl (fun ls hl => ?_)
  refine lv_iload hx hb dL_law_166 (lv_at hl 4 rfl) ?_
  refine lv_iconst (v := 2) hx hb dL_law_168 (by decide) ?_
  refine lv_icmp_ge (tgt := 230) hx hb dL_law_169 (by decide) (fun c_3 => absurd c_3 (by decide)) (fun c_3 => ?_)
  refine lv_aload_n hx hb dL_law_172 rfl (lv_at hl 8 rfl) ?_
  refine lv_iconst (v := 0) hx hb dL_law_173 (by decide) ?_
  refine lv_iload hx hb dL_law_174 (lv_at hl 5 rfl) ?_
  refine lv_iconst (v := 4) hx hb dL_law_176 (by decide) ?_
  refine lv_irem hx hb dL_law_177 (by decide) ?_
  refine lv_topE (y := 0) (by decide) ?_
  refine lv_iconst (v := 0) hx hb dL_law_178 (by decide) ?_
  refine lv_iconst (v := 0) hx hb dL_law_179 (by decide) ?_
  refine w_call (vx_runSW (As := [.ref (q 0), .int 0, .int 0, .int 0, .int 0]) (rest := []) ⟨hx, hb, hml, hown, hts⟩ (c_L_ask0 l hf D cI q hq k hk H.size) (vx_cwSW 5 hts gL_law_L_ask rfl rfl rfl z_kn_L_ask ⟨Nat.le_of_ble_eq_true rfl, Nat.le_of_ble_eq_true rfl⟩) (z_pS_Q (z_wA_G hP) hK hE hX hN rfl) rfl rfl hl.1 rfl (lv_room (Nat.le_of_ble_eq_true rfl)) dL_law_180 ⟨(by show 14 + t + 1 ≤ 200; omega), (by show 3953 + 6 * t + 6 ≤ 5100; omega)⟩) hS hA12 (fun v H1 l1 hv hz9 hk9 hS => ?_)
  rcases hv with ⟨hk13, rfl, hP1⟩ | ⟨hk14, rfl, hP1, hgr⟩
  · have hP := z_wA_call hq14 hP hP1 hk9
    refine lv_istore (lv' := [(16, .int (nI k)), (15, .int 1), (14, .int 0), (13, .int 0), (12, .int 0), (11, .int 0), (10, .int 0), (9, .int 0), (0, .ref b), (1, .ref (q 0)), (2, .ref (q 12)), (3, .ref (q 13)), (4, .int (nI k)), (5, .int (nI k)), (6, .int 1), (7, .int 170), (8, .int (nI t))]) hx hb dL_law_183 hl (by decide) rfl (fun ls hl => ?_)
    refine lv_iload hx hb dL_law_185 (lv_at hl 0 rfl) ?_
    refine lv_iload hx hb dL_law_187 (lv_at hl 12 rfl) ?_
    refine lv_bipush (v := 14) hx hb dL_law_189 (by decide) ?_
    refine neN k 14 (tgt := 200) hx hb rfl rfl (by omega) (by omega) dL_law_191 (by decide) (fun c_4 => ?_) (fun c_4 => absurd c_4 (by omega))
    refine lv_iload hx hb dL_law_200 (lv_at hl 12 rfl) ?_
    refine lv_icmp_ne (tgt := 209) hx hb dL_law_202 (by decide) (fun c_5 => absurd (rfl) c_5) (fun c_5 => ?_)
    refine lv_iconst (v := 1) hx hb dL_law_205 (by decide) ?_
    refine lv_goto (tgt := 210) hx hb dL_law_206 (by decide) ?_
    refine lv_istore (lv' := [(6, .int 1), (16, .int (nI k)), (15, .int 1), (14, .int 0), (13, .int 0), (12, .int 0), (11, .int 0), (10, .int 0), (9, .int 0), (0, .ref b), (1, .ref (q 0)), (2, .ref (q 12)), (3, .ref (q 13)), (4, .int (nI k)), (5, .int (nI k)), (7, .int 170), (8, .int (nI t))]) hx hb dL_law_210 hl (by decide) rfl (fun ls hl => ?_)
    refine lv_iload hx hb dL_law_212 (lv_at hl 13 rfl) ?_
    refine lv_iload hx hb dL_law_214 (lv_at hl 1 rfl) ?_
    refine lv_if_lt (tgt := 223) hx hb dL_law_216 (by decide) (fun c_6 => absurd c_6 (nI_pos (by omega))) (fun c_6 => ?_)
    refine lv_iconst (v := 1) hx hb dL_law_219 (by decide) ?_
    refine lv_goto (tgt := 224) hx hb dL_law_220 (by decide) ?_
    refine lv_iadd hx hb dL_law_224 ?_
    refine lv_topE (y := nI (k + 1)) (nI_1 k) ?_
    refine lv_istore (lv' := [(4, .int (nI (k + 1))), (6, .int 1), (16, .int (nI k)), (15, .int 1), (14, .int 0), (13, .int 0), (12, .int 0), (11, .int 0), (10, .int 0), (9, .int 0), (0, .ref b), (1, .ref (q 0)), (2, .ref (q 12)), (3, .ref (q 13)), (5, .int (nI k)), (7, .int 170), (8, .int (nI t))]) hx hb dL_law_225 hl (by decide) rfl (fun ls hl => ?_)
    refine lv_goto (tgt := 1045) hx hb dL_law_227 (by decide) ?_
    refine z_law_tail (t := t) (k0 := k) (k := k + 1) hf (by assumption) (by omega) (by omega) (by omega) ht (by omega) (by omega) hP hS (lv_sub hl [10, 11, 12, 13, 0, 14, 1, 15, 16, 6, 5] rfl) (fun ls hl => ?_)
    exact kk _ _ ls (k + 1) (by omega) hP hS (by omega) hl
  · subst hk14
    have hP := z_wA_call hq14 hP hP1 hk9
    refine lv_istore (lv' := [(16, .int ((-1013))), (15, .int 1), (14, .int 0), (13, .int 0), (12, .int 0), (11, .int 0), (10, .int 0), (9, .int 0), (0, .ref b), (1, .ref (q 0)), (2, .ref (q 12)), (3, .ref (q 13)), (4, .int (nI 14)), (5, .int (nI 14)), (6, .int 1), (7, .int 170), (8, .int (nI t))]) hx hb dL_law_183 hl (by decide) rfl (fun ls hl => ?_)
    refine lv_iload hx hb dL_law_185 (lv_at hl 0 rfl) ?_
    refine lv_iload hx hb dL_law_187 (lv_at hl 12 rfl) ?_
    refine lv_bipush (v := 14) hx hb dL_law_189 (by decide) ?_
    refine neN 14 14 (tgt := 200) hx hb rfl rfl (by omega) (by omega) dL_law_191 (by decide) (fun c_7 => absurd c_7 (by omega)) (fun c_7 => ?_)
    refine lv_sipush (v := (-1013)) hx hb dL_law_194 (by decide) ?_
    refine lv_goto (tgt := 202) hx hb dL_law_197 (by decide) ?_
    refine lv_icmp_ne (tgt := 209) hx hb dL_law_202 (by decide) (fun c_8 => absurd (by decide) c_8) (fun c_8 => ?_)
    refine lv_iconst (v := 1) hx hb dL_law_205 (by decide) ?_
    refine lv_goto (tgt := 210) hx hb dL_law_206 (by decide) ?_
    refine lv_istore (lv' := [(6, .int 1), (16, .int ((-1013))), (15, .int 1), (14, .int 0), (13, .int 0), (12, .int 0), (11, .int 0), (10, .int 0), (9, .int 0), (0, .ref b), (1, .ref (q 0)), (2, .ref (q 12)), (3, .ref (q 13)), (4, .int (nI 14)), (5, .int (nI 14)), (7, .int 170), (8, .int (nI t))]) hx hb dL_law_210 hl (by decide) rfl (fun ls hl => ?_)
    refine lv_iload hx hb dL_law_212 (lv_at hl 13 rfl) ?_
    refine lv_iload hx hb dL_law_214 (lv_at hl 1 rfl) ?_
    refine lv_if_lt (tgt := 223) hx hb dL_law_216 (by decide) (fun c_9 => ?_) (fun c_9 => absurd (by decide) c_9)
    refine lv_iconst (v := 0) hx hb dL_law_223 (by decide) ?_
    refine lv_iadd hx hb dL_law_224 ?_
    refine lv_topE (y := nI 14) (Int32.add_zero _) ?_
    refine lv_istore (lv' := [(4, .int (nI 14)), (6, .int 1), (16, .int ((-1013))), (15, .int 1), (14, .int 0), (13, .int 0), (12, .int 0), (11, .int 0), (10, .int 0), (9, .int 0), (0, .ref b), (1, .ref (q 0)), (2, .ref (q 12)), (3, .ref (q 13)), (5, .int (nI 14)), (7, .int 170), (8, .int (nI t))]) hx hb dL_law_225 hl (by decide) rfl (fun ls hl => ?_)
    refine lv_goto (tgt := 1045) hx hb dL_law_227 (by decide) ?_
    refine z_law_tail (t := t) (k0 := 14) (k := 14) hf (by assumption) (by omega) (by omega) (by omega) ht (by omega) (by omega) hP hS (lv_sub hl [10, 11, 12, 13, 0, 14, 1, 15, 16, 6, 5] rfl) (fun ls hl => ?_)
    exact kk _ _ ls 14 (by omega) hP hS (by omega) hl
