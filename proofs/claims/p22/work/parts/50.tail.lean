/-! the law on every script -/
abbrev R240 : Room := { frames := 12, cells := 240, slots := 5300, locals := 438 }
def LC24 (p : Program) (s : State) (m : MethodId) (c : Code) (b L : Nat) (xs : Nat → Int32) (D : va_G) (cI : ClassId) (q : Nat → Nat) : Prop :=
  p.tables.exec = Jvm.exec ∧ c.code = cL_law ∧ c.maxLocals = 20 ∧ s.vm.findClass RL = some m.cls ∧ (∀ w ∈ wsL_law, w.before #[Value.ref b] s = true) ∧ va_X b L xs s s.heap ∧ b < s.heap.size ∧ ijQ 14 q ∧ (∀ k, k < 14 → s.heap.size ≤ q k) ∧ va_K D vwCl [(cI, .int)] s ∧ EN s ∧ NC s ∧ EX (fun a : Nat => s.heap.size ≤ a) s s.heap
def clB (sp : Nat → Int32) : Nat → Bool
  | 0 => true
  | j + 1 => clB sp j && decide (sp j = 0)
theorem clB_all {sp : Nat → Int32} : ∀ {n : Nat}, clB sp n = true → ∀ P, P < n → sp P = 0
  | 0, _, P, h => absurd h (Nat.not_lt_zero _)
  | n + 1, h, P, hP => by
    rw [clB, Bool.and_eq_true, decide_eq_true_iff] at h
    by_cases q : P = n
    · rw [q]; exact h.2
    · exact clB_all h.1 P (by omega)
theorem sum_int {ow : Nat → Int32} {B : Int} (h : OW ow B) (hB : B ≤ 100000) : ∀ n, n ≤ 7 → (smS ow n).toInt = smI (fun k => (ow k).toInt) n ∧ 0 ≤ smI (fun k => (ow k).toInt) n ∧ smI (fun k => (ow k).toInt) n ≤ 100000 * (n : Int)
  | 0, _ => ⟨by rw [smS, smI]; decide, Int.le_refl _, by rw [smI]; omega⟩
  | n + 1, hn => by
    obtain ⟨a1, a2, a3⟩ := sum_int h hB n (by omega)
    have := h n
    rw [smS, smI, i_add (by omega) (by omega)]
    refine ⟨by omega, by omega, by omega⟩
theorem smI_mono {f g : Nat → Int} (h : ∀ k, f k ≤ g k) : ∀ n, smI f n ≤ smI g n
  | 0 => Int.le_refl _
  | n + 1 => by
    have := smI_mono h n
    have := h n
    rw [smI, smI]; omega
theorem sum_ge {ow ow' : Nat → Int32} {B : Int} (h : OW ow B) (h' : OW ow' (B + 20)) (hB : B ≤ 90000) (hg : GE ow ow') : ¬ smS ow' 7 < smS ow 7 := by
  rw [Int32.lt_iff_toInt_lt, (sum_int h (by omega) 7 (Nat.le_refl _)).1, (sum_int h' (by omega) 7 (Nat.le_refl _)).1]
  have := smI_mono (f := fun k => (ow k).toInt) (g := fun k => (ow' k).toInt) hg 7
  omega
theorem up_same {f : Nat → Int32} {k : Nat} {x : Int32} (h : x = f k) : va_up f k x = f := by
  funext j; rw [up_if]; split
  · rename_i z; rw [h, z]
  · rfl
set_option maxHeartbeats 4000000 in
set_option maxRecDepth 100000 in
theorem law_tail {p : Program} {l : Launch} {e : Env} {s : State} {m : MethodId} {below : List Frame} {meth : Method} {c : Code} {b L : Nat} {xs : Nat → Int32} {D : va_G} {cI : ClassId} {q : Nat → Nat} (hf : l.stackTraces = false) (C0 : LC24 p s m c b L xs D cI q) {τ : SM} {al sp : Nat → Int32} (hJ : J τ al sp) {P O t TN : Nat} {ow0 : Int32} (hP9 : P < mN τ) (hO9 : O < mN τ) (ht : t < 1000) (hge : ¬ smS (mOwe τ) 7 < ow0) {cells slots : Nat} (hc : cells + 1 ≤ 240) (hs : slots + 6 ≤ 5300) {H : Heap} {locs : List Loc} (hP : va_P D vwCl (wA cI q (gOf τ) al sp) H) (hS : va_S (fun a : Nat => s.heap.size ≤ a) s.heap H locs) {ls : Array Slot} (hl : lv_has ls 20 [(0, .ref b), (1, .ref (q 0)), (2, .ref (q 12)), (3, .ref (q 13)), (4, .int (nI (mN τ))), (5, .int ow0), (6, .int 1), (7, .int (nI TN)), (8, .int (nI t)), (12, .int (nI P)), (13, .int (nI O))]) {Q : State → Prop}
    (kk : ∀ ls : Array Slot, lv_has ls 20 [(0, .ref b), (1, .ref (q 0)), (2, .ref (q 12)), (3, .ref (q 13)), (4, .int (nI (mN τ))), (5, .int ((smS (mOwe τ) 7))), (6, .int 1), (7, .int (nI TN)), (8, .int (nI (t + 1)))] → W p l e R240 s m #[Value.ref b] below meth c H locs (cells) (slots) Q (F0 m 61 ls [])) : W p l e R240 s m #[Value.ref b] below meth c H locs (cells) (slots) Q (F0 m 1045 ls []) := by
  obtain ⟨hx, hb, hml, hown, hts, hXs, hbl, hq14, hZs, hK, hE, hN, hX0⟩ := id C0
  have hbA : ¬ (fun a : Nat => s.heap.size ≤ a) b := Nat.not_le.mpr hbl
  have hA14 : ∀ a, adQ 14 q a → (fun a : Nat => s.heap.size ≤ a) a := fun a ⟨k, h1, h2⟩ => by rw [h2]; exact hZs k (by omega)
  have hA12 : ∀ a, adQ 12 q a → (fun a : Nat => s.heap.size ≤ a) a := fun a ⟨k, h1, h2⟩ => by rw [h2]; exact hZs k (by omega)
  have hq : ijQ 12 q := ij12 hq14
  have hn14 := hJ.1.2.2.2.1
  have hX : EX (adQ 12 q) s H := EX_narrow (EX_kept hX0 hS.2.1) hA12
  have hP3 := wA_s hP
  refine lv_iconst (v := 1) hx hb dL_law_1045 (by decide) ?_
  refine lv_istore (lv' := [(16, .int 1), (0, .ref b), (1, .ref (q 0)), (2, .ref (q 12)), (3, .ref (q 13)), (4, .int (nI (mN τ))), (5, .int ow0), (6, .int 1), (7, .int (nI TN)), (8, .int (nI t)), (12, .int (nI P)), (13, .int (nI O))]) hx hb dL_law_1046 hl (by decide) rfl (fun ls hl => ?_)
  refine lv_iconst (v := 0) hx hb dL_law_1048 (by decide) ?_
  refine lv_istore (lv' := [(17, .int 0), (16, .int 1), (0, .ref b), (1, .ref (q 0)), (2, .ref (q 12)), (3, .ref (q 13)), (4, .int (nI (mN τ))), (5, .int ow0), (6, .int 1), (7, .int (nI TN)), (8, .int (nI t)), (12, .int (nI P)), (13, .int (nI O))]) hx hb dL_law_1049 hl (by decide) rfl (fun ls hl => ?_)
  refine loopW (N := 14) (k0 := 0) (fun j ls => lv_has ls 20 [(0, .ref b), (1, .ref (q 0)), (2, .ref (q 12)), (3, .ref (q 13)), (4, .int (nI (mN τ))), (5, .int ow0), (6, .int 1), (7, .int (nI TN)), (8, .int (nI t)), (12, .int (nI P)), (13, .int (nI O)), (16, .int (bI (clB sp j))), (17, .int (nI j))]) (Nat.zero_le _) (lv_sub hl [2, 3, 4, 5, 6, 7, 8, 9, 10, 11, 12, 1, 0] rfl) (fun j ls hk_j hl ih_j => ?_)
  refine lv_iload hx hb dL_law_1051 (lv_at hl 12 rfl) ?_
  refine lv_bipush (v := 14) hx hb dL_law_1053 (by decide) ?_
  refine geN j 14 (tgt := 1083) hx hb rfl rfl (by omega) (by omega) dL_law_1055 (by decide) (fun c_j => ?_) (fun c_j => ?_)
  · skip
    have hj14 : j = 14 := by omega
    subst hj14
    refine lv_iconst (v := 0) hx hb dL_law_1083 (by decide) ?_
    refine lv_istore (lv' := [(17, .int 0), (0, .ref b), (1, .ref (q 0)), (2, .ref (q 12)), (3, .ref (q 13)), (4, .int (nI (mN τ))), (5, .int ow0), (6, .int 1), (7, .int (nI TN)), (8, .int (nI t)), (12, .int (nI P)), (13, .int (nI O)), (16, .int (bI (clB sp 14)))]) hx hb dL_law_1084 hl (by decide) rfl (fun ls hl => ?_)
    refine lv_iconst (v := 0) hx hb dL_law_1086 (by decide) ?_
    refine lv_istore (lv' := [(18, .int 0), (17, .int 0), (0, .ref b), (1, .ref (q 0)), (2, .ref (q 12)), (3, .ref (q 13)), (4, .int (nI (mN τ))), (5, .int ow0), (6, .int 1), (7, .int (nI TN)), (8, .int (nI t)), (12, .int (nI P)), (13, .int (nI O)), (16, .int (bI (clB sp 14)))]) hx hb dL_law_1087 hl (by decide) rfl (fun ls hl => ?_)
    refine loopW (N := 7) (k0 := 0) (fun i ls => lv_has ls 20 [(0, .ref b), (1, .ref (q 0)), (2, .ref (q 12)), (3, .ref (q 13)), (4, .int (nI (mN τ))), (5, .int ow0), (6, .int 1), (7, .int (nI TN)), (8, .int (nI t)), (12, .int (nI P)), (13, .int (nI O)), (16, .int (bI (clB sp 14))), (17, .int (smS (mOwe τ) i)), (18, .int (nI i))]) (Nat.zero_le _) (lv_sub hl [2, 3, 4, 5, 6, 7, 8, 9, 10, 11, 12, 13, 1, 0] rfl) (fun i ls hk_i hl ih_i => ?_)
    refine lv_iload hx hb dL_law_1089 (lv_at hl 13 rfl) ?_
    refine lv_bipush (v := 7) hx hb dL_law_1091 (by decide) ?_
    refine geN i 7 (tgt := 1113) hx hb rfl rfl (by omega) (by omega) dL_law_1093 (by decide) (fun c_i => ?_) (fun c_i => ?_)
    · skip
      have hi7 : i = 7 := by omega
      subst hi7
      refine lv_iload hx hb dL_law_1113 (lv_at hl 6 rfl) ?_
      refine lv_if_eq (tgt := 1175) hx hb dL_law_1115 (by decide) (fun c_1 => absurd c_1 (by decide)) (fun c_1 => ?_)
      refine lv_iload hx hb dL_law_1118 (lv_at hl 12 rfl) ?_
      refine lv_iload hx hb dL_law_1120 (lv_at hl 5 rfl) ?_
      refine lv_icmp_lt (tgt := 1175) hx hb dL_law_1122 (by decide) (fun c_2 => absurd c_2 (hge)) (fun c_2 => ?_)
      refine lv_aload_n hx hb dL_law_1125 rfl (lv_at hl 1 rfl) ?_
      refine lv_iload hx hb dL_law_1126 (lv_at hl 9 rfl) ?_
      refine z_callE (x := 1) (vx_runS (As := [.ref (q 0), .int (nI P)]) (rest := []) ⟨hx, hb, hml, hown, hts⟩ (c_L_isChain l hf D cI q hq τ al sp hJ P hP9) (va_cwS 2 hts gL_law_L_isChain rfl rfl rfl kn_L_isChain ⟨Nat.le_of_ble_eq_true rfl, Nat.le_of_ble_eq_true rfl⟩) (pS_P (wA_G hP) hK hE hX) rfl rfl hl.1 rfl (lv_room (Nat.le_of_ble_eq_true rfl)) dL_law_1128 ⟨hc, hs⟩) (fun _ h9 => h9) (fun _ h9 => h9) ?_
      refine lv_if_eq (tgt := 1175) hx hb dL_law_1131 (by decide) (fun c_3 => absurd c_3 (by decide)) (fun c_3 => ?_)
      refine lv_aload_n hx hb dL_law_1134 rfl (lv_at hl 1 rfl) ?_
      refine lv_iload hx hb dL_law_1135 (lv_at hl 10 rfl) ?_
      refine z_callE (x := 1) (vx_runS (As := [.ref (q 0), .int (nI O)]) (rest := []) ⟨hx, hb, hml, hown, hts⟩ (c_L_isChain l hf D cI q hq τ al sp hJ O hO9) (va_cwS 2 hts gL_law_L_isChain rfl rfl rfl kn_L_isChain ⟨Nat.le_of_ble_eq_true rfl, Nat.le_of_ble_eq_true rfl⟩) (pS_P (wA_G hP) hK hE hX) rfl rfl hl.1 rfl (lv_room (Nat.le_of_ble_eq_true rfl)) dL_law_1137 ⟨hc, hs⟩) (fun _ h9 => h9) (fun _ h9 => h9) ?_
      refine lv_if_eq (tgt := 1175) hx hb dL_law_1140 (by decide) (fun c_4 => absurd c_4 (by decide)) (fun c_4 => ?_)
      refine lv_iload hx hb dL_law_1143 (lv_at hl 8 rfl) ?_
      refine lv_iconst (v := 3) hx hb dL_law_1145 (by decide) ?_
      refine lv_irem hx hb dL_law_1146 (by decide) ?_
      have J1171 : W p l e R240 s m #[Value.ref b] below meth c H locs (cells) (slots) Q (F0 m 1171 ls []) := by
        refine lv_iconst (v := 1) hx hb dL_law_1171 (by decide) ?_
        refine lv_goto (tgt := 1176) hx hb dL_law_1172 (by decide) ?_
        refine lv_istore (lv' := [(6, .int 1), (0, .ref b), (1, .ref (q 0)), (2, .ref (q 12)), (3, .ref (q 13)), (4, .int (nI (mN τ))), (5, .int ow0), (7, .int (nI TN)), (8, .int (nI t)), (12, .int (nI P)), (13, .int (nI O)), (16, .int (bI (clB sp 14))), (17, .int (smS (mOwe τ) 7)), (18, .int (nI 7))]) hx hb dL_law_1176 hl (by decide) rfl (fun ls hl => ?_)
        refine lv_iload hx hb dL_law_1178 (lv_at hl 12 rfl) ?_
        refine lv_istore (lv' := [(5, .int (smS (mOwe τ) 7)), (6, .int 1), (0, .ref b), (1, .ref (q 0)), (2, .ref (q 12)), (3, .ref (q 13)), (4, .int (nI (mN τ))), (7, .int (nI TN)), (8, .int (nI t)), (12, .int (nI P)), (13, .int (nI O)), (16, .int (bI (clB sp 14))), (17, .int (smS (mOwe τ) 7)), (18, .int (nI 7))]) hx hb dL_law_1180 hl (by decide) rfl (fun ls hl => ?_)
        refine lv_iinc (v := nI (t + 1)) (lv' := [(8, .int (nI (t + 1))), (5, .int (smS (mOwe τ) 7)), (6, .int 1), (0, .ref b), (1, .ref (q 0)), (2, .ref (q 12)), (3, .ref (q 13)), (4, .int (nI (mN τ))), (7, .int (nI TN)), (12, .int (nI P)), (13, .int (nI O)), (16, .int (bI (clB sp 14))), (17, .int (smS (mOwe τ) 7)), (18, .int (nI 7))]) hx hb dL_law_1182 hl (k := 8) rfl (iincN t) (by decide) rfl (fun ls hl => ?_)
        refine lv_goto (tgt := 61) hx hb dL_law_1185 (by decide) ?_
        exact kk _ (lv_sub hl [3, 4, 5, 6, 7, 1, 2, 8, 0] rfl)
      refine lv_if_gt (tgt := 1171) hx hb dL_law_1147 (by decide) (fun _ => J1171) (fun _ => ?_)
      have hcc : clB sp 14 = true ∨ clB sp 14 = false := by cases clB sp 14 <;> simp
      rcases hcc with hcl | hcl
      · skip
        refine lv_aload_n hx hb dL_law_1150 rfl (lv_at hl 1 rfl) ?_
        refine lv_iload hx hb dL_law_1151 (lv_at hl 4 rfl) ?_
        refine lv_aload_n hx hb dL_law_1153 rfl (lv_at hl 2 rfl) ?_
        refine lv_iload hx hb dL_law_1154 (lv_at hl 11 rfl) ?_
        refine lv_topE (y := 1) (by rw [hcl]; rfl) ?_
        refine z_callE (x := 1) (vx_runS (As := [.ref (q 0), .int (nI (mN τ)), .ref (q 12), .int 1]) (rest := []) ⟨hx, hb, hml, hown, hts⟩ (c_L_areGoods1 l hf D cI q hq τ al sp hJ (fun P hP => clB_all hcl P (by omega))) (va_cwS 4 hts gL_law_L_areGoods rfl rfl rfl kn_L_areGoods ⟨Nat.le_of_ble_eq_true rfl, Nat.le_of_ble_eq_true rfl⟩) (pS_Y (wA_G hP) (wA_a hP) hK hE hX) rfl rfl hl.1 rfl (lv_room (Nat.le_of_ble_eq_true rfl)) dL_law_1156 ⟨hc, hs⟩) (fun _ h9 => h9) (fun _ h9 => h9) ?_
        refine lv_if_eq (tgt := 1175) hx hb dL_law_1159 (by decide) (fun c_5 => absurd c_5 (by decide)) (fun c_5 => ?_)
        refine lv_aload_n hx hb dL_law_1162 rfl (lv_at hl 1 rfl) ?_
        refine lv_iload hx hb dL_law_1163 (lv_at hl 4 rfl) ?_
        refine z_callE (x := 1) (vx_runS (As := [.ref (q 0), .int (nI (mN τ))]) (rest := []) ⟨hx, hb, hml, hown, hts⟩ (c_L_areTrucks l hf D cI q hq τ al sp hJ) (va_cwS 2 hts gL_law_L_areTrucks rfl rfl rfl kn_L_areTrucks ⟨Nat.le_of_ble_eq_true rfl, Nat.le_of_ble_eq_true rfl⟩) (pS_P (wA_G hP) hK hE hX) rfl rfl hl.1 rfl (lv_room (Nat.le_of_ble_eq_true rfl)) dL_law_1165 ⟨hc, hs⟩) (fun _ h9 => h9) (fun _ h9 => h9) ?_
        refine lv_if_eq (tgt := 1175) hx hb dL_law_1168 (by decide) (fun c_6 => absurd c_6 (by decide)) (fun c_6 => ?_)
        exact J1171
      · skip
        refine lv_aload_n hx hb dL_law_1150 rfl (lv_at hl 1 rfl) ?_
        refine lv_iload hx hb dL_law_1151 (lv_at hl 4 rfl) ?_
        refine lv_aload_n hx hb dL_law_1153 rfl (lv_at hl 2 rfl) ?_
        refine lv_iload hx hb dL_law_1154 (lv_at hl 11 rfl) ?_
        refine lv_topE (y := 0) (by rw [hcl]; rfl) ?_
        refine z_callE (x := 1) (vx_runS (As := [.ref (q 0), .int (nI (mN τ)), .ref (q 12), .int 0]) (rest := []) ⟨hx, hb, hml, hown, hts⟩ (c_L_areGoods0 l hf D cI q hq τ al sp hJ) (va_cwS 4 hts gL_law_L_areGoods rfl rfl rfl kn_L_areGoods ⟨Nat.le_of_ble_eq_true rfl, Nat.le_of_ble_eq_true rfl⟩) (pS_Y (wA_G hP) (wA_a hP) hK hE hX) rfl rfl hl.1 rfl (lv_room (Nat.le_of_ble_eq_true rfl)) dL_law_1156 ⟨hc, hs⟩) (fun _ h9 => h9) (fun _ h9 => h9) ?_
        refine lv_if_eq (tgt := 1175) hx hb dL_law_1159 (by decide) (fun c_7 => absurd c_7 (by decide)) (fun c_7 => ?_)
        refine lv_aload_n hx hb dL_law_1162 rfl (lv_at hl 1 rfl) ?_
        refine lv_iload hx hb dL_law_1163 (lv_at hl 4 rfl) ?_
        refine z_callE (x := 1) (vx_runS (As := [.ref (q 0), .int (nI (mN τ))]) (rest := []) ⟨hx, hb, hml, hown, hts⟩ (c_L_areTrucks l hf D cI q hq τ al sp hJ) (va_cwS 2 hts gL_law_L_areTrucks rfl rfl rfl kn_L_areTrucks ⟨Nat.le_of_ble_eq_true rfl, Nat.le_of_ble_eq_true rfl⟩) (pS_P (wA_G hP) hK hE hX) rfl rfl hl.1 rfl (lv_room (Nat.le_of_ble_eq_true rfl)) dL_law_1165 ⟨hc, hs⟩) (fun _ h9 => h9) (fun _ h9 => h9) ?_
        refine lv_if_eq (tgt := 1175) hx hb dL_law_1168 (by decide) (fun c_8 => absurd c_8 (by decide)) (fun c_8 => ?_)
        exact J1171
    refine lv_iload hx hb dL_law_1096 (lv_at hl 12 rfl) ?_
    refine lv_aload_n hx hb dL_law_1098 rfl (lv_at hl 1 rfl) ?_
    refine lv_iload hx hb dL_law_1099 (lv_at hl 13 rfl) ?_
    refine z_callE (x := mOwe τ i) (vx_runV (As := [.int (nI i)]) (rest := [.int (smS (mOwe τ) i)]) ⟨hx, hb, hml, hown, hts⟩ (c_X1_owed l hf D cI q (gOf τ) hq (nI i) (ok_J hJ) (hz_J hJ)) (cwV 1 hts gL_law_X1_owed rfl rfl rfl kd_X1_owed ⟨Nat.le_of_ble_eq_true rfl, Nat.le_of_ble_eq_true rfl⟩) (pV_P (wA_G hP) hK hE hX) rfl rfl hl.1 rfl (lv_room (Nat.le_of_ble_eq_true rfl)) dL_law_1101 ⟨hc, hs⟩) (fun E9 h9 => h9.1 (congrArg Prod.fst (vO (τ := τ) c_i))) (fun r9 h9 => h9.2.trans (congrArg (fun z => z.2.1) (vO (τ := τ) c_i))) ?_
    refine lv_iadd hx hb dL_law_1104 ?_
    refine lv_topE (y := smS (mOwe τ) (i + 1)) (rfl) ?_
    refine lv_istore (lv' := [(17, .int (smS (mOwe τ) (i + 1))), (0, .ref b), (1, .ref (q 0)), (2, .ref (q 12)), (3, .ref (q 13)), (4, .int (nI (mN τ))), (5, .int ow0), (6, .int 1), (7, .int (nI TN)), (8, .int (nI t)), (12, .int (nI P)), (13, .int (nI O)), (16, .int (bI (clB sp 14))), (18, .int (nI i))]) hx hb dL_law_1105 hl (by decide) rfl (fun ls hl => ?_)
    refine lv_iinc (v := nI (i + 1)) (lv' := [(18, .int (nI (i + 1))), (17, .int (smS (mOwe τ) (i + 1))), (0, .ref b), (1, .ref (q 0)), (2, .ref (q 12)), (3, .ref (q 13)), (4, .int (nI (mN τ))), (5, .int ow0), (6, .int 1), (7, .int (nI TN)), (8, .int (nI t)), (12, .int (nI P)), (13, .int (nI O)), (16, .int (bI (clB sp 14)))]) hx hb dL_law_1107 hl (k := 13) rfl (iincN i) (by decide) rfl (fun ls hl => ?_)
    refine lv_goto (tgt := 1089) hx hb dL_law_1110 (by decide) ?_
    exact ih_i (by omega) _ (lv_sub hl [2, 3, 4, 5, 6, 7, 8, 9, 10, 11, 12, 13, 1, 0] rfl)
  refine cutI (x := bI (clB sp (j + 1))) (pcM := 1075) (st := []) ?_ (fun JJ => ?_)
  rotate_left
  · skip
    refine lv_iload hx hb dL_law_1058 (lv_at hl 11 rfl) ?_
    refine eqB (clB sp j) (tgt := 1074) hx hb rfl dL_law_1060 (by decide) (fun c_q => ?_) (fun c_q => ?_)
    · skip
      refine lv_iconst (v := 0) hx hb dL_law_1074 (by decide) ?_
      exact JJ _ (by rw [clB, c_q]; rfl)
    refine lv_aload_n hx hb dL_law_1063 rfl (lv_at hl 3 rfl) ?_
    refine lv_iload hx hb dL_law_1064 (lv_at hl 12 rfl) ?_
    refine ald_13 (k := j) hx hb hK hP3 rfl c_j dL_law_1066 ?_
    refine lv_if_ne (tgt := 1074) hx hb dL_law_1067 (by decide) (fun c_w => ?_) (fun c_w => ?_)
    · skip
      refine lv_iconst (v := 0) hx hb dL_law_1074 (by decide) ?_
      exact JJ _ (by rw [clB, decide_eq_false c_w, Bool.and_false]; rfl)
    refine lv_iconst (v := 1) hx hb dL_law_1070 (by decide) ?_
    refine lv_goto (tgt := 1075) hx hb dL_law_1071 (by decide) ?_
    exact JJ _ (by rw [clB, c_q, decide_eq_true c_w]; rfl)
  refine lv_istore (lv' := [(16, .int (bI (clB sp (j + 1)))), (0, .ref b), (1, .ref (q 0)), (2, .ref (q 12)), (3, .ref (q 13)), (4, .int (nI (mN τ))), (5, .int ow0), (6, .int 1), (7, .int (nI TN)), (8, .int (nI t)), (12, .int (nI P)), (13, .int (nI O)), (17, .int (nI j))]) hx hb dL_law_1075 hl (by decide) rfl (fun ls hl => ?_)
  refine lv_iinc (v := nI (j + 1)) (lv' := [(17, .int (nI (j + 1))), (16, .int (bI (clB sp (j + 1)))), (0, .ref b), (1, .ref (q 0)), (2, .ref (q 12)), (3, .ref (q 13)), (4, .int (nI (mN τ))), (5, .int ow0), (6, .int 1), (7, .int (nI TN)), (8, .int (nI t)), (12, .int (nI P)), (13, .int (nI O))]) hx hb dL_law_1077 hl (k := 12) rfl (iincN j) (by decide) rfl (fun ls hl => ?_)
  refine lv_goto (tgt := 1051) hx hb dL_law_1080 (by decide) ?_
  exact ih_j (by omega) _ (lv_sub hl [2, 3, 4, 5, 6, 7, 8, 9, 10, 11, 12, 1, 0] rfl)
