/-! join, move, hold, spoil, repair -/
section OPT
variable {τ : SM} {al sp : Nat → Int32} {B : Int} {P O G : Nat}
theorem jn_sum {goo : Nat → Int32} (hne : P ≠ O) (hb : ∀ g, g < 6 → 0 ≤ (goo (O * 6 + g) + goo (P * 6 + g)).toInt ∧ (goo (O * 6 + g) + goo (P * 6 + g)).toInt ≤ 999) : ∀ k, k ≤ 6 → 0 ≤ ((jnS P O goo k).2).toInt ∧ ((jnS P O goo k).2).toInt ≤ 999 * (k : Int)
  | 0, _ => ⟨by show 0 ≤ (0 : Int32).toInt; decide, by show (0 : Int32).toInt ≤ _; decide⟩
  | k + 1, hk => by
    have ih := jn_sum hne hb k (by omega)
    have hk6 := hb k (by omega)
    obtain ⟨v1, v2, v3⟩ := jn_val (goo := goo) hne (k + 1) hk
    have e : (jnS P O goo (k + 1)).2 = (jnS P O goo k).2 + (jnS P O goo (k + 1)).1 (O * 6 + k) := rfl
    rw [e, v2 k (by omega), if_pos (by omega), i_add (by omega) (by omega)]
    omega
theorem adj_join (hm : ∀ Q, mMan τ Q ≤ 30) (hmP : mMan τ P < 30) (hmO : mMan τ O < 30) (hne : P ≠ O) (hP14 : P < 14) : ∀ x y, adjM (mJoin3 (mJoin2 τ P O) P) x y ↔ adjM τ x y ∨ (x = O ∧ y = P) := fun x y => by
  have eP : va_up (mMan τ) O (mMan τ O + 1) P = mMan τ P := va_up_ne _ _ hne
  have m2 := man_app hmO hm
  have q2 := adj_app (kin := va_up (mKin τ) (O * 30 + mMan τ O) (nI 5)) (oth := va_up (mOth τ) (O * 30 + mMan τ O) (nI P)) (man := va_up (mMan τ) O (mMan τ O + 1)) (P := P) (kd := 6) (ov := nI O) (wc := true) m2 (by rw [eP]; exact hmP) (x := x) (y := y)
  rw [adjM_C, adjM_C]
  refine q2.trans ⟨fun z => ?_, fun z => ?_⟩
  · rcases z with z | ⟨-, z2, -⟩
    · rcases (adj_app hm hmO).mp z with z | ⟨z1, -, z3, z4⟩
      · exact Or.inl z
      · exact Or.inr ⟨z1, ((nI_eq (by omega) (by omega)).mp z3).symm⟩
    · rcases z2 with z2 | ⟨z2, -⟩
      · exact absurd z2 (by decide)
      · exact absurd z2 (by decide)
  · refine Or.inl ((adj_app hm hmO).mpr ?_)
    rcases z with z | ⟨z1, z2⟩
    · exact Or.inl z
    · exact Or.inr ⟨z1, Or.inl rfl, by rw [z2], by omega⟩
theorem j_join (h : J τ al sp) (hB : OW (mOwe τ) B) (hb : B ≤ 90000) (hP : P < mN τ) (hO : O < mN τ) :
    (P = O ∧ cJoin (gOf τ) (nI P) (nI O) = (2, 0, gOf τ)) ∨ (P ≠ O ∧ cJoin (gOf τ) (nI P) (nI O) = (3, 0, gOf τ)) ∨ (P ≠ O ∧ ∃ τ' v, cJoin (gOf τ) (nI P) (nI O) = (0, v, gOf τ') ∧ 0 ≤ v.toInt ∧ Ok τ τ' al sp B ∧ mN τ' = mN τ ∧ mGon τ' P = true ∧ msF τ' P = true ∧ msF τ' O = true ∧ mHol τ' P = mHol τ' O) := by
  have hn := h.1.2.2.2.1
  have k1 : (palC (gOf τ) (nI P) && palC (gOf τ) (nI O)) = true := by rw [g_pal hn hP, g_pal hn hO]; rfl
  have ep : pN (nI P) = P := p_nI (by omega)
  have eo : pN (nI O) = O := p_nI (by omega)
  by_cases hne : P = O
  · refine Or.inl ⟨hne, ?_⟩
    unfold cJoin
    rw [if_pos k1, if_pos (by rw [hne])]
  · have hne2 : ¬ nI P = nI O := fun z => hne ((nI_eq (by omega) (by omega)).mp z)
    refine Or.inr ?_
    have ht := t_join h.1 (nI P) (nI O)
    by_cases c : (wkC (gOf τ) P && (wkC (gOf τ) O && (decide (mHol τ P = mHol τ O) && ctF (mGoo τ) P O))) = true
    · refine Or.inr ⟨hne, ?_⟩
      have ec : cJoin (gOf τ) (nI P) (nI O) = (0, (jnS P O (mGoo τ) 6).2, (cJoin (gOf τ) (nI P) (nI O)).2.2) := by
        unfold cJoin
        rw [if_pos k1, if_neg hne2, ep, eo, if_pos c]
      have cc := c
      rw [Bool.and_eq_true, Bool.and_eq_true, Bool.and_eq_true, decide_eq_true_iff, wk_eq h.1 hP, wk_eq h.1 hO, ct_iff] at c
      obtain ⟨w1, w2, c1, c2⟩ := c
      obtain ⟨u1, u2, u3⟩ := mc_un w1
      obtain ⟨v1, v2, v3⟩ := mc_un w2
      have cj : cjF τ P O = true := by
        unfold cjF
        rw [cj_iff, Bool.and_eq_true, Bool.and_eq_true]
        exact ⟨⟨decide_eq_true c1, w1, w2⟩, c2⟩
      have em : mJoin τ (nI P) (nI O) = ((jnS P O (mGoo τ) 6).2, mJoin3 (mJoin2 τ P O) P) := by
        unfold mJoin
        rw [if_pos (by rw [m_pal hn hP, m_pal hn hO]; rfl), if_neg hne2, ep, eo, if_pos cj]
      rw [em] at ht
      obtain ⟨-, -, -, -, hs, hI⟩ := ht
      rw [hs] at ec
      obtain ⟨hBB, hT, hC, -, hhol, -⟩ := id h.1
      have hK := K_join h.1 h.2 hP hO hne u3 v3 u2 v2
      have hKv : Kv (mJoin3 (mJoin2 τ P O) P) (mGoo (mJoin3 (mJoin2 τ P O) P)) al sp := hK
      obtain ⟨o1, o2⟩ := ow_mw (τ := msGoo (msThr τ 0) (jnS P O (mGoo τ) 6).1) (P := O) (kd := 5) (g := 0) (a := 0) (o := nI P) (i := nI (mMan τ P)) hB (by omega) h.2.2.2.2.2.2.1 (by decide)
      obtain ⟨o3, o4⟩ := ow_mw (τ := mJoin1 τ P O) (P := P) (kd := 6) (g := 0) (a := 0) (o := nI O) (i := nI (mMan τ O)) o1 (by omega) h.2.2.2.2.2.2.1 (by decide)
      have s1 : msF τ P = true := by unfold mcF at w1; simp only [Bool.and_eq_true] at w1; exact w1.2.2.2
      have s2 : msF τ O = true := by unfold mcF at w2; simp only [Bool.and_eq_true] at w2; exact w2.2.2.2
      have hsnd := ms_join h.2.1 hKv.1 hBB.2.1 hI.1.2.1 s1 s2 (adj_join hBB.2.1 u3 v3 hne (by omega))
      refine ⟨_, _, ec, (jn_sum hne (fun g hg => ?_) 6 (Nat.le_refl _)).1, ⟨⟨hI, hKv⟩, ow_le o3 (by omega), ge_tr o2 o4⟩, rfl, va_up_self _ _ _, hsnd.1, hsnd.2, c1⟩
      have q := c2 g hg
      have q1 := hT.1 (P * 6 + g)
      have q2 := hT.1 (O * 6 + g)
      rw [Int32.lt_iff_toInt_lt, i_add (by omega) (by omega), show (999 : Int32).toInt = 999 by decide] at q
      rw [i_add (by omega) (by omega)]
      omega
    · refine Or.inl ⟨hne, ?_⟩
      unfold cJoin
      rw [if_pos k1, if_neg hne2, ep, eo, if_neg c]
theorem dlG_none {gv a : Int32} {kd g Q P : Nat} {x : Int32} (h : sgnF (nI kd) = 0 ∨ a = 0) : x = x + (if Q = P then dlG gv kd a g else 0) := by
  rw [dlG_0 h]; simp
theorem j_move (h : J τ al sp) (hB : OW (mOwe τ) B) (hb : B ≤ 90000) (hP : P < mN τ) (hG : G < 6) :
    cMove (gOf τ) (nI P) (nI G) = (3, 0, gOf τ) ∨ ∃ τ', cMove (gOf τ) (nI P) (nI G) = (0, wS (mGoo τ) P 6, gOf τ') ∧ Ok τ τ' al sp B ∧ mN τ' = mN τ ∧ mHol τ' P = G := by
  have hn := h.1.2.2.2.1
  have k1 : (palC (gOf τ) (nI P) && rngB 0 6 (nI G)) = true := by rw [g_pal hn hP, g_good hG]; rfl
  have ep : pN (nI P) = P := p_nI (by omega)
  have eg : pN (nI G) = G := p_nI (by omega)
  have ht := t_move h.1 (nI P) (nI G)
  by_cases c : (wkC (gOf τ) P && (decide (¬ decide (mHol τ P < 4) = decide (G < 4)) && hrC (gOf τ) G (wS (mGoo τ) P 6))) = true
  · refine Or.inr ?_
    have ec : cMove (gOf τ) (nI P) (nI G) = (0, wS (mGoo τ) P 6, (cMove (gOf τ) (nI P) (nI G)).2.2) := by
      unfold cMove
      rw [if_pos k1, ep, eg, if_pos c]
    rw [Bool.and_eq_true, Bool.and_eq_true, wk_eq h.1 hP] at c
    obtain ⟨w1, c1, c2⟩ := c
    obtain ⟨u1, u2, u3⟩ := mc_un w1
    have em : mMove τ (nI P) (nI G) = (wS (mGoo τ) P 6, msHol (mMove1 τ P G) (va_up (mHol (mMove1 τ P G)) P G)) := by
      unfold mMove
      rw [if_pos (by rw [m_pal hn hP, m_good hG]; rfl), ep, eg, if_pos (by rw [c1, w1]; exact c2)]
    rw [em] at ht
    obtain ⟨-, -, -, -, hs, hI⟩ := ht
    rw [hs] at ec
    have hGi : (nI G).toInt = (G : Int) := nI_toInt (by omega)
    have hK := K_mw (τ := msThr τ 0) (P := P) (kd := 7) (gv := 0) (a := nI G) (o := 0) (i := 0) (goo' := mGoo τ) (al' := al) h.1.1 h.2 hP u3 u2 (by decide) (by decide) (by decide) (by decide) (by decide) (by omega) (h.1.2.2.2.2.1 P) (fun Q hQ g hg => dlG_none (Or.inl (by decide))) (fun g hg => by rw [dlG_0 (Or.inl (by decide)), Int32.add_zero])
    obtain ⟨o1, o2⟩ := ow_mw (τ := msThr τ 0) (P := P) (kd := 7) (g := 0) (a := nI G) (o := 0) (i := 0) hB (by omega) h.2.2.2.2.2.2.1 (by decide)
    exact ⟨_, ec, ⟨⟨hI, hK⟩, ow_le o1 (by omega), o2⟩, rfl, va_up_self _ _ _⟩
  · refine Or.inl ?_
    unfold cMove
    rw [if_pos k1, ep, eg, if_neg c]
theorem j_hold (h : J τ al sp) (hB : OW (mOwe τ) B) (hb : B ≤ 90000) (hP : P < mN τ) :
    ((mGon τ P = true ∨ mMan τ P = 30) ∧ cHold (gOf τ) (nI P) = (3, false, gOf τ)) ∨ ∃ τ', cHold (gOf τ) (nI P) = (0, !mHel τ P, gOf τ') ∧ Ok τ τ' al sp B ∧ mN τ' = mN τ := by
  have hn := h.1.2.2.2.1
  have ep : pN (nI P) = P := p_nI (by omega)
  have ht := t_hold h.1 (nI P)
  have hm := h.1.1.2.1 P
  by_cases c : ((!decide (lkC (gOf τ) P = 6)) && decide (mMan τ P < 30)) = true
  · refine Or.inr ?_
    have ec : cHold (gOf τ) (nI P) = (0, !mHel τ P, (cHold (gOf τ) (nI P)).2.2) := by
      unfold cHold
      rw [if_pos (g_pal hn hP), ep, if_pos c, hel_eq h.1]
    rw [gon_eq h.1, Bool.and_eq_true, decide_eq_true_iff, Bool.not_eq_true'] at c
    obtain ⟨c1, c2⟩ := c
    have em : mHold τ (nI P) = (!mHel τ P, mwF (mHold1 τ P) P (hdK (mHel τ P)) 0 0 0 0) := by
      unfold mHold
      rw [if_pos (m_pal hn hP), ep, if_neg]
      rw [Bool.or_eq_true, decide_eq_true_iff, c1]
      rintro (z | z)
      · cases z
      · omega
    rw [em] at ht
    obtain ⟨-, -, -, -, hs, hI⟩ := ht
    rw [hs] at ec
    have hk : hdK (mHel τ P) = 8 ∨ hdK (mHel τ P) = 9 := by cases mHel τ P <;> decide
    have hK := K_mw (τ := msThr τ 0) (P := P) (kd := hdK (mHel τ P)) (gv := 0) (a := 0) (o := 0) (i := 0) (goo' := mGoo τ) (al' := al) h.1.1 h.2 hP c2 c1 (hdK_lt _) (by omega) (by omega) (by omega) (by rcases hk with e | e <;> rw [e] <;> decide) (by decide) (h.1.2.2.2.2.1 P) (fun Q hQ g hg => dlG_none (Or.inr rfl)) (fun g hg => by rw [dlG_0 (Or.inr rfl), Int32.add_zero])
    obtain ⟨o1, o2⟩ := ow_mw (τ := mHold1 τ P) (P := P) (kd := hdK (mHel τ P)) (g := 0) (a := 0) (o := 0) (i := 0) hB (by omega) h.2.2.2.2.2.2.1 (hdK_lt _)
    exact ⟨_, ec, ⟨⟨hI, hK⟩, ow_le o1 (by omega), o2⟩, rfl⟩
  · refine Or.inl ⟨?_, ?_⟩
    · rw [gon_eq h.1] at c
      cases q : mGon τ P
      · refine Or.inr ?_
        rw [q] at c
        have : ¬ mMan τ P < 30 := fun z => c (by rw [decide_eq_true z]; rfl)
        omega
      · exact Or.inl rfl
    · unfold cHold
      rw [if_pos (g_pal hn hP), ep, if_neg c]
theorem g_ent (h : Inv τ) {E : Nat} (hP : P < mN τ) (hE : E < mMan τ P) : entC (gOf τ) (nI P) (nI E) = true := by
  have hn := h.2.2.2.1
  have hm := h.1.2.1 P
  unfold entC
  rw [g_pal hn hP, p_nI (by omega)]
  show rngB 0 (nI (mMan τ P)) (nI E) = true
  rw [rngN0 (by omega) (by omega)]; exact decide_eq_true hE
theorem j_spoil (h : J τ al sp) (hB : OW (mOwe τ) B) (hP : P < mN τ) {E : Nat} (hE : E < mMan τ P) (hs : sp P = 0) {v : Int32} (hv : v ≠ mAmo τ (P * 30 + E)) (v1 : -999 ≤ v.toInt) (v2 : v.toInt ≤ 999) :
    ∃ τ', cSpoil (gOf τ) (nI P) (nI E) v = (0, mAmo τ (P * 30 + E), gOf τ') ∧ Ok τ τ' al (va_up sp P (nI (E + 1))) B ∧ mN τ' = mN τ := by
  have hn := h.1.2.2.2.1
  have hm := h.1.1.2.1
  have hmP := hm P
  have hw : mAmo τ (P * 30 + E) = mWas τ (P * 30 + E) := (h.2.1.2.1 P E hE).2 (by
    rw [hs]
    intro y
    exact absurd ((nI_eq (a := 0) (by omega) (by omega)).mp y) (by omega))
  refine ⟨msAmo τ (va_up (mAmo τ) (P * 30 + E) v), ?_, ⟨⟨h.1, ?_⟩, ow_le hB (by omega), ge_rf⟩, rfl⟩
  · unfold cSpoil
    rw [if_pos (g_ent h.1 hP hE), if_pos (by rw [inB_int, show (-999 : Int32).toInt = -999 by decide, show (999 : Int32).toInt = 999 by decide]; exact ⟨v1, v2⟩), p_nI (by omega), p_nI (by omega)]
    rw [show gNum (gOf τ) ((P * 30 + E) * 6 + 3) = mAmo τ (P * 30 + E) from nc3]
    exact congrArg (fun z => (0, mAmo τ (P * 30 + E), z)) (sgEq rfl rfl rfl rfl rfl rfl nc_up3 rfl rfl rfl rfl)
  · obtain ⟨a1, a2⟩ := h.2
    exact ⟨JE_spoil a1 hm hE hs (fun z => hv (z.trans hw.symm)) ⟨v1, v2⟩, a2⟩
theorem fst_r {f : Nat → Bool} : ∀ d k, fstF f d k = -1 ∨ ∃ j, k ≤ j ∧ j < k + d ∧ fstF f d k = nI j
  | 0, _ => Or.inl rfl
  | d + 1, k => by
    rw [fstF]
    by_cases q : f k = true
    · rw [if_pos q]; exact Or.inr ⟨k, Nat.le_refl _, by omega, rfl⟩
    · rw [if_neg q]
      rcases fst_r (f := f) d (k + 1) with z | ⟨j, h1, h2, h3⟩
      · exact Or.inl z
      · exact Or.inr ⟨j, by omega, by omega, h3⟩
theorem j_rep0 (h : J τ al sp) (hP : P < mN τ) (hs : sp P = 0) : cRepair (gOf τ) (nI P) (nI 0) = (3, 0, gOf τ) := by
  have hn := h.1.2.2.2.1
  have hpos := h.2.2.2.1 P hP
  have hb : mbB τ P 0 = false := by
    cases q : mbB τ P 0
    · rfl
    · have := (mb_iff h.2.1 hpos).mp q
      rw [hs] at this
      exact absurd ((nI_eq (a := 0) (by omega) (by omega)).mp this) (by omega)
  have e1 : brkB (gPrf (gOf τ)) (gNum (gOf τ)) P 0 = false := (congrFun brk_eq 0).trans hb
  unfold cRepair
  rw [if_pos (g_ent h.1 hP hpos), p_nI (by omega), show pN (nI 0) = 0 from rfl, e1, Bool.false_and, if_neg Bool.false_ne_true]
theorem j_rep (h : J τ al sp) (hB : OW (mOwe τ) B) (hb : B ≤ 90000) (hP : P < mN τ) {E : Nat} (hE : E < mMan τ P) (hs : sp P = nI (E + 1)) :
    ∃ τ' k, k < 7 ∧ cRepair (gOf τ) (nI P) (nI E) = (0, nI k, gOf τ') ∧ Ok τ τ' al (va_up sp P 0) B ∧ mN τ' = mN τ := by
  have hn := h.1.2.2.2.1
  have hm := h.1.1.2.1
  have hmP := hm P
  have e1 : brkB (gPrf (gOf τ)) (gNum (gOf τ)) P E = true := (congrFun brk_eq E).trans ((mb_iff h.2.1 hE).mpr hs)
  have hlo : ¬ loF (mCop τ (P * 30 + E)) = -1 := fun z => h.2.1.2.2.2.2.2.1 P E hE ((lo_iff (h.1.2.2.1.1 _)).mp z)
  obtain ⟨k, -, k2, k3⟩ := (fst_r (f := fun k => isB (mCop τ (P * 30 + E)) (nI k)) 7 0).resolve_left hlo
  obtain ⟨o1, o2⟩ := ow_up (w := mHol τ P) (x := 5) (d := 5) hB (by omega) (by decide) (by decide) (by decide)
  refine ⟨mRep1 τ P E, k, by omega, ?_, ⟨⟨h.1, ?_⟩, ow_le o1 (by omega), o2⟩, rfl⟩
  · unfold cRepair
    rw [if_pos (g_ent h.1 hP hE), p_nI (by omega), p_nI (by omega), e1, Bool.true_and, if_pos (decide_eq_true hlo)]
    rw [show loF (gCop (gOf τ) (P * 30 + E)) = nI k from k3]
    exact congrArg (fun z => (0, nI k, z)) (sgEq rfl rfl rfl rfl rfl rfl nc_up3 rfl rfl rfl rfl)
  · obtain ⟨a1, a2⟩ := h.2
    exact ⟨JE_rep a1 hm hE hs, a2⟩
end OPT
