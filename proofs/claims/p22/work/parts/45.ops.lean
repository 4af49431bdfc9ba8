/-! one call each: what it answers, and that everything stays -/
def Ok (τ τ' : SM) (al sp : Nat → Int32) (B : Int) : Prop := J τ' al sp ∧ OW (mOwe τ') (B + 20) ∧ GE (mOwe τ) (mOwe τ')
section OPS
variable {τ : SM} {al sp : Nat → Int32} {B : Int} {P O G : Nat}
theorem g_pal (hn : mN τ ≤ 14) (hP : P < mN τ) : palC (gOf τ) (nI P) = true := by
  show rngB 0 (nI (mN τ)) (nI P) = true
  rw [rngN0 (by omega) (by omega)]; exact decide_eq_true hP
theorem m_pal (hn : mN τ ≤ 14) (hP : P < mN τ) : palM τ (nI P) = true := by rw [← pal_eq hn]; exact g_pal hn hP
theorem g_good {G : Nat} (hG : G < 6) : rngB 0 6 (nI G) = true := by
  show rngB 0 (nI 6) (nI G) = true
  rw [rngN0 (by omega) (by omega)]; exact decide_eq_true hG
theorem m_good {G : Nat} (hG : G < 6) : inB (nI G) 0 5 = true := by rw [← rb6]; exact g_good hG
theorem p_nI {P : Nat} (hP : P < 2 ^ 31) : pN (nI P) = P := nI_clamp hP
theorem j_make (h : J τ al sp) (hB : OW (mOwe τ) B) (hb : B ≤ 90000) {d : Nat} (hd : d < 4) :
    (mN τ = 14 ∧ cMake (gOf τ) (nI d) = (3, 0, gOf τ)) ∨ (mN τ < 14 ∧ ∃ τ', cMake (gOf τ) (nI d) = (0, nI (mN τ), gOf τ') ∧ Ok τ τ' al sp B ∧ mN τ' = mN τ + 1) := by
  have hn := h.1.2.2.2.1
  have hr : rngB 0 4 (nI d) = true := by
    show rngB 0 (nI 4) (nI d) = true
    rw [rngN0 (by omega) (by omega)]; exact decide_eq_true hd
  have hr2 : inB (nI d) 0 3 = true := by rw [← rb4]; exact hr
  by_cases hc : mN τ < 14
  · have em : mMake τ (nI d) = (nI (mN τ), mwF (mtF (msThr τ 0) d) (mN τ) 0 0 0 0 0) := by
      unfold mMake
      rw [if_pos hr2, if_neg (by omega), p_nI (by omega)]
    have ht := t_make h.1 (nI d)
    rw [em] at ht
    have ec : cMake (gOf τ) (nI d) = (0, nI (mN τ), (cMake (gOf τ) (nI d)).2.2) := by
      unfold cMake
      rw [if_pos hr, if_pos (show gN (gOf τ) < 14 from hc)]
    obtain ⟨-, -, -, -, hs, hI⟩ := ht
    rw [hs] at ec
    obtain ⟨o1, o2⟩ := ow_mw (τ := mtF (msThr τ 0) d) (P := mN τ) (kd := 0) (g := 0) (a := 0) (o := 0) (i := 0) hB (by omega) h.2.2.2.2.2.2.1 (by decide)
    exact Or.inr ⟨hc, _, ec, ⟨⟨hI, K_make (τ := msThr τ 0) (Inv_thr h.1) hc h.2 (by omega)⟩, ow_le o1 (by omega), o2⟩, rfl⟩
  · refine Or.inl ⟨by omega, ?_⟩
    unfold cMake
    rw [if_pos hr, if_neg (show ¬ gN (gOf τ) < 14 from hc)]
theorem j_load (h : J τ al sp) (hB : OW (mOwe τ) B) (hb : B ≤ 90000) (hP : P < mN τ) (hG : G < 6) {a : Int32} (a0 : a ≠ 0) (a1 : -30 ≤ a.toInt) (a2 : a.toInt ≤ 30) :
    cLoad (gOf τ) (nI P) (nI G) a = (3, 0, gOf τ) ∨ ∃ τ', cLoad (gOf τ) (nI P) (nI G) a = (0, mGoo τ (P * 6 + G) + a, gOf τ') ∧ Ok τ τ' (va_up al G (al G + a)) sp B ∧ mN τ' = mN τ ∧ msF τ P = true ∧ 0 ≤ (mGoo τ (P * 6 + G) + a).toInt ∧ mGoo τ' (P * 6 + G) = mGoo τ (P * 6 + G) + a := by
  have hn := h.1.2.2.2.1
  have k1 : (palC (gOf τ) (nI P) && rngB 0 6 (nI G)) = true := by rw [g_pal hn hP, g_good hG]; rfl
  have hia : inB a (-99) 99 = true := by
    rw [inB_int, show (-99 : Int32).toInt = -99 by decide, show (99 : Int32).toInt = 99 by decide]; omega
  have k2 : (decide (¬ a = 0) && inB a (-99) 99) = true := by rw [hia, decide_eq_true a0]; rfl
  have ep : pN (nI P) = P := p_nI (by omega)
  have eg : pN (nI G) = G := p_nI (by omega)
  have ht := t_load h.1 (nI P) (nI G) a
  by_cases c : (wkC (gOf τ) P && (inB (mGoo τ (P * 6 + G) + a) 0 999 && hrC (gOf τ) (mHol τ P) (a * (nI G + 1)))) = true
  · refine Or.inr ?_
    have ec : cLoad (gOf τ) (nI P) (nI G) a = (0, mGoo τ (P * 6 + G) + a, (cLoad (gOf τ) (nI P) (nI G) a).2.2) := by
      unfold cLoad
      rw [if_pos k1, if_pos k2, ep, eg, if_pos c]
    have hw : mcF τ P = true := by
      rw [Bool.and_eq_true, wk_eq h.1 hP] at c; exact c.1
    have hr : 0 ≤ (mGoo τ (P * 6 + G) + a).toInt := by
      rw [Bool.and_eq_true, Bool.and_eq_true, inB_int] at c; exact c.2.1.1
    obtain ⟨u1, u2, u3⟩ := mc_un hw
    have c2 : clF τ P G a = true := by
      refine Classical.byContradiction (fun z => ?_)
      have e3 : mLoad τ (nI P) (nI G) a = (0, msThr τ 3) := by
        unfold mLoad
        rw [if_pos (by rw [m_pal hn hP, m_good hG]; rfl), if_pos (by rw [hia, decide_eq_true a0]; rfl), ep, eg, if_neg z]
      have q := ht.1
      rw [ec, e3] at q
      exact absurd (show nI 0 = 3 from q) (by decide)
    have em : mLoad τ (nI P) (nI G) a = (mGoo τ (P * 6 + G) + a, mwF (msGoo (msThr τ 0) (va_up (mGoo τ) (P * 6 + G) (mGoo τ (P * 6 + G) + a))) P (ldK a) (nI G) (ldA a) 0 0) := by
      unfold mLoad
      rw [if_pos (by rw [m_pal hn hP, m_good hG]; rfl), if_pos (by rw [hia, decide_eq_true a0]; rfl), ep, eg, if_pos c2]
    rw [em] at ht
    obtain ⟨-, -, -, -, hs, hI⟩ := ht
    rw [hs] at ec
    have hlk : (ldK a = 2 ∧ ldA a = -a ∧ a.toInt ≤ 0) ∨ (ldK a = 1 ∧ ldA a = a ∧ 0 < a.toInt) := by
      unfold ldK ldA
      by_cases q : a ≤ 0
      · rw [if_pos q, if_pos q]
        rw [Int32.le_iff_toInt_le, show (0 : Int32).toInt = 0 by decide] at q
        exact Or.inl ⟨rfl, rfl, q⟩
      · rw [if_neg q, if_neg q]
        rw [Int32.le_iff_toInt_le, show (0 : Int32).toInt = 0 by decide] at q
        exact Or.inr ⟨rfl, rfl, by omega⟩
    have hneg : (-a).toInt = -a.toInt := by
      rw [Int32.toInt_neg]; exact i_bm (by omega) (by omega)
    have hA : 0 ≤ (ldA a).toInt ∧ (ldA a).toInt ≤ 99 := by
      rcases hlk with ⟨-, e, q⟩ | ⟨-, e, q⟩
      · rw [e, hneg]; omega
      · rw [e]; omega
    have hs1 : sgnF (nI (ldK a)) * ldA a = a := by
      rcases hlk with ⟨e1, e2, -⟩ | ⟨e1, e2, -⟩
      · rw [e1, e2, show sgnF (nI 2) = -1 by decide, neg1, Int32.neg_neg]
      · rw [e1, e2, show sgnF (nI 1) = 1 by decide, Int32.one_mul]
    have hkd : ldK a = 1 ∨ ldK a = 2 := hlk.elim (fun z => Or.inr z.1) (fun z => Or.inl z.1)
    have hdl : ∀ g, g < 6 → dlG (nI G) (ldK a) (ldA a) g = if G = g then a else 0 := fun g hg => by rw [dlG_at hG hg, hs1]
    have hK := K_mw (τ := msThr τ 0) (P := P) (kd := ldK a) (gv := nI G) (a := ldA a) (o := 0) (i := 0) (goo' := va_up (mGoo τ) (P * 6 + G) (mGoo τ (P * 6 + G) + a)) (al' := va_up al G (al G + a)) h.1.1 h.2 hP u3 u2 (by omega) (by omega) (by omega) (by omega) (by rcases hkd with e | e <;> rw [e] <;> decide) hA (h.1.2.2.2.2.1 P) (fun Q hQ g hg => by
        rw [hdl g hg, up_if]
        by_cases q : Q = P
        · subst q
          by_cases q2 : G = g
          · subst q2; rw [if_pos rfl, if_pos rfl, if_pos rfl]
          · rw [if_neg (by omega), if_pos rfl, if_neg q2, Int32.add_zero]
        · rw [if_neg (by omega), if_neg q, Int32.add_zero]) (fun g hg => by
        rw [hdl g hg, up_if]
        by_cases q2 : G = g
        · subst q2; rw [if_pos rfl, if_pos rfl]
        · rw [if_neg (fun z => q2 z.symm), if_neg q2, Int32.add_zero])
    obtain ⟨o1, o2⟩ := ow_mw (τ := msGoo (msThr τ 0) (va_up (mGoo τ) (P * 6 + G) (mGoo τ (P * 6 + G) + a))) (P := P) (kd := ldK a) (g := nI G) (a := ldA a) (o := 0) (i := 0) hB (by omega) h.2.2.2.2.2.2.1 (by omega)
    refine ⟨_, ec, ⟨⟨hI, hK⟩, ow_le o1 (by omega), o2⟩, rfl, ?_, hr, va_up_self _ _ _⟩
    unfold mcF at hw
    simp only [Bool.and_eq_true] at hw
    exact hw.2.2.2
  · refine Or.inl ?_
    unfold cLoad
    rw [if_pos k1, if_pos k2, ep, eg, if_neg c]
theorem adj_part {a : Int32} (hm : ∀ Q, mMan τ Q ≤ 30) (hmP : mMan τ P < 30) (hne : P ≠ mN τ) (hmN : mMan τ (mN τ) < 30) (hP14 : P < 14) {τ' : SM} (e1 : mKin τ' = va_up (va_up (mKin τ) (P * 30 + mMan τ P) (nI 3)) (mN τ * 30 + mMan τ (mN τ)) (nI 4)) (e2 : mOth τ' = va_up (va_up (mOth τ) (P * 30 + mMan τ P) a) (mN τ * 30 + mMan τ (mN τ)) (nI P)) (e3 : mMan τ' = va_up (va_up (mMan τ) P (mMan τ P + 1)) (mN τ) (mMan τ (mN τ) + 1)) : ∀ x y, adjM τ' x y ↔ adjM τ x y ∨ (x = mN τ ∧ y = P) := fun x y => by
  have eN : va_up (mMan τ) P (mMan τ P + 1) (mN τ) = mMan τ (mN τ) := va_up_ne _ _ (fun z => hne z.symm)
  have m2 := man_app hmP hm
  have q2 := adj_app (kin := va_up (mKin τ) (P * 30 + mMan τ P) (nI 3)) (oth := va_up (mOth τ) (P * 30 + mMan τ P) a) (man := va_up (mMan τ) P (mMan τ P + 1)) (P := mN τ) (kd := 4) (ov := nI P) (wc := true) m2 (by rw [eN]; exact hmN) (x := x) (y := y)
  rw [eN] at q2
  rw [adjM_C, adjM_C, e1, e2, e3]
  refine q2.trans ⟨fun z => ?_, fun z => ?_⟩
  · rcases z with z | ⟨z1, -, z3, z4⟩
    · rcases (adj_app hm hmP).mp z with z | ⟨-, z2, -⟩
      · exact Or.inl z
      · rcases z2 with z2 | ⟨z2, -⟩
        · exact absurd z2 (by decide)
        · exact absurd z2 (by decide)
    · exact Or.inr ⟨z1, ((nI_eq (by omega) (by omega)).mp z3).symm⟩
  · rcases z with z | ⟨z1, z2⟩
    · exact Or.inl ((adj_app hm hmP).mpr (Or.inl z))
    · exact Or.inr ⟨z1, Or.inr ⟨rfl, rfl⟩, by rw [z2], by omega⟩
theorem j_part (h : J τ al sp) (hB : OW (mOwe τ) B) (hb : B ≤ 90000) (hP : P < mN τ) (hG : G < 6) {a : Int32} (a1 : 1 ≤ a.toInt) (a2 : a.toInt ≤ 30) :
    cPart (gOf τ) (nI P) (nI G) a = (3, 0, gOf τ) ∨ ∃ τ', cPart (gOf τ) (nI P) (nI G) a = (0, nI (mN τ), gOf τ') ∧ Ok τ τ' al sp B ∧ mN τ' = mN τ + 1 ∧ mGoo τ' (mN τ * 6 + G) = a ∧ mGoo τ' (P * 6 + G) = mGoo τ (P * 6 + G) - a ∧ msF τ' (mN τ) = true ∧ mHol τ' (mN τ) = mHol τ' P := by
  have hn := h.1.2.2.2.1
  have k1 : (palC (gOf τ) (nI P) && rngB 0 6 (nI G)) = true := by rw [g_pal hn hP, g_good hG]; rfl
  have k2 : inB a 1 99 = true := by
    rw [inB_int, show (1 : Int32).toInt = 1 by decide, show (99 : Int32).toInt = 99 by decide]; omega
  have ep : pN (nI P) = P := p_nI (by omega)
  have eg : pN (nI G) = G := p_nI (by omega)
  have ht := t_part h.1 (nI P) (nI G) a
  by_cases c : (wkC (gOf τ) P && (decide (¬ mGoo τ (P * 6 + G) < a) && decide (mN τ < 14))) = true
  · refine Or.inr ?_
    have ec : cPart (gOf τ) (nI P) (nI G) a = (0, nI (mN τ), (cPart (gOf τ) (nI P) (nI G) a).2.2) := by
      unfold cPart
      rw [if_pos k1, if_pos k2, ep, eg, if_pos c]
    rw [Bool.and_eq_true, Bool.and_eq_true, decide_eq_true_iff, decide_eq_true_iff, wk_eq h.1 hP] at c
    obtain ⟨hw, c1, c2⟩ := c
    obtain ⟨u1, u2, u3⟩ := mc_un hw
    have em : mPart τ (nI P) (nI G) a = (nI (mN τ), mwF (mPart2 τ P G a) (mN τ) 4 (nI G) a (nI P) (nI (mMan (mPart2 τ P G a) P - 1))) := by
      unfold mPart
      rw [if_pos (by rw [m_pal hn hP, m_good hG]; rfl), if_pos k2, ep, eg, if_pos (by rw [decide_eq_true c1, decide_eq_true c2, hw]; rfl)]
    rw [em] at ht
    obtain ⟨-, -, -, -, hs, hI⟩ := ht
    rw [hs] at ec
    obtain ⟨hBB, hT, hC, -, hhol, -⟩ := id h.1
    obtain ⟨n0, n1, n2⟩ := new_no h.1
    have hne : P ≠ mN τ := by omega
    have eN : va_up (mMan τ) P (mMan τ P + 1) (mN τ) = mMan τ (mN τ) := va_up_ne _ _ (fun z => hne z.symm)
    have eM : mMan (mPart2 τ P G a) P = mMan τ P + 1 := va_up_self _ _ _
    rw [eM, show mMan τ P + 1 - 1 = mMan τ P by omega] at hI ec
    have hK := K_part (τ := msThr τ 0) (P := P) (G := G) (h := mHol τ P) (a := a) (goo' := va_up (va_up (mGoo τ) (P * 6 + G) (mGoo τ (P * 6 + G) - a)) (mN τ * 6 + G) a) (Inv_thr h.1) c2 h.2 hP u3 u2 hG (by omega) (hhol P) (fun Q hQ g hg => by
      rw [dlG_at hG hg, dlG_at hG hg, show sgnF (nI 3) = -1 by decide, show sgnF (nI 4) = 1 by decide, neg1, Int32.one_mul, up_if, up_if]
      show _ = mGoo τ (Q * 6 + g) + (if Q = P then (if G = g then -a else 0) else 0) + (if Q = mN τ then (if G = g then a else 0) else 0)
      by_cases q : Q = mN τ
      · subst q
        rw [if_neg (show ¬ mN τ = P from fun z => hne z.symm), if_pos rfl, show mGoo τ (mN τ * 6 + g) = 0 from hT.2.1 _ (by omega), Int32.add_zero, Int32.zero_add]
        by_cases q2 : G = g
        · subst q2; rw [if_pos rfl, if_pos rfl]
        · rw [if_neg (by omega), if_neg (by omega), if_neg q2]
      · rw [if_neg (by omega), if_neg q, Int32.add_zero]
        by_cases q3 : Q = P
        · subst q3
          by_cases q2 : G = g
          · subst q2; rw [if_pos rfl, if_pos rfl, if_pos rfl, Int32.sub_eq_add_neg]
          · rw [if_neg (by omega), if_pos rfl, if_neg q2, Int32.add_zero]
        · rw [if_neg (by omega), if_neg q3, Int32.add_zero])
    have n0' : mMan (msThr τ 0) (mN (msThr τ 0)) = 0 := n0
    rw [n0'] at hK
    have hKv : Kv (mwF (mPart2 τ P G a) (mN τ) 4 (nI G) a (nI P) (nI (mMan τ P))) (va_up (va_up (mGoo τ) (P * 6 + G) (mGoo τ (P * 6 + G) - a)) (mN τ * 6 + G) a) al sp := hK
    obtain ⟨o1, o2⟩ := ow_mw (τ := mPart1 τ P G a) (P := P) (kd := 3) (g := nI G) (a := a) (o := nI (mN τ)) (i := 0) hB (by omega) h.2.2.2.2.2.2.1 (by decide)
    obtain ⟨o3, o4⟩ := ow_mw (τ := mPart2 τ P G a) (P := mN τ) (kd := 4) (g := nI G) (a := a) (o := nI P) (i := nI (mMan τ P)) o1 (by omega) h.2.2.2.2.2.2.1 (by decide)
    have hsnd : msF τ P = true := by
      unfold mcF at hw
      simp only [Bool.and_eq_true] at hw
      exact hw.2.2.2
    have hspN : sp (mN τ) = 0 := by
      rcases h.2.1.2.2.1 (mN τ) with q | ⟨E, q, -⟩
      · exact q
      · rw [n0] at q; exact absurd q (Nat.not_lt_zero _)
    have m2 := hKv.1
    refine ⟨_, ec, ⟨⟨hI, hKv⟩, ow_le o3 (by omega), ge_tr o2 o4⟩, rfl, va_up_self _ _ _, ?_, ?_, ?_⟩
    · show va_up (va_up (mGoo τ) (P * 6 + G) (mGoo τ (P * 6 + G) - a)) (mN τ * 6 + G) a (P * 6 + G) = _
      rw [va_up_ne _ _ (by omega), va_up_self]
    · refine ms_part h.2.1 hKv.1 hBB.2.1 hI.1.2.1 hspN hsnd (by omega) (adj_part (a := nI (mN τ)) hBB.2.1 u3 hne (by rw [n0]; decide) (by omega) ?_ ?_ ?_) (fun y hy => ?_)
      · show va_up (va_up (mKin τ) (P * 30 + mMan τ P) (nI 3)) (mN τ * 30 + va_up (mMan τ) P (mMan τ P + 1) (mN τ)) (nI 4) = _
        rw [eN]
      · show va_up (va_up (mOth τ) (P * 30 + mMan τ P) (nI (mN τ))) (mN τ * 30 + va_up (mMan τ) P (mMan τ P + 1) (mN τ)) (nI P) = _
        rw [eN]
      · show va_up (va_up (mMan τ) P (mMan τ P + 1)) (mN τ) (va_up (mMan τ) P (mMan τ P + 1) (mN τ) + 1) = _
        rw [eN]
      · obtain ⟨e, he, -⟩ := hy
        rw [n0] at he; exact absurd he (Nat.not_lt_zero _)
    · show va_up (mHol τ) (mN τ) (mHol τ P) (mN τ) = va_up (mHol τ) (mN τ) (mHol τ P) P
      rw [va_up_self, va_up_ne _ _ hne]
  · refine Or.inl ?_
    unfold cPart
    rw [if_pos k1, if_pos k2, ep, eg, if_neg c]
end OPS
