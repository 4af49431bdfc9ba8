/-! two entries at once: part, join; what is sound; debts -/
theorem neg1 {a : Int32} : (-1) * a = -a := by rw [show (-1 : Int32) = -(1) from rfl, Int32.neg_mul, Int32.one_mul]
section TWO
variable {τ : SM} {goo goo' al sp : Nat → Int32} {P O G h : Nat} {a : Int32}
theorem K_part (hI : Inv τ) (hn : mN τ < 14) (hK : Kv τ (mGoo τ) al sp) (hP : P < mN τ) (hm : mMan τ P < 30) (hg : mGon τ P = false) (hG : G < 6) (ha : 0 ≤ a.toInt ∧ a.toInt ≤ 99) (hh : h < 6)
    (hgoo : ∀ Q, Q < mN τ + 1 → ∀ g, g < 6 → goo' (Q * 6 + g) = mGoo τ (Q * 6 + g) + (if Q = P then dlG (nI G) 3 a g else 0) + (if Q = mN τ then dlG (nI G) 4 a g else 0)) :
    Kv (mwF (mwF (mtF τ h) P 3 (nI G) a (nI (mN τ)) (nI (mMan τ (mN τ)))) (mN τ) 4 (nI G) a (nI P) (nI (mMan τ P))) goo' al sp := by
  obtain ⟨k1, k2, k3, k4, k5, k6, k7⟩ := hK
  obtain ⟨hB, hT, hC, hn14, hhol, hw⟩ := id hI
  obtain ⟨n0, -, n2⟩ := new_no hI
  have hne : P ≠ mN τ := by omega
  have eN : va_up (mMan τ) P (mMan τ P + 1) (mN τ) = mMan τ (mN τ) := va_up_ne _ _ (fun z => hne z.symm)
  have hm30 : mMan τ (mN τ) < 30 := by rw [n0]; decide
  have m2 := man_app hm hB.2.1
  have hpos := k3 P hP
  have hw1 : ∀ i, i < mGor τ → mWen τ i < mN τ + 1 ∧ mGon τ (mWen τ i) = true := fun i hi => ⟨by have := (hB.2.2.2.2.2.2.1 i hi).1; omega, (hB.2.2.2.2.2.2.1 i hi).2⟩
  have j1 : JEs (mwF (mtF τ h) P 3 (nI G) a (nI (mN τ)) (nI (mMan τ (mN τ)))) sp := JE_mw (τ := mtF τ h) k1 hB.2.1 hm (by decide) ⟨fun z => by omega, fun z => absurd z (Nat.pos_iff_ne_zero.mp hpos)⟩ (no6 (τ := τ) hB k1 hg) ha (by
    show va_up (mHol τ) (mN τ) h P < 6
    rw [va_up_ne _ _ hne]; exact hhol P)
  refine ⟨?_, ?_, fun Q hQ => ?_, ?_, ?_, k6, k7⟩
  · refine JE_mw (τ := mwF (mtF τ h) P 3 (nI G) a (nI (mN τ)) (nI (mMan τ (mN τ)))) j1 m2 ?_ (by decide) ⟨fun _ => ?_, fun _ => Or.inr rfl⟩ (fun E hE => ?_) ha ?_
    · show va_up (mMan τ) P (mMan τ P + 1) (mN τ) < 30
      rw [eN]; exact hm30
    · show va_up (mMan τ) P (mMan τ P + 1) (mN τ) = 0
      rw [eN]; exact n0
    · have hE : E < va_up (mMan τ) P (mMan τ P + 1) (mN τ) := hE
      rw [eN, n0] at hE; exact absurd hE (Nat.not_lt_zero _)
    · show va_up (mHol τ) (mN τ) h (mN τ) < 6
      rw [va_up_self]; exact hh
  · show LK (va_up (va_up (mKin τ) (P * 30 + mMan τ P) (nI 3)) (mN τ * 30 + va_up (mMan τ) P (mMan τ P + 1) (mN τ)) (nI 4)) (va_up (va_up (mOth τ) (P * 30 + mMan τ P) (nI (mN τ))) (mN τ * 30 + va_up (mMan τ) P (mMan τ P + 1) (mN τ)) (nI P)) (va_up (va_up (mIts τ) (P * 30 + mMan τ P) (nI (mMan τ (mN τ)))) (mN τ * 30 + va_up (mMan τ) P (mMan τ P + 1) (mN τ)) (nI (mMan τ P))) (va_up (va_up (mMan τ) P (mMan τ P + 1)) (mN τ) (va_up (mMan τ) P (mMan τ P + 1) (mN τ) + 1))
    rw [eN]
    exact LK_two k2 hB.2.1 hne hm hm30 (by decide) (by decide)
  · show 0 < va_up (va_up (mMan τ) P (mMan τ P + 1)) (mN τ) (va_up (mMan τ) P (mMan τ P + 1) (mN τ) + 1) Q
    rw [up_if]; split
    · omega
    · exact Nat.lt_of_lt_of_le (k3 Q (by have : Q < mN τ + 1 := hQ; omega)) man_le
  · have A1 : AL (mGoo τ) (mN τ + 1) al := fun g h6 => by
      rw [smS, hT.2.1 _ (by omega), Int32.add_zero]; exact k4 g h6
    have A2 : AL (fun r => mGoo τ r + (if r / 6 = P then dlG (nI G) 3 a (r % 6) else 0)) (mN τ + 1) (fun g => al g + dlG (nI G) 3 a g) := AL_upd (P := P) (d := dlG (nI G) 3 a) A1 (by omega) (fun Q _ g h6 => by
      show mGoo τ (Q * 6 + g) + (if (Q * 6 + g) / 6 = P then dlG (nI G) 3 a ((Q * 6 + g) % 6) else 0) = _
      rw [show (Q * 6 + g) / 6 = Q by omega, show (Q * 6 + g) % 6 = g by omega]) (fun g _ => rfl)
    refine AL_upd (n := mN τ + 1) (P := mN τ) (d := dlG (nI G) 4 a) A2 (Nat.lt_succ_self _) (fun Q hQ g h6 => ?_) (fun g h6 => ?_)
    · rw [hgoo Q hQ g h6]
      show _ = mGoo τ (Q * 6 + g) + (if (Q * 6 + g) / 6 = P then dlG (nI G) 3 a ((Q * 6 + g) % 6) else 0) + _
      rw [show (Q * 6 + g) / 6 = Q by omega, show (Q * 6 + g) % 6 = g by omega]
    · show al g = al g + dlG (nI G) 3 a g + dlG (nI G) 4 a g
      rw [dlG_at hG h6, dlG_at hG h6, show sgnF (nI 3) = -1 by decide, show sgnF (nI 4) = 1 by decide]
      by_cases q : G = g
      · rw [if_pos q, if_pos q, Int32.one_mul, neg1, Int32.add_assoc, Int32.add_left_neg, Int32.add_zero]
      · rw [if_neg q, if_neg q, Int32.add_zero, Int32.add_zero]
  · have key : GIv (mGoo τ) (mKin τ) (mOth τ) (mGod τ) (mWas τ) (mMan τ) (mN τ + 1) (mGon τ) := fun Q hQ g h6 => by
      by_cases q : Q = mN τ
      · subst q
        rw [n2, if_neg Bool.false_ne_true, Tt_none n0]; exact hT.2.1 _ (by omega)
      · rw [Tt_new hB.2.2.1 hn14 (by omega)]; exact k5 Q (by omega) g h6
    have g1 := GI_upd (n := mN τ + 1) (goo' := fun r => mGoo τ r + (if r / 6 = P then dlG (nI G) 3 a (r % 6) else 0)) (kd := 3) (gv := nI G) (a := a) (ov := nI (mN τ)) (wen := mWen τ) (gor := mGor τ) key hB.2.2.2.2.2.1 hw1 (by decide) (by decide) hB.2.1 hm (show P < mN τ + 1 by omega) hg (fun Q _ g h6 => by
      show mGoo τ (Q * 6 + g) + (if (Q * 6 + g) / 6 = P then dlG (nI G) 3 a ((Q * 6 + g) % 6) else 0) = _
      rw [show (Q * 6 + g) / 6 = Q by omega, show (Q * 6 + g) % 6 = g by omega])
    have jn2 := jn_app (kd := 3) (ov := nI (mN τ)) (P := P) (by decide) (by decide) hm hB.2.1 hB.2.2.2.2.2.1
    exact GI_upd (n := mN τ + 1) (P := mN τ) (kd := 4) (gv := nI G) (a := a) (ov := nI P) (wen := mWen τ) (gor := mGor τ) g1 jn2 hw1 (by decide) (by decide) m2 (by show va_up (mMan τ) P (mMan τ P + 1) (mN τ) < 30; rw [eN]; exact hm30) (Nat.lt_succ_self _) n2 (fun Q hQ g h6 => by
      rw [hgoo Q hQ g h6]
      show _ = mGoo τ (Q * 6 + g) + (if (Q * 6 + g) / 6 = P then dlG (nI G) 3 a ((Q * 6 + g) % 6) else 0) + _
      rw [show (Q * 6 + g) / 6 = Q by omega, show (Q * 6 + g) % 6 = g by omega])
theorem cif_or {p q : Prop} {w : Int32} (h : ¬ (p ∧ q)) : cif (p ∨ q) w = cif p w + cif q w := by
  by_cases hp : p
  · have hq : ¬ q := fun z => h ⟨hp, z⟩
    rw [cif_y (Or.inl hp), cif_y hp, cif_n hq, Int32.add_zero]
  · by_cases hq : q
    · rw [cif_y (Or.inr hq), cif_n hp, cif_y hq, Int32.zero_add]
    · rw [cif_n (fun z => z.elim hp hq), cif_n hp, cif_n hq, Int32.zero_add]
theorem wK_0 {kin god was : Nat → Int32} {man : Nat → Nat} {g kd Q : Nat} {gv b : Int32} (hm : ∀ Q, man Q ≤ 30) (hP : man P < 30) (hs : sgnF (nI kd) = 0) : wK (va_up kin (P * 30 + man P) (nI kd)) (va_up god (P * 30 + man P) gv) (va_up was (P * 30 + man P) b) (va_up man P (man P + 1)) g Q = wK kin god was man g Q := by
  rw [wK_app hm hP, hs, Int32.zero_mul]
  simp
theorem K_join (hI : Inv τ) (hK : Kv τ (mGoo τ) al sp) (hP : P < mN τ) (hO : O < mN τ) (hne : P ≠ O) (hmP : mMan τ P < 30) (hmO : mMan τ O < 30) (hgP : mGon τ P = false) (hgO : mGon τ O = false) :
    Kv (mJoin3 (mJoin2 τ P O) P) (jnS P O (mGoo τ) 6).1 al sp := by
  obtain ⟨k1, k2, k3, k4, k5, k6, k7⟩ := hK
  obtain ⟨hB, hT, hC, hn14, hhol, hw⟩ := id hI
  have eP : va_up (mMan τ) O (mMan τ O + 1) P = mMan τ P := va_up_ne _ _ hne
  have m2 := man_app hmO hB.2.1
  have hj := hB.2.2.2.2.2.1
  have hw1 := hB.2.2.2.2.2.2.1
  have hpP := k3 P hP
  have hpO := k3 O hO
  obtain ⟨v1, v2, v3⟩ := jn_val (goo := mGoo τ) hne 6 (Nat.le_refl _)
  have z0 : 0 ≤ (0 : Int32).toInt ∧ (0 : Int32).toInt ≤ 99 := by decide
  have j1 : JEs (mJoin1 τ P O) sp := JE_mw (τ := msGoo (msThr τ 0) (jnS P O (mGoo τ) 6).1) k1 hB.2.1 hmO (by decide) ⟨fun z => by omega, fun z => absurd z (Nat.pos_iff_ne_zero.mp hpO)⟩ (no6 (τ := τ) hB k1 hgO) z0 (hhol O)
  refine ⟨?_, ?_, fun Q hQ => ?_, ?_, ?_, k6, k7⟩
  · show JEs (mJoin2 τ P O) sp
    refine JE_mw (τ := mJoin1 τ P O) j1 m2 ?_ (by decide) ⟨fun z => by omega, fun z => ?_⟩ (fun E hE => ?_) z0 (hhol P)
    · show va_up (mMan τ) O (mMan τ O + 1) P < 30
      rw [eP]; exact hmP
    · have z : va_up (mMan τ) O (mMan τ O + 1) P = 0 := z
      rw [eP] at z; omega
    · have hE : E < va_up (mMan τ) O (mMan τ O + 1) P := hE
      rw [eP] at hE
      show va_up (mKin τ) (O * 30 + mMan τ O) (nI 5) (P * 30 + E) ≠ 6
      rw [va_up_ne _ _ (by omega)]; exact no6 hB k1 hgP E hE
  · show LK (va_up (va_up (mKin τ) (O * 30 + mMan τ O) (nI 5)) (P * 30 + va_up (mMan τ) O (mMan τ O + 1) P) (nI 6)) (va_up (va_up (mOth τ) (O * 30 + mMan τ O) (nI P)) (P * 30 + va_up (mMan τ) O (mMan τ O + 1) P) (nI O)) (va_up (va_up (mIts τ) (O * 30 + mMan τ O) (nI (mMan τ P))) (P * 30 + va_up (mMan τ) O (mMan τ O + 1) P) (nI (mMan τ O))) (va_up (va_up (mMan τ) O (mMan τ O + 1)) P (va_up (mMan τ) O (mMan τ O + 1) P + 1))
    rw [eP]
    exact LK_two k2 hB.2.1 (fun z => hne z.symm) hmO hmP (by decide) (by decide)
  · show 0 < va_up (va_up (mMan τ) O (mMan τ O + 1)) P (va_up (mMan τ) O (mMan τ O + 1) P + 1) Q
    rw [up_if]; split
    · omega
    · exact Nat.lt_of_lt_of_le (k3 Q hQ) man_le
  · have A2 : AL (fun r => mGoo τ r + (if r / 6 = O then mGoo τ (P * 6 + r % 6) else 0)) (mN τ) (fun g => al g + mGoo τ (P * 6 + g)) := AL_upd (P := O) (d := fun g => mGoo τ (P * 6 + g)) k4 hO (fun Q _ g h6 => by
      show mGoo τ (Q * 6 + g) + (if (Q * 6 + g) / 6 = O then mGoo τ (P * 6 + (Q * 6 + g) % 6) else 0) = _
      rw [show (Q * 6 + g) / 6 = Q by omega, show (Q * 6 + g) % 6 = g by omega]) (fun g _ => rfl)
    refine AL_upd (n := mN τ) (P := P) (d := fun g => - mGoo τ (P * 6 + g)) A2 hP (fun Q hQ g h6 => ?_) (fun g h6 => ?_)
    · show _ = mGoo τ (Q * 6 + g) + (if (Q * 6 + g) / 6 = O then mGoo τ (P * 6 + (Q * 6 + g) % 6) else 0) + _
      rw [show (Q * 6 + g) / 6 = Q by omega, show (Q * 6 + g) % 6 = g by omega]
      by_cases q : Q = P
      · subst q
        rw [v1 g h6, if_pos h6, if_neg hne, if_pos rfl, Int32.add_zero, Int32.add_right_neg]
      · by_cases q2 : Q = O
        · subst q2
          rw [v2 g h6, if_pos h6, if_pos rfl, if_neg q, Int32.add_zero]
        · rw [if_neg q2, if_neg q, Int32.add_zero, Int32.add_zero]
          exact v3 _ (fun g' hg' => by omega)
    · show al g = al g + mGoo τ (P * 6 + g) + - mGoo τ (P * 6 + g)
      rw [Int32.add_assoc, Int32.add_right_neg, Int32.add_zero]
  · have hadj : ∀ x y, aJ (va_up (va_up (mKin τ) (O * 30 + mMan τ O) (nI 5)) (P * 30 + mMan τ P) (nI 6)) (va_up (va_up (mOth τ) (O * 30 + mMan τ O) (nI P)) (P * 30 + mMan τ P) (nI O)) (va_up (va_up (mMan τ) O (mMan τ O + 1)) P (mMan τ P + 1)) x y ↔ aJ (mKin τ) (mOth τ) (mMan τ) x y ∨ (x = O ∧ y = P) := fun x y => by
      have e1 := aJ_app (kin := va_up (mKin τ) (O * 30 + mMan τ O) (nI 5)) (oth := va_up (mOth τ) (O * 30 + mMan τ O) (nI P)) (man := va_up (mMan τ) O (mMan τ O + 1)) (P := P) (kd := 6) (ov := nI O) (by decide) (by decide) m2 (by rw [eP]; exact hmP)
      rw [eP] at e1
      rw [e1]
      refine (adj_app hB.2.1 hmO).trans ⟨fun z => z.elim Or.inl (fun ⟨z1, _, z3, z4⟩ => Or.inr ⟨z1, ((nI_eq (by omega) (by omega)).mp z3).symm⟩), fun z => z.elim Or.inl (fun ⟨z1, z2⟩ => Or.inr ⟨z1, Or.inl rfl, by rw [z2], by omega⟩)⟩
    show GIv (jnS P O (mGoo τ) 6).1 (va_up (va_up (mKin τ) (O * 30 + mMan τ O) (nI 5)) (P * 30 + va_up (mMan τ) O (mMan τ O + 1) P) (nI 6)) (va_up (va_up (mOth τ) (O * 30 + mMan τ O) (nI P)) (P * 30 + va_up (mMan τ) O (mMan τ O + 1) P) (nI O)) (va_up (va_up (mGod τ) (O * 30 + mMan τ O) 0) (P * 30 + va_up (mMan τ) O (mMan τ O + 1) P) 0) (va_up (va_up (mWas τ) (O * 30 + mMan τ O) 0) (P * 30 + va_up (mMan τ) O (mMan τ O + 1) P) 0) (va_up (va_up (mMan τ) O (mMan τ O + 1)) P (va_up (mMan τ) O (mMan τ O + 1) P + 1)) (mN τ) (va_up (mGon τ) P true)
    have wk : ∀ g k, wK (va_up (va_up (mKin τ) (O * 30 + mMan τ O) (nI 5)) (P * 30 + mMan τ P) (nI 6)) (va_up (va_up (mGod τ) (O * 30 + mMan τ O) 0) (P * 30 + mMan τ P) 0) (va_up (va_up (mWas τ) (O * 30 + mMan τ O) 0) (P * 30 + mMan τ P) 0) (va_up (va_up (mMan τ) O (mMan τ O + 1)) P (mMan τ P + 1)) g k = wK (mKin τ) (mGod τ) (mWas τ) (mMan τ) g k := fun g k => by
      have e1 := wK_0 (P := P) (kin := va_up (mKin τ) (O * 30 + mMan τ O) (nI 5)) (god := va_up (mGod τ) (O * 30 + mMan τ O) 0) (was := va_up (mWas τ) (O * 30 + mMan τ O) 0) (man := va_up (mMan τ) O (mMan τ O + 1)) (g := g) (kd := 6) (Q := k) (gv := 0) (b := 0) m2 (by rw [eP]; exact hmP) (by decide)
      rw [eP] at e1
      rw [e1]
      exact wK_0 hB.2.1 hmO (by decide)
    rw [eP]
    intro Q hQ g h6
    by_cases q : Q = P
    · subst q
      rw [va_up_self, if_pos rfl, v1 g h6, if_pos h6]
    · rw [va_up_ne _ _ q]
      have hOg : ¬ Rch (aJ (mKin τ) (mOth τ) (mMan τ)) P O := fun z => (rj_gone hj hw1 z).elim (fun y => hne y.symm) (fun y => by rw [hgO] at y; cases y)
      by_cases q2 : Q = O
      · subst q2
        have hPg : ¬ Rch (aJ (mKin τ) (mOth τ) (mMan τ)) Q P := fun z => (rj_gone hj hw1 z).elim (fun y => hne y) (fun y => by rw [hgP] at y; cases y)
        have e1 := k5 Q hQ g h6
        have e2 := k5 P hP g h6
        rw [hgO, if_neg Bool.false_ne_true] at e1
        rw [hgP, if_neg Bool.false_ne_true] at e2
        rw [v2 g h6, if_pos h6, hgO, if_neg Bool.false_ne_true, e1, e2]
        unfold Tt stS
        rw [← sm_add]
        refine sm_congr _ (fun k _ => ?_)
        rw [wk, cif_c (Rj_new hadj), cif_or (fun ⟨z1, z2⟩ => (r_chain hj z1 z2).elim hPg hOg)]
      · rw [v3 _ (fun g' hg' => by omega), k5 Q hQ g h6]
        cases hq : mGon τ Q
        · rw [if_neg Bool.false_ne_true, if_neg Bool.false_ne_true]
          unfold Tt stS
          refine sm_congr _ (fun k _ => ?_)
          have hnQ : ¬ Rch (aJ (mKin τ) (mOth τ) (mMan τ)) Q O := fun z => (rj_gone hj hw1 z).elim (fun y => q2 y.symm) (fun y => by rw [hgO] at y; cases y)
          rw [wk, cif_c (Rj_old hadj hnQ)]
        · rw [if_pos rfl, if_pos rfl]
end TWO
