/-! join: the two entries, in either order -/
theorem mpC_at {prf kin mak god amo oth its : Nat → Int32} {P E : Nat} {a b c d e f : Int32} : mpC prf (va_up kin (P * 30 + E) a) (va_up mak (P * 30 + E) b) (va_up god (P * 30 + E) c) (va_up amo (P * 30 + E) d) (va_up oth (P * 30 + E) e) (va_up its (P * 30 + E) f) P E = 31 * (31 * (31 * (31 * (31 * (31 * pm0 prf P E + a) + b) + c) + d) + e) + f := by
  unfold mpC
  simp only [va_up_self]
theorem pm0_up {prf : Nat → Int32} {P O e E : Nat} {v : Int32} (hne : P ≠ O) (he : e < 30) (hE : E < 30) : pm0 (va_up prf (P * 30 + e) v) O E = pm0 prf O E := by
  unfold pm0
  by_cases z : E = 0
  · rw [if_pos z, if_pos z]
  · rw [if_neg z, if_neg z, va_up_ne _ _ (by omega)]
section CMP
variable {man : Nat → Nat} {P O : Nat}
theorem up_cm {α : Type} {f : Nat → α} {i j : Nat} {x y : α} (h : i ≠ j) : va_up (va_up f i x) j y = va_up (va_up f j y) i x := by
  funext k
  simp only [up_if]
  by_cases a : k = j
  · rw [if_pos a, if_neg (by omega), if_pos a]
  · rw [if_neg a]
    by_cases b : k = i
    · rw [if_pos b, if_pos b]
    · rw [if_neg b, if_neg b, if_neg a]
theorem cmp2 {f : Nat → Int32} {x y : Int32} (hne : P ≠ O) (hP : man P < 30) (hO : man O < 30) : va_up (va_up f (P * 30 + man P) x) (O * 30 + va_up man P (man P + 1) O) y = va_up (va_up f (O * 30 + man O) y) (P * 30 + va_up man O (man O + 1) P) x := by
  rw [va_up_ne man _ (fun z => hne z.symm), va_up_ne man _ hne]
  exact up_cm (by omega)
end CMP
theorem prf_mw {σ : SM} {P kd : Nat} {g a o i : Int32} : mPrf (mwF σ P kd g a o i) = va_up (mPrf σ) (P * 30 + mMan σ P) (31 * (31 * (31 * (31 * (31 * (31 * pm0 (mPrf σ) P (mMan σ P) + nI kd) + nI (mkF kd (mHol σ P))) + g) + a) + o) + i) := congrArg (va_up (mPrf σ) (P * 30 + mMan σ P)) mpC_at
theorem mw_cm {X : SM} {P O : Nat} (hne : P ≠ O) (hP : mMan X P < 30) (hO : mMan X O < 30) (hh : mHol X P = mHol X O) {o1 i1 o2 i2 : Int32} : gOf (mwF (mwF X P 6 0 0 o1 i1) O 5 0 0 o2 i2) = gOf (mwF (mwF X O 5 0 0 o2 i2) P 6 0 0 o1 i1) := by
  have eO : va_up (mMan X) P (mMan X P + 1) O = mMan X O := va_up_ne _ _ (fun z => hne z.symm)
  have eP : va_up (mMan X) O (mMan X O + 1) P = mMan X P := va_up_ne _ _ hne
  refine sgEq rfl rfl rfl rfl ?_ ?_ ?_ ?_ ?_ ?_ rfl
  · show va_up (va_up (mOwe X) (mHol X P) (mOwe X (mHol X P) + mFee X 6)) (mHol X O) (va_up (mOwe X) (mHol X P) (mOwe X (mHol X P) + mFee X 6) (mHol X O) + mFee X 5) = va_up (va_up (mOwe X) (mHol X O) (mOwe X (mHol X O) + mFee X 5)) (mHol X P) (va_up (mOwe X) (mHol X O) (mOwe X (mHol X O) + mFee X 5) (mHol X P) + mFee X 6)
    rw [hh, va_up_self, va_up_self]
    funext k
    simp only [up_if]
    by_cases q : k = mHol X O
    · rw [if_pos q, if_pos q]; ac_rfl
    · rw [if_neg q, if_neg q, if_neg q, if_neg q]
  · show va_up (va_up (mMan X) P (mMan X P + 1)) O (va_up (mMan X) P (mMan X P + 1) O + 1) = va_up (va_up (mMan X) O (mMan X O + 1)) P (va_up (mMan X) O (mMan X O + 1) P + 1)
    rw [eO, eP]; exact up_cm hne
  · have k1 : mKin (mwF (mwF X P 6 0 0 o1 i1) O 5 0 0 o2 i2) = mKin (mwF (mwF X O 5 0 0 o2 i2) P 6 0 0 o1 i1) := cmp2 hne hP hO
    have k2 : mMak (mwF (mwF X P 6 0 0 o1 i1) O 5 0 0 o2 i2) = mMak (mwF (mwF X O 5 0 0 o2 i2) P 6 0 0 o1 i1) := cmp2 hne hP hO
    have k3 : mGod (mwF (mwF X P 6 0 0 o1 i1) O 5 0 0 o2 i2) = mGod (mwF (mwF X O 5 0 0 o2 i2) P 6 0 0 o1 i1) := cmp2 hne hP hO
    have k4 : mAmo (mwF (mwF X P 6 0 0 o1 i1) O 5 0 0 o2 i2) = mAmo (mwF (mwF X O 5 0 0 o2 i2) P 6 0 0 o1 i1) := cmp2 hne hP hO
    have k5 : mOth (mwF (mwF X P 6 0 0 o1 i1) O 5 0 0 o2 i2) = mOth (mwF (mwF X O 5 0 0 o2 i2) P 6 0 0 o1 i1) := cmp2 hne hP hO
    have k6 : mIts (mwF (mwF X P 6 0 0 o1 i1) O 5 0 0 o2 i2) = mIts (mwF (mwF X O 5 0 0 o2 i2) P 6 0 0 o1 i1) := cmp2 hne hP hO
    unfold numM
    rw [k1, k2, k3, k4, k5, k6]
  · have a1 : mPrf (mwF (mwF X P 6 0 0 o1 i1) O 5 0 0 o2 i2) = va_up (va_up (mPrf X) (P * 30 + mMan X P) (31 * (31 * (31 * (31 * (31 * (31 * pm0 (mPrf X) P (mMan X P) + nI 6) + nI (mkF 6 (mHol X P))) + 0) + 0) + o1) + i1)) (O * 30 + mMan X O) (31 * (31 * (31 * (31 * (31 * (31 * pm0 (mPrf X) O (mMan X O) + nI 5) + nI (mkF 5 (mHol X O))) + 0) + 0) + o2) + i2) := by
      rw [prf_mw, prf_mw, show mMan (mwF X P 6 0 0 o1 i1) O = mMan X O from eO, pm0_up hne hP hO]; rfl
    have a2 : mPrf (mwF (mwF X O 5 0 0 o2 i2) P 6 0 0 o1 i1) = va_up (va_up (mPrf X) (O * 30 + mMan X O) (31 * (31 * (31 * (31 * (31 * (31 * pm0 (mPrf X) O (mMan X O) + nI 5) + nI (mkF 5 (mHol X O))) + 0) + 0) + o2) + i2)) (P * 30 + mMan X P) (31 * (31 * (31 * (31 * (31 * (31 * pm0 (mPrf X) P (mMan X P) + nI 6) + nI (mkF 6 (mHol X P))) + 0) + 0) + o1) + i1) := by
      rw [prf_mw, prf_mw, show mMan (mwF X O 5 0 0 o2 i2) P = mMan X P from eP, pm0_up (fun z => hne z.symm) hO hP]; rfl
    show mPrf (mwF (mwF X P 6 0 0 o1 i1) O 5 0 0 o2 i2) = mPrf (mwF (mwF X O 5 0 0 o2 i2) P 6 0 0 o1 i1)
    rw [a1, a2]
    exact up_cm (by omega)
  · exact cmp2 hne hP hO
  · exact cmp2 hne hP hO
theorem cj_iff {goo : Nat → Int32} {P O : Nat} {b : Bool} : ∀ k, cjS goo P O b k = true ↔ (b = true ∧ ∀ g, g < k → ¬ 999 < goo (P * 6 + g) + goo (O * 6 + g))
  | 0 => ⟨fun h => ⟨h, fun g hg => absurd hg (Nat.not_lt_zero _)⟩, fun h => h.1⟩
  | k + 1 => by
    rw [cjS, Bool.and_eq_true, cj_iff k, decide_eq_true_iff]
    constructor
    · rintro ⟨⟨h1, h2⟩, h3⟩
      refine ⟨h1, fun g hg => ?_⟩
      by_cases q : g = k
      · rw [q]; exact h3
      · exact h2 g (by omega)
    · rintro ⟨h1, h2⟩
      exact ⟨⟨h1, fun g hg => h2 g (by omega)⟩, h2 k (by omega)⟩
theorem ct_iff {goo : Nat → Int32} {P O : Nat} : ctF goo P O = true ↔ ∀ g, g < 6 → ¬ 999 < goo (P * 6 + g) + goo (O * 6 + g) := by
  unfold ctF
  rw [allF_iff]
  constructor
  · intro h g hg
    exact of_decide_eq_true (h g (Nat.zero_le _) (by omega))
  · intro h j _ hj
    exact decide_eq_true (h j (by omega))
theorem t_join {τ : SM} (h : Inv τ) (p o : Int32) : OKI (fun z => z) (cJoin (gOf τ) p o) (mJoin τ p o) := by
  unfold cJoin mJoin
  have hn := h.2.2.2.1
  rw [pal_eq hn, pal_eq hn]
  by_cases c : (palM τ p && palM τ o) = true
  · rw [if_pos c, if_pos c]
    by_cases c2 : p = o
    · rw [if_pos c2, if_pos c2]; exact ok_no h rfl (by decide) (by decide) (by decide)
    · rw [if_neg c2, if_neg c2]
      rw [Bool.and_eq_true] at c
      obtain ⟨P, hP, rfl⟩ := inB_pal (n := mN τ) (by omega) c.1
      obtain ⟨O, hO, rfl⟩ := inB_pal (n := mN τ) (by omega) c.2
      have hne : P ≠ O := fun z => c2 (by rw [z])
      have hpp : pN (nI P) = P := nI_clamp (by omega)
      have hpo : pN (nI O) = O := nI_clamp (by omega)
      rw [hpp, hpo]
      have e : (wkC (gOf τ) P && (wkC (gOf τ) O && (decide (gHol (gOf τ) P = gHol (gOf τ) O) && ctF (gGoo (gOf τ)) P O))) = cjF τ P O := by
        rw [wk_eq h hP, wk_eq h hO, Bool.eq_iff_iff]
        unfold cjF
        rw [cj_iff, Bool.and_eq_true, Bool.and_eq_true, Bool.and_eq_true, Bool.and_eq_true, Bool.and_eq_true, ct_iff]
        exact ⟨fun ⟨a, b, d, e⟩ => ⟨⟨d, a, b⟩, e⟩, fun ⟨⟨d, a, b⟩, e⟩ => ⟨a, b, d, e⟩⟩
      rw [e]
      by_cases c3 : cjF τ P O = true
      · rw [if_pos c3, if_pos c3]
        unfold cjF at c3
        rw [cj_iff, Bool.and_eq_true, Bool.and_eq_true, decide_eq_true_iff] at c3
        obtain ⟨⟨d1, d2, d3⟩, d4⟩ := c3
        obtain ⟨u1, u2, u3⟩ := mc_un d2
        obtain ⟨v1, v2, v3⟩ := mc_un d3
        have eP : va_up (mMan τ) O (mMan τ O + 1) P = mMan τ P := va_up_ne _ _ hne
        have s0 : cJoin1 (gOf τ) P O = gOf (mwF (msGoo (msThr τ 0) (jnS P O (mGoo τ) 6).1) P 6 0 0 (nI O) (nI (mMan τ O))) := wr_eq (τ := msGoo (msThr τ 0) (jnS P O (mGoo τ) 6).1) (by decide)
        have s1 : cJoin2 (gOf τ) P O = gOf (mwF (mwF (msGoo (msThr τ 0) (jnS P O (mGoo τ) 6).1) P 6 0 0 (nI O) (nI (mMan τ O))) O 5 0 0 (nI P) (nI (mMan τ P))) := by
          unfold cJoin2
          rw [s0]
          exact wr_eq (by decide)
        have hT := T_join h.2.1 hP hO hne d1 (fun g hg => by
          have q := d4 g hg
          have q1 := h.2.1.1 (P * 6 + g)
          have q2 := h.2.1.1 (O * 6 + g)
          rw [Int32.lt_iff_toInt_lt, i_add (by omega) (by omega), show (999 : Int32).toInt = 999 by decide] at q
          omega)
        refine ok_go rfl rfl rfl (s1.trans (mw_cm (X := msGoo (msThr τ 0) (jnS P O (mGoo τ) 6).1) hne u3 v3 d1)) ?_
        refine ⟨?_, hT, ?_, hn, h.2.2.2.2.1, fun k => ?_⟩
        · show okB (va_up (va_up (mKin τ) (O * 30 + mMan τ O) (nI 5)) (P * 30 + va_up (mMan τ) O (mMan τ O + 1) P) (nI 6)) (va_up (va_up (mOth τ) (O * 30 + mMan τ O) (nI P)) (P * 30 + va_up (mMan τ) O (mMan τ O + 1) P) (nI O)) (va_up (va_up (mMan τ) O (mMan τ O + 1)) P (va_up (mMan τ) O (mMan τ O + 1) P + 1)) (mN τ) (mHel τ) (va_up (mGon τ) P true) (va_up (mWen τ) (mGor τ) P) (mGor τ + 1)
          rw [eP]
          exact B_join h.1 hn hP hO hne u3 v3 u1 u2 v1 v2
        · have q1 := C_app (kd := 5) (a := 0) (E := mMan τ O) h.2.2.1 hO v3 (mkF_lt (kd := 5) (h.2.2.2.2.1 O)) (fun z => absurd z (by decide))
          exact C_app (kd := 6) (a := 0) (E := va_up (mMan τ) O (mMan τ O + 1) P) q1 hP (by rw [eP]; exact u3) (mkF_lt (kd := 6) (h.2.2.2.2.1 P)) (fun z => absurd z (by decide))
        · show va_up (mWen τ) (mGor τ) P k < 14
          rw [up_if]; split
          · omega
          · exact h.2.2.2.2.2 k
      · rw [if_neg c3, if_neg c3]; exact ok_no h rfl (by decide) (by decide) (by decide)
  · rw [if_neg c, if_neg c]; exact ok_no h rfl (by decide) (by decide) (by decide)
