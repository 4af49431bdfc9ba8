/-! what the reading methods answer where everything stays -/
section VLS
variable {τ : SM} {al sp : Nat → Int32} {P E G : Nat}
theorem ok_J (h : J τ al sp) : okG (gOf τ) := (rel_fx _ _ ⟨rfl, h.1⟩).1.1
theorem hz_J (h : J τ al sp) : ∀ P, gN (gOf τ) ≤ P → gLen (gOf τ) P = 0 := (rel_fx _ _ ⟨rfl, h.1⟩).1.2
theorem vP0 (h : J τ al sp) (hP : P < mN τ) : cPallet (gOf τ) (nI P) 0 = (0, nI (mHol τ P), gOf τ) := by
  have hn := h.1.2.2.2.1
  unfold cPallet
  rw [if_pos (g_pal hn hP), if_pos (by decide), if_pos rfl, p_nI (by omega)]
theorem vP1 (h : J τ al sp) (hP : P < mN τ) : cPallet (gOf τ) (nI P) 1 = (0, nI (mMan τ P), gOf τ) := by
  have hn := h.1.2.2.2.1
  unfold cPallet
  rw [if_pos (g_pal hn hP), if_pos (by decide), if_neg (by decide), if_pos rfl, p_nI (by omega)]
theorem vP2 (h : J τ al sp) (hP : P < mN τ) : cPallet (gOf τ) (nI P) 2 = (0, wS (mGoo τ) P 6, gOf τ) := by
  have hn := h.1.2.2.2.1
  unfold cPallet
  rw [if_pos (g_pal hn hP), if_pos (by decide), if_neg (by decide), if_neg (by decide), if_pos rfl, p_nI (by omega)]
theorem vP3 (h : J τ al sp) (hP : P < mN τ) : cPallet (gOf τ) (nI P) 3 = (0, bI (mHel τ P), gOf τ) := by
  have hn := h.1.2.2.2.1
  unfold cPallet
  rw [if_pos (g_pal hn hP), if_pos (by decide), if_neg (by decide), if_neg (by decide), if_neg (by decide), if_pos rfl, p_nI (by omega), hel_eq h.1]
theorem vP4 (h : J τ al sp) (hP : P < mN τ) : cPallet (gOf τ) (nI P) 4 = (0, bI (mGon τ P), gOf τ) := by
  have hn := h.1.2.2.2.1
  unfold cPallet
  rw [if_pos (g_pal hn hP), if_pos (by decide), if_neg (by decide), if_neg (by decide), if_neg (by decide), if_neg (by decide), p_nI (by omega), gon_eq h.1]
theorem vB (h : J τ al sp) (hP : P < mN τ) : cBroken (gOf τ) (nI P) = (0, mfF τ P, gOf τ) := by
  have hn := h.1.2.2.2.1
  unfold cBroken
  rw [if_pos (g_pal hn hP), p_nI (by omega)]
  exact congrArg (fun z => (0, z, gOf τ)) fb_eq
theorem vS (h : J τ al sp) (hP : P < mN τ) : cSound (gOf τ) (nI P) = (0, msF τ P, gOf τ) := by
  have hn := h.1.2.2.2.1
  unfold cSound
  rw [if_pos (g_pal hn hP), p_nI (by omega)]
  exact congrArg (fun z => (0, z, gOf τ)) (au_eq hn h.1.1.2.2.1 hP)
theorem vE (h : J τ al sp) (hP : P < mN τ) (hE : E < mMan τ P) {w : Nat} (hw : w < 6) : cEntry (gOf τ) (nI P) (nI E) (nI w) = (0, numM τ ((P * 30 + E) * 6 + w), gOf τ) := by
  have hn := h.1.2.2.2.1
  have hm := h.1.1.2.1 P
  have hi : inB (nI w) 0 7 = true := by rcases (show w = 0 ∨ w = 1 ∨ w = 2 ∨ w = 3 ∨ w = 4 ∨ w = 5 by omega) with rfl | rfl | rfl | rfl | rfl | rfl <;> decide
  unfold cEntry
  rw [if_pos (g_ent h.1 hP hE), if_pos hi, show pN (nI P) = P from p_nI (by omega), show pN (nI E) = E from p_nI (by omega), show pN (nI w) = w from p_nI (by omega), if_pos hw]
theorem vE0 (h : J τ al sp) (hP : P < mN τ) (hE : E < mMan τ P) : cEntry (gOf τ) (nI P) (nI E) 0 = (0, mKin τ (P * 30 + E), gOf τ) := (vE h hP hE (w := 0) (by decide)).trans (congrArg (fun z => (0, z, gOf τ)) nc0')
theorem vE3 (h : J τ al sp) (hP : P < mN τ) (hE : E < mMan τ P) : cEntry (gOf τ) (nI P) (nI E) 3 = (0, mAmo τ (P * 30 + E), gOf τ) := (vE h hP hE (w := 3) (by decide)).trans (congrArg (fun z => (0, z, gOf τ)) nc3)
theorem vE4 (h : J τ al sp) (hP : P < mN τ) (hE : E < mMan τ P) : cEntry (gOf τ) (nI P) (nI E) 4 = (0, mOth τ (P * 30 + E), gOf τ) := (vE h hP hE (w := 4) (by decide)).trans (congrArg (fun z => (0, z, gOf τ)) nc4)
theorem vE5 (h : J τ al sp) (hP : P < mN τ) (hE : E < mMan τ P) : cEntry (gOf τ) (nI P) (nI E) 5 = (0, mIts τ (P * 30 + E), gOf τ) := (vE h hP hE (w := 5) (by decide)).trans (congrArg (fun z => (0, z, gOf τ)) nc5)
theorem vE6 (h : J τ al sp) (hP : P < mN τ) (hE : E < mMan τ P) : cEntry (gOf τ) (nI P) (nI E) 6 = (0, mPrf τ (P * 30 + E), gOf τ) := by
  have hn := h.1.2.2.2.1
  have hm := h.1.1.2.1 P
  unfold cEntry
  rw [if_pos (g_ent h.1 hP hE), if_pos (by decide), show pN 6 = 6 by decide, if_neg (by decide), if_pos rfl, show pN (nI P) = P from p_nI (by omega), show pN (nI E) = E from p_nI (by omega)]
theorem vC (h : J τ al sp) (hP : P < mN τ) (hG : G < 6) : cContents (gOf τ) (nI P) (nI G) = (0, mGoo τ (P * 6 + G), gOf τ) := by
  have hn := h.1.2.2.2.1
  unfold cContents
  rw [g_pal hn hP, g_good hG, p_nI (by omega), p_nI (by omega)]; rfl
def tdF (τ : SM) (P G : Nat) : Int32 := tbF (mN τ) (mMan τ) (numM τ) P (nI G)
theorem vA (h : J τ al sp) (hP : P < mN τ) (hG : G < 6) : cAnew (gOf τ) (nI P) (nI G) = (0, tdF τ P G, gOf τ) := by
  have hn := h.1.2.2.2.1
  unfold cAnew
  rw [g_pal hn hP, g_good hG, p_nI (by omega)]; rfl
theorem vO {k : Nat} (hk : k < 7) : cOwed (gOf τ) (nI k) = (0, mOwe τ k, gOf τ) := by
  have hi : rngB 0 7 (nI k) = true := by
    show rngB 0 (nI 7) (nI k) = true
    rw [rngN0 (by omega) (by omega)]; exact decide_eq_true hk
  unfold cOwed
  rw [if_pos hi, p_nI (by omega)]
theorem lk6 (h : J τ al sp) : lkF (mMan τ) (numM τ) P = 6 ↔ mGon τ P = true := by
  have := gon_eq h.1 P
  rw [← this, decide_eq_true_iff]; rfl
/-- goods of what is gone: none, and none told -/
theorem td_gone (h : J τ al sp) (hP : P < mN τ) (hG : G < 6) (hg : mGon τ P = true) : mGoo τ (P * 6 + G) = 0 ∧ tdF τ P G = 0 := by
  refine ⟨?_, ?_⟩
  · rw [h.2.2.2.2.2.1 P hP G hG, if_pos hg]
  · unfold tdF tbF
    rw [if_pos ((lk6 h).mpr hg)]
/-- where nothing is spoiled papers tell what is there -/
theorem td_clean (h : J τ al sp) (hc : ∀ P, P < mN τ → sp P = 0) (hP : P < mN τ) (hG : G < 6) : tdF τ P G = mGoo τ (P * 6 + G) := by
  have hn := h.1.2.2.2.1
  rw [h.2.2.2.2.2.1 P hP G hG]
  unfold tdF tbF
  cases hg : mGon τ P
  · rw [if_neg (fun z => by rw [(lk6 h).mp z] at hg; cases hg), if_neg Bool.false_ne_true, tb_sm (othK_14 h.1.1.2.2.1 hn) (by omega) _ hn]
    unfold Tt stS
    refine sm_congr _ (fun k hk => congrArg _ ?_)
    show owS (numC (mKin τ) (mMak τ) (mGod τ) (mAmo τ) (mOth τ) (mIts τ)) k (nI G) (mMan τ k) = _
    rw [ow_K]
    refine owK_c _ (fun e he => ⟨rfl, rfl, (h.2.1.2.1 k e he).2 ?_⟩)
    rw [hc k hk]
    have := h.1.1.2.1 k
    intro y
    exact absurd ((nI_eq (a := 0) (by omega) (by omega)).mp y) (by omega)
  · rw [if_pos ((lk6 h).mpr hg), if_pos rfl]
theorem goo_b (h : J τ al sp) (r : Nat) : 0 ≤ (mGoo τ r).toInt ∧ (mGoo τ r).toInt ≤ 999 := h.1.2.1.1 r
theorem goo_lo (h : J τ al sp) (r : Nat) : ¬ mGoo τ r < 0 := by
  rw [Int32.lt_iff_toInt_lt, show (0 : Int32).toInt = 0 by decide]
  have := goo_b h r; omega
theorem goo_hi (h : J τ al sp) (r : Nat) : ¬ 999 < mGoo τ r := by
  rw [Int32.lt_iff_toInt_lt, show (999 : Int32).toInt = 999 by decide]
  have := goo_b h r; omega
theorem tr_hi (h : J τ al sp) {t : Nat} (ht : 4 ≤ t) : ¬ 200 < rS (mHol τ) (mGoo τ) t 0 (mN τ) := by
  have := (rS_le h.1.2.1.1 (hol := mHol τ) (hd := t) h.1.2.2.2.1 (more := 0) (by decide) (by decide)).mpr (by
    have := h.1.2.1.2.2 t ht
    rw [show (0 : Int32).toInt = 0 by decide]; omega)
  exact of_decide_eq_true this
/-- bounds of what papers tell, so that no sum turns round -/
def bdI (x : Int32) (b : Int) : Prop := -b ≤ x.toInt ∧ x.toInt ≤ b
theorem sg_bd {k a : Int32} (h : bdI a 999) : bdI (sgnF k * a) 999 := by
  unfold sgnF bdI at *
  split
  · rw [Int32.one_mul]; exact h
  · split
    · rw [neg1, Int32.toInt_neg, i_bm (by omega) (by omega)]; omega
    · rw [Int32.zero_mul, show (0 : Int32).toInt = 0 by decide]; omega
theorem ow_bd {num : Nat → Int32} {g : Int32} (h : ∀ r, bdI (num (r * 6 + 3)) 999) : ∀ m, m ≤ 30 → bdI (owS num P g m) (999 * (m : Int))
  | 0, _ => by unfold bdI; rw [owS, show (0 : Int32).toInt = 0 by decide]; omega
  | m + 1, hm => by
    have ih := ow_bd (g := g) h m (by omega)
    have hs := sg_bd (k := num ((P * 30 + m) * 6)) (h (P * 30 + m))
    rw [owS]
    unfold bdI at *
    split
    · rw [i_add (by omega) (by omega)]; omega
    · rw [Int32.add_zero]; omega
theorem tb_bd {num : Nat → Int32} {len : Nat → Nat} {g : Int32} (h : ∀ r, bdI (num (r * 6 + 3)) 999) (hl : ∀ k, len k ≤ 30) : ∀ m, m ≤ 14 → bdI (tbS len num P g m) (29970 * (m : Int))
  | 0, _ => by unfold bdI; rw [tbS, show (0 : Int32).toInt = 0 by decide]; omega
  | m + 1, hm => by
    have ih := tb_bd (g := g) h hl m (by omega)
    have ho := ow_bd (P := m) (g := g) h (len m) (hl m)
    have hlm := hl m
    rw [tbS]
    unfold bdI at *
    split
    · rw [i_add (by omega) (by omega)]; omega
    · rw [Int32.add_zero]; omega
theorem tt_bd {num : Nat → Int32} {len hol : Nat → Nat} {n t : Nat} {g : Int32} (h : ∀ r, bdI (num (r * 6 + 3)) 999) (hl : ∀ k, len k ≤ 30) (hn : n ≤ 14) : ∀ m, m ≤ 14 → bdI (ttS n hol len num t g m) (419580 * (m : Int))
  | 0, _ => by unfold bdI; rw [ttS, show (0 : Int32).toInt = 0 by decide]; omega
  | m + 1, hm => by
    have ih := tt_bd (hol := hol) (t := t) (g := g) h hl hn m (by omega)
    have ho := tb_bd (P := m) (g := g) h hl n hn
    rw [ttS]
    unfold tbF
    unfold bdI at *
    split
    · split
      · rw [Int32.add_zero]; omega
      · rw [i_add (by omega) (by omega)]; omega
    · rw [Int32.add_zero]; omega
theorem cm_bd {num dec : Nat → Int32} {len hol : Nat → Nat} {n t : Nat} (h : ∀ r, bdI (num (r * 6 + 3)) 999) (hl : ∀ k, len k ≤ 30) (hn : n ≤ 14) (hd : ∀ r, dec r = 0) : ∀ m, m ≤ 6 → 0 ≤ (cmS n hol len num dec t m).toInt ∧ (cmS n hol len num dec t m).toInt ≤ 6000000 * (m : Int)
  | 0, _ => by rw [cmS, show (0 : Int32).toInt = 0 by decide]; omega
  | m + 1, hm => by
    have ih := cm_bd (hol := hol) (t := t) h hl hn hd m (by omega)
    have ho := tt_bd (hol := hol) (t := t) (g := nI m) h hl hn n hn
    have hb : (419580 : Int) * (n : Int) ≤ 5874120 := by omega
    unfold bdI at ho
    have e : 0 ≤ (absI (dec ((t - 4) * 6 + m) - ttS n hol len num t (nI m) n)).toInt ∧ (absI (dec ((t - 4) * 6 + m) - ttS n hol len num t (nI m) n)).toInt ≤ 6000000 := by
      rw [hd]
      have e1 : (0 - ttS n hol len num t (nI m) n).toInt = - (ttS n hol len num t (nI m) n).toInt := by
        rw [i_sub (by rw [show (0 : Int32).toInt = 0 by decide]; omega) (by rw [show (0 : Int32).toInt = 0 by decide]; omega), show (0 : Int32).toInt = 0 by decide]; omega
      unfold absI
      by_cases q : 0 - ttS n hol len num t (nI m) n < 0
      · rw [if_pos q, Int32.toInt_neg, e1, i_bm (by omega) (by omega)]
        rw [Int32.lt_iff_toInt_lt, e1, show (0 : Int32).toInt = 0 by decide] at q
        omega
      · rw [if_neg q, e1]
        rw [Int32.lt_iff_toInt_lt, e1, show (0 : Int32).toInt = 0 by decide] at q
        omega
    rw [cmS, i_add (by omega) (by omega)]
    omega
theorem vM (h : J τ al sp) {t : Nat} (ht : t = 4 ∨ t = 5) : cMismatch (gOf τ) (nI t) = (0, cmS (mN τ) (mHol τ) (mMan τ) (numM τ) (mDec τ) t 6, gOf τ) := by
  unfold cMismatch
  rcases ht with rfl | rfl
  · rw [if_pos (by decide), p_nI (by decide)]
  · rw [if_pos (by decide), p_nI (by decide)]
theorem cm_lo (h : J τ al sp) (t : Nat) : ¬ cmS (mN τ) (mHol τ) (mMan τ) (numM τ) (mDec τ) t 6 < 0 := by
  have := cm_bd (hol := mHol τ) (t := t) (num := numM τ) (fun r => by
    rw [show numM τ (r * 6 + 3) = mAmo τ r from nc3]; exact h.2.1.2.2.2.2.1 r) h.1.1.2.1 h.1.2.2.2.1 h.2.2.2.2.2.2.2 6 (Nat.le_refl _)
  rw [Int32.lt_iff_toInt_lt, show (0 : Int32).toInt = 0 by decide]
  omega
/-- an entry's proof: as it is made of the paper, but where it is spoiled -/
theorem pf_iff (h : J τ al sp) (hE : E < mMan τ P) : pmS (mPrf τ) (numM τ) P E 6 = mPrf τ (P * 30 + E) ↔ ¬ sp P = nI (E + 1) := by
  rw [← JE_brk h.2.1 hE, pm_eq, Classical.not_not]
  exact ⟨fun z => z.symm, fun z => z.symm⟩
theorem kd_J (h : J τ al sp) (hE : E < mMan τ P) : ∃ kd, kd < 10 ∧ mKin τ (P * 30 + E) = nI kd ∧ ((kd = 0 ∨ kd = 4) ↔ E = 0) ∧ (kd = 6 → E + 1 = mMan τ P ∧ mGon τ P = true) := by
  obtain ⟨k, b1, b2, b3, b4⟩ := h.2.1.2.2.2.2.2.2 P E hE
  refine ⟨k, b1, b2, b3, fun z => ⟨b4 z, ?_⟩⟩
  have h6 := b4 z
  rw [h.1.1.2.2.2.2.1 P]
  refine decide_eq_true ?_
  unfold lkK
  rw [if_pos (by omega), show mMan τ P - 1 = E by omega, b2, z]; rfl
theorem lk_J (h : J τ al sp) (hE : E < mMan τ P) (hd : dueF (mKin τ (P * 30 + E)) ≠ -1) : ∃ o i, o < mN τ ∧ i < mMan τ o ∧ mOth τ (P * 30 + E) = nI o ∧ mIts τ (P * 30 + E) = nI i ∧ mKin τ (o * 30 + i) = dueF (mKin τ (P * 30 + E)) ∧ mOth τ (o * 30 + i) = nI P ∧ mIts τ (o * 30 + i) = nI E := by
  obtain ⟨o, i, b1, b2⟩ := h.2.2.1 P E hE hd
  refine ⟨o, i, Classical.byContradiction (fun z => ?_), b1, b2⟩
  rw [h.1.1.1 o (by omega)] at b1
  exact absurd b1 (Nat.not_lt_zero _)
end VLS
