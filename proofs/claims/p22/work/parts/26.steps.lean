/-! one call of each kind keeps the relation, and both answer alike -/
theorem pal_lt {τ : SM} (h : Inv τ) {p : Int32} (c : palM τ p = true) : pN p < mN τ := by
  obtain ⟨P, hP, rfl⟩ := inB_pal (n := mN τ) (by have := h.2.2.2.1; omega) c
  show (nI P).toNatClampNeg < mN τ
  rw [nI_clamp (by have := h.2.2.2.1; omega)]; exact hP
theorem rb6 {g : Int32} : rngB 0 6 g = inB g 0 5 := rb (by decide)
theorem rb7 {g : Int32} : rngB 0 7 g = inB g 0 6 := rb (by decide)
theorem rb4 {g : Int32} : rngB 0 4 g = inB g 0 3 := rb (by decide)
theorem rb46 {g : Int32} : rngB 4 6 g = inB g 4 5 := rb (by decide)
theorem t_broken {τ : SM} (h : Inv τ) (p : Int32) : OKI (fun z => z) (cBroken (gOf τ) p) (mBroken τ p) := by
  unfold cBroken mBroken
  rw [pal_eq h.2.2.2.1]
  by_cases c : palM τ p = true
  · rw [if_pos c, if_pos c]; exact ok_go rfl rfl fb_eq rfl h
  · rw [if_neg c, if_neg c]; exact ok_no h rfl (by decide) (by decide) (by decide)
theorem t_sound {τ : SM} (h : Inv τ) (p : Int32) : OKZ (fun z => z) (cSound (gOf τ) p) (mSound τ p) := by
  unfold cSound mSound
  rw [pal_eq h.2.2.2.1]
  by_cases c : palM τ p = true
  · rw [if_pos c, if_pos c]; exact ok_goZ rfl rfl (au_eq h.2.2.2.1 h.1.2.2.1 (pal_lt h c)) rfl h
  · rw [if_neg c, if_neg c]; exact ok_noZ h rfl (by decide) (by decide) (by decide)
theorem t_pallet {τ : SM} (h : Inv τ) (p w : Int32) : OKI (fun z => z) (cPallet (gOf τ) p w) (mPallet τ p w) := by
  unfold cPallet mPallet
  rw [pal_eq h.2.2.2.1]
  by_cases c : palM τ p = true
  · rw [if_pos c, if_pos c]
    by_cases c2 : inB w 0 4 = true
    · rw [if_pos c2, if_pos c2]; exact ok_go rfl rfl (by rw [hel_eq h, gon_eq h]) rfl h
    · rw [if_neg c2, if_neg c2]; exact ok_no h rfl (by decide) (by decide) (by decide)
  · rw [if_neg c, if_neg c]; exact ok_no h rfl (by decide) (by decide) (by decide)
theorem t_contents {τ : SM} (h : Inv τ) (p g : Int32) : OKI (fun z => z) (cContents (gOf τ) p g) (mContents τ p g) := by
  unfold cContents mContents
  rw [pal_eq h.2.2.2.1, rb6]
  by_cases c : (palM τ p && inB g 0 5) = true
  · rw [if_pos c, if_pos c]; exact ok_go rfl rfl rfl rfl h
  · rw [if_neg c, if_neg c]; exact ok_no h rfl (by decide) (by decide) (by decide)
theorem t_anew {τ : SM} (h : Inv τ) (p g : Int32) : OKI (fun z => z) (cAnew (gOf τ) p g) (mAnew τ p g) := by
  unfold cAnew mAnew
  rw [pal_eq h.2.2.2.1, rb6]
  by_cases c : (palM τ p && inB g 0 5) = true
  · rw [if_pos c, if_pos c]
    rw [Bool.and_eq_true] at c
    exact ok_go rfl rfl (tb_eq h (pal_lt h c.1) (mTol τ) g) rfl h
  · rw [if_neg c, if_neg c]; exact ok_no h rfl (by decide) (by decide) (by decide)
theorem t_declare {τ : SM} (h : Inv τ) (t g a : Int32) : OKI (fun z => z) (cDeclare (gOf τ) t g a) (mDeclare τ t g a) := by
  unfold cDeclare mDeclare
  rw [rb46, rb6]
  by_cases c : (inB t 4 5 && inB g 0 5) = true
  · rw [if_pos c, if_pos c]
    by_cases c2 : inB a 0 9999 = true
    · rw [if_pos c2, if_pos c2]; exact ok_go rfl rfl rfl rfl h
    · rw [if_neg c2, if_neg c2]; exact ok_no h rfl (by decide) (by decide) (by decide)
  · rw [if_neg c, if_neg c]; exact ok_no h rfl (by decide) (by decide) (by decide)
theorem t_mismatch {τ : SM} (h : Inv τ) (t : Int32) : OKI (fun z => z) (cMismatch (gOf τ) t) (mMismatch τ t) := by
  unfold cMismatch mMismatch
  rw [rb46]
  by_cases c : inB t 4 5 = true
  · rw [if_pos c, if_pos c]; exact ok_go rfl rfl (mm_eq h 6) rfl h
  · rw [if_neg c, if_neg c]; exact ok_no h rfl (by decide) (by decide) (by decide)
theorem t_fee {τ : SM} (h : Inv τ) (k f : Int32) : OKI kE (cFeeF (gOf τ) k f) (mFeeF τ k f) := by
  unfold cFeeF mFeeF
  by_cases c : (inB k 0 9 && inB f 0 99) = true
  · rw [if_pos c, if_pos c]; exact ok_go rfl rfl rfl rfl h
  · rw [if_neg c, if_neg c]; exact ok_no h rfl (by decide) (by decide) (by decide)
theorem t_owed {τ : SM} (h : Inv τ) (x : Int32) : OKI (fun z => z) (cOwed (gOf τ) x) (mOwed τ x) := by
  unfold cOwed mOwed
  rw [rb7]
  by_cases c : inB x 0 6 = true
  · rw [if_pos c, if_pos c]; exact ok_go rfl rfl rfl rfl h
  · rw [if_neg c, if_neg c]; exact ok_no h rfl (by decide) (by decide) (by decide)
theorem t_lose {τ : SM} (h : Inv τ) (x : Int32) : OKI (fun z => z) (cLose (gOf τ) x) (mLose τ x) := by
  unfold cLose mLose
  rw [rb7]
  by_cases c : inB x 0 6 = true
  · rw [if_pos c, if_pos c]
    obtain ⟨X, -, hX, rfl⟩ := inB_nat (lo := 0) (hi := 6) (by decide) (by decide) c
    have e := dc_eq (w := X) (by omega) h.2.2.2.1 h.2.2.1
    refine ok_go rfl rfl (congrArg Prod.snd e) ?_ ⟨h.1, h.2.1, C_lose h.2.2.1, h.2.2.2⟩
    exact congrArg (fun z => gsCop (gOf τ) z.1) e
  · rw [if_neg c, if_neg c]; exact ok_no h rfl (by decide) (by decide) (by decide)
theorem t_spoil {τ : SM} (h : Inv τ) (p e a : Int32) : OKI (fun z => z) (cSpoil (gOf τ) p e a) (mSpoil τ p e a) := by
  unfold cSpoil mSpoil
  rw [ent_eq h]
  by_cases c : entB τ p e = true
  · rw [if_pos c, if_pos c]
    by_cases c2 : inB a (-999) 999 = true
    · rw [if_pos c2, if_pos c2]
      exact ok_go rfl rfl nc3 (sgEq rfl rfl rfl rfl rfl rfl nc_up3 rfl rfl rfl rfl) h
    · rw [if_neg c2, if_neg c2]; exact ok_no h rfl (by decide) (by decide) (by decide)
  · rw [if_neg c, if_neg c]; exact ok_no h rfl (by decide) (by decide) (by decide)
theorem t_repair {τ : SM} (h : Inv τ) (p e : Int32) : OKI kB (cRepair (gOf τ) p e) (mRepair τ p e) := by
  unfold cRepair mRepair
  rw [ent_eq h]
  by_cases c : entB τ p e = true
  · rw [if_pos c, if_pos c]
    have e1 : brkB (gPrf (gOf τ)) (gNum (gOf τ)) (pN p) (pN e) = mbB τ (pN p) (pN e) := congrFun brk_eq (pN e)
    have e2 : decide (¬ loF (gCop (gOf τ) (pN p * 30 + pN e)) = -1) = decide (¬ mCop τ (pN p * 30 + pN e) = 0) := by
      rw [decide_eq_decide]
      exact not_congr (lo_iff (h.2.2.1.1 _))
    rw [e1, e2]
    by_cases c2 : (mbB τ (pN p) (pN e) && decide (¬ mCop τ (pN p * 30 + pN e) = 0)) = true
    · rw [if_pos c2, if_pos c2]
      exact ok_go rfl rfl rfl (sgEq rfl rfl rfl rfl rfl rfl nc_up3 rfl rfl rfl rfl) h
    · rw [if_neg c2, if_neg c2]; exact ok_no h rfl (by decide) (by decide) (by decide)
  · rw [if_neg c, if_neg c]; exact ok_no h rfl (by decide) (by decide) (by decide)
theorem t_entry {τ : SM} (h : Inv τ) (p e w : Int32) : OKI (fun z => z) (cEntry (gOf τ) p e w) (mEntry τ p e w) := by
  unfold cEntry mEntry
  rw [ent_eq h]
  by_cases c : entB τ p e = true
  · rw [if_pos c, if_pos c]
    by_cases c2 : inB w 0 7 = true
    · rw [if_pos c2, if_pos c2]
      refine ok_go rfl rfl ?_ rfl h
      obtain ⟨W, -, hW, rfl⟩ := inB_nat (lo := 0) (hi := 7) (by decide) (by decide) c2
      rcases (show W = 0 ∨ W = 1 ∨ W = 2 ∨ W = 3 ∨ W = 4 ∨ W = 5 ∨ W = 6 ∨ W = 7 by omega) with rfl | rfl | rfl | rfl | rfl | rfl | rfl | rfl
      · rw [if_pos (show pN (nI 0) < 6 by decide), if_pos (show nI 0 = 0 by decide), show pN (nI 0) = 0 by decide]; exact nc0'
      · rw [if_pos (show pN (nI 1) < 6 by decide), if_neg (show ¬ nI 1 = 0 by decide), if_pos (show nI 1 = 1 by decide), show pN (nI 1) = 1 by decide]; exact nc1
      · rw [if_pos (show pN (nI 2) < 6 by decide), if_neg (show ¬ nI 2 = 0 by decide), if_neg (show ¬ nI 2 = 1 by decide), if_pos (show nI 2 = 2 by decide), show pN (nI 2) = 2 by decide]; exact nc2
      · rw [if_pos (show pN (nI 3) < 6 by decide), if_neg (show ¬ nI 3 = 0 by decide), if_neg (show ¬ nI 3 = 1 by decide), if_neg (show ¬ nI 3 = 2 by decide), if_pos (show nI 3 = 3 by decide), show pN (nI 3) = 3 by decide]; exact nc3
      · rw [if_pos (show pN (nI 4) < 6 by decide), if_neg (show ¬ nI 4 = 0 by decide), if_neg (show ¬ nI 4 = 1 by decide), if_neg (show ¬ nI 4 = 2 by decide), if_neg (show ¬ nI 4 = 3 by decide), if_pos (show nI 4 = 4 by decide), show pN (nI 4) = 4 by decide]; exact nc4
      · rw [if_pos (show pN (nI 5) < 6 by decide), if_neg (show ¬ nI 5 = 0 by decide), if_neg (show ¬ nI 5 = 1 by decide), if_neg (show ¬ nI 5 = 2 by decide), if_neg (show ¬ nI 5 = 3 by decide), if_neg (show ¬ nI 5 = 4 by decide), if_pos (show nI 5 = 5 by decide), show pN (nI 5) = 5 by decide]; exact nc5
      · rw [if_neg (show ¬ pN (nI 6) < 6 by decide), if_pos (show pN (nI 6) = 6 by decide), if_neg (show ¬ nI 6 = 0 by decide), if_neg (show ¬ nI 6 = 1 by decide), if_neg (show ¬ nI 6 = 2 by decide), if_neg (show ¬ nI 6 = 3 by decide), if_neg (show ¬ nI 6 = 4 by decide), if_neg (show ¬ nI 6 = 5 by decide), if_pos (show nI 6 = 6 by decide)]
      · rw [if_neg (show ¬ pN (nI 7) < 6 by decide), if_neg (show ¬ pN (nI 7) = 6 by decide), if_neg (show ¬ nI 7 = 0 by decide), if_neg (show ¬ nI 7 = 1 by decide), if_neg (show ¬ nI 7 = 2 by decide), if_neg (show ¬ nI 7 = 3 by decide), if_neg (show ¬ nI 7 = 4 by decide), if_neg (show ¬ nI 7 = 5 by decide), if_neg (show ¬ nI 7 = 6 by decide)]
    · rw [if_neg c2, if_neg c2]; exact ok_no h rfl (by decide) (by decide) (by decide)
  · rw [if_neg c, if_neg c]; exact ok_no h rfl (by decide) (by decide) (by decide)
