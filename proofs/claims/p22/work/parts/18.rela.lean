/-! the pure part: the class's state out of the reference's -/
def numC (kin mak god amo oth its : Nat → Int32) : Nat → Int32 := fun i => match i % 6 with
  | 0 => kin (i / 6)
  | 1 => mak (i / 6)
  | 2 => god (i / 6)
  | 3 => amo (i / 6)
  | 4 => oth (i / 6)
  | _ => its (i / 6)
section NMC
variable {kin mak god amo oth its : Nat → Int32} {r : Nat} {v : Int32}
theorem nc0' : numC kin mak god amo oth its (r * 6 + 0) = kin r := by
  unfold numC; rw [show (r * 6 + 0) % 6 = 0 by omega, show (r * 6 + 0) / 6 = r by omega]; rfl
theorem nc0 : numC kin mak god amo oth its (r * 6) = kin r := nc0'
theorem nc1 : numC kin mak god amo oth its (r * 6 + 1) = mak r := by
  unfold numC; rw [show (r * 6 + 1) % 6 = 1 by omega, show (r * 6 + 1) / 6 = r by omega]; rfl
theorem nc2 : numC kin mak god amo oth its (r * 6 + 2) = god r := by
  unfold numC; rw [show (r * 6 + 2) % 6 = 2 by omega, show (r * 6 + 2) / 6 = r by omega]; rfl
theorem nc3 : numC kin mak god amo oth its (r * 6 + 3) = amo r := by
  unfold numC; rw [show (r * 6 + 3) % 6 = 3 by omega, show (r * 6 + 3) / 6 = r by omega]; rfl
theorem nc4 : numC kin mak god amo oth its (r * 6 + 4) = oth r := by
  unfold numC; rw [show (r * 6 + 4) % 6 = 4 by omega, show (r * 6 + 4) / 6 = r by omega]; rfl
theorem nc5 : numC kin mak god amo oth its (r * 6 + 5) = its r := by
  unfold numC; rw [show (r * 6 + 5) % 6 = 5 by omega, show (r * 6 + 5) / 6 = r by omega]; rfl
theorem nc_ext {f g : Nat → Int32} (h : ∀ q, f (q * 6) = g (q * 6) ∧ f (q * 6 + 1) = g (q * 6 + 1) ∧ f (q * 6 + 2) = g (q * 6 + 2) ∧ f (q * 6 + 3) = g (q * 6 + 3) ∧ f (q * 6 + 4) = g (q * 6 + 4) ∧ f (q * 6 + 5) = g (q * 6 + 5)) : f = g := by
  funext i
  obtain ⟨h0, h1, h2, h3, h4, h5⟩ := h (i / 6)
  rcases (show i = i / 6 * 6 ∨ i = i / 6 * 6 + 1 ∨ i = i / 6 * 6 + 2 ∨ i = i / 6 * 6 + 3 ∨ i = i / 6 * 6 + 4 ∨ i = i / 6 * 6 + 5 by omega) with e | e | e | e | e | e <;> rw [e] <;> assumption
theorem up_if {α : Type} {f : Nat → α} {k j : Nat} {v : α} : va_up f k v j = if j = k then v else f j := by
  by_cases h : j = k
  · rw [if_pos h, h, va_up_self]
  · rw [if_neg h, va_up_ne _ _ h]
theorem nc_up0 : va_up (numC kin mak god amo oth its) (r * 6) v = numC (va_up kin r v) mak god amo oth its :=
  nc_ext (fun q => by
    simp only [nc0, nc1, nc2, nc3, nc4, nc5, up_if]
    refine ⟨?_, ?_, ?_, ?_, ?_, ?_⟩
    · by_cases h : q = r
      · rw [if_pos h, if_pos (by rw [h])]
      · rw [if_neg h, if_neg (by omega)]
    all_goals rw [if_neg (by omega)])
theorem nc_up1 : va_up (numC kin mak god amo oth its) (r * 6 + 1) v = numC kin (va_up mak r v) god amo oth its :=
  nc_ext (fun q => by
    simp only [nc0, nc1, nc2, nc3, nc4, nc5, up_if]
    refine ⟨?_, ?_, ?_, ?_, ?_, ?_⟩
    · rw [if_neg (by omega)]
    · by_cases h : q = r
      · rw [if_pos h, if_pos (by rw [h])]
      · rw [if_neg h, if_neg (by omega)]
    · rw [if_neg (by omega)]
    · rw [if_neg (by omega)]
    · rw [if_neg (by omega)]
    · rw [if_neg (by omega)])
theorem nc_up2 : va_up (numC kin mak god amo oth its) (r * 6 + 2) v = numC kin mak (va_up god r v) amo oth its :=
  nc_ext (fun q => by
    simp only [nc0, nc1, nc2, nc3, nc4, nc5, up_if]
    refine ⟨?_, ?_, ?_, ?_, ?_, ?_⟩
    · rw [if_neg (by omega)]
    · rw [if_neg (by omega)]
    · by_cases h : q = r
      · rw [if_pos h, if_pos (by rw [h])]
      · rw [if_neg h, if_neg (by omega)]
    · rw [if_neg (by omega)]
    · rw [if_neg (by omega)]
    · rw [if_neg (by omega)])
theorem nc_up3 : va_up (numC kin mak god amo oth its) (r * 6 + 3) v = numC kin mak god (va_up amo r v) oth its :=
  nc_ext (fun q => by
    simp only [nc0, nc1, nc2, nc3, nc4, nc5, up_if]
    refine ⟨?_, ?_, ?_, ?_, ?_, ?_⟩
    · rw [if_neg (by omega)]
    · rw [if_neg (by omega)]
    · rw [if_neg (by omega)]
    · by_cases h : q = r
      · rw [if_pos h, if_pos (by rw [h])]
      · rw [if_neg h, if_neg (by omega)]
    · rw [if_neg (by omega)]
    · rw [if_neg (by omega)])
theorem nc_up4 : va_up (numC kin mak god amo oth its) (r * 6 + 4) v = numC kin mak god amo (va_up oth r v) its :=
  nc_ext (fun q => by
    simp only [nc0, nc1, nc2, nc3, nc4, nc5, up_if]
    refine ⟨?_, ?_, ?_, ?_, ?_, ?_⟩
    · rw [if_neg (by omega)]
    · rw [if_neg (by omega)]
    · rw [if_neg (by omega)]
    · rw [if_neg (by omega)]
    · by_cases h : q = r
      · rw [if_pos h, if_pos (by rw [h])]
      · rw [if_neg h, if_neg (by omega)]
    · rw [if_neg (by omega)])
theorem nc_up5 : va_up (numC kin mak god amo oth its) (r * 6 + 5) v = numC kin mak god amo oth (va_up its r v) :=
  nc_ext (fun q => by
    simp only [nc0, nc1, nc2, nc3, nc4, nc5, up_if]
    refine ⟨?_, ?_, ?_, ?_, ?_, ?_⟩
    · rw [if_neg (by omega)]
    · rw [if_neg (by omega)]
    · rw [if_neg (by omega)]
    · rw [if_neg (by omega)]
    · rw [if_neg (by omega)]
    · by_cases h : q = r
      · rw [if_pos h, if_pos (by rw [h])]
      · rw [if_neg h, if_neg (by omega)])
end NMC
abbrev numM (τ : SM) : Nat → Int32 := numC (mKin τ) (mMak τ) (mGod τ) (mAmo τ) (mOth τ) (mIts τ)
abbrev gOf (τ : SM) : SG := (mHol τ, mGoo τ, mDec τ, mFee τ, mOwe τ, mMan τ, numM τ, mPrf τ, mCop τ, mWas τ, mN τ)
theorem sgEq {a1 b1 : Nat → Nat} {a2 b2 a3 b3 a4 b4 a5 b5 : Nat → Int32} {a6 b6 : Nat → Nat} {a7 b7 a8 b8 a9 b9 aa ba : Nat → Int32} {ab bb : Nat} (h1 : a1 = b1) (h2 : a2 = b2) (h3 : a3 = b3) (h4 : a4 = b4) (h5 : a5 = b5) (h6 : a6 = b6) (h7 : a7 = b7) (h8 : a8 = b8) (h9 : a9 = b9) (ha : aa = ba) (hb : ab = bb) : ((a1, a2, a3, a4, a5, a6, a7, a8, a9, aa, ab) : SG) = (b1, b2, b3, b4, b5, b6, b7, b8, b9, ba, bb) := by
  rw [h1, h2, h3, h4, h5, h6, h7, h8, h9, ha, hb]
theorem pm_eq {prf kin mak god amo oth its : Nat → Int32} {P E : Nat} : pmS prf (numC kin mak god amo oth its) P E 6 = mpC prf kin mak god amo oth its P E := by
  simp only [pmS, mpC, nc0', nc1, nc2, nc3, nc4, nc5]
theorem six_up {kin mak god amo oth its : Nat → Int32} {r : Nat} {a b c d e f : Int32} : va_up (va_up (va_up (va_up (va_up (va_up (numC kin mak god amo oth its) (r * 6) a) (r * 6 + 1) b) (r * 6 + 2) c) (r * 6 + 3) d) (r * 6 + 4) e) (r * 6 + 5) f = numC (va_up kin r a) (va_up mak r b) (va_up god r c) (va_up amo r d) (va_up oth r e) (va_up its r f) := by
  rw [nc_up0, nc_up1, nc_up2, nc_up3, nc_up4, nc_up5]
theorem wit_eq {kd : Nat} (hk : kd < 10) {mk a : Int32} : witF (nI kd) mk a = ((1 : Int32) <<< (mk &&& 31)) ||| cwF kd a := by
  rcases (show kd = 0 ∨ kd = 1 ∨ kd = 2 ∨ kd = 3 ∨ kd = 4 ∨ kd = 5 ∨ kd = 6 ∨ kd = 7 ∨ kd = 8 ∨ kd = 9 by omega) with rfl | rfl | rfl | rfl | rfl | rfl | rfl | rfl | rfl | rfl <;> simp [witF, cwF, nI]
theorem wr_eq {τ : SM} {P kd : Nat} (hk : kd < 10) {g a o oe : Int32} : wrF (gOf τ) P kd g a o oe = gOf (mwF τ P kd g a o oe) := by
  refine sgEq rfl rfl rfl rfl rfl rfl six_up ?_ ?_ rfl rfl
  · show va_up (mPrf τ) _ (pmS (mPrf τ) _ P (mMan τ P) 6) = va_up (mPrf τ) _ _
    rw [six_up, pm_eq]
  · show va_up (mCop τ) _ (witF (nI kd) _ a) = va_up (mCop τ) _ _
    rw [wit_eq hk]
theorem st_eq {τ : SM} {h : Nat} : stF (gOf τ) h = gOf (mtF τ h) := rfl
theorem brk_eq {τ : SM} {P : Nat} : brkB (mPrf τ) (numM τ) P = mbB τ P := by
  funext E
  unfold brkB mbB mpF
  rw [pm_eq]
theorem fb_eq {τ : SM} {P : Nat} : fbF (mMan τ) (mPrf τ) (numM τ) P = mfF τ P := by
  unfold fbF mfF
  rw [brk_eq]
theorem pal_eq {τ : SM} (hn : mN τ ≤ 14) {p : Int32} : palC (gOf τ) p = palM τ p := (inB_sub (n := mN τ) (by omega) p).symm
theorem lk_eq {τ : SM} {P : Nat} : lkC (gOf τ) P = if 0 < mMan τ P then mKin τ (P * 30 + (mMan τ P - 1)) else -1 := by
  show lkF (mMan τ) (numM τ) P = _
  unfold lkF
  rw [show numM τ ((P * 30 + (mMan τ P - 1)) * 6) = mKin τ (P * 30 + (mMan τ P - 1)) from nc0]
theorem hr_eq {τ : SM} {h : Nat} {m : Int32} : hrC (gOf τ) h m = mrS (mHol τ) (mGoo τ) h m (mN τ) := rfl
