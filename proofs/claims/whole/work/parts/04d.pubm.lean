/-! the reference's public methods: the answer, and the state behind it -/
abbrev pN (x : Int32) : Nat := x.toNatClampNeg
def ldK (a : Int32) : Nat := if a ≤ 0 then 2 else 1
def ldA (a : Int32) : Int32 := if a ≤ 0 then -a else a
theorem ldK_lt (a : Int32) : ldK a < 3 := by unfold ldK; split <;> decide
def palM (σ : SM) (p : Int32) : Bool := inB p 0 (nI (mN σ) - 1)
def mMake (σ : SM) (d : Int32) : Int32 × SM :=
  if inB d 0 3 then (if mN σ = 14 then (0, msThr σ 2) else (nI (mN σ), mwF (mtF (msThr σ 0) (pN d)) (mN σ) 0 0 0 0 0)) else (0, msThr σ 1)
noncomputable def mLoad (σ : SM) (p g a : Int32) : Int32 × SM :=
  if palM σ p && inB g 0 5 then (if inB a (-99) 99 && decide (¬ a = 0) then (if clF σ (pN p) (pN g) a then
    (mGoo σ (pN p * 6 + pN g) + a, mwF (msGoo (msThr σ 0) (va_up (mGoo σ) (pN p * 6 + pN g) (mGoo σ (pN p * 6 + pN g) + a))) (pN p) (ldK a) g (ldA a) 0 0) else (0, msThr σ 3)) else (0, msThr σ 2)) else (0, msThr σ 1)
def mPart1 (σ : SM) (P G : Nat) (a : Int32) : SM :=
  msGoo (mtF (msThr σ 0) (mHol σ P)) (va_up (va_up (mGoo σ) (P * 6 + G) (mGoo σ (P * 6 + G) - a)) (mN σ * 6 + G) a)
def mPart2 (σ : SM) (P G : Nat) (a : Int32) : SM := mwF (mPart1 σ P G a) P 3 (nI G) a (nI (mN σ)) 0
noncomputable def mPart (σ : SM) (p g a : Int32) : Int32 × SM :=
  if palM σ p && inB g 0 5 then (if inB a 1 99 then (if decide (¬ mGoo σ (pN p * 6 + pN g) < a) && (decide (mN σ < 14) && mcF σ (pN p)) then
    (nI (mN σ), mwF (mPart2 σ (pN p) (pN g) a) (mN σ) 4 g a p (nI (mMan (mPart2 σ (pN p) (pN g) a) (pN p) - 1))) else (0, msThr σ 3)) else (0, msThr σ 2)) else (0, msThr σ 1)
def jnS (P O : Nat) (goo : Nat → Int32) : Nat → (Nat → Int32) × Int32
  | 0 => (goo, 0)
  | g + 1 => (va_up (va_up (jnS P O goo g).1 (O * 6 + g) ((jnS P O goo g).1 (O * 6 + g) + (jnS P O goo g).1 (P * 6 + g))) (P * 6 + g) 0, (jnS P O goo g).2 + va_up (va_up (jnS P O goo g).1 (O * 6 + g) ((jnS P O goo g).1 (O * 6 + g) + (jnS P O goo g).1 (P * 6 + g))) (P * 6 + g) 0 (O * 6 + g))
def mJoin1 (σ : SM) (P O : Nat) : SM := mwF (msGoo (msThr σ 0) (jnS P O (mGoo σ) 6).1) O 5 0 0 (nI P) (nI (mMan σ P))
def mJoin2 (σ : SM) (P O : Nat) : SM := mwF (mJoin1 σ P O) P 6 0 0 (nI O) (nI (mMan σ O))
def mJoin3 (σ : SM) (P : Nat) : SM := msGor (msWen (msGon σ (va_up (mGon σ) P true)) (va_up (mWen σ) (mGor σ) P)) (mGor σ + 1)
noncomputable def mJoin (σ : SM) (p o : Int32) : Int32 × SM :=
  if palM σ p && palM σ o then (if p = o then (0, msThr σ 2) else if cjF σ (pN p) (pN o) then ((jnS (pN p) (pN o) (mGoo σ) 6).2, mJoin3 (mJoin2 σ (pN p) (pN o)) (pN p)) else (0, msThr σ 3)) else (0, msThr σ 1)
def mMove1 (σ : SM) (P H : Nat) : SM := mwF (msThr σ 0) P 7 0 (nI H) 0 0
noncomputable def mMove (σ : SM) (p h : Int32) : Int32 × SM :=
  if palM σ p && inB h 0 5 then (if decide (¬ decide (mHol σ (pN p) < 4) = decide (pN h < 4)) && (mcF σ (pN p) && mrS (mHol σ) (mGoo σ) (pN h) (wS (mGoo σ) (pN p) 6) (mN σ)) then
    (wS (mGoo σ) (pN p) 6, msHol (mMove1 σ (pN p) (pN h)) (va_up (mHol (mMove1 σ (pN p) (pN h))) (pN p) (pN h))) else (0, msThr σ 2)) else (0, msThr σ 1)
def mHold1 (σ : SM) (P : Nat) : SM := msHel (msThr σ 0) (va_up (mHel σ) P (!mHel σ P))
def mHold (σ : SM) (p : Int32) : Bool × SM :=
  if palM σ p then (if mGon σ (pN p) || decide (mMan σ (pN p) = 30) then (false, msThr σ 2) else (!mHel σ (pN p), mwF (mHold1 σ (pN p)) (pN p) (if mHel σ (pN p) then 9 else 8) 0 0 0 0)) else (false, msThr σ 1)
def mSpoil (σ : SM) (p e a : Int32) : Int32 × SM :=
  if entB σ p e then (if inB a (-999) 999 then (mAmo σ (pN p * 30 + pN e), msAmo (msThr σ 0) (va_up (mAmo σ) (pN p * 30 + pN e) a)) else (0, msThr σ 2)) else (0, msThr σ 1)
def lsS (w : Int32) (cop : Nat → Int32) : Nat → (Nat → Int32) × Int32
  | 0 => (cop, 0)
  | k + 1 => (va_up (lsS w cop k).1 k ((lsS w cop k).1 k &&& (((1 : Int32) <<< (w &&& 31)) ^^^ (-1))), (lsS w cop k).2 + (((lsS w cop k).1 k >>> (w &&& 31)) &&& 1))
def mLose (σ : SM) (h : Int32) : Int32 × SM :=
  if inB h 0 6 then ((lsS h (mCop σ) (mN σ * 30)).2, msCop (msThr σ 0) (lsS h (mCop σ) (mN σ * 30)).1) else (0, msThr σ 1)
def mRep1 (σ : SM) (P E : Nat) : SM := msOwe (msAmo (msThr σ 0) (va_up (mAmo σ) (P * 30 + E) (mWas σ (P * 30 + E)))) (va_up (mOwe σ) (mHol σ P) (mOwe σ (mHol σ P) + 5))
def mRepair (σ : SM) (p e : Int32) : Int32 × SM :=
  if entB σ p e then (if mbB σ (pN p) (pN e) && decide (¬ mCop σ (pN p * 30 + pN e) = 0) then (loF (mCop σ (pN p * 30 + pN e)), mRep1 σ (pN p) (pN e)) else (0, msThr σ 2)) else (0, msThr σ 1)
def mBroken (σ : SM) (p : Int32) : Int32 × SM := if palM σ p then (mfF σ (pN p), msThr σ 0) else (0, msThr σ 1)
noncomputable def mSound (σ : SM) (p : Int32) : Bool × SM := if palM σ p then (msF σ (pN p), msThr σ 0) else (false, msThr σ 1)
def mPallet (σ : SM) (p w : Int32) : Int32 × SM :=
  if palM σ p then (if inB w 0 4 then (if w = 0 then nI (mHol σ (pN p)) else if w = 1 then nI (mMan σ (pN p)) else if w = 2 then wS (mGoo σ) (pN p) 6 else if w = 3 then bI (mHel σ (pN p)) else bI (mGon σ (pN p)), msThr σ 0) else (0, msThr σ 2)) else (0, msThr σ 1)
def mEntry (σ : SM) (p e w : Int32) : Int32 × SM :=
  if entB σ p e then (if inB w 0 7 then (if w = 0 then mKin σ (pN p * 30 + pN e) else if w = 1 then mMak σ (pN p * 30 + pN e) else if w = 2 then mGod σ (pN p * 30 + pN e) else if w = 3 then mAmo σ (pN p * 30 + pN e) else if w = 4 then mOth σ (pN p * 30 + pN e) else if w = 5 then mIts σ (pN p * 30 + pN e) else if w = 6 then mPrf σ (pN p * 30 + pN e) else mCop σ (pN p * 30 + pN e), msThr σ 0) else (0, msThr σ 2)) else (0, msThr σ 1)
def mContents (σ : SM) (p g : Int32) : Int32 × SM := if palM σ p && inB g 0 5 then (mGoo σ (pN p * 6 + pN g), msThr σ 0) else (0, msThr σ 1)
def mAnew (σ : SM) (p g : Int32) : Int32 × SM := if palM σ p && inB g 0 5 then (anF σ (mTol σ) (pN p) g, msTol (msThr σ 0) (tlF σ (mTol σ) g)) else (0, msThr σ 1)
def mDeclare (σ : SM) (t g a : Int32) : Int32 × SM :=
  if inB t 4 5 && inB g 0 5 then (if inB a 0 9999 then (mDec σ ((pN t - 4) * 6 + pN g), msDec (msThr σ 0) (va_up (mDec σ) ((pN t - 4) * 6 + pN g) a)) else (0, msThr σ 2)) else (0, msThr σ 1)
def mMismatch (σ : SM) (t : Int32) : Int32 × SM := if inB t 4 5 then ((mmF σ (pN t)).1, msTol (msThr σ 0) (mmF σ (pN t)).2) else (0, msThr σ 1)
def mFeeF (σ : SM) (k f : Int32) : Int32 × SM := if inB k 0 9 && inB f 0 99 then (mFee σ (pN k), msFee (msThr σ 0) (va_up (mFee σ) (pN k) f)) else (0, msThr σ 1)
def mOwed (σ : SM) (h : Int32) : Int32 × SM := if inB h 0 6 then (mOwe σ (pN h), msThr σ 0) else (0, msThr σ 1)
theorem inB_nat {lo hi : Nat} (hlo : lo < 2 ^ 30) (hhi : hi < 2 ^ 30) {x : Int32} (h : inB x (nI lo) (nI hi) = true) : ∃ X, lo ≤ X ∧ X ≤ hi ∧ x = nI X := by
  simp only [inB, Bool.and_eq_true, decide_eq_true_eq] at h
  obtain ⟨h1, h2⟩ := h
  have h0 : ¬ x < 0 := by
    intro z
    rw [Int32.lt_iff_toInt_lt] at z h1
    rw [nI_toInt (by omega)] at h1
    have : (0 : Int32).toInt = 0 := rfl
    omega
  obtain ⟨X, hX, rfl⟩ := nI_of h0
  refine ⟨X, Nat.le_of_not_lt (fun z => h1 (nI_lt z (by omega))), Nat.le_of_not_lt (fun z => h2 (nI_lt z hX)), rfl⟩
theorem ent_nat {σ : SM} (hn : mN σ ≤ 14) (hman : ∀ P, mMan σ P ≤ 30) {p e : Int32} (h : entB σ p e = true) : ∃ P, P < mN σ ∧ p = nI P ∧ ∃ E, E < mMan σ P ∧ e = nI E := by
  simp only [entB, Bool.and_eq_true] at h
  obtain ⟨P, h1, rfl⟩ := inB_pal (by omega) h.1
  have h2 := h.2
  rw [nI_clamp (by omega)] at h2
  have := hman P
  obtain ⟨E, h3, rfl⟩ := inB_pal (by omega) h2
  exact ⟨P, h1, rfl, E, h3, rfl⟩
theorem thr_1 {σ : SM} {x : Int32} {P : Nat} : mfF (msThr σ x) P = mfF σ P := rfl
theorem thr_2 {σ : SM} {x : Int32} {P : Nat} : msF (msThr σ x) P = msF σ P := rfl
theorem thr_3 {σ : SM} {x : Int32} {P : Nat} {t : Nat → Int32} {g : Int32} : anF (msThr σ x) t P g = anF σ t P g := rfl
theorem thr_4 {σ : SM} {x : Int32} {t : Nat → Int32} {g : Int32} : tlF (msThr σ x) t g = tlF σ t g := rfl
theorem thr_5 {σ : SM} {x : Int32} {P : Nat} : mmF (msThr σ x) P = mmF σ P := rfl
theorem thr_6 {σ : SM} {x : Int32} {P : Nat} : mcF (msThr σ x) P = mcF σ P := rfl
theorem thr_7 {σ : SM} {x : Int32} {P E : Nat} : mbB (msThr σ x) P E = mbB σ P E := rfl
theorem thr_8 {σ : SM} {x : Int32} {P : Nat} : mfF (msThr σ x) P = mfF σ P := rfl
