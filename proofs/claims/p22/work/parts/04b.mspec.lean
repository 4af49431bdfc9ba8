/-! what the reference's private methods compute -/
def okM (σ : SM) : Prop := mN σ ≤ 14 ∧ (∀ P, mHol σ P < 6) ∧ (∀ P, mMan σ P ≤ 30) ∧ mGor σ ≤ 14 ∧ (∀ k, mWen σ k < 14)
/-- what entries CAME (4) and JOINED (5) tell is a pallet -/
def othM (σ : SM) : Prop := ∀ r, (mKin σ r = 5 ∨ mKin σ r = 4) → ∃ o : Nat, o < 14 ∧ mOth σ r = nI o
def mpC (prf kin mak god amo oth its : Nat → Int32) (P E : Nat) : Int32 :=
  31 * (31 * (31 * (31 * (31 * (31 * pm0 prf P E + kin (P * 30 + E)) + mak (P * 30 + E)) + god (P * 30 + E)) + amo (P * 30 + E)) + oth (P * 30 + E)) + its (P * 30 + E)
def mpF (σ : SM) (P E : Nat) : Int32 := mpC (mPrf σ) (mKin σ) (mMak σ) (mGod σ) (mAmo σ) (mOth σ) (mIts σ) P E
def cwF (kd : Nat) (a : Int32) : Int32 := if kd = 7 then ((1 : Int32) <<< (a &&& 31)) else if kd = 3 ∨ kd = 5 then 64 else 0
def mwF (σ : SM) (P kd : Nat) (g a o i : Int32) : SM :=
  let E := mMan σ P
  let r := P * 30 + E
  let w := mkF kd (mHol σ P)
  (mThr σ, mHol σ, mGoo σ, va_up (mMan σ) P (E + 1), mHel σ, mGon σ, mN σ, mWen σ, mGor σ, va_up (mKin σ) r (nI kd), va_up (mMak σ) r (nI w), va_up (mGod σ) r g, va_up (mAmo σ) r a, va_up (mOth σ) r o, va_up (mIts σ) r i, va_up (mWas σ) r a,
    va_up (mPrf σ) r (mpC (mPrf σ) (va_up (mKin σ) r (nI kd)) (va_up (mMak σ) r (nI w)) (va_up (mGod σ) r g) (va_up (mAmo σ) r a) (va_up (mOth σ) r o) (va_up (mIts σ) r i) P E),
    va_up (mCop σ) r (((1 : Int32) <<< (nI w &&& 31)) ||| cwF kd a), mDec σ, mFee σ, va_up (mOwe σ) w (mOwe σ w + mFee σ kd), mTol σ)
def mbB (σ : SM) (P E : Nat) : Bool := decide (¬ mPrf σ (P * 30 + E) = mpF σ P E)
def mfF (σ : SM) (P : Nat) : Int32 := fstF (mbB σ P) (mMan σ P) 0
def entB (σ : SM) (p e : Int32) : Bool := inB p 0 (nI (mN σ) - 1) && inB e 0 (nI (mMan σ p.toNatClampNeg) - 1)
/-- reached from P by what is told -/
def Rch (adj : Nat → Nat → Prop) (P j : Nat) : Prop := ∀ S : Nat → Prop, S P → (∀ a b, S a → adj a b → S b) → S j
noncomputable def sndB (adj : Nat → Nat → Prop) (fb : Nat → Int32) (P : Nat) : Bool := @decide (∀ j, Rch adj P j → fb j = -1) (Classical.propDecidable _)
def adjM (σ : SM) (P j : Nat) : Prop := ∃ e, e < mMan σ P ∧ (mKin σ (P * 30 + e) = 4 ∨ mKin σ (P * 30 + e) = 5) ∧ mOth σ (P * 30 + e) = nI j ∧ j < 14
noncomputable def msF (σ : SM) (P : Nat) : Bool := sndB (adjM σ) (mfF σ) P
noncomputable def mcF (σ : SM) (P : Nat) : Bool := (!mHel σ P) && ((!mGon σ P) && (decide (mMan σ P < 30) && msF σ P))
def mrS (hol : Nat → Nat) (goo : Nat → Int32) (hd : Nat) (more : Int32) (n : Nat) : Bool := decide (hd < 4) || decide (¬ 200 < rS hol goo hd more n)
noncomputable def clF (σ : SM) (P G : Nat) (a : Int32) : Bool := mcF σ P && (inB (mGoo σ (P * 6 + G) + a) 0 999 && (decide (a < 0) || mrS (mHol σ) (mGoo σ) (mHol σ P) (a * nI (G + 1)) (mN σ)))
def cjS (goo : Nat → Int32) (P O : Nat) (b : Bool) : Nat → Bool
  | 0 => b
  | k + 1 => cjS goo P O b k && decide (¬ 999 < goo (P * 6 + k) + goo (O * 6 + k))
noncomputable def cjF (σ : SM) (P O : Nat) : Bool := cjS (mGoo σ) P O (decide (mHol σ P = mHol σ O) && (mcF σ P && mcF σ O)) 6
def mtF (σ : SM) (h : Nat) : SM := msN (msHol σ (va_up (mHol σ) (mN σ) h)) (mN σ + 1)
def ppS (kin god amo oth tol : Nat → Int32) (P : Nat) (g : Int32) : Nat → Int32
  | 0 => 0
  | e + 1 => (ppS kin god amo oth tol P g e + (if god (P * 30 + e) = g then sgnF (kin (P * 30 + e)) * amo (P * 30 + e) else 0)) + (if kin (P * 30 + e) = 5 then tol (oth (P * 30 + e)).toNatClampNeg else 0)
def ppC (kin god amo oth : Nat → Int32) (man : Nat → Nat) (tol : Nat → Int32) (P : Nat) (g : Int32) : Int32 := ppS kin god amo oth tol P g (man P)
def tlS (kin god amo oth : Nat → Int32) (man wen : Nat → Nat) (tol : Nat → Int32) (g : Int32) : Nat → (Nat → Int32)
  | 0 => tol
  | k + 1 => va_up (tlS kin god amo oth man wen tol g k) (wen k) (ppC kin god amo oth man (tlS kin god amo oth man wen tol g k) (wen k) g)
def anC (kin god amo oth : Nat → Int32) (man wen : Nat → Nat) (gor : Nat) (gon : Nat → Bool) (tol : Nat → Int32) (P : Nat) (g : Int32) : Int32 := if gon P then 0 else ppC kin god amo oth man (tlS kin god amo oth man wen tol g gor) P g
def tlF (σ : SM) (tol : Nat → Int32) (g : Int32) : Nat → Int32 := tlS (mKin σ) (mGod σ) (mAmo σ) (mOth σ) (mMan σ) (mWen σ) tol g (mGor σ)
def anF (σ : SM) (tol : Nat → Int32) (P : Nat) (g : Int32) : Int32 := anC (mKin σ) (mGod σ) (mAmo σ) (mOth σ) (mMan σ) (mWen σ) (mGor σ) (mGon σ) tol P g
/-- the inner loop of the mismatch: what is left over, and what is told then -/
def miS (kin god amo oth : Nat → Int32) (man wen : Nat → Nat) (gor : Nat) (gon : Nat → Bool) (hol : Nat → Nat) (t : Nat) (g : Int32) (x : Int32) (tol : Nat → Int32) : Nat → Int32 × (Nat → Int32)
  | 0 => (x, tol)
  | k + 1 => if hol k = t then ((miS kin god amo oth man wen gor gon hol t g x tol k).1 - anC kin god amo oth man wen gor gon (miS kin god amo oth man wen gor gon hol t g x tol k).2 k g, tlS kin god amo oth man wen (miS kin god amo oth man wen gor gon hol t g x tol k).2 g gor) else miS kin god amo oth man wen gor gon hol t g x tol k
def absI (x : Int32) : Int32 := if x < 0 then -x else x
def mmS (kin god amo oth : Nat → Int32) (man wen : Nat → Nat) (gor : Nat) (gon : Nat → Bool) (hol : Nat → Nat) (dec : Nat → Int32) (n t : Nat) (tol : Nat → Int32) : Nat → Int32 × (Nat → Int32)
  | 0 => (0, tol)
  | g + 1 => ((mmS kin god amo oth man wen gor gon hol dec n t tol g).1 + absI (miS kin god amo oth man wen gor gon hol t (nI g) (dec ((t - 4) * 6 + g)) (mmS kin god amo oth man wen gor gon hol dec n t tol g).2 n).1, (miS kin god amo oth man wen gor gon hol t (nI g) (dec ((t - 4) * 6 + g)) (mmS kin god amo oth man wen gor gon hol dec n t tol g).2 n).2)
def mmF (σ : SM) (t : Nat) : Int32 × (Nat → Int32) := mmS (mKin σ) (mGod σ) (mAmo σ) (mOth σ) (mMan σ) (mWen σ) (mGor σ) (mGon σ) (mHol σ) (mDec σ) (mN σ) t (mTol σ) 6
theorem inB_sub {n : Nat} (hn : n < 2 ^ 30) (p : Int32) : inB p 0 (nI n - 1) = rngB 0 (nI n) p := by
  have h1 : (nI n - 1).toInt = (n : Int) - 1 := pk_sub_toInt (b := 1) hn (by decide)
  have h2 : (nI n).toInt = (n : Int) := nI_toInt (by omega)
  have h3 : (nI n - 1 < p) ↔ (nI n ≤ p) := by
    rw [Int32.lt_iff_toInt_lt, Int32.le_iff_toInt_le, h1, h2]
    omega
  simp only [inB, rngB, h3]
theorem rngB_pal {n : Nat} (hn : n < 2 ^ 30) {p : Int32} (h : rngB 0 (nI n) p = true) : ∃ P, P < n ∧ p = nI P := by
  simp only [rngB, Bool.and_eq_true, decide_eq_true_eq] at h
  rcases pk_ix p (n := n) (by omega) with q | q | q
  · exact absurd q h.1
  · exact absurd q h.2
  · exact q
theorem inB_pal {n : Nat} (hn : n < 2 ^ 30) {p : Int32} (h : inB p 0 (nI n - 1) = true) : ∃ P, P < n ∧ p = nI P := rngB_pal hn (by rw [← inB_sub hn]; exact h)
