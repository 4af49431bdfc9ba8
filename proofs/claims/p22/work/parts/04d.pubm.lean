/-! the reference's public methods: the answer, and the state behind it -/
abbrev pN (x : Int32) : Nat := x.toNatClampNeg
def ldK (a : Int32) : Nat := if a ≤ 0 then 2 else 1
def ldA (a : Int32) : Int32 := if a ≤ 0 then -a else a
theorem ldK_lt (a : Int32) : ldK a < 3 := by unfold ldK; split <;> decide
def palM (σ : SM) (p : Int32) : Bool := inB p 0 (nI (mN σ) - 1)
def mMake (σ : SM) (d : Int32) : Int32 × SM :=
  if inB d 0 3 then (if mN σ = 14 then (0, msThr σ 2) else (nI (mN σ), mwF (mtF (msThr σ 0) (pN d)) (mN σ) 0 0 0 0 0)) else (0, msThr σ 1)
noncomputable def mLoad (σ : SM) (p g a : Int32) : Int32 × SM :=
  if palM σ p && inB g 0 5 then (if inB a (-99) 99 && decide (¬ a = 0) then (if clF σ (pN p) (pN g) a then
    (mGoo σ (pN p * 6 + pN g) + a, mwF (msGoo (msThr σ 0) (va_up (mGoo σ) (pN p * 6 + pN g) (mGoo σ (pN p * 6 + pN g) + a))) (pN p) (ldK a) g (ldA a) 0 0) else (0, msThr σ 3)) else (0, msThr σ 2)) else (0, msThr σ 1)
def mPart1 (σ : SM) (P G : Nat) (a : Int32) : SM :=
  msGoo (mtF (msThr σ 0) (mHol σ P)) (va_up (va_up (mGoo σ) (P * 6 + G) (mGoo σ (P * 6 + G) - a)) (mN σ * 6 + G) a)
def mPart2 (σ : SM) (P G : Nat) (a : Int32) : SM := mwF (mPart1 σ P G a) P 3 (nI G) a (nI (mN σ)) 0
noncomputable def mPart (σ : SM) (p g a : Int32) : Int32 × SM :=
  if palM σ p && inB g 0 5 then (if inB a 1 99 then (if decide (¬ mGoo σ (pN p * 6 + pN g) < a) && (decide (mN σ < 14) && mcF σ (pN p)) then
    (nI (mN σ), mwF (mPart2 σ (pN p) (pN g) a) (mN σ) 4 g a p (nI (mMan (mPart2 σ (pN p) (pN g) a) (pN p) - 1))) else (0, msThr σ 3)) else (0, msThr σ 2)) else (0, msThr σ 1)
def jnS (P O : Nat) (goo : Nat → Int32) : Nat → (Nat → Int32) × Int32
  | 0 => (goo, 0)
  | g + 1 => (va_up (va_up (jnS P O goo g).1 (O * 6 + g) ((jnS P O goo g).1 (O * 6 + g) + (jnS P O goo g).1 (P * 6 + g))) (P * 6 + g) 0, (jnS P O goo g).2 + va_up (va_up (jnS P O goo g).1 (O * 6 + g) ((jnS P O goo g).1 (O * 6 + g) + (jnS P O goo g).1 (P * 6 + g))) (P * 6 + g) 0 (O * 6 + g))
def mJoin1 (σ : SM) (P O : Nat) : SM := mwF (msGoo (msThr σ 0) (jnS P O (mGoo σ) 6).1) O 5 0 0 (nI P) (nI (mMan σ P))
def mJoin2 (σ : SM) (P O : Nat) : SM := mwF (mJoin1 σ P O) P 6 0 0 (nI O) (nI (mMan σ O))
def mJoin3 (σ : SM) (P : Nat) : SM := msGor (msWen (msGon σ (va_up (mGon σ) P true)) (va_up (mWen σ) (mGor σ) P)) (mGor σ + 1)
noncomputable def mJoin (σ : SM) (p o : Int32) : Int32 × SM :=
  if palM σ p && palM σ o then (if p = o then (0, msThr σ 2) else if cjF σ (pN p) (pN o) then ((jnS (pN p) (pN o) (mGoo σ) 6).2, mJoin3 (mJoin2 σ (pN p) (pN o)) (pN p)) else (0, msThr σ 3)) else (0, msThr σ 1)
def mMove1 (σ : SM) (P H : Nat) : SM := mwF (msThr σ 0) P 7 0 (nI H) 0 0
noncomputable def mMove (σ : SM) (p h : Int32) : Int32 × SM :=
  if palM σ p && inB h 0 5 then (if decide (¬ decide (mHol σ (pN p) < 4) = decide (pN h < 4)) && (mcF σ (pN p) && mrS (mHol σ) (mGoo σ) (pN h) (wS (mGoo σ) (pN p) 6) (mN σ)) then
    (wS (mGoo σ) (pN p) 6, msHol (mMove1 σ (pN p) (pN h)) (va_up (mHol (mMove1 σ (pN p) (pN h))) (pN p) (pN h))) else (0, msThr σ 2)) else (0, msThr σ 1)
def hdK (b : Bool) : Nat := if b then 9 else 8
theorem hdK_lt (b : Bool) : hdK b < 10 := by cases b <;> decide
def mHold1 (σ : SM) (P : Nat) : SM := msHel (msThr σ 0) (va_up (mHel σ) P (!mHel σ P))
def mHold (σ : SM) (p : Int32) : Bool × SM :=
  if palM σ p then (if mGon σ (pN p) || decide (mMan σ (pN p) = 30) then (false, msThr σ 2) else (!mHel σ (pN p), mwF (mHold1 σ (pN p)) (pN p) (hdK (mHel σ (pN p))) 0 0 0 0)) else (false, msThr σ 1)
def mSpoil (σ : SM) (p e a : Int32) : Int32 × SM :=
  if entB σ p e then (if inB a (-999) 999 then (mAmo σ (pN p * 30 + pN e), msAmo (msThr σ 0) (va_up (mAmo σ) (pN p * 30 + pN e) a)) else (0, msThr σ 2)) else (0, msThr σ 1)
def lsS (w : Int32) (cop : Nat → Int32) : Nat → (Nat → Int32) × Int32
  | 0 => (cop, 0)
  | k + 1 => (va_up (lsS w cop k).1 k ((lsS w cop k).1 k &&& (((1 : Int32) <<< (w &&& 31)) ^^^ (-1))), (lsS w cop k).2 + (((lsS w cop k).1 k >>> (w &&& 31)) &&& 1))
def mLose (σ : SM) (h : Int32) : Int32 × SM :=
  if inB h 0 6 then ((lsS h (mCop σ) (mN σ * 30)).2, msCop (msThr σ 0) (lsS h (mCop σ) (mN σ * 30)).1) else (0, msThr σ 1)
def mRep1 (σ : SM) (P E : Nat) : SM := msOwe (msAmo (msThr σ 0) (va_up (mAmo σ) (P * 30 + E) (mWas σ (P * 30 + E)))) (va_up (mOwe σ) (mHol σ P) (mOwe σ (mHol σ P) + 5))
def mRepair (σ : SM) (p e : Int32) : Int32 × SM :=
  if entB σ p e then (if mbB σ (pN p) (pN e) && decide (¬ mCop σ (pN p * 30 + pN e) = 0) then (loF (mCop σ (pN p * 30 + pN e)), mRep1 σ (pN p) (pN e)) else (0, msThr σ 2)) else (0, msThr σ 1)
def mBroken (σ : SM) (p : Int32) : Int32 × SM := if palM σ p then (mfF σ (pN p), msThr σ 0) else (0, msThr σ 1)
noncomputable def mSound (σ : SM) (p : Int32) : Bool × SM := if palM σ p then (msF σ (pN p), msThr σ 0) else (false, msThr σ 1)
def mPallet (σ : SM) (p w : Int32) : Int32 × SM :=
  if palM σ p then (if inB w 0 4 then (if w = 0 then nI (mHol σ (pN p)) else if w = 1 then nI (mMan σ (pN p)) else if w = 2 then wS (mGoo σ) (pN p) 6 else if w = 3 then bI (mHel σ (pN p)) else bI (mGon σ (pN p)), msThr σ 0) else (0, msThr σ 2)) else (0, msThr σ 1)
def mEntry (σ : SM) (p e w : Int32) : Int32 × SM :=
  if entB σ p e then (if inB w 0 7 then (if w = 0 then mKin σ (pN p * 30 + pN e) else if w = 1 then mMak σ (pN p * 30 + pN e) else if w = 2 then mGod σ (pN p * 30 + pN e) else if w = 3 then mAmo σ (pN p * 30 + pN e) else if w = 4 then mOth σ (pN p * 30 + pN e) else if w = 5 then mIts σ (pN p * 30 + pN e) else if w = 6 then mPrf σ (pN p * 30 + pN e) else mCop σ (pN p * 30 + pN e), msThr σ 0) else (0, msThr σ 2)) else (0, msThr σ 1)
def mContents (σ : SM) (p g : Int32) : Int32 × SM := if palM σ p && inB g 0 5 then (mGoo σ (pN p * 6 + pN g), msThr σ 0) else (0, msThr σ 1)
def mAnew (σ : SM) (p g : Int32) : Int32 × SM := if palM σ p && inB g 0 5 then (anF σ (mTol σ) (pN p) g, msTol (msThr σ 0) (tlF σ (mTol σ) g)) else (0, msThr σ 1)
def mDeclare (σ : SM) (t g a : Int32) : Int32 × SM :=
  if inB t 4 5 && inB g 0 5 then (if inB a 0 9999 then (mDec σ ((pN t - 4) * 6 + pN g), msDec (msThr σ 0) (va_up (mDec σ) ((pN t - 4) * 6 + pN g) a)) else (0, msThr σ 2)) else (0, msThr σ 1)
def mMismatch (σ : SM) (t : Int32) : Int32 × SM := if inB t 4 5 then ((mmF σ (pN t)).1, msTol (msThr σ 0) (mmF σ (pN t)).2) else (0, msThr σ 1)
def mFeeF (σ : SM) (k f : Int32) : Int32 × SM := if inB k 0 9 && inB f 0 99 then (mFee σ (pN k), msFee (msThr σ 0) (va_up (mFee σ) (pN k) f)) else (0, msThr σ 1)
def mOwed (σ : SM) (h : Int32) : Int32 × SM := if inB h 0 6 then (mOwe σ (pN h), msThr σ 0) else (0, msThr σ 1)
theorem inB_nat {lo hi : Nat} (hlo : lo < 2 ^ 30) (hhi : hi < 2 ^ 30) {x : Int32} (h : inB x (nI lo) (nI hi) = true) : ∃ X, lo ≤ X ∧ X ≤ hi ∧ x = nI X := by
  simp only [inB, Bool.and_eq_true, decide_eq_true_eq] at h
  obtain ⟨h1, h2⟩ := h
  have h0 : ¬ x < 0 := by
    intro z
    rw [Int32.lt_iff_toInt_lt] at z h1
    rw [nI_toInt (by omega)] at h1
    have : (0 : Int32).toInt = 0 := rfl
    omega
  obtain ⟨X, hX, rfl⟩ := nI_of h0
  refine ⟨X, Nat.le_of_not_lt (fun z => h1 (nI_lt z (by omega))), Nat.le_of_not_lt (fun z => h2 (nI_lt z hX)), rfl⟩
theorem ent_nat {σ : SM} (hn : mN σ ≤ 14) (hman : ∀ P, mMan σ P ≤ 30) {p e : Int32} (h : entB σ p e = true) : ∃ P, P < mN σ ∧ p = nI P ∧ ∃ E, E < mMan σ P ∧ e = nI E := by
  simp only [entB, Bool.and_eq_true] at h
  obtain ⟨P, h1, rfl⟩ := inB_pal (by omega) h.1
  have h2 := h.2
  rw [nI_clamp (by omega)] at h2
  have := hman P
  obtain ⟨E, h3, rfl⟩ := inB_pal (by omega) h2
  exact ⟨P, h1, rfl, E, h3, rfl⟩
theorem thr_1 {σ : SM} {x : Int32} {P : Nat} : mfF (msThr σ x) P = mfF σ P := rfl
theorem thr_2 {σ : SM} {x : Int32} {P : Nat} : msF (msThr σ x) P = msF σ P := rfl
theorem thr_3 {σ : SM} {x : Int32} {P : Nat} {t : Nat → Int32} {g : Int32} : anF (msThr σ x) t P g = anF σ t P g := rfl
theorem thr_4 {σ : SM} {x : Int32} {t : Nat → Int32} {g : Int32} : tlF (msThr σ x) t g = tlF σ t g := rfl
theorem thr_5 {σ : SM} {x : Int32} {P : Nat} : mmF (msThr σ x) P = mmF σ P := rfl
theorem thr_6 {σ : SM} {x : Int32} {P : Nat} : mcF (msThr σ x) P = mcF σ P := rfl
theorem thr_7 {σ : SM} {x : Int32} {P E : Nat} : mbB (msThr σ x) P E = mbB σ P E := rfl
theorem thr_8 {σ : SM} {x : Int32} {P : Nat} : mfF (msThr σ x) P = mfF σ P := rfl
theorem bI_t : bI true = 1 := rfl
theorem bI_f : bI false = 0 := rfl
theorem bI_inj {a b : Bool} : bI a = bI b ↔ a = b := by cases a <;> cases b <;> decide
theorem mwF_goo {σ : SM} {P kd : Nat} {g a o i : Int32} : mGoo (mwF σ P kd g a o i) = mGoo σ := rfl
theorem mwF_hel {σ : SM} {P kd : Nat} {g a o i : Int32} : mHel (mwF σ P kd g a o i) = mHel σ := rfl
theorem nI_l0 : nI 0 = 0 := rfl
theorem nI_l1 : nI 1 = 1 := rfl
theorem nI_l2 : nI 2 = 2 := rfl
theorem nI_l3 : nI 3 = 3 := rfl
theorem nI_l4 : nI 4 = 4 := rfl
theorem nI_l5 : nI 5 = 5 := rfl
theorem nI_l6 : nI 6 = 6 := rfl
theorem nI_l7 : nI 7 = 7 := rfl
theorem hol_up {f : Nat → Nat} {n h : Nat} (hf : ∀ P, f P < 6) (hh : h < 6) : ∀ P, va_up f n h P < 6 := by
  intro P
  by_cases q : P = n
  · rw [q, va_up_self]; exact hh
  · rw [va_up_ne _ _ q]; exact hf P
theorem hz_man {σ : SM} (hz : ∀ P, mN σ ≤ P → mMan σ P = 0) {P : Nat} (h : mN σ ≤ P) : mMan σ P < 30 := by rw [hz P h]; decide
theorem mcF_man {σ : SM} {P : Nat} (h : mcF σ P = true) : mMan σ P < 30 := by
  simp only [mcF, Bool.and_eq_true, decide_eq_true_eq] at h
  exact h.2.2.1
theorem clF_man {σ : SM} {P G : Nat} {a : Int32} (h : clF σ P G a = true) : mMan σ P < 30 := by
  simp only [clF, Bool.and_eq_true] at h
  exact mcF_man h.1
theorem cjS_b {goo : Nat → Int32} {P O : Nat} {b : Bool} : ∀ {k : Nat}, cjS goo P O b k = true → b = true
  | 0, h => h
  | k + 1, h => by
    rw [cjS, Bool.and_eq_true] at h
    exact cjS_b h.1
theorem cjF_man {σ : SM} {P O : Nat} (h : cjF σ P O = true) : mMan σ P < 30 ∧ mMan σ O < 30 := by
  have := cjS_b h
  simp only [Bool.and_eq_true] at this
  exact ⟨mcF_man this.2.1, mcF_man this.2.2⟩
theorem fst_none {f : Nat → Bool} : ∀ {d k : Nat}, fstF f d k = -1 → k + d < 2 ^ 31 → ∀ j, k ≤ j → j < k + d → f j = false
  | 0, k, h, _, j, h1, h2 => by omega
  | d + 1, k, h, hb, j, h1, h2 => by
    rw [fstF] at h
    cases hf : f k
    · rw [if_neg (by rw [hf]; decide)] at h
      by_cases hj : j = k
      · rw [hj, hf]
      · exact fst_none h (by omega) j (by omega) (by omega)
    · rw [if_pos hf] at h
      have := congrArg Int32.toInt h
      rw [nI_toInt (by omega)] at this
      have h9 : (-1 : Int32).toInt = -1 := by decide
      omega
theorem loF_ne {x : Int32} (h : ¬ x = 0) (h7 : ∀ i, 7 ≤ i → i < 32 → bt x i = false) : ¬ loF x = -1 := by
  intro z
  refine h (b_zero.mpr (fun i hi => ?_))
  rcases Nat.lt_or_ge i 7 with q | q
  · rw [← isB_bt hi]
    exact fst_none (f := fun k => isB x (nI k)) z (by decide) i (Nat.zero_le _) (by omega)
  · exact h7 i q hi
theorem lo_lt {x : Int32} {k : Nat} (h : ¬ loF x = -1) (hi : fstF (fun k => isB x (nI k)) (7 - k) k = loF x) (hk : k ≤ 7) : k < 7 := by
  rcases Nat.lt_or_ge k 7 with q | q
  · exact q
  · exact absurd (hi.symm.trans (fstF_end q)) h
theorem mm_Thr {σ : SM} {a b : Int32} : msThr (msThr σ a) b = msThr σ b := rfl
theorem mm_Hol {σ : SM} {a b : Nat → Nat} : msHol (msHol σ a) b = msHol σ b := rfl
theorem mm_Goo {σ : SM} {a b : Nat → Int32} : msGoo (msGoo σ a) b = msGoo σ b := rfl
theorem mm_Man {σ : SM} {a b : Nat → Nat} : msMan (msMan σ a) b = msMan σ b := rfl
theorem mm_Hel {σ : SM} {a b : Nat → Bool} : msHel (msHel σ a) b = msHel σ b := rfl
theorem mm_Gon {σ : SM} {a b : Nat → Bool} : msGon (msGon σ a) b = msGon σ b := rfl
theorem mm_N {σ : SM} {a b : Nat} : msN (msN σ a) b = msN σ b := rfl
theorem mm_Wen {σ : SM} {a b : Nat → Nat} : msWen (msWen σ a) b = msWen σ b := rfl
theorem mm_Gor {σ : SM} {a b : Nat} : msGor (msGor σ a) b = msGor σ b := rfl
theorem mm_Kin {σ : SM} {a b : Nat → Int32} : msKin (msKin σ a) b = msKin σ b := rfl
theorem mm_Mak {σ : SM} {a b : Nat → Int32} : msMak (msMak σ a) b = msMak σ b := rfl
theorem mm_God {σ : SM} {a b : Nat → Int32} : msGod (msGod σ a) b = msGod σ b := rfl
theorem mm_Amo {σ : SM} {a b : Nat → Int32} : msAmo (msAmo σ a) b = msAmo σ b := rfl
theorem mm_Oth {σ : SM} {a b : Nat → Int32} : msOth (msOth σ a) b = msOth σ b := rfl
theorem mm_Its {σ : SM} {a b : Nat → Int32} : msIts (msIts σ a) b = msIts σ b := rfl
theorem mm_Was {σ : SM} {a b : Nat → Int32} : msWas (msWas σ a) b = msWas σ b := rfl
theorem mm_Prf {σ : SM} {a b : Nat → Int32} : msPrf (msPrf σ a) b = msPrf σ b := rfl
theorem mm_Cop {σ : SM} {a b : Nat → Int32} : msCop (msCop σ a) b = msCop σ b := rfl
theorem mm_Dec {σ : SM} {a b : Nat → Int32} : msDec (msDec σ a) b = msDec σ b := rfl
theorem mm_Fee {σ : SM} {a b : Nat → Int32} : msFee (msFee σ a) b = msFee σ b := rfl
theorem mm_Owe {σ : SM} {a b : Nat → Int32} : msOwe (msOwe σ a) b = msOwe σ b := rfl
theorem mm_Tol {σ : SM} {a b : Nat → Int32} : msTol (msTol σ a) b = msTol σ b := rfl
