/-! the relation, and the conditions that both ask -/
def fxG (σ : SG) : Prop := okG σ ∧ ∀ P, gN σ ≤ P → gLen σ P = 0
def fxM (τ : SM) : Prop := okM τ ∧ othM τ ∧ (∀ P, mN τ ≤ P → mMan τ P = 0) ∧ (∀ P O, cjF τ P O = true → mGor τ < 14) ∧ (∀ r i, 7 ≤ i → i < 32 → bt (mCop τ r) i = false)
def kB (c : Nat) : Nat := if c = 3 then 2 else c
def kE (c : Nat) : Nat := if c = 2 then 1 else c
def Inv (τ : SM) : Prop := okB (mKin τ) (mOth τ) (mMan τ) (mN τ) (mHel τ) (mGon τ) (mWen τ) (mGor τ) ∧ okT (mHol τ) (mGoo τ) (mN τ) ∧ okC (mCop τ) (mN τ) ∧ mN τ ≤ 14 ∧ (∀ P, mHol τ P < 6) ∧ ∀ k, mWen τ k < 14
def RelGM (σ : SG) (τ : SM) : Prop := σ = gOf τ ∧ Inv τ
theorem rel_fx (σ : SG) (τ : SM) (h : RelGM σ τ) : fxG σ ∧ fxM τ := by
  obtain ⟨rfl, hB, hT, hC, hn, hh, hw⟩ := h
  have hg := B_gor hn hB
  obtain ⟨b1, b2, b3, b4, b5, b6, b7, b8⟩ := hB
  exact ⟨⟨⟨hn, hh, b2⟩, b1⟩, ⟨⟨hn, hh, b2, by omega, hw⟩, fun r hr => (b3 r hr).elim (fun o z => ⟨o, by omega, z.2⟩), b1, fun _ _ _ => hg, hC.1⟩⟩
theorem okC_0 {n : Nat} : okC (fun _ => 0) n := ⟨fun _ i _ _ => b_0 i, fun _ _ => rfl⟩
theorem rel_0 : RelGM G0 M0 := by
  have hnum : numC (fun _ => 0) (fun _ => 0) (fun _ => 0) (fun _ => 0) (fun _ => 0) (fun _ => 0) = fun _ => 0 := nc_ext (fun q => ⟨nc0, nc1, nc2, nc3, nc4, nc5⟩)
  refine ⟨sgEq rfl rfl rfl rfl rfl rfl hnum.symm rfl rfl rfl rfl, ?_, ?_, okC_0, Nat.zero_le _, fun _ => by show 0 < 6; decide, fun _ => by show 0 < 14; decide⟩
  · refine ⟨fun _ _ => rfl, fun _ => by show 0 ≤ 30; decide, fun r hr => ?_, fun P => ?_, fun P => ?_, ⟨fun i hi => absurd hi (Nat.not_lt_zero _), fun i j hi => absurd hi (Nat.not_lt_zero _), fun P e he => absurd he (Nat.not_lt_zero _), fun P e P' e' he => absurd he (Nat.not_lt_zero _)⟩, fun i hi => absurd hi (Nat.not_lt_zero _), by decide, Or.inl rfl⟩
    · rcases hr with q | q
      · exact absurd (show (0 : Int32) = 5 from q) (by decide)
      · exact absurd (show (0 : Int32) = 4 from q) (by decide)
    · show false = decide (lkK (fun _ => 0) (fun _ => 0) P = 8)
      unfold lkK; rw [if_neg (Nat.lt_irrefl 0)]; decide
    · show false = decide (lkK (fun _ => 0) (fun _ => 0) P = 6)
      unfold lkK; rw [if_neg (Nat.lt_irrefl 0)]; decide
  · exact ⟨fun r => by show 0 ≤ (0 : Int32).toInt ∧ (0 : Int32).toInt ≤ 999; decide, fun r _ => rfl, fun hd _ => by show (0 : Int) ≤ 200; decide⟩
theorem lkF_K {τ : SM} {P : Nat} : lkF (mMan τ) (numM τ) P = lkK (mKin τ) (mMan τ) P := lk_eq
theorem wk_eq {τ : SM} (h : Inv τ) {P : Nat} (hP : P < mN τ) : wkC (gOf τ) P = mcF τ P := by
  obtain ⟨⟨b1, b2, b3, b4, b5, b6, b7, b8⟩, hT, hC, hn, hh, hw⟩ := h
  show wkF (mN τ) (mMan τ) (mPrf τ) (numM τ) P = mcF τ P
  unfold wkF mcF
  rw [au_eq hn b3 hP, lkF_K, b4 P, b5 P]
theorem hel_eq {τ : SM} (h : Inv τ) (P : Nat) : decide (lkC (gOf τ) P = 8) = mHel τ P := by
  show decide (lkF (mMan τ) (numM τ) P = 8) = _
  rw [lkF_K]; exact (h.1.2.2.2.1 P).symm
theorem gon_eq {τ : SM} (h : Inv τ) (P : Nat) : decide (lkC (gOf τ) P = 6) = mGon τ P := by
  show decide (lkF (mMan τ) (numM τ) P = 6) = _
  rw [lkF_K]; exact (h.1.2.2.2.2.1 P).symm
theorem tb_eq {τ : SM} (h : Inv τ) {P : Nat} (hP : P < mN τ) (tol : Nat → Int32) (g : Int32) : tbF (mN τ) (mMan τ) (numM τ) P g = anF τ tol P g := by
  obtain ⟨⟨b1, b2, b3, b4, b5, b6, b7, b8⟩, hT, hC, hn, hh, hw⟩ := h
  unfold tbF anF anC
  rw [lkF_K, b5 P, pp_tree (mak := mMak τ) (its := mIts τ) b6 (fun i hi => (b7 i hi).1) hP, tb_sm (othK_14 b3 hn) (by omega) _ hn]
  by_cases q : lkK (mKin τ) (mMan τ) P = 6
  · rw [if_pos q, if_pos (decide_eq_true q)]
  · rw [if_neg q, if_neg (by rw [decide_eq_false q]; decide)]
theorem sub_sub32 (a b c : Int32) : a - b - c = a - (b + c) := by
  rw [Int32.sub_eq_add_neg, Int32.sub_eq_add_neg, Int32.sub_eq_add_neg, Int32.neg_add, Int32.sub_eq_add_neg]
  ac_rfl
theorem mi_eq {τ : SM} (h : Inv τ) {t : Nat} {g x : Int32} {tol : Nat → Int32} : ∀ k, k ≤ mN τ → (miS (mKin τ) (mGod τ) (mAmo τ) (mOth τ) (mMan τ) (mWen τ) (mGor τ) (mGon τ) (mHol τ) t g x tol k).1 = x - ttS (mN τ) (mHol τ) (mMan τ) (numM τ) t g k
  | 0, _ => by rw [miS, ttS, Int32.sub_zero]
  | k + 1, hk => by
    have ih := mi_eq (t := t) (g := g) (x := x) (tol := tol) h k (by omega)
    rw [miS, ttS]
    by_cases q : mHol τ k = t
    · rw [if_pos q, if_pos q, tb_eq h (by omega) (miS (mKin τ) (mGod τ) (mAmo τ) (mOth τ) (mMan τ) (mWen τ) (mGor τ) (mGon τ) (mHol τ) t g x tol k).2 g]
      show (miS _ _ _ _ _ _ _ _ _ t g x tol k).1 - anF τ _ k g = _
      rw [ih, sub_sub32]
    · rw [if_neg q, if_neg q, Int32.add_zero, ih]
theorem mm_eq {τ : SM} (h : Inv τ) {t : Nat} {tol : Nat → Int32} : ∀ g, cmS (mN τ) (mHol τ) (mMan τ) (numM τ) (mDec τ) t g = (mmS (mKin τ) (mGod τ) (mAmo τ) (mOth τ) (mMan τ) (mWen τ) (mGor τ) (mGon τ) (mHol τ) (mDec τ) (mN τ) t tol g).1
  | 0 => rfl
  | g + 1 => by
    rw [cmS, mmS, mm_eq h g]
    show _ + _ = _ + absI (miS _ _ _ _ _ _ _ _ _ _ _ _ _ _).1
    rw [mi_eq h _ (Nat.le_refl _)]
theorem rb {x lo hi hi1 : Int32} (h : hi1.toInt = hi.toInt + 1) : rngB lo hi1 x = inB x lo hi := by
  unfold rngB inB
  refine congrArg _ ?_
  rw [decide_eq_decide, Int32.lt_iff_toInt_lt, Int32.le_iff_toInt_le, h]
  omega
theorem ent_eq {τ : SM} (h : Inv τ) {p e : Int32} : entC (gOf τ) p e = entB τ p e := by
  show (palC (gOf τ) p && rngB 0 (nI (mMan τ (pN p))) e) = entB τ p e
  unfold entB
  rw [pal_eq h.2.2.2.1, inB_sub (n := mMan τ p.toNatClampNeg) (by have := h.1.2.1 p.toNatClampNeg; omega)]
  rfl
theorem Inv_mw {τ : SM} (h : Inv τ) {P kd : Nat} {g a o i : Int32} (hP : P < mN τ) (hm : mMan τ P < 30) (hh : mHel τ P = false) (hg : mGon τ P = false) (hk : kd < 10) (h5 : kd ≠ 5) (h6 : kd ≠ 6) (h8 : kd ≠ 8) (h4 : kd = 4 → ∃ q : Nat, q < mN τ ∧ o = nI q) (h7 : kd = 7 → ∃ b : Nat, b < 6 ∧ a = nI b) : Inv (mwF τ P kd g a o i) :=
  ⟨B_app h.1 hP hm hh hg hk h5 h6 h8 h4, h.2.1, C_app h.2.2.1 hP hm (mkF_lt (h.2.2.2.2.1 P)) h7, h.2.2.2⟩
theorem Inv_thr {τ : SM} {x : Int32} (h : Inv τ) : Inv (msThr τ x) := h
theorem new_no {τ : SM} (h : Inv τ) : mMan τ (mN τ) = 0 ∧ mHel τ (mN τ) = false ∧ mGon τ (mN τ) = false := by
  have h0 := h.1.1 (mN τ) (Nat.le_refl _)
  have hl : lkK (mKin τ) (mMan τ) (mN τ) = -1 := by unfold lkK; rw [h0, if_neg (Nat.lt_irrefl 0)]
  exact ⟨h0, by rw [h.1.2.2.2.1, hl]; decide, by rw [h.1.2.2.2.2.1, hl]; decide⟩
theorem mc_un {τ : SM} {P : Nat} (h : mcF τ P = true) : mHel τ P = false ∧ mGon τ P = false ∧ mMan τ P < 30 := by
  unfold mcF at h
  simp only [Bool.and_eq_true, Bool.not_eq_true', decide_eq_true_eq] at h
  exact ⟨h.1, h.2.1, h.2.2.1⟩
abbrev OKI (k : Nat → Nat) (c : Nat × Int32 × SG) (m : Int32 × SM) : Prop := nI (k c.1) = mThr m.2 ∧ k c.1 < 4 ∧ (k c.1 = 0 → c.1 = 0) ∧ (c.1 = 0 → c.2.1 = m.1) ∧ RelGM c.2.2 m.2
abbrev OKZ (k : Nat → Nat) (c : Nat × Bool × SG) (m : Bool × SM) : Prop := nI (k c.1) = mThr m.2 ∧ k c.1 < 4 ∧ (k c.1 = 0 → c.1 = 0) ∧ (c.1 = 0 → c.2.1 = m.1) ∧ RelGM c.2.2 m.2
theorem ok_no {k : Nat → Nat} {c : Nat} {x v w : Int32} {τ : SM} (h : Inv τ) (h1 : nI (k c) = x) (h2 : k c < 4) (h3 : k c ≠ 0) (h4 : c ≠ 0) : OKI k (c, v, gOf τ) (w, msThr τ x) := ⟨h1, h2, fun z => absurd z h3, fun z => absurd z h4, rfl, h⟩
theorem ok_noZ {k : Nat → Nat} {c : Nat} {x : Int32} {v w : Bool} {τ : SM} (h : Inv τ) (h1 : nI (k c) = x) (h2 : k c < 4) (h3 : k c ≠ 0) (h4 : c ≠ 0) : OKZ k (c, v, gOf τ) (w, msThr τ x) := ⟨h1, h2, fun z => absurd z h3, fun z => absurd z h4, rfl, h⟩
theorem ok_go {k : Nat → Nat} {v w : Int32} {σ : SG} {τ : SM} (hk : k 0 = 0) (ht : mThr τ = 0) (hv : v = w) (hs : σ = gOf τ) (h : Inv τ) : OKI k (0, v, σ) (w, τ) := ⟨by show nI (k 0) = mThr τ; rw [hk, ht]; rfl, by show k 0 < 4; rw [hk]; decide, fun _ => rfl, fun _ => hv, hs, h⟩
theorem ok_goZ {k : Nat → Nat} {v w : Bool} {σ : SG} {τ : SM} (hk : k 0 = 0) (ht : mThr τ = 0) (hv : v = w) (hs : σ = gOf τ) (h : Inv τ) : OKZ k (0, v, σ) (w, τ) := ⟨by show nI (k 0) = mThr τ; rw [hk, ht]; rfl, by show k 0 < 4; rw [hk]; decide, fun _ => rfl, fun _ => hv, hs, h⟩
