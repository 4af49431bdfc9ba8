/-! what stays, over the ghost of the reference: entries, links, goods by papers, sums, fees -/
def GIv (goo kin oth god was : Nat → Int32) (man : Nat → Nat) (n : Nat) (gon : Nat → Bool) : Prop := ∀ P, P < n → ∀ g, g < 6 → goo (P * 6 + g) = if gon P = true then 0 else Tt kin oth god was man n g P
def AL (goo : Nat → Int32) (n : Nat) (al : Nat → Int32) : Prop := ∀ g, g < 6 → al g = smS (fun P => goo (P * 6 + g)) n
def JEs (τ : SM) (sp : Nat → Int32) : Prop := JE (mPrf τ) (mKin τ) (mMak τ) (mGod τ) (mAmo τ) (mOth τ) (mIts τ) (mWas τ) (mCop τ) (mMan τ) sp
def Kv (τ : SM) (goo al sp : Nat → Int32) : Prop :=
  JEs τ sp ∧ LK (mKin τ) (mOth τ) (mIts τ) (mMan τ) ∧ (∀ P, P < mN τ → 0 < mMan τ P) ∧ AL goo (mN τ) al ∧ GIv goo (mKin τ) (mOth τ) (mGod τ) (mWas τ) (mMan τ) (mN τ) (mGon τ) ∧ (∀ kd, kd < 10 → mFee τ kd = nI (kd + 1)) ∧ (∀ r, mDec τ r = 0)
def J (τ : SM) (al sp : Nat → Int32) : Prop := Inv τ ∧ Kv τ (mGoo τ) al sp
def dlG (gv : Int32) (kd : Nat) (a : Int32) (g : Nat) : Int32 := if gv = nI g then sgnF (nI kd) * a else 0
theorem cop_ne {w kd : Nat} {a : Int32} (hw : w < 7) : ((1 : Int32) <<< (nI w &&& 31)) ||| cwF kd a ≠ 0 := by
  intro h
  have := b_zero.mp h w (by omega)
  rw [b_or, b_sh1 (by omega) (by omega)] at this
  simp at this
section KVS
variable {τ : SM} {goo goo' al al' sp : Nat → Int32} {P kd : Nat} {gv a o i : Int32}
theorem no6 (hB : okB (mKin τ) (mOth τ) (mMan τ) (mN τ) (mHel τ) (mGon τ) (mWen τ) (mGor τ)) (h : JEs τ sp) (hg : mGon τ P = false) : ∀ E, E < mMan τ P → mKin τ (P * 30 + E) ≠ 6 := by
  intro E hE z
  obtain ⟨k, b1, b2, b3, b4⟩ := h.2.2.2.2.2.2 P E hE
  have hk : k = 6 := (nI_eq (b := 6) (by omega) (by decide)).mp (b2.symm.trans z)
  have h6 := b4 hk
  have hl : lkK (mKin τ) (mMan τ) P = 6 := by
    unfold lkK
    rw [if_pos (by omega), show mMan τ P - 1 = E by omega]; exact z
  rw [hB.2.2.2.2.1 P, hl] at hg
  exact absurd hg (by decide)
theorem JE_mw (h : JEs τ sp) (hm : ∀ Q, mMan τ Q ≤ 30) (hP : mMan τ P < 30) (hk : kd < 10) (h04 : (kd = 0 ∨ kd = 4) ↔ mMan τ P = 0) (h6 : ∀ E, E < mMan τ P → mKin τ (P * 30 + E) ≠ 6) (ha : 0 ≤ a.toInt ∧ a.toInt ≤ 99) (hw : mHol τ P < 6) : JEs (mwF τ P kd gv a o i) sp :=
  JE_app h hm hP hk h04 h6 ha (cop_ne (mkF_lt hw))
theorem AL_upd {n : Nat} {d : Nat → Int32} (h : AL goo n al) (hP : P < n) (hg : ∀ Q, Q < n → ∀ g, g < 6 → goo' (Q * 6 + g) = goo (Q * 6 + g) + (if Q = P then d g else 0)) (ha : ∀ g, g < 6 → al' g = al g + d g) : AL goo' n al' := fun g h6 => by
  rw [ha g h6, h g h6]
  refine (sm_upd (P := P) (f := fun P => goo (P * 6 + g)) (f' := fun P => goo' (P * 6 + g)) (d := d g) ?_ n hP (fun k hk hne => ?_)).symm
  · show goo' (P * 6 + g) = _
    rw [hg P hP g h6, if_pos rfl]
  · show goo' (k * 6 + g) = _
    rw [hg k hk g h6, if_neg hne, Int32.add_zero]
theorem GI_upd {kin oth god was : Nat → Int32} {man wen : Nat → Nat} {n gor : Nat} {gon : Nat → Bool} {ov : Int32} (h : GIv goo kin oth god was man n gon) (hj : jnO kin oth man wen gor) (hw : ∀ i, i < gor → wen i < n ∧ gon (wen i) = true) (hk : kd < 10) (h5 : kd ≠ 5) (hm : ∀ Q, man Q ≤ 30) (hP : man P < 30) (hPn : P < n) (hgP : gon P = false)
    (hg : ∀ Q, Q < n → ∀ g, g < 6 → goo' (Q * 6 + g) = goo (Q * 6 + g) + (if Q = P then dlG gv kd a g else 0)) : GIv goo' (va_up kin (P * 30 + man P) (nI kd)) (va_up oth (P * 30 + man P) ov) (va_up god (P * 30 + man P) gv) (va_up was (P * 30 + man P) a) (va_up man P (man P + 1)) n gon := by
  intro Q hQ g h6
  rw [hg Q hQ g h6, h Q hQ g h6]
  cases hq : gon Q
  · rw [if_neg Bool.false_ne_true, if_neg Bool.false_ne_true, Tt_app hj hw hk h5 hm hP hPn hgP]; rfl
  · rw [if_pos rfl, if_pos rfl, if_neg (fun z => by rw [z, hgP] at hq; cases hq)]; rfl
theorem K_mw (hB : okB (mKin τ) (mOth τ) (mMan τ) (mN τ) (mHel τ) (mGon τ) (mWen τ) (mGor τ)) (h : Kv τ goo al sp) (hP : P < mN τ) (hm : mMan τ P < 30) (hg : mGon τ P = false) (hk : kd < 10) (h0 : kd ≠ 0) (h4 : kd ≠ 4) (h5 : kd ≠ 5) (h3 : dueF (nI kd) = -1) (ha : 0 ≤ a.toInt ∧ a.toInt ≤ 99) (hw : mHol τ P < 6)
    (hgoo : ∀ Q, Q < mN τ → ∀ g, g < 6 → goo' (Q * 6 + g) = goo (Q * 6 + g) + (if Q = P then dlG gv kd a g else 0)) (hal : ∀ g, g < 6 → al' g = al g + dlG gv kd a g) : Kv (mwF τ P kd gv a o i) goo' al' sp := by
  obtain ⟨k1, k2, k3, k4, k5, k6, k7⟩ := h
  have hpos := k3 P hP
  refine ⟨JE_mw k1 hB.2.1 hm hk ⟨fun z => by omega, fun z => by omega⟩ (no6 hB k1 hg) ha hw, LK_app k2 hB.2.1 hm h3, fun Q hQ => Nat.lt_of_lt_of_le (k3 Q hQ) man_le, AL_upd k4 hP hgoo hal, GI_upd k5 hB.2.2.2.2.2.1 hB.2.2.2.2.2.2.1 hk h5 hB.2.1 hm hP hg hgoo, k6, k7⟩
theorem dlG_0 {g : Nat} (h : sgnF (nI kd) = 0 ∨ a = 0) : dlG gv kd a g = 0 := by
  unfold dlG
  split
  · rcases h with h | h
    · rw [h, Int32.zero_mul]
    · rw [h, Int32.mul_zero]
  · rfl
theorem dlG_at {G g : Nat} (hG : G < 6) (hg : g < 6) : dlG (nI G) kd a g = if G = g then sgnF (nI kd) * a else 0 := by
  unfold dlG
  by_cases h : G = g
  · rw [if_pos h, if_pos (by rw [h])]
  · rw [if_neg h, if_neg (fun z => h ((nI_eq (by omega) (by omega)).mp z))]
/-- a new pallet: no goods; its first entry -/
theorem K_make (hI : Inv τ) (hn : mN τ < 14) (h : Kv τ (mGoo τ) al sp) {d : Nat} (hd : d < 6) : Kv (mwF (mtF τ d) (mN τ) 0 0 0 0 0) (mGoo τ) al sp := by
  obtain ⟨k1, k2, k3, k4, k5, k6, k7⟩ := h
  obtain ⟨hB, hT, hC, hn14, hh, hw⟩ := id hI
  obtain ⟨n0, -, n2⟩ := new_no hI
  have hm30 : mMan τ (mN τ) < 30 := by rw [n0]; decide
  refine ⟨JE_mw (τ := mtF τ d) k1 hB.2.1 hm30 (by decide) ⟨fun _ => n0, fun _ => Or.inl rfl⟩ (fun E hE => ?_) (by decide) ?_, LK_app k2 hB.2.1 hm30 (by decide), fun Q hQ => ?_, fun g h6 => ?_, ?_, k6, k7⟩
  · have hE : E < mMan τ (mN τ) := hE
    rw [n0] at hE; exact absurd hE (Nat.not_lt_zero _)
  · show va_up (mHol τ) (mN τ) d (mN τ) < 6
    rw [va_up_self]; exact hd
  · show 0 < va_up (mMan τ) (mN τ) (mMan τ (mN τ) + 1) Q
    rw [up_if]; split
    · omega
    · exact k3 Q (by have : Q < mN τ + 1 := hQ; omega)
  · show al g = smS (fun P => mGoo τ (P * 6 + g)) (mN τ + 1)
    rw [smS, hT.2.1 _ (by omega), Int32.add_zero]; exact k4 g h6
  · have key : GIv (mGoo τ) (mKin τ) (mOth τ) (mGod τ) (mWas τ) (mMan τ) (mN τ + 1) (mGon τ) := fun Q hQ g h6 => by
      by_cases q : Q = mN τ
      · subst q
        rw [n2, if_neg Bool.false_ne_true, Tt_none n0]; exact hT.2.1 _ (by omega)
      · rw [Tt_new hB.2.2.1 hn14 (by omega)]; exact k5 Q (by omega) g h6
    exact GI_upd (n := mN τ + 1) (wen := mWen τ) (gor := mGor τ) key hB.2.2.2.2.2.1 (fun i hi => ⟨by have := (hB.2.2.2.2.2.2.1 i hi).1; omega, (hB.2.2.2.2.2.2.1 i hi).2⟩) (by decide) (by decide) hB.2.1 hm30 (Nat.lt_succ_self _) n2 (fun Q _ g _ => by rw [dlG_0 (Or.inr rfl)]; simp)
end KVS
