/-! what the class reaches by its bits is what is reached -/
def adjC (kin oth : Nat → Int32) (man : Nat → Nat) (wc : Bool) (a b : Nat) : Prop := ∃ e, e < man a ∧ (kin (a * 30 + e) = 5 ∨ (kin (a * 30 + e) = 4 ∧ wc = true)) ∧ oth (a * 30 + e) = nI b ∧ b < 14
def othK (kin oth : Nat → Int32) (n : Nat) : Prop := ∀ r, (kin r = 5 ∨ kin r = 4) → ∃ o : Nat, o < n ∧ oth r = nI o
section RCH
variable {kin mak god amo oth its : Nat → Int32} {man : Nat → Nat} {wc : Bool}
theorem tpS_bt {P : Nat} (hoth : othK kin oth 14) {i : Nat} (hi : i < 32) : ∀ E, bt (tpS (numC kin mak god amo oth its) P wc E) i = true ↔ ∃ e, e < E ∧ (kin (P * 30 + e) = 5 ∨ (kin (P * 30 + e) = 4 ∧ wc = true)) ∧ oth (P * 30 + e) = nI i
  | 0 => by simp [tpS, b_0]
  | E + 1 => by
    have ih := tpS_bt (P := P) hoth hi E
    rw [tpS]
    simp only [nc0, nc4]
    have hc : (decide (kin (P * 30 + E) = 5) || (decide (kin (P * 30 + E) = 4) && wc)) = true ↔ (kin (P * 30 + E) = 5 ∨ (kin (P * 30 + E) = 4 ∧ wc = true)) := by simp
    by_cases hk : kin (P * 30 + E) = 5 ∨ (kin (P * 30 + E) = 4 ∧ wc = true)
    · rw [if_pos (hc.mpr hk), b_or, Bool.or_eq_true, ih]
      obtain ⟨o, ho, eo⟩ := hoth (P * 30 + E) (hk.elim Or.inl (fun z => Or.inr z.1))
      constructor
      · rintro (⟨e, h1, h2⟩ | h)
        · exact ⟨e, by omega, h2⟩
        · rw [eo, b_sh1 (by omega) hi] at h
          exact ⟨E, by omega, hk, by rw [eo, of_decide_eq_true h]⟩
      · rintro ⟨e, h1, h2, h3⟩
        rcases Nat.lt_or_ge e E with q | q
        · exact Or.inl ⟨e, q, h2, h3⟩
        · have he : e = E := by omega
          subst he
          refine Or.inr ?_
          rw [h3, b_sh1 hi hi]; simp
    · rw [if_neg (fun z => hk (hc.mp z)), ih]
      constructor
      · rintro ⟨e, h1, h2⟩
        exact ⟨e, by omega, h2⟩
      · rintro ⟨e, h1, h2, h3⟩
        rcases Nat.lt_or_ge e E with q | q
        · exact ⟨e, q, h2, h3⟩
        · have he : e = E := by omega
          subst he
          exact absurd h2 hk
theorem tp_bt (hoth : othK kin oth 14) {k i : Nat} (hi : i < 32) : bt (tpF man (numC kin mak god amo oth its) wc k) i = true ↔ adjC kin oth man wc k i := by
  unfold tpF adjC
  rw [tpS_bt hoth hi]
  constructor
  · rintro ⟨e, h1, h2, h3⟩
    obtain ⟨o, ho, eo⟩ := hoth _ (h2.elim Or.inl (fun z => Or.inr z.1))
    have : i = o := (nI_eq (by omega) (by omega)).mp (by rw [← h3, eo])
    exact ⟨e, h1, h2, h3, by omega⟩
  · rintro ⟨e, h1, h2, h3, _⟩
    exact ⟨e, h1, h2, h3⟩
end RCH
section RCB
variable {adj : Nat → Nat → Prop} {tp : Nat → Int32} {P : Nat}
abbrev rI (adj : Nat → Nat → Prop) (P : Nat) (x : Int32 × Int32) : Prop := sndI adj (fun _ => -1) P x.1 x.2
theorem rc_step (htp : ∀ k i, i < 32 → (bt (tp k) i = true ↔ adj k i)) (hadj : ∀ a b, adj a b → b < 14) {x : Int32 × Int32} (h : rI adj P x) {k : Nat} (hk : k < 14) (hb : (bt x.1 k && !bt x.2 k) = true) : rI adj P (x.1 ||| tp k, x.2 ||| ((1 : Int32) <<< (nI k &&& 31))) := by
  rw [Bool.and_eq_true] at hb
  have mono : ∀ i, bt x.1 i = true → bt (x.1 ||| tp k) i = true := fun i q => by rw [b_or, q]; rfl
  refine ⟨fun i hi q => ?_, fun i hi q => ?_, mono P h.2.2⟩
  · rw [b_or, Bool.or_eq_true] at q
    rcases q with q | q
    · exact h.1 i hi q
    · have ha := (htp k i hi).mp q
      exact ⟨hadj _ _ ha, Rch_step (h.1 k (by omega) hb.1).2 ha⟩
  · rw [b_or, Bool.or_eq_true] at q
    rcases q with q | q
    · obtain ⟨a1, a2, a3⟩ := h.2.1 i hi q
      exact ⟨mono i a1, a2, fun j hj => mono j (a3 j hj)⟩
    · rw [b_sh1 (by omega) hi] at q
      have := of_decide_eq_true q
      subst this
      refine ⟨mono i hb.1, rfl, fun j hj => ?_⟩
      show bt (x.1 ||| tp i) j = true
      rw [b_or, (htp i j (by have := hadj _ _ hj; omega)).mpr hj, Bool.or_true]
theorem rcS_cond {x : Int32 × Int32} {k : Nat} (hk : k < 14) : (isB (rcS tp x k).1 (nI k) && !isB (rcS tp x k).2 (nI k)) = (bt (rcS tp x k).1 k && !bt (rcS tp x k).2 k) := by
  rw [isB_bt (by omega), isB_bt (by omega)]
theorem rcS_inv (htp : ∀ k i, i < 32 → (bt (tp k) i = true ↔ adj k i)) (hadj : ∀ a b, adj a b → b < 14) {x : Int32 × Int32} (h : rI adj P x) : ∀ k, k ≤ 14 → rI adj P (rcS tp x k)
  | 0, _ => h
  | k + 1, hk => by
    have ih := rcS_inv htp hadj h k (by omega)
    rw [rcS, rcS_cond (by omega)]
    by_cases hb : (bt (rcS tp x k).1 k && !bt (rcS tp x k).2 k) = true
    · rw [if_pos hb]; exact rc_step htp hadj ih (by omega) hb
    · rw [if_neg hb]; exact ih
theorem rcS_mono {x : Int32 × Int32} : ∀ k, k ≤ 14 → (∀ i, bt x.1 i = true → bt (rcS tp x k).1 i = true) ∧ (∀ i, bt x.2 i = true → bt (rcS tp x k).2 i = true) ∧ ∀ j, j < k → bt x.1 j = true → bt (rcS tp x k).2 j = true
  | 0, _ => ⟨fun _ h => h, fun _ h => h, fun j h => by omega⟩
  | k + 1, hk => by
    obtain ⟨a1, a2, a3⟩ := rcS_mono (x := x) k (by omega)
    rw [rcS, rcS_cond (by omega)]
    by_cases hb : (bt (rcS tp x k).1 k && !bt (rcS tp x k).2 k) = true
    · rw [if_pos hb]
      refine ⟨fun i h => by rw [b_or, a1 i h]; rfl, fun i h => by rw [b_or, a2 i h]; rfl, fun j hj h => ?_⟩
      rcases Nat.lt_or_ge j k with q | q
      · rw [b_or, a3 j q h]; rfl
      · have : j = k := by omega
        subst this
        rw [b_or, b_sh1 (by omega) (by omega)]; simp
    · rw [if_neg hb]
      refine ⟨a1, a2, fun j hj h => ?_⟩
      rcases Nat.lt_or_ge j k with q | q
      · exact a3 j q h
      · have : j = k := by omega
        subst this
        have h1 := a1 j h
        cases h2 : bt (rcS tp x j).2 j
        · exact absurd (by rw [h1, h2]; rfl) hb
        · rfl
theorem rcR_inv (htp : ∀ k i, i < 32 → (bt (tp k) i = true ↔ adj k i)) (hadj : ∀ a b, adj a b → b < 14) : ∀ (d : Nat) (x : Int32 × Int32), rI adj P x → ctz x.2 14 ≤ d → rI adj P (rcR tp d x) ∧ (rcR tp d x).2 = (rcR tp d x).1
  | 0, x, h, hc => by
    refine ⟨h, ?_⟩
    refine Classical.byContradiction (fun hn => ?_)
    obtain ⟨j, h1, h2⟩ := snd_find h hn
    have := ctz_or (D := x.2) h1 h2
    omega
  | d + 1, x, h, hc => by
    rw [rcR]
    by_cases he : x.2 = x.1
    · rw [if_pos he]; exact ⟨h, he⟩
    · rw [if_neg he]
      obtain ⟨j, h1, h2⟩ := snd_find h he
      rw [Bool.and_eq_true, Bool.not_eq_true'] at h2
      obtain ⟨a1, a2, a3⟩ := rcS_mono (tp := tp) (x := x) 14 (Nat.le_refl _)
      have := ctz_lt a2 h2.2 (a3 j h1 h2.1) 14 h1
      exact rcR_inv htp hadj d _ (rcS_inv htp hadj h 14 (Nat.le_refl _)) (by omega)
theorem rc_bt (htp : ∀ k i, i < 32 → (bt (tp k) i = true ↔ adj k i)) (hadj : ∀ a b, adj a b → b < 14) (hP : P < 14) {i : Nat} (hi : i < 32) : bt (rcR tp 14 (((1 : Int32) <<< (nI P &&& 31)), 0)).1 i = true ↔ Rch adj P i := by
  obtain ⟨h, he⟩ := rcR_inv (P := P) htp hadj 14 (((1 : Int32) <<< (nI P &&& 31)), 0) (snd_init hP) (show ctz 0 14 ≤ 14 by decide +kernel)
  constructor
  · exact fun q => (h.1 i hi q).2
  · intro q
    have := q (fun i => i < 32 ∧ bt (rcR tp 14 (((1 : Int32) <<< (nI P &&& 31)), 0)).1 i = true) ⟨by omega, h.2.2⟩ (fun a b ha hab => ⟨by have := hadj a b hab; omega, (h.2.1 a ha.1 (by rw [he]; exact ha.2)).2.2 b hab⟩)
    exact this.2
end RCB
theorem adjC_lt {kin oth : Nat → Int32} {man : Nat → Nat} {wc : Bool} : ∀ a b, adjC kin oth man wc a b → b < 14 := fun _ _ ⟨_, _, _, _, h⟩ => h
theorem rch_bt {kin mak god amo oth its : Nat → Int32} {man : Nat → Nat} {wc : Bool} (hoth : othK kin oth 14) {P i : Nat} (hP : P < 14) (hi : i < 32) : bt (rchF man (numC kin mak god amo oth its) P wc) i = true ↔ Rch (adjC kin oth man wc) P i := by
  unfold rchF
  exact rc_bt (fun k i hi => tp_bt hoth hi) adjC_lt hP hi
theorem allF_iff {p : Nat → Bool} : ∀ {d k : Nat}, allF p d k = true ↔ ∀ j, k ≤ j → j < k + d → p j = true
  | 0, k => ⟨fun _ j h1 h2 => by omega, fun _ => rfl⟩
  | d + 1, k => by
    rw [allF]
    cases hp : p k
    · rw [if_neg (by decide)]
      constructor
      · intro h; cases h
      · intro h; rw [h k (Nat.le_refl _) (by omega)] at hp; cases hp
    · rw [if_pos rfl, allF_iff]
      constructor
      · intro h j h1 h2
        by_cases q : j = k
        · rw [q]; exact hp
        · exact h j (by omega) (by omega)
      · exact fun h j h1 h2 => h j (by omega) (by omega)
theorem adjM_C {τ : SM} : adjM τ = adjC (mKin τ) (mOth τ) (mMan τ) true := by
  funext a b
  refine propext ⟨fun ⟨e, h1, h2, h3, h4⟩ => ⟨e, h1, h2.elim (fun z => Or.inr ⟨z, rfl⟩) Or.inl, h3, h4⟩, fun ⟨e, h1, h2, h3, h4⟩ => ⟨e, h1, h2.elim Or.inr (fun z => Or.inl z.1), h3, h4⟩⟩
theorem Rch_lt {kin oth : Nat → Int32} {man : Nat → Nat} {wc : Bool} {n : Nat} (hoth : othK kin oth n) (hn : n ≤ 14) {P j : Nat} (hP : P < n) (h : Rch (adjC kin oth man wc) P j) : j < n :=
  h (fun j => j < n) hP (fun a b _ ⟨e, h1, h2, h3, h4⟩ => by
    obtain ⟨o, ho, eo⟩ := hoth _ (h2.elim Or.inl (fun z => Or.inr z.1))
    have : b = o := (nI_eq (by omega) (by omega)).mp (by rw [← h3, eo])
    show b < n
    omega)
theorem othK_14 {kin oth : Nat → Int32} {n : Nat} (h : othK kin oth n) (hn : n ≤ 14) : othK kin oth 14 := fun r hr => (h r hr).elim (fun o z => ⟨o, by omega, z.2⟩)
theorem au_eq {τ : SM} (hn : mN τ ≤ 14) (hoth : othK (mKin τ) (mOth τ) (mN τ)) {P : Nat} (hP : P < mN τ) : auF (mN τ) (mMan τ) (mPrf τ) (numM τ) P = msF τ P := by
  rw [Bool.eq_iff_iff]
  unfold auF msF sndB
  rw [allF_iff, @decide_eq_true_iff _ (Classical.propDecidable _), adjM_C]
  constructor
  · intro h j hj
    have hjn := Rch_lt hoth hn hP hj
    have h1 := h j (Nat.zero_le _) (by omega)
    rw [isB_bt (by omega), (rch_bt (othK_14 hoth hn) (by omega) (by omega)).mpr hj, fb_eq] at h1
    simpa using h1
  · intro h k _ hk
    rw [isB_bt (by omega), fb_eq]
    cases hb : bt (rchF (mMan τ) (numM τ) P true) k
    · rfl
    · have := h k ((rch_bt (othK_14 hoth hn) (by omega) (by omega)).mp hb)
      rw [this]; decide
