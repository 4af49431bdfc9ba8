/-! bits (the first rows are the kit's family of Int32 by its bits), and the round of the reference that looks whether all that is reached is sound -/
def bt (x : Int32) (i : Nat) : Bool := x.toBitVec.getLsbD i
theorem b_ext {x y : Int32} (h : ∀ i, i < 32 → bt x i = bt y i) : x = y := Int32.toBitVec_inj.mp (BitVec.eq_of_getLsbD_eq (fun i hi => h i hi))
theorem b_or (x y : Int32) (i : Nat) : bt (x ||| y) i = (bt x i || bt y i) := by unfold bt; rw [Int32.toBitVec_or, BitVec.getLsbD_or]
theorem b_and (x y : Int32) (i : Nat) : bt (x &&& y) i = (bt x i && bt y i) := by unfold bt; rw [Int32.toBitVec_and, BitVec.getLsbD_and]
theorem b_xor (x y : Int32) (i : Nat) : bt (x ^^^ y) i = (bt x i ^^ bt y i) := by unfold bt; rw [Int32.toBitVec_xor, BitVec.getLsbD_xor]
theorem b_big {x : Int32} {i : Nat} (h : 32 ≤ i) : bt x i = false := BitVec.getLsbD_of_ge _ _ h
theorem b_m1 : ∀ i, i < 32 → bt (-1) i = true := by decide +kernel
theorem b_0 (i : Nat) : bt 0 i = false := BitVec.getLsbD_zero
theorem s_l : ∀ n, n < 32 → ((nI n &&& 31).toBitVec.smod 32).toNat = n := by decide +kernel
theorem b_shl (n : Nat) (hn : n < 32) (x : Int32) {i : Nat} (hi : i < 32) : bt (x <<< (nI n &&& 31)) i = (decide (n ≤ i) && bt x (i - n)) := by
  unfold bt
  rw [Int32.toBitVec_shiftLeft]
  show (x.toBitVec <<< ((nI n &&& 31).toBitVec.smod 32).toNat).getLsbD i = _
  rw [s_l n hn, BitVec.getLsbD_shiftLeft]
  rcases Nat.lt_or_ge i n with h | h
  · simp [h, Nat.not_le.mpr h]
  · simp [hi, h, Nat.not_lt.mpr h]
theorem b_sshr (n : Nat) (hn : n < 32) (x : Int32) {i : Nat} (hi : i < 32) : bt (x >>> (nI n &&& 31)) i = if n + i < 32 then bt x (n + i) else bt x 31 := by
  unfold bt
  rw [Int32.toBitVec_shiftRight]
  show (x.toBitVec.sshiftRight ((nI n &&& 31).toBitVec.smod 32).toNat).getLsbD i = _
  rw [s_l n hn, BitVec.getLsbD_sshiftRight, BitVec.msb_eq_getLsbD_last]
  simp [hi]
theorem b_one : ∀ i, i < 32 → bt 1 i = decide (i = 0) := by decide +kernel
theorem b_sh1 {k i : Nat} (hk : k < 32) (hi : i < 32) : bt ((1 : Int32) <<< (nI k &&& 31)) i = decide (i = k) := by
  rw [b_shl k hk 1 hi]
  by_cases h : k ≤ i
  · rw [b_one _ (by omega)]
    by_cases h2 : i = k
    · simp [h2]
    · simp [h2]; omega
  · simp [h]; omega
theorem b_not {x : Int32} {i : Nat} (hi : i < 32) : bt (x ^^^ (-1)) i = !bt x i := by
  rw [b_xor, b_m1 i hi]
  cases bt x i <;> rfl
theorem b_zero {x : Int32} : x = 0 ↔ ∀ i, i < 32 → bt x i = false := by
  constructor
  · intro h i hi
    rw [h, b_0]
  · intro h
    exact b_ext (fun i hi => by rw [h i hi, b_0])
theorem isB_bt {x : Int32} {k : Nat} (hk : k < 32) : isB x (nI k) = bt x k := by
  have h : ((x >>> (nI k &&& 31)) &&& 1) = 0 ↔ bt x k = false := by
    rw [b_zero]
    constructor
    · intro h
      have h0 := h 0 (by decide)
      rw [b_and, b_sshr k hk x (by decide), b_one 0 (by decide)] at h0
      simpa [hk] using h0
    · intro h i hi
      rw [b_and, b_one i hi]
      by_cases h0 : i = 0
      · subst h0
        rw [b_sshr k hk x (by decide)]
        simp [hk, h]
      · simp [h0]
  unfold isB
  cases hb : bt x k
  · rw [decide_eq_false]; exact fun z => z (h.mpr hb)
  · rw [decide_eq_true]; intro z; rw [h.mp z] at hb; cases hb
theorem mskZ {S D : Int32} {k : Nat} (hk : k < 32) : ((S &&& (D ^^^ (-1))) &&& ((1 : Int32) <<< (nI k &&& 31))) = 0 ↔ (bt S k && !bt D k) = false := by
  rw [b_zero]
  constructor
  · intro h
    have h0 := h k hk
    rw [b_and, b_and, b_not hk, b_sh1 hk hk] at h0
    simpa using h0
  · intro h i hi
    rw [b_and, b_and, b_not hi, b_sh1 hk hi]
    by_cases h0 : i = k
    · subst h0; rw [h]; rfl
    · simp [h0]
theorem Rch_refl {adj : Nat → Nat → Prop} {P : Nat} : Rch adj P P := fun _ h _ => h
theorem Rch_step {adj : Nat → Nat → Prop} {P a b : Nat} (h : Rch adj P a) (hab : adj a b) : Rch adj P b := fun S h1 h2 => h2 a b (h S h1 h2) hab
def sdS (kin oth : Nat → Int32) (P : Nat) (x : Int32) : Nat → Int32
  | 0 => x
  | e + 1 => sdS kin oth P x e ||| (if kin (P * 30 + e) = 4 ∨ kin (P * 30 + e) = 5 then ((1 : Int32) <<< (oth (P * 30 + e) &&& 31)) else 0)
theorem sdS_bt {kin oth : Nat → Int32} {P : Nat} {x : Int32} (hoth : ∀ r, (kin r = 5 ∨ kin r = 4) → ∃ o : Nat, o < 14 ∧ oth r = nI o) {i : Nat} (hi : i < 32) : ∀ E, bt (sdS kin oth P x E) i = true ↔ (bt x i = true ∨ ∃ e, e < E ∧ (kin (P * 30 + e) = 4 ∨ kin (P * 30 + e) = 5) ∧ oth (P * 30 + e) = nI i)
  | 0 => by simp [sdS]
  | E + 1 => by
    rw [sdS, b_or, Bool.or_eq_true, sdS_bt hoth hi E]
    constructor
    · rintro (h | h)
      · rcases h with h | ⟨e, h1, h2⟩
        · exact Or.inl h
        · exact Or.inr ⟨e, by omega, h2⟩
      · by_cases hk : kin (P * 30 + E) = 4 ∨ kin (P * 30 + E) = 5
        · rw [if_pos hk] at h
          obtain ⟨o, ho, eo⟩ := hoth _ hk.symm
          rw [eo, b_sh1 (by omega) hi] at h
          exact Or.inr ⟨E, by omega, hk, by rw [eo, of_decide_eq_true h]⟩
        · rw [if_neg hk, b_0] at h
          cases h
    · rintro (h | ⟨e, h1, h2, h3⟩)
      · exact Or.inl (Or.inl h)
      · rcases Nat.lt_or_ge e E with q | q
        · exact Or.inl (Or.inr ⟨e, q, h2, h3⟩)
        · have he : e = E := by omega
          subst he
          refine Or.inr ?_
          rw [if_pos h2, h3, b_sh1 hi hi]
          simp
def sndI (adj : Nat → Nat → Prop) (fb : Nat → Int32) (P : Nat) (S D : Int32) : Prop :=
  (∀ i, i < 32 → bt S i = true → i < 14 ∧ Rch adj P i) ∧ (∀ i, i < 32 → bt D i = true → bt S i = true ∧ fb i = -1 ∧ ∀ j, adj i j → bt S j = true) ∧ bt S P = true
theorem snd_init {adj : Nat → Nat → Prop} {fb : Nat → Int32} {P : Nat} (hP : P < 14) : sndI adj fb P ((1 : Int32) <<< (nI P &&& 31)) 0 := by
  refine ⟨fun i hi h => ?_, fun i hi h => ?_, ?_⟩
  · rw [b_sh1 (by omega) hi] at h
    have := of_decide_eq_true h
    subst this
    exact ⟨hP, Rch_refl⟩
  · rw [b_0] at h; cases h
  · rw [b_sh1 (by omega) (by omega)]; simp
theorem snd_find {adj : Nat → Nat → Prop} {fb : Nat → Int32} {P : Nat} {S D : Int32} (h : sndI adj fb P S D) (hn : ¬ D = S) : ∃ j, j < 14 ∧ (bt S j && !bt D j) = true := by
  refine Classical.byContradiction (fun hc => hn (b_ext (fun i hi => ?_)))
  cases hD : bt D i
  · cases hS : bt S i
    · rfl
    · exact absurd ⟨i, (h.1 i hi hS).1, by rw [hS, hD]; rfl⟩ hc
  · rw [(h.2.1 i hi hD).1]
theorem snd_lt {adj : Nat → Nat → Prop} {fb : Nat → Int32} {P k : Nat} {S D : Int32} (h : sndI adj fb P S D) (hn : ¬ D = S) (hk : k ≤ 14) (hi : ∀ j, j < k → (bt S j && !bt D j) = false) : k < 14 := by
  obtain ⟨j, h1, h2⟩ := snd_find h hn
  rcases Nat.lt_or_ge j k with q | q
  · rw [hi j q] at h2; cases h2
  · omega
theorem snd_done {adj : Nat → Nat → Prop} {fb : Nat → Int32} {P : Nat} {S D : Int32} (hP : P < 14) (hadj : ∀ a b, adj a b → b < 14) (h : sndI adj fb P S D) (he : D = S) : sndB adj fb P = true := by
  refine @decide_eq_true _ (Classical.propDecidable _) ?_
  intro j hj
  subst he
  have := hj (fun i => i < 32 ∧ bt D i = true) ⟨by omega, h.2.2⟩ (fun a b ha hab => ⟨by have := hadj a b hab; omega, (h.2.1 a ha.1 ha.2).2.2 b hab⟩)
  exact (h.2.1 j this.1 this.2).2.1
theorem snd_fail {adj : Nat → Nat → Prop} {fb : Nat → Int32} {P k : Nat} {S D : Int32} (h : sndI adj fb P S D) (hk : k < 14) (hb : (bt S k && !bt D k) = true) (hf : ¬ fb k = -1) : sndB adj fb P = false := by
  refine @decide_eq_false _ (Classical.propDecidable _) ?_
  intro hc
  rw [Bool.and_eq_true] at hb
  exact hf (hc k (h.1 k (by omega) hb.1).2)
theorem snd_step {kin oth : Nat → Int32} {man : Nat → Nat} {adj : Nat → Nat → Prop} {fb : Nat → Int32} {P k : Nat} {S D : Int32} (hoth : ∀ r, (kin r = 5 ∨ kin r = 4) → ∃ o : Nat, o < 14 ∧ oth r = nI o)
    (hadj : ∀ a b, adj a b ↔ ∃ e, e < man a ∧ (kin (a * 30 + e) = 4 ∨ kin (a * 30 + e) = 5) ∧ oth (a * 30 + e) = nI b ∧ b < 14)
    (h : sndI adj fb P S D) (hk : k < 14) (hb : (bt S k && !bt D k) = true) (hf : fb k = -1) : sndI adj fb P (sdS kin oth k S (man k)) (D ||| ((1 : Int32) <<< (nI k &&& 31))) := by
  rw [Bool.and_eq_true] at hb
  have mono : ∀ i, i < 32 → bt S i = true → bt (sdS kin oth k S (man k)) i = true := fun i hi q => (sdS_bt hoth hi _).mpr (Or.inl q)
  refine ⟨fun i hi q => ?_, fun i hi q => ?_, ?_⟩
  · rcases (sdS_bt hoth hi _).mp q with q | ⟨e, h1, h2, h3⟩
    · exact h.1 i hi q
    · obtain ⟨o, ho, eo⟩ := hoth _ h2.symm
      have hio : i = o := (nI_eq (by omega) (by omega)).mp (by rw [← h3, eo])
      exact ⟨by omega, Rch_step (h.1 k (by omega) hb.1).2 ((hadj k i).mpr ⟨e, h1, h2, h3, by omega⟩)⟩
  · rw [b_or, Bool.or_eq_true] at q
    rcases q with q | q
    · obtain ⟨a1, a2, a3⟩ := h.2.1 i hi q
      exact ⟨mono i hi a1, a2, fun j hj => mono j (by obtain ⟨_, _, _, _, hj4⟩ := (hadj i j).mp hj; omega) (a3 j hj)⟩
    · rw [b_sh1 (by omega) hi] at q
      have := of_decide_eq_true q
      subst this
      refine ⟨mono i hi hb.1, hf, fun j hj => ?_⟩
      obtain ⟨e, h1, h2, h3, h4⟩ := (hadj i j).mp hj
      exact (sdS_bt hoth (by omega) _).mpr (Or.inr ⟨e, h1, h2, h3⟩)
  · have hP32 : P < 32 := by
      rcases Nat.lt_or_ge P 32 with q | q
      · exact q
      · have := h.2.2; rw [show bt S P = false from BitVec.getLsbD_of_ge _ _ q] at this; cases this
    exact mono P hP32 h.2.2
def ctz (D : Int32) : Nat → Nat
  | 0 => 0
  | k + 1 => ctz D k + (if bt D k then 0 else 1)
theorem ctz_le {D D' : Int32} (h : ∀ i, bt D i = true → bt D' i = true) : ∀ n, ctz D' n ≤ ctz D n
  | 0 => Nat.le_refl _
  | n + 1 => by
    have ih := ctz_le h n
    simp only [ctz]
    cases hD : bt D n
    · cases bt D' n <;> simp <;> omega
    · rw [h n hD]; simpa using ih
theorem ctz_lt {D D' : Int32} (h : ∀ i, bt D i = true → bt D' i = true) {p : Nat} (h1 : bt D p = false) (h2 : bt D' p = true) : ∀ n, p < n → ctz D' n < ctz D n
  | 0, hp => absurd hp (Nat.not_lt_zero _)
  | n + 1, hp => by
    simp only [ctz]
    rcases Nat.lt_or_ge p n with q | q
    · have ih := ctz_lt h h1 h2 n q
      cases hD : bt D n
      · cases bt D' n <;> simp <;> omega
      · rw [h n hD]; simpa using ih
    · have : p = n := by omega
      subst this
      have := ctz_le h p
      rw [h1, h2]; simp; omega
theorem ctz_or {D : Int32} {k : Nat} (hk : k < 14) {S : Int32} (hb : (bt S k && !bt D k) = true) : ctz (D ||| ((1 : Int32) <<< (nI k &&& 31))) 14 < ctz D 14 := by
  rw [Bool.and_eq_true, Bool.not_eq_true'] at hb
  exact ctz_lt (fun i h => by rw [b_or, h]; rfl) hb.2 (by rw [b_or, b_sh1 (by omega) (by omega)]; simp) 14 hk
