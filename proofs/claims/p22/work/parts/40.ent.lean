/-! what the entries keep: proofs made of what was written, one spoiled amount at the most, witnesses, first entries -/
theorem m31 {u v : Int32} (h : 31 * u = 31 * v) : u = v := by
  have e : ∀ w : Int32, (-1108378657) * (31 * w) = w := fun w => by
    rw [← Int32.mul_assoc, show ((-1108378657 : Int32) * 31) = 1 by decide, Int32.one_mul]
  rw [← e u, ← e v, h]
theorem add_r {u v c : Int32} (h : u + c = v + c) : u = v := by
  have h2 : u + c - c = v + c - c := by rw [h]
  rwa [Int32.add_sub_cancel, Int32.add_sub_cancel] at h2
theorem add_l {u v c : Int32} (h : c + u = c + v) : u = v := by
  rw [Int32.add_comm c u, Int32.add_comm c v] at h
  exact add_r h
theorem mpC_inj {prf kin mak god a1 a2 oth its : Nat → Int32} {P E : Nat} : mpC prf kin mak god a1 oth its P E = mpC prf kin mak god a2 oth its P E ↔ a1 (P * 30 + E) = a2 (P * 30 + E) := by
  constructor
  · intro h
    unfold mpC at h
    exact add_l (m31 (add_r (m31 (add_r h))))
  · intro h
    unfold mpC
    rw [h]
def JE (prf kin mak god amo oth its was cop : Nat → Int32) (man : Nat → Nat) (sp : Nat → Int32) : Prop :=
  (∀ P E, E < man P → prf (P * 30 + E) = mpC prf kin mak god was oth its P E) ∧
  (∀ P E, E < man P → (sp P = nI (E + 1) → amo (P * 30 + E) ≠ was (P * 30 + E)) ∧ (sp P ≠ nI (E + 1) → amo (P * 30 + E) = was (P * 30 + E))) ∧
  (∀ P, sp P = 0 ∨ ∃ E, E < man P ∧ sp P = nI (E + 1)) ∧
  (∀ r, 0 ≤ (was r).toInt ∧ (was r).toInt ≤ 99) ∧ (∀ r, -999 ≤ (amo r).toInt ∧ (amo r).toInt ≤ 999) ∧
  (∀ P E, E < man P → cop (P * 30 + E) ≠ 0) ∧
  (∀ P E, E < man P → ∃ kd, kd < 10 ∧ kin (P * 30 + E) = nI kd ∧ ((kd = 0 ∨ kd = 4) ↔ E = 0) ∧ (kd = 6 → E + 1 = man P))
theorem pm0_ne {prf : Nat → Int32} {P E Q e : Nat} {v : Int32} (hE : E < 30) (he : e ≤ 29) (h : Q ≠ P ∨ e ≤ E) : pm0 (va_up prf (P * 30 + E) v) Q e = pm0 prf Q e := by
  unfold pm0
  by_cases z : e = 0
  · rw [if_pos z, if_pos z]
  · rw [if_neg z, if_neg z, va_up_ne _ _ (by omega)]
section JEA
variable {prf kin mak god amo oth its was cop : Nat → Int32} {man : Nat → Nat} {sp : Nat → Int32}
theorem mpC_ne {P E Q e : Nat} {v1 v2 v3 v4 v5 v6 v7 : Int32} (hE : E < 30) (he : e ≤ 29) (h : Q ≠ P ∨ e < E) : mpC (va_up prf (P * 30 + E) v1) (va_up kin (P * 30 + E) v2) (va_up mak (P * 30 + E) v3) (va_up god (P * 30 + E) v4) (va_up was (P * 30 + E) v5) (va_up oth (P * 30 + E) v6) (va_up its (P * 30 + E) v7) Q e = mpC prf kin mak god was oth its Q e := by
  have hn : Q * 30 + e ≠ P * 30 + E := by omega
  unfold mpC
  rw [va_up_ne _ _ hn, va_up_ne _ _ hn, va_up_ne _ _ hn, va_up_ne _ _ hn, va_up_ne _ _ hn, va_up_ne _ _ hn, pm0_ne hE he (h.elim Or.inl (fun z => Or.inr (Nat.le_of_lt z)))]
theorem e_cases {P Q e : Nat} (hm : ∀ Q, man Q ≤ 30) (hP : man P < 30) (he : e < va_up man P (man P + 1) Q) : (Q = P ∧ e = man P) ∨ (e < man Q ∧ (Q ≠ P ∨ e < man P) ∧ e ≤ 29 ∧ Q * 30 + e ≠ P * 30 + man P) := by
  have h9 := hm Q
  rw [up_if] at he
  by_cases q : Q = P
  · rw [if_pos q] at he
    by_cases z : e = man P
    · exact Or.inl ⟨q, z⟩
    · subst q; exact Or.inr ⟨by omega, Or.inr (by omega), by omega, by omega⟩
  · rw [if_neg q] at he
    exact Or.inr ⟨he, Or.inl q, by omega, by omega⟩
theorem JE_app {P kd w : Nat} {g a o i cv : Int32} (h : JE prf kin mak god amo oth its was cop man sp) (hm : ∀ Q, man Q ≤ 30) (hP : man P < 30) (hk : kd < 10) (h04 : (kd = 0 ∨ kd = 4) ↔ man P = 0) (h6 : ∀ E, E < man P → kin (P * 30 + E) ≠ 6) (ha : 0 ≤ a.toInt ∧ a.toInt ≤ 99) (hc : cv ≠ 0) :
    JE (va_up prf (P * 30 + man P) (mpC prf (va_up kin (P * 30 + man P) (nI kd)) (va_up mak (P * 30 + man P) (nI w)) (va_up god (P * 30 + man P) g) (va_up amo (P * 30 + man P) a) (va_up oth (P * 30 + man P) o) (va_up its (P * 30 + man P) i) P (man P)))
      (va_up kin (P * 30 + man P) (nI kd)) (va_up mak (P * 30 + man P) (nI w)) (va_up god (P * 30 + man P) g) (va_up amo (P * 30 + man P) a) (va_up oth (P * 30 + man P) o) (va_up its (P * 30 + man P) i) (va_up was (P * 30 + man P) a) (va_up cop (P * 30 + man P) cv) (va_up man P (man P + 1)) sp := by
  obtain ⟨h1, h2, h3, h4, h5, h7, h8⟩ := h
  refine ⟨fun Q e he => ?_, fun Q e he => ?_, fun Q => ?_, fun r => ?_, fun r => ?_, fun Q e he => ?_, fun Q e he => ?_⟩
  · rcases e_cases hm hP he with ⟨rfl, rfl⟩ | ⟨a1, a2, a3, a4⟩
    · rw [va_up_self, mpC_at]
      unfold mpC
      simp only [va_up_self]
      rw [pm0_ne hP (by omega) (Or.inr (Nat.le_refl _))]
    · rw [va_up_ne _ _ a4, mpC_ne hP a3 a2]; exact h1 Q e a1
  · rcases e_cases hm hP he with ⟨rfl, rfl⟩ | ⟨a1, a2, a3, a4⟩
    · rw [va_up_self, va_up_self]
      refine ⟨fun z => ?_, fun _ => rfl⟩
      rcases h3 Q with q | ⟨E, q1, q2⟩
      · rw [q] at z
        exact absurd ((nI_eq (a := 0) (by omega) (by omega)).mp z) (by omega)
      · rw [q2] at z
        have := (nI_eq (by omega) (by omega)).mp z
        omega
    · rw [va_up_ne _ _ a4, va_up_ne _ _ a4]; exact h2 Q e a1
  · rcases h3 Q with q | ⟨E, q1, q2⟩
    · exact Or.inl q
    · refine Or.inr ⟨E, ?_, q2⟩
      rw [up_if]; split
      · rename_i z; rw [z] at q1; omega
      · exact q1
  · rw [up_if]; split
    · exact ha
    · exact h4 r
  · rw [up_if]; split
    · omega
    · exact h5 r
  · rcases e_cases hm hP he with ⟨rfl, rfl⟩ | ⟨a1, a2, a3, a4⟩
    · rw [va_up_self]; exact hc
    · rw [va_up_ne _ _ a4]; exact h7 Q e a1
  · rcases e_cases hm hP he with ⟨rfl, rfl⟩ | ⟨a1, a2, a3, a4⟩
    · exact ⟨kd, hk, va_up_self _ _ _, h04, fun _ => by rw [va_up_self]⟩
    · obtain ⟨k, b1, b2, b3, b4⟩ := h8 Q e a1
      refine ⟨k, b1, by rw [va_up_ne _ _ a4]; exact b2, b3, fun z => ?_⟩
      have hQ : Q ≠ P := fun y => by
        subst y
        exact h6 e a1 (by rw [b2, z]; rfl)
      rw [va_up_ne _ _ hQ]; exact b4 z
theorem JE_spoil {P E : Nat} {v : Int32} (h : JE prf kin mak god amo oth its was cop man sp) (hm : ∀ Q, man Q ≤ 30) (hE : E < man P) (hs : sp P = 0) (hv : v ≠ was (P * 30 + E)) (hr : -999 ≤ v.toInt ∧ v.toInt ≤ 999) : JE prf kin mak god (va_up amo (P * 30 + E) v) oth its was cop man (va_up sp P (nI (E + 1))) := by
  obtain ⟨h1, h2, h3, h4, h5, h7, h8⟩ := h
  have hmP := hm P
  refine ⟨h1, fun Q e he => ?_, fun Q => ?_, h4, fun r => ?_, h7, h8⟩
  · have hmQ := hm Q
    by_cases q : Q = P
    · subst q
      rw [va_up_self]
      by_cases z : e = E
      · subst z
        rw [va_up_self]
        exact ⟨fun _ => hv, fun y => absurd rfl y⟩
      · rw [va_up_ne _ _ (by omega)]
        refine ⟨fun y => ?_, fun _ => (h2 Q e he).2 ?_⟩
        · have := (nI_eq (by omega) (by omega)).mp y
          omega
        · rw [hs]
          intro y
          exact absurd ((nI_eq (a := 0) (by omega) (by omega)).mp y) (by omega)
    · rw [va_up_ne _ _ q, va_up_ne _ _ (by omega)]; exact h2 Q e he
  · rw [up_if]; split
    · rename_i q; subst q; exact Or.inr ⟨E, hE, rfl⟩
    · exact h3 Q
  · rw [up_if]; split
    · exact hr
    · exact h5 r
theorem JE_rep {P E : Nat} (h : JE prf kin mak god amo oth its was cop man sp) (hm : ∀ Q, man Q ≤ 30) (hE : E < man P) (hs : sp P = nI (E + 1)) : JE prf kin mak god (va_up amo (P * 30 + E) (was (P * 30 + E))) oth its was cop man (va_up sp P 0) := by
  obtain ⟨h1, h2, h3, h4, h5, h7, h8⟩ := h
  have hmP := hm P
  refine ⟨h1, fun Q e he => ?_, fun Q => ?_, h4, fun r => ?_, h7, h8⟩
  · have hmQ := hm Q
    by_cases q : Q = P
    · subst q
      rw [va_up_self]
      refine ⟨fun y => absurd ((nI_eq (a := 0) (by omega) (by omega)).mp y) (by omega), fun _ => ?_⟩
      by_cases z : e = E
      · subst z; rw [va_up_self]
      · rw [va_up_ne _ _ (by omega)]
        refine (h2 Q e he).2 ?_
        rw [hs]
        intro y
        have := (nI_eq (by omega) (by omega)).mp y
        omega
    · rw [va_up_ne _ _ q, va_up_ne _ _ (by omega)]; exact h2 Q e he
  · rw [up_if]; split
    · exact Or.inl rfl
    · exact h3 Q
  · rw [up_if]; split
    · have := h4 (P * 30 + E); omega
    · exact h5 r
theorem JE_brk {P E : Nat} (h : JE prf kin mak god amo oth its was cop man sp) (hE : E < man P) : (¬ prf (P * 30 + E) = mpC prf kin mak god amo oth its P E) ↔ sp P = nI (E + 1) := by
  obtain ⟨h1, h2, -⟩ := h
  rw [h1 P E hE, mpC_inj]
  constructor
  · intro z
    exact Classical.byContradiction (fun y => z ((h2 P E hE).2 y).symm)
  · intro z y
    exact (h2 P E hE).1 z y.symm
end JEA
theorem fst_all {f : Nat → Bool} {m : Nat} (h : ∀ j, j < m → f j = false) : ∀ d k, k + d = m → fstF f d k = -1
  | 0, _, _ => rfl
  | d + 1, k, hk => by rw [fstF, if_neg (by rw [h k (by omega)]; decide)]; exact fst_all h d (k + 1) (by omega)
theorem fst_one {f : Nat → Bool} {m E : Nat} (hE : E < m) (h : ∀ j, j < m → (f j = true ↔ j = E)) : ∀ d k, k + d = m → k ≤ E → fstF f d k = nI E
  | 0, k, hk, hle => by omega
  | d + 1, k, hk, hle => by
    rw [fstF]
    by_cases z : k = E
    · rw [if_pos ((h k (by omega)).mpr z), z]
    · rw [if_neg (fun y => z ((h k (by omega)).mp y))]
      exact fst_one hE h d (k + 1) (by omega) (by omega)
