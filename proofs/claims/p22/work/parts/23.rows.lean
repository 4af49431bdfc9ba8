/-! the entries' rows: what stays -/
def lkK (kin : Nat → Int32) (man : Nat → Nat) (P : Nat) : Int32 := if 0 < man P then kin (P * 30 + (man P - 1)) else -1
def ngF (gon : Nat → Bool) (P : Nat) : Int := if gon P = true then 0 else 1
def okB (kin oth : Nat → Int32) (man : Nat → Nat) (n : Nat) (hel gon : Nat → Bool) (wen : Nat → Nat) (gor : Nat) : Prop :=
  (∀ P, n ≤ P → man P = 0) ∧ (∀ P, man P ≤ 30) ∧ othK kin oth n ∧ (∀ P, hel P = decide (lkK kin man P = 8)) ∧ (∀ P, gon P = decide (lkK kin man P = 6)) ∧ jnO kin oth man wen gor ∧ (∀ i, i < gor → wen i < n ∧ gon (wen i) = true) ∧ ((gor : Int) + smI (ngF gon) n = n ∧ (n = 0 ∨ 1 ≤ smI (ngF gon) n))
theorem ng_b {gon : Nat → Bool} (k : Nat) : 0 ≤ ngF gon k ∧ ngF gon k ≤ 1 := by unfold ngF; split <;> omega
theorem nI_ne {a b : Nat} (ha : a < 10) (hb : b < 10) (h : a ≠ b) : nI a ≠ nI b := fun z => h ((nI_eq (by omega) (by omega)).mp z)
section RWS
variable {kin oth : Nat → Int32} {man wen : Nat → Nat} {n gor : Nat} {hel gon : Nat → Bool}
theorem lk_app {P : Nat} {v : Int32} (hP : man P < 30) (hm : ∀ Q, man Q ≤ 30) (Q : Nat) : lkK (va_up kin (P * 30 + man P) v) (va_up man P (man P + 1)) Q = if Q = P then v else lkK kin man Q := by
  unfold lkK
  by_cases q : Q = P
  · subst q
    rw [if_pos rfl, va_up_self, if_pos (by omega), show Q * 30 + (man Q + 1 - 1) = Q * 30 + man Q by omega, va_up_self]
  · rw [if_neg q, va_up_ne _ _ q]
    by_cases z : 0 < man Q
    · have := hm Q
      rw [if_pos z, if_pos z, va_up_ne _ _ (by omega)]
    · rw [if_neg z, if_neg z]
theorem oth_app {r kd : Nat} {ov : Int32} (hk : kd < 10) (h : othK kin oth n) (ho : (kd = 5 ∨ kd = 4) → ∃ o : Nat, o < n ∧ ov = nI o) : othK (va_up kin r (nI kd)) (va_up oth r ov) n := by
  intro q hq
  by_cases z : q = r
  · subst z
    rw [va_up_self] at hq ⊢
    refine ho (hq.elim (fun y => Or.inl ?_) (fun y => Or.inr ?_))
    · exact (nI_eq (b := 5) (by omega) (by decide)).mp y
    · exact (nI_eq (b := 4) (by omega) (by decide)).mp y
  · rw [va_up_ne _ _ z] at hq ⊢
    exact h q hq
theorem ent_app {P kd : Nat} {ov : Int32} (hP : man P < 30) (hm : ∀ Q, man Q ≤ 30) {Q e : Nat} (he : e < va_up man P (man P + 1) Q) : (Q = P ∧ e = man P) ∨ (e < man Q ∧ va_up kin (P * 30 + man P) (nI kd) (Q * 30 + e) = kin (Q * 30 + e) ∧ va_up oth (P * 30 + man P) ov (Q * 30 + e) = oth (Q * 30 + e)) := by
  have h9 := hm Q
  by_cases q : Q = P
  · subst q
    rw [va_up_self] at he
    by_cases z : e = man Q
    · exact Or.inl ⟨rfl, z⟩
    · exact Or.inr ⟨by omega, va_up_ne _ _ (by omega), va_up_ne _ _ (by omega)⟩
  · rw [va_up_ne _ _ q] at he
    exact Or.inr ⟨he, va_up_ne _ _ (by omega), va_up_ne _ _ (by omega)⟩
theorem jn_app {P kd : Nat} {ov : Int32} (hk : kd < 10) (h5 : kd ≠ 5) (hP : man P < 30) (hm : ∀ Q, man Q ≤ 30) (h : jnO kin oth man wen gor) : jnO (va_up kin (P * 30 + man P) (nI kd)) (va_up oth (P * 30 + man P) ov) (va_up man P (man P + 1)) wen gor := by
  have old : ∀ Q e, e < va_up man P (man P + 1) Q → va_up kin (P * 30 + man P) (nI kd) (Q * 30 + e) = 5 → e < man Q ∧ kin (Q * 30 + e) = 5 ∧ va_up oth (P * 30 + man P) ov (Q * 30 + e) = oth (Q * 30 + e) := by
    intro Q e he hq
    rcases ent_app (kin := kin) (oth := oth) (kd := kd) (ov := ov) hP hm he with ⟨a, b⟩ | ⟨a, b, c⟩
    · subst a; subst b
      rw [va_up_self] at hq
      exact absurd ((nI_eq (b := 5) (by omega) (by decide)).mp hq) h5
    · exact ⟨a, by rw [← b]; exact hq, c⟩
  refine ⟨h.1, h.2.1, fun Q e he hq => ?_, fun Q e Q' e' he he' hq hq' ho => ?_⟩
  · obtain ⟨a, b, c⟩ := old Q e he hq
    rw [c]; exact h.2.2.1 Q e a b
  · obtain ⟨a, b, c⟩ := old Q e he hq
    obtain ⟨a', b', c'⟩ := old Q' e' he' hq'
    rw [c, c'] at ho
    exact h.2.2.2 Q e Q' e' a a' b b' ho
theorem jn_join {P O : Nat} (hn14 : n ≤ 14) (hP : P < n) (hne : P ≠ O) (hgP : gon P = false) (hgO : gon O = false) (hw : ∀ i, i < gor → wen i < n ∧ gon (wen i) = true) (hO : man O < 30) (hm : ∀ Q, man Q ≤ 30) (h : jnO kin oth man wen gor) : jnO (va_up kin (O * 30 + man O) (nI 5)) (va_up oth (O * 30 + man O) (nI P)) (va_up man O (man O + 1)) (va_up wen gor P) (gor + 1) := by
  have wne : ∀ i, i < gor → va_up wen gor P i = wen i := fun i hi => va_up_ne _ _ (by omega)
  have wP : ∀ i, i < gor → wen i ≠ P := fun i hi z => by have := (hw i hi).2; rw [z, hgP] at this; cases this
  have wO : ∀ i, i < gor → wen i ≠ O := fun i hi z => by have := (hw i hi).2; rw [z, hgO] at this; cases this
  refine ⟨fun i hi => ?_, fun i j hi hj hij => ?_, fun Q e he hq => ?_, fun Q e Q' e' he he' hq hq' ho => ?_⟩
  · by_cases z : i = gor
    · rw [z, va_up_self]; omega
    · rw [wne i (by omega)]; exact h.1 i (by omega)
  · by_cases z : i = gor
    · by_cases y : j = gor
      · omega
      · rw [z, va_up_self, wne j (by omega)] at hij
        exact absurd hij.symm (wP j (by omega))
    · by_cases y : j = gor
      · rw [y, va_up_self, wne i (by omega)] at hij
        exact absurd hij (wP i (by omega))
      · rw [wne i (by omega), wne j (by omega)] at hij
        exact h.2.1 i j (by omega) (by omega) hij
  · rcases ent_app (kin := kin) (oth := oth) (kd := 5) (ov := nI P) hO hm he with ⟨a, b⟩ | ⟨a, b, c⟩
    · subst a; subst b
      refine ⟨gor, by omega, by rw [va_up_self, va_up_self], fun j hj hjo => ?_⟩
      by_cases y : j = gor
      · rw [y, va_up_self] at hjo; exact absurd hjo hne
      · rw [wne j (by omega)] at hjo; exact absurd hjo (wO j (by omega))
    · rw [b] at hq
      obtain ⟨i, h1, h2, h3⟩ := h.2.2.1 Q e a hq
      refine ⟨i, by omega, by rw [c, h2, wne i h1], fun j hj hjo => ?_⟩
      by_cases y : j = gor
      · omega
      · rw [wne j (by omega)] at hjo; exact h3 j (by omega) hjo
  · have hoP : ∀ Q e, e < man Q → kin (Q * 30 + e) = 5 → oth (Q * 30 + e) ≠ nI P := fun Q e he hq z => by
      obtain ⟨i, h1, h2, h3⟩ := h.2.2.1 Q e he hq
      have := (hw i h1).1
      exact wP i h1 ((nI_eq (by omega) (by omega)).mp (h2.symm.trans z))
    rcases ent_app (kin := kin) (oth := oth) (kd := 5) (ov := nI P) hO hm he with ⟨a, b⟩ | ⟨a, b, c⟩
    · rcases ent_app (kin := kin) (oth := oth) (kd := 5) (ov := nI P) hO hm he' with ⟨a', b'⟩ | ⟨a', b', c'⟩
      · exact ⟨by rw [a, a'], by rw [b, b']⟩
      · subst a; subst b
        rw [va_up_self, c'] at ho
        rw [b'] at hq'
        exact absurd ho.symm (hoP Q' e' a' hq')
    · rcases ent_app (kin := kin) (oth := oth) (kd := 5) (ov := nI P) hO hm he' with ⟨a', b'⟩ | ⟨a', b', c'⟩
      · subst a'; subst b'
        rw [va_up_self, c] at ho
        rw [b] at hq
        exact absurd ho (hoP Q e a hq)
      · rw [b] at hq; rw [b'] at hq'; rw [c, c'] at ho
        exact h.2.2.2 Q e Q' e' a a' hq hq' ho
theorem man_app {P : Nat} (hP : man P < 30) (hm : ∀ Q, man Q ≤ 30) (Q : Nat) : va_up man P (man P + 1) Q ≤ 30 := by
  rw [up_if]; split
  · omega
  · exact hm Q
theorem B_new (h : okB kin oth man n hel gon wen gor) : okB kin oth man (n + 1) hel gon wen gor := by
  obtain ⟨b1, b2, b3, b4, b5, b6, b7, b8, b9⟩ := h
  have hg : gon n = false := by
    rw [b5 n]; unfold lkK; rw [b1 n (Nat.le_refl _), if_neg (by omega)]; decide
  have hb := smI_b (ng_b (gon := gon)) n
  refine ⟨fun P hP => b1 P (by omega), b2, fun r hr => (b3 r hr).elim (fun o z => ⟨o, by omega, z.2⟩), b4, b5, b6, fun i hi => ⟨by have := (b7 i hi).1; omega, (b7 i hi).2⟩, ?_, ?_⟩
  · rw [smI, show ngF gon n = 1 from if_neg (by rw [hg]; decide)]; omega
  · rw [smI, show ngF gon n = 1 from if_neg (by rw [hg]; decide)]; omega
theorem B_gor (hn : n ≤ 14) (h : okB kin oth man n hel gon wen gor) : gor < 14 := by
  obtain ⟨b1, b2, b3, b4, b5, b6, b7, b8, b9⟩ := h
  have := (smI_b (ng_b (gon := gon)) n).1
  omega
theorem B_app (h : okB kin oth man n hel gon wen gor) {P kd : Nat} {ov : Int32} (hPn : P < n) (hP : man P < 30) (hh : hel P = false) (hg : gon P = false) (hk : kd < 10) (h5 : kd ≠ 5) (h6 : kd ≠ 6) (h8 : kd ≠ 8) (ho : kd = 4 → ∃ o : Nat, o < n ∧ ov = nI o) : okB (va_up kin (P * 30 + man P) (nI kd)) (va_up oth (P * 30 + man P) ov) (va_up man P (man P + 1)) n hel gon wen gor := by
  obtain ⟨b1, b2, b3, b4, b5, b6, b7, b8⟩ := h
  refine ⟨fun Q hQ => ?_, man_app hP b2, oth_app hk b3 (fun z => ho (z.elim (fun y => absurd y h5) id)), fun Q => ?_, fun Q => ?_, jn_app hk h5 hP b2 b6, b7, b8⟩
  · rw [va_up_ne _ _ (by omega)]; exact b1 Q hQ
  · rw [lk_app hP b2 Q]
    by_cases q : Q = P
    · rw [if_pos q, q, hh]; exact (decide_eq_false (nI_ne hk (b := 8) (by decide) h8)).symm
    · rw [if_neg q]; exact b4 Q
  · rw [lk_app hP b2 Q]
    by_cases q : Q = P
    · rw [if_pos q, q, hg]; exact (decide_eq_false (nI_ne hk (b := 6) (by decide) h6)).symm
    · rw [if_neg q]; exact b5 Q
theorem B_hold (h : okB kin oth man n hel gon wen gor) {P : Nat} {ov : Int32} (hPn : P < n) (hP : man P < 30) (hg : gon P = false) : okB (va_up kin (P * 30 + man P) (nI (hdK (hel P)))) (va_up oth (P * 30 + man P) ov) (va_up man P (man P + 1)) n (va_up hel P (!hel P)) gon wen gor := by
  obtain ⟨b1, b2, b3, b4, b5, b6, b7, b8⟩ := h
  have hk := hdK_lt (hel P)
  have h5 : hdK (hel P) ≠ 5 := by cases hel P <;> decide
  have h6 : hdK (hel P) ≠ 6 := by cases hel P <;> decide
  have h4 : hdK (hel P) ≠ 4 := by cases hel P <;> decide
  refine ⟨fun Q hQ => ?_, man_app hP b2, oth_app hk b3 (fun z => z.elim (fun y => absurd y h5) (fun y => absurd y h4)), fun Q => ?_, fun Q => ?_, jn_app hk h5 hP b2 b6, b7, b8⟩
  · rw [va_up_ne _ _ (by omega)]; exact b1 Q hQ
  · rw [lk_app hP b2 Q]
    by_cases q : Q = P
    · rw [if_pos q, q, va_up_self]
      cases hel P <;> decide
    · rw [if_neg q, va_up_ne _ _ q]; exact b4 Q
  · rw [lk_app hP b2 Q]
    by_cases q : Q = P
    · rw [if_pos q, q, hg]; exact (decide_eq_false (nI_ne hk (b := 6) (by decide) h6)).symm
    · rw [if_neg q]; exact b5 Q
theorem B_join (h : okB kin oth man n hel gon wen gor) (hn14 : n ≤ 14) {P O : Nat} {ov : Int32} (hPn : P < n) (hOn : O < n) (hne : P ≠ O) (hP : man P < 30) (hO : man O < 30) (hhP : hel P = false) (hgP : gon P = false) (hhO : hel O = false) (hgO : gon O = false) :
    okB (va_up (va_up kin (O * 30 + man O) (nI 5)) (P * 30 + man P) (nI 6)) (va_up (va_up oth (O * 30 + man O) (nI P)) (P * 30 + man P) ov) (va_up (va_up man O (man O + 1)) P (man P + 1)) n hel (va_up gon P true) (va_up wen gor P) (gor + 1) := by
  obtain ⟨b1, b2, b3, b4, b5, b6, b7, b8, b9⟩ := h
  have m2 := man_app hO b2
  have eP : va_up man O (man O + 1) P = man P := va_up_ne _ _ hne
  have j2 := jn_app (kd := 6) (ov := ov) (P := P) (by decide) (by decide) (by rw [eP]; exact hP) m2 (jn_join hn14 hPn hne hgP hgO b7 hO b2 b6)
  have l2 := fun Q => lk_app (kin := va_up kin (O * 30 + man O) (nI 5)) (P := P) (v := nI 6) (by rw [eP]; exact hP) m2 Q
  have l1 := fun Q => lk_app (kin := kin) (P := O) (v := nI 5) hO b2 Q
  have mm := man_app (P := P) (by rw [eP]; exact hP) m2
  rw [eP] at j2 mm
  simp only [eP] at l2
  refine ⟨fun Q hQ => ?_, mm, oth_app (kd := 6) (by decide) (oth_app (kd := 5) (by decide) b3 (fun _ => ⟨P, hPn, rfl⟩)) (fun z => by omega), fun Q => ?_, fun Q => ?_, j2, fun i hi => ?_, ?_, ?_⟩
  · rw [va_up_ne _ _ (by omega), va_up_ne _ _ (by omega)]; exact b1 Q hQ
  · rw [l2 Q, l1 Q]
    by_cases q : Q = P
    · rw [if_pos q, q, hhP]; decide
    · rw [if_neg q]
      by_cases z : Q = O
      · rw [if_pos z, z, hhO]; decide
      · rw [if_neg z]; exact b4 Q
  · rw [l2 Q, l1 Q]
    by_cases q : Q = P
    · rw [if_pos q, q, va_up_self]; decide
    · rw [if_neg q, va_up_ne _ _ q]
      by_cases z : Q = O
      · rw [if_pos z, z, hgO]; decide
      · rw [if_neg z]; exact b5 Q
  · by_cases z : i = gor
    · rw [z, va_up_self, va_up_self]; exact ⟨hPn, rfl⟩
    · rw [va_up_ne _ _ z]
      have := b7 i (by omega)
      refine ⟨this.1, ?_⟩
      rw [up_if]; split
      · rfl
      · exact this.2
  · rw [smI_up (f := ngF (va_up gon P true)) (g := ngF gon) n hPn (fun k hk q => by unfold ngF; rw [va_up_ne _ _ q])]
    rw [show ngF gon P = 1 from if_neg (by rw [hgP]; decide), show ngF (va_up gon P true) P = 0 from if_pos (va_up_self _ _ _)]
    omega
  · refine Or.inr ?_
    have e1 := smI_up (f := ngF (va_up gon P true)) (g := ngF gon) n hPn (fun k hk q => by unfold ngF; rw [va_up_ne _ _ q])
    have e2 := smI_up (f := fun k => if k = O then 0 else ngF (va_up gon P true) k) (g := ngF (va_up gon P true)) n hOn (fun k hk q => if_neg q)
    have e3 := (smI_b (f := fun k => if k = O then 0 else ngF (va_up gon P true) k) (B := 1) (fun k => by
      split
      · omega
      · exact ng_b k) n).1
    rw [if_pos rfl, show ngF (va_up gon P true) O = 1 from if_neg (by rw [va_up_ne _ _ (fun z => hne z.symm), hgO]; decide)] at e2
    omega
end RWS
