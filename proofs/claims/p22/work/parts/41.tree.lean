/-! chains lead to each other and back; what papers tell of goods, by what was written -/
def dueF (k : Int32) : Int32 := if k = 3 then 4 else if k = 4 then 3 else if k = 5 then 6 else if k = 6 then 5 else -1
def LK (kin oth its : Nat → Int32) (man : Nat → Nat) : Prop := ∀ P E, E < man P → dueF (kin (P * 30 + E)) ≠ -1 → ∃ o i, i < man o ∧ oth (P * 30 + E) = nI o ∧ its (P * 30 + E) = nI i ∧ kin (o * 30 + i) = dueF (kin (P * 30 + E)) ∧ oth (o * 30 + i) = nI P ∧ its (o * 30 + i) = nI E
section LKS
variable {kin oth its : Nat → Int32} {man : Nat → Nat}
theorem man_le {P Q : Nat} : man Q ≤ va_up man P (man P + 1) Q := by
  rw [up_if]; split
  · rename_i z; rw [z]; omega
  · omega
theorem LK_app {P : Nat} {kv o i : Int32} (h : LK kin oth its man) (hm : ∀ Q, man Q ≤ 30) (hP : man P < 30) (hk : dueF kv = -1) : LK (va_up kin (P * 30 + man P) kv) (va_up oth (P * 30 + man P) o) (va_up its (P * 30 + man P) i) (va_up man P (man P + 1)) := by
  intro Q e he hd
  rcases e_cases hm hP he with ⟨rfl, rfl⟩ | ⟨a1, a2, a3, a4⟩
  · rw [va_up_self] at hd; exact absurd hk hd
  · rw [va_up_ne _ _ a4] at hd
    obtain ⟨o', i', b1, b2, b3, b4, b5, b6⟩ := h Q e a1 hd
    have hmo := hm o'
    have hne : o' * 30 + i' ≠ P * 30 + man P := by
      by_cases z : o' = P
      · subst z; omega
      · omega
    refine ⟨o', i', Nat.lt_of_lt_of_le b1 man_le, ?_⟩
    rw [va_up_ne _ _ a4, va_up_ne _ _ a4, va_up_ne _ _ a4, va_up_ne _ _ hne, va_up_ne _ _ hne, va_up_ne _ _ hne]
    exact ⟨b2, b3, b4, b5, b6⟩
theorem LK_two {P O : Nat} {k1 k2 : Int32} (h : LK kin oth its man) (hm : ∀ Q, man Q ≤ 30) (hne : P ≠ O) (hP : man P < 30) (hO : man O < 30) (h12 : dueF k1 = k2) (h21 : dueF k2 = k1) : LK (va_up (va_up kin (P * 30 + man P) k1) (O * 30 + man O) k2) (va_up (va_up oth (P * 30 + man P) (nI O)) (O * 30 + man O) (nI P)) (va_up (va_up its (P * 30 + man P) (nI (man O))) (O * 30 + man O) (nI (man P))) (va_up (va_up man P (man P + 1)) O (man O + 1)) := by
  have m2 := man_app hP hm
  have eO : va_up man P (man P + 1) O = man O := va_up_ne _ _ (fun z => hne z.symm)
  have hPO : P * 30 + man P ≠ O * 30 + man O := by omega
  have mP : va_up (va_up man P (man P + 1)) O (man O + 1) P = man P + 1 := by rw [va_up_ne _ _ hne, va_up_self]
  have mO : va_up (va_up man P (man P + 1)) O (man O + 1) O = man O + 1 := va_up_self _ _ _
  intro Q e he hd
  have he2 : (Q = O ∧ e = man O) ∨ (e < va_up man P (man P + 1) Q ∧ Q * 30 + e ≠ O * 30 + man O) := by
    have he9 : e < va_up (va_up man P (man P + 1)) O (va_up man P (man P + 1) O + 1) Q := by rw [eO]; exact he
    rcases e_cases m2 (by rw [eO]; exact hO) he9 with ⟨a, b⟩ | ⟨a1, a2, a3, a4⟩
    · rw [eO] at b; exact Or.inl ⟨a, b⟩
    · rw [eO] at a4; exact Or.inr ⟨a1, a4⟩
  rcases he2 with ⟨rfl, rfl⟩ | ⟨a1, a4⟩
  · refine ⟨P, man P, by rw [mP]; omega, ?_⟩
    rw [va_up_self, va_up_self, va_up_self, va_up_ne _ _ hPO, va_up_ne _ _ hPO, va_up_ne _ _ hPO, va_up_self, va_up_self, va_up_self]
    exact ⟨rfl, rfl, h21.symm, rfl, rfl⟩
  · rcases e_cases hm hP a1 with ⟨rfl, rfl⟩ | ⟨c1, c2, c3, c4⟩
    · refine ⟨O, man O, by rw [mO]; omega, ?_⟩
      rw [va_up_ne _ _ hPO, va_up_ne _ _ hPO, va_up_ne _ _ hPO, va_up_self, va_up_self, va_up_self, va_up_self, va_up_self, va_up_self]
      exact ⟨rfl, rfl, h12.symm, rfl, rfl⟩
    · rw [va_up_ne _ _ a4, va_up_ne _ _ c4] at hd
      obtain ⟨o', i', b1, b2, b3, b4, b5, b6⟩ := h Q e c1 hd
      have hmo := hm o'
      have n1 : o' * 30 + i' ≠ P * 30 + man P := by
        by_cases z : o' = P
        · subst z; omega
        · omega
      have n2 : o' * 30 + i' ≠ O * 30 + man O := by
        by_cases z : o' = O
        · subst z; omega
        · omega
      refine ⟨o', i', ?_, ?_⟩
      · rw [up_if]; split
        · rename_i z; rw [z] at b1; omega
        · exact Nat.lt_of_lt_of_le b1 man_le
      · rw [va_up_ne _ _ a4, va_up_ne _ _ c4, va_up_ne _ _ a4, va_up_ne _ _ c4, va_up_ne _ _ a4, va_up_ne _ _ c4, va_up_ne _ _ n2, va_up_ne _ _ n1, va_up_ne _ _ n2, va_up_ne _ _ n1, va_up_ne _ _ n2, va_up_ne _ _ n1]
        exact ⟨b2, b3, b4, b5, b6⟩
end LKS
def owK (kin god was : Nat → Int32) (P : Nat) (g : Int32) : Nat → Int32
  | 0 => 0
  | e + 1 => owK kin god was P g e + (if god (P * 30 + e) = g then sgnF (kin (P * 30 + e)) * was (P * 30 + e) else 0)
theorem ow_K {kin mak god amo oth its : Nat → Int32} {P : Nat} {g : Int32} : ∀ e, owS (numC kin mak god amo oth its) P g e = owK kin god amo P g e
  | 0 => rfl
  | e + 1 => by rw [owS, owK, ow_K e]; simp only [nc0, nc2, nc3]
theorem owK_c {kin kin' god god' was was' : Nat → Int32} {P : Nat} {g : Int32} : ∀ m, (∀ e, e < m → kin (P * 30 + e) = kin' (P * 30 + e) ∧ god (P * 30 + e) = god' (P * 30 + e) ∧ was (P * 30 + e) = was' (P * 30 + e)) → owK kin god was P g m = owK kin' god' was' P g m
  | 0, _ => rfl
  | m + 1, h => by
    obtain ⟨a, b, c⟩ := h m (by omega)
    rw [owK, owK, owK_c m (fun e he => h e (by omega)), a, b, c]
/-- a pallet's own papers, as they were written -/
def wK (kin god was : Nat → Int32) (man : Nat → Nat) (g : Nat) (k : Nat) : Int32 := owK kin god was k (nI g) (man k)
noncomputable def Tt (kin oth god was : Nat → Int32) (man : Nat → Nat) (n g P : Nat) : Int32 := stS kin oth man (wK kin god was man g) n P
section TTS
variable {kin oth god was : Nat → Int32} {man wen : Nat → Nat} {n gor g : Nat} {gon : Nat → Bool}
theorem wK_app {P kd Q : Nat} {gv a : Int32} (hm : ∀ Q, man Q ≤ 30) (hP : man P < 30) : wK (va_up kin (P * 30 + man P) (nI kd)) (va_up god (P * 30 + man P) gv) (va_up was (P * 30 + man P) a) (va_up man P (man P + 1)) g Q = wK kin god was man g Q + (if Q = P then (if gv = nI g then sgnF (nI kd) * a else 0) else 0) := by
  have hmQ := hm Q
  unfold wK
  by_cases q : Q = P
  · subst q
    rw [if_pos rfl, va_up_self, owK, va_up_self, va_up_self, va_up_self]
    refine congrArg (· + _) (owK_c _ (fun e he => ⟨va_up_ne _ _ (by omega), va_up_ne _ _ (by omega), va_up_ne _ _ (by omega)⟩))
  · rw [if_neg q, Int32.add_zero, va_up_ne _ _ q]
    exact owK_c _ (fun e he => ⟨va_up_ne _ _ (by omega), va_up_ne _ _ (by omega), va_up_ne _ _ (by omega)⟩)
theorem adj_app {P kd : Nat} {ov : Int32} {wc : Bool} (hm : ∀ Q, man Q ≤ 30) (hP : man P < 30) {x y : Nat} : adjC (va_up kin (P * 30 + man P) (nI kd)) (va_up oth (P * 30 + man P) ov) (va_up man P (man P + 1)) wc x y ↔ adjC kin oth man wc x y ∨ (x = P ∧ (nI kd = 5 ∨ (nI kd = 4 ∧ wc = true)) ∧ ov = nI y ∧ y < 14) := by
  constructor
  · rintro ⟨e, h1, h2, h3, h4⟩
    rcases e_cases hm hP h1 with ⟨rfl, rfl⟩ | ⟨a1, a2, a3, a4⟩
    · rw [va_up_self] at h2 h3
      exact Or.inr ⟨rfl, h2, h3, h4⟩
    · rw [va_up_ne _ _ a4] at h2 h3
      exact Or.inl ⟨e, a1, h2, h3, h4⟩
  · rintro (⟨e, h1, h2, h3, h4⟩ | ⟨rfl, h2, h3, h4⟩)
    · have hmx := hm x
      have hne : x * 30 + e ≠ P * 30 + man P := by
        by_cases z : x = P
        · subst z; omega
        · omega
      refine ⟨e, Nat.lt_of_lt_of_le h1 man_le, ?_, ?_, h4⟩
      · rw [va_up_ne _ _ hne]; exact h2
      · rw [va_up_ne _ _ hne]; exact h3
    · refine ⟨man x, by rw [va_up_self]; omega, ?_, ?_, h4⟩
      · rw [va_up_self]; exact h2
      · rw [va_up_self]; exact h3
theorem aJ_app {P kd : Nat} {ov : Int32} (hk : kd < 10) (h5 : kd ≠ 5) (hm : ∀ Q, man Q ≤ 30) (hP : man P < 30) : aJ (va_up kin (P * 30 + man P) (nI kd)) (va_up oth (P * 30 + man P) ov) (va_up man P (man P + 1)) = aJ kin oth man := by
  funext x y
  refine propext ((adj_app hm hP).trans ⟨fun z => z.elim id (fun ⟨_, z, _⟩ => ?_), Or.inl⟩)
  rcases z with z | z
  · exact absurd ((nI_eq (b := 5) (by omega) (by decide)).mp z) h5
  · exact absurd z.2 (by decide)
theorem sm_upd {f f' : Nat → Int32} {P : Nat} {d : Int32} (hP : f' P = f P + d) : ∀ n, P < n → (∀ k, k < n → k ≠ P → f' k = f k) → smS f' n = smS f n + d
  | 0, h, _ => by omega
  | n + 1, hn, h => by
    rw [smS, smS]
    by_cases q : n = P
    · subst q
      rw [sm_congr (g := f) n (fun k hk => h k (by omega) (by omega)), hP, Int32.add_assoc]
    · rw [sm_upd hP n (by omega) (fun k hk hne => h k (by omega) hne), h n (by omega) q]
      ac_rfl
/-- what is reached by JOINED from Q is Q, or gone -/
theorem rj_gone (hj : jnO kin oth man wen gor) (hw : ∀ i, i < gor → wen i < n ∧ gon (wen i) = true) {Q k : Nat} (h : Rch (aJ kin oth man) Q k) : k = Q ∨ gon k = true := by
  rcases r_last h with q | ⟨a, h1, h2⟩
  · exact Or.inl q
  · obtain ⟨e, g1, g2, g3, g4⟩ := aJ_of h2
    obtain ⟨i, q1, q2, q3⟩ := hj.2.2.1 a e g1 g2
    have := hj.1 i q1
    have hk : k = wen i := (nI_eq (by omega) (by omega)).mp (g3.symm.trans q2)
    rw [hk]; exact Or.inr (hw i q1).2
theorem Tt_app {P kd Q : Nat} {gv a ov : Int32} (hj : jnO kin oth man wen gor) (hw : ∀ i, i < gor → wen i < n ∧ gon (wen i) = true) (hk : kd < 10) (h5 : kd ≠ 5) (hm : ∀ Q, man Q ≤ 30) (hP : man P < 30) (hPn : P < n) (hgP : gon P = false) :
    Tt (va_up kin (P * 30 + man P) (nI kd)) (va_up oth (P * 30 + man P) ov) (va_up god (P * 30 + man P) gv) (va_up was (P * 30 + man P) a) (va_up man P (man P + 1)) n g Q = Tt kin oth god was man n g Q + (if Q = P then (if gv = nI g then sgnF (nI kd) * a else 0) else 0) := by
  unfold Tt stS
  rw [aJ_app hk h5 hm hP]
  refine sm_upd (P := P) ?_ n hPn (fun k _ hne => ?_)
  · rw [wK_app hm hP, if_pos rfl]
    by_cases q : Q = P
    · subst q
      rw [if_pos rfl, cif_y Rch_refl, cif_y Rch_refl]
    · rw [if_neg q, Int32.add_zero]
      have hn : ¬ Rch (aJ kin oth man) Q P := fun z => by
        rcases rj_gone hj hw z with y | y
        · exact q y.symm
        · rw [hgP] at y; cases y
      rw [cif_n hn, cif_n hn]
  · rw [wK_app hm hP, if_neg hne, Int32.add_zero]
theorem Tt_new {Q : Nat} (hoth : othK kin oth n) (hn : n ≤ 14) (hQ : Q < n) : Tt kin oth god was man (n + 1) g Q = Tt kin oth god was man n g Q := by
  unfold Tt stS
  rw [smS, cif_n (fun z => by have := Rch_lt hoth hn hQ z; omega), Int32.add_zero]
theorem Tt_none (h0 : man n = 0) : Tt kin oth god was man (n + 1) g n = 0 := by
  have hr : ∀ k, Rch (aJ kin oth man) n k → k = n := fun k h => h (fun k => k = n) rfl (fun a b ha hab => by
    obtain ⟨e, g1, -⟩ := aJ_of hab
    rw [show a = n from ha, h0] at g1
    omega)
  unfold Tt stS
  rw [smS, cif_y Rch_refl, sm_congr (g := fun _ => 0) n (fun k hk => cif_n (fun z => by have := hr k z; omega)), sm_zero]
  unfold wK
  rw [h0]; rfl
/-- joining: the edge from O to P is new -/
theorem Rj_new {adj adj' : Nat → Nat → Prop} {O P : Nat} (h : ∀ x y, adj' x y ↔ adj x y ∨ (x = O ∧ y = P)) {k : Nat} : Rch adj' O k ↔ Rch adj O k ∨ Rch adj P k := by
  constructor
  · intro z
    refine z (fun k => Rch adj O k ∨ Rch adj P k) (Or.inl Rch_refl) (fun a b ha hab => ?_)
    rcases (h a b).mp hab with q | ⟨_, rfl⟩
    · exact ha.elim (fun y => Or.inl (Rch_step y q)) (fun y => Or.inr (Rch_step y q))
    · exact Or.inr Rch_refl
  · have up : ∀ {c d}, Rch adj c d → Rch adj' c d := fun z S h1 h2 => z S h1 (fun a b ha hab => h2 a b ha ((h a b).mpr (Or.inl hab)))
    rintro (z | z)
    · exact up z
    · exact fun S h1 h2 => up z S (h2 O P h1 ((h O P).mpr (Or.inr ⟨rfl, rfl⟩))) h2
theorem Rj_old {adj adj' : Nat → Nat → Prop} {O P Q : Nat} (h : ∀ x y, adj' x y ↔ adj x y ∨ (x = O ∧ y = P)) (hQ : ¬ Rch adj Q O) {k : Nat} : Rch adj' Q k ↔ Rch adj Q k := by
  constructor
  · intro z
    refine z (fun k => Rch adj Q k) Rch_refl (fun a b ha hab => ?_)
    rcases (h a b).mp hab with q | ⟨rfl, rfl⟩
    · exact Rch_step ha q
    · exact absurd ha hQ
  · exact fun z S h1 h2 => z S h1 (fun a b ha hab => h2 a b ha ((h a b).mpr (Or.inl hab)))
end TTS
