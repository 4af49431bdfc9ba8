/-! what the pallets that went are told once each: a forest -/
def jnO (kin oth : Nat → Int32) (man wen : Nat → Nat) (gor : Nat) : Prop :=
  (∀ i, i < gor → wen i < 14) ∧ (∀ i j, i < gor → j < gor → wen i = wen j → i = j) ∧
  (∀ P e, e < man P → kin (P * 30 + e) = 5 → ∃ i, i < gor ∧ oth (P * 30 + e) = nI (wen i) ∧ ∀ j, j < gor → wen j = P → i < j) ∧
  (∀ P e P' e', e < man P → e' < man P' → kin (P * 30 + e) = 5 → kin (P' * 30 + e') = 5 → oth (P * 30 + e) = oth (P' * 30 + e') → P = P' ∧ e = e')
section TLS
variable {kin god amo oth : Nat → Int32} {man wen : Nat → Nat} {gor : Nat} {tol : Nat → Int32} {g : Int32}
theorem tl_stay (hw : ∀ i j, i < gor → j < gor → wen i = wen j → i = j) {i : Nat} : ∀ k, i < k → k ≤ gor → tlS kin god amo oth man wen tol g k (wen i) = tlS kin god amo oth man wen tol g (i + 1) (wen i)
  | 0, h, _ => by omega
  | k + 1, h, hk => by
    by_cases q : k = i
    · rw [q]
    · rw [tlS, va_up_ne _ _ (fun z => q (hw i k (by omega) (by omega) z).symm)]
      exact tl_stay hw k (by omega) (by omega)
theorem pp_congr {t t' : Nat → Int32} {P : Nat} : ∀ E, (∀ e, e < E → kin (P * 30 + e) = 5 → t (oth (P * 30 + e)).toNatClampNeg = t' (oth (P * 30 + e)).toNatClampNeg) → ppS kin god amo oth t P g E = ppS kin god amo oth t' P g E
  | 0, _ => rfl
  | E + 1, h => by
    rw [ppS, ppS, pp_congr E (fun e he => h e (by omega))]
    by_cases q : kin (P * 30 + E) = 5
    · rw [if_pos q, if_pos q, h E (by omega) q]
    · rw [if_neg q, if_neg q]
theorem tl_fix (hj : jnO kin oth man wen gor) {i : Nat} (hi : i < gor) : tlS kin god amo oth man wen tol g gor (wen i) = ppC kin god amo oth man (tlS kin god amo oth man wen tol g gor) (wen i) g := by
  rw [tl_stay hj.2.1 gor hi (Nat.le_refl _), tlS, va_up_self]
  refine pp_congr _ (fun e he hk => ?_)
  obtain ⟨i', h1, h2, h3⟩ := hj.2.2.1 _ e he hk
  have h4 := h3 i hi rfl
  have := hj.1 i' h1
  rw [h2, nI_clamp (by omega), tl_stay hj.2.1 i h4 (by omega), tl_stay hj.2.1 gor h1 (Nat.le_refl _)]
end TLS
noncomputable def cif (p : Prop) (a : Int32) : Int32 := @ite _ p (Classical.propDecidable p) a 0
theorem cif_y {p : Prop} {a : Int32} (h : p) : cif p a = a := @if_pos _ (Classical.propDecidable p) h _ _ _
theorem cif_n {p : Prop} {a : Int32} (h : ¬ p) : cif p a = 0 := @if_neg _ (Classical.propDecidable p) h _ _ _
theorem cif_c {p q : Prop} {a : Int32} (h : p ↔ q) : cif p a = cif q a := by rw [propext h]
def smS (f : Nat → Int32) : Nat → Int32
  | 0 => 0
  | k + 1 => smS f k + f k
theorem sm_add {f g : Nat → Int32} : ∀ n, smS (fun k => f k + g k) n = smS f n + smS g n
  | 0 => by simp [smS]
  | n + 1 => by
    rw [smS, smS, smS, sm_add n]
    ac_rfl
theorem sm_congr {f g : Nat → Int32} : ∀ n, (∀ k, k < n → f k = g k) → smS f n = smS g n
  | 0, _ => rfl
  | n + 1, h => by rw [smS, smS, sm_congr n (fun k hk => h k (by omega)), h n (by omega)]
theorem sm_zero : ∀ n, smS (fun _ => 0) n = 0
  | 0 => rfl
  | n + 1 => by rw [smS, sm_zero n]; rfl
theorem sm_one {w : Nat → Int32} {P : Nat} : ∀ n, P < n → smS (fun k => if k = P then w k else 0) n = w P
  | 0, h => by omega
  | n + 1, h => by
    rw [smS]
    by_cases q : n = P
    · subst q
      rw [if_pos rfl, sm_congr (g := fun _ => 0) n (fun k hk => if_neg (by omega)), sm_zero, Int32.zero_add]
    · rw [if_neg q, sm_one n (by omega), Int32.add_zero]
section FOR
variable {kin oth : Nat → Int32} {man wen : Nat → Nat} {gor : Nat}
abbrev aJ (kin oth : Nat → Int32) (man : Nat → Nat) : Nat → Nat → Prop := adjC kin oth man false
theorem aJ_of {a b : Nat} (h : aJ kin oth man a b) : ∃ e, e < man a ∧ kin (a * 30 + e) = 5 ∧ oth (a * 30 + e) = nI b ∧ b < 14 := by
  obtain ⟨e, h1, h2, h3, h4⟩ := h
  exact ⟨e, h1, h2.elim id (fun z => by cases z.2), h3, h4⟩
theorem aJ_mk {a b e : Nat} (h1 : e < man a) (h2 : kin (a * 30 + e) = 5) (h3 : oth (a * 30 + e) = nI b) (h4 : b < 14) : aJ kin oth man a b := ⟨e, h1, Or.inl h2, h3, h4⟩
theorem par_one (hj : jnO kin oth man wen gor) {a a' k : Nat} (h : aJ kin oth man a k) (h' : aJ kin oth man a' k) : a = a' := by
  obtain ⟨e, h1, h2, h3, h4⟩ := aJ_of h
  obtain ⟨e', g1, g2, g3, g4⟩ := aJ_of h'
  exact (hj.2.2.2 a e a' e' h1 g1 h2 g2 (by rw [h3, g3])).1
theorem rank_dn (hj : jnO kin oth man wen gor) {i k : Nat} (hi : i < gor) (h : Rch (aJ kin oth man) (wen i) k) : ∃ j, j ≤ i ∧ k = wen j := by
  refine h (fun k => ∃ j, j ≤ i ∧ k = wen j) ⟨i, Nat.le_refl _, rfl⟩ (fun a b ⟨j, h1, h2⟩ hab => ?_)
  obtain ⟨e, g1, g2, g3, g4⟩ := aJ_of hab
  obtain ⟨i', q1, q2, q3⟩ := hj.2.2.1 a e g1 g2
  have := q3 j (by omega) h2.symm
  have := hj.1 i' q1
  exact ⟨i', by omega, (nI_eq (by omega) (by omega)).mp (g3.symm.trans q2)⟩
theorem no_up (hj : jnO kin oth man wen gor) {P c : Nat} (h : aJ kin oth man P c) : ¬ Rch (aJ kin oth man) c P := by
  intro z
  obtain ⟨e, g1, g2, g3, g4⟩ := aJ_of h
  obtain ⟨i, q1, q2, q3⟩ := hj.2.2.1 P e g1 g2
  have := hj.1 i q1
  have hc : c = wen i := (nI_eq (by omega) (by omega)).mp (g3.symm.trans q2)
  subst hc
  obtain ⟨j, h1, h2⟩ := rank_dn hj q1 z
  have := q3 j (by omega) h2.symm
  omega
theorem r_last {adj : Nat → Nat → Prop} {c k : Nat} (h : Rch adj c k) : k = c ∨ ∃ a, Rch adj c a ∧ adj a k := by
  have := h (fun k => Rch adj c k ∧ (k = c ∨ ∃ a, Rch adj c a ∧ adj a k)) ⟨Rch_refl, Or.inl rfl⟩ (fun a b ha hab => ⟨Rch_step ha.1 hab, Or.inr ⟨a, ha.1, hab⟩⟩)
  exact this.2
theorem r_chain (hj : jnO kin oth man wen gor) {c d k : Nat} (h : Rch (aJ kin oth man) c k) (h' : Rch (aJ kin oth man) d k) : Rch (aJ kin oth man) c d ∨ Rch (aJ kin oth man) d c := by
  have := h (fun k => Rch (aJ kin oth man) c k ∧ (Rch (aJ kin oth man) d k → Rch (aJ kin oth man) c d ∨ Rch (aJ kin oth man) d c)) ⟨Rch_refl, Or.inr⟩ (fun a b ha hab => ⟨Rch_step ha.1 hab, fun hb => by
    rcases r_last hb with q | ⟨a', q1, q2⟩
    · subst q; exact Or.inl (Rch_step ha.1 hab)
    · have := par_one hj hab q2
      subst this
      exact ha.2 q1⟩)
  exact this.2 h'
/-- reached from P by its first E entries -/
def rE (kin oth : Nat → Int32) (man : Nat → Nat) (P E k : Nat) : Prop := k = P ∨ ∃ e o, e < E ∧ kin (P * 30 + e) = 5 ∧ oth (P * 30 + e) = nI o ∧ o < 14 ∧ Rch (aJ kin oth man) o k
theorem rE_all {P k : Nat} : rE kin oth man P (man P) k ↔ Rch (aJ kin oth man) P k := by
  constructor
  · rintro (q | ⟨e, o, h1, h2, h3, h4, h5⟩)
    · subst q; exact Rch_refl
    · exact fun S hS hc => h5 S (hc P o hS (aJ_mk h1 h2 h3 h4)) hc
  · intro h
    have := h (fun k => Rch (aJ kin oth man) P k ∧ rE kin oth man P (man P) k) ⟨Rch_refl, Or.inl rfl⟩ (fun a b ha hab => ⟨Rch_step ha.1 hab, by
      rcases ha.2 with q | ⟨e, o, h1, h2, h3, h4, h5⟩
      · subst q
        obtain ⟨e, g1, g2, g3, g4⟩ := aJ_of hab
        exact Or.inr ⟨e, b, g1, g2, g3, g4, Rch_refl⟩
      · exact Or.inr ⟨e, o, h1, h2, h3, h4, Rch_step h5 hab⟩⟩)
    exact this.2
theorem rE_no (hj : jnO kin oth man wen gor) {P E k o : Nat} (hE : E < man P) (hk : kin (P * 30 + E) = 5) (ho : oth (P * 30 + E) = nI o) (ho14 : o < 14) (h : rE kin oth man P E k) (h' : Rch (aJ kin oth man) o k) : False := by
  have hPo : aJ kin oth man P o := aJ_mk hE hk ho ho14
  rcases h with q | ⟨e, o', h1, h2, h3, h4, h5⟩
  · subst q; exact no_up hj hPo h'
  · have hPo' : aJ kin oth man P o' := aJ_mk (by omega) h2 h3 h4
    have hne : o ≠ o' := by
      intro z
      subst z
      have := (hj.2.2.2 P E P e hE (by omega) hk h2 (by rw [ho, h3])).2
      omega
    rcases r_chain hj h5 h' with q | q
    · rcases r_last q with z | ⟨a, z1, z2⟩
      · exact hne z
      · rw [par_one hj z2 hPo] at z1; exact no_up hj hPo' z1
    · rcases r_last q with z | ⟨a, z1, z2⟩
      · exact hne z.symm
      · rw [par_one hj z2 hPo'] at z1; exact no_up hj hPo z1
noncomputable def stS (kin oth : Nat → Int32) (man : Nat → Nat) (w : Nat → Int32) (n P : Nat) : Int32 := smS (fun k => cif (Rch (aJ kin oth man) P k) (w k)) n
def jsS (kin oth t : Nat → Int32) (P : Nat) : Nat → Int32
  | 0 => 0
  | E + 1 => jsS kin oth t P E + (if kin (P * 30 + E) = 5 then t (oth (P * 30 + E)).toNatClampNeg else 0)
theorem st_upto (hj : jnO kin oth man wen gor) {w : Nat → Int32} {n P : Nat} (hP : P < n) : ∀ E, E ≤ man P → smS (fun k => cif (rE kin oth man P E k) (w k)) n = w P + jsS kin oth (stS kin oth man w n) P E
  | 0, _ => by
    rw [jsS, Int32.add_zero, ← sm_one (w := w) n hP]
    refine sm_congr n (fun k _ => ?_)
    by_cases q : k = P
    · rw [if_pos q, cif_y (show rE kin oth man P 0 k from Or.inl q)]
    · rw [if_neg q, cif_n (fun z => z.elim q (fun ⟨e, _, h, _⟩ => by omega))]
  | E + 1, hE => by
    rw [jsS, ← Int32.add_assoc, ← st_upto hj hP E (by omega)]
    by_cases hk : kin (P * 30 + E) = 5
    · rw [if_pos hk]
      obtain ⟨i, q1, q2, q3⟩ := hj.2.2.1 P E (by omega) hk
      have h14 := hj.1 i q1
      rw [q2, nI_clamp (by omega)]
      unfold stS
      rw [← sm_add]
      refine sm_congr n (fun k _ => ?_)
      by_cases h1 : rE kin oth man P E k
      · have h2 : ¬ Rch (aJ kin oth man) (wen i) k := fun z => rE_no hj (by omega) hk q2 h14 h1 z
        rw [cif_y h1, cif_n h2, Int32.add_zero, cif_y]
        exact h1.elim Or.inl (fun ⟨e, o, z1, z2⟩ => Or.inr ⟨e, o, by omega, z2⟩)
      · by_cases h2 : Rch (aJ kin oth man) (wen i) k
        · rw [cif_n h1, cif_y h2, Int32.zero_add, cif_y]
          exact Or.inr ⟨E, wen i, by omega, hk, q2, h14, h2⟩
        · rw [cif_n h1, cif_n h2, cif_n, Int32.zero_add]
          rintro (q | ⟨e, o, z1, z2, z3, z4, z5⟩)
          · exact h1 (Or.inl q)
          · rcases Nat.lt_or_ge e E with q | q
            · exact h1 (Or.inr ⟨e, o, q, z2, z3, z4, z5⟩)
            · have he : e = E := by omega
              subst he
              have : o = wen i := (nI_eq (by omega) (by omega)).mp (z3.symm.trans q2)
              subst this
              exact h2 z5
    · rw [if_neg hk, Int32.add_zero]
      refine sm_congr n (fun k _ => ?_)
      have : rE kin oth man P (E + 1) k ↔ rE kin oth man P E k := by
        constructor
        · rintro (q | ⟨e, o, z1, z2, z3⟩)
          · exact Or.inl q
          · rcases Nat.lt_or_ge e E with q | q
            · exact Or.inr ⟨e, o, q, z2, z3⟩
            · have he : e = E := by omega
              subst he
              exact absurd z2 hk
        · exact fun h => h.elim Or.inl (fun ⟨e, o, z1, z2⟩ => Or.inr ⟨e, o, by omega, z2⟩)
      exact cif_c this
theorem st_rec (hj : jnO kin oth man wen gor) {w : Nat → Int32} {n P : Nat} (hP : P < n) : stS kin oth man w n P = w P + jsS kin oth (stS kin oth man w n) P (man P) := by
  rw [← st_upto hj hP (man P) (Nat.le_refl _)]
  unfold stS
  exact sm_congr n (fun k _ => cif_c rE_all.symm)
theorem js_congr {t t' : Nat → Int32} {P : Nat} : ∀ E, (∀ e, e < E → kin (P * 30 + e) = 5 → t (oth (P * 30 + e)).toNatClampNeg = t' (oth (P * 30 + e)).toNatClampNeg) → jsS kin oth t P E = jsS kin oth t' P E
  | 0, _ => rfl
  | E + 1, h => by
    rw [jsS, jsS, js_congr E (fun e he => h e (by omega))]
    by_cases q : kin (P * 30 + E) = 5
    · rw [if_pos q, if_pos q, h E (by omega) q]
    · rw [if_neg q, if_neg q]
end FOR
theorem pp_split {kin mak god amo oth its t : Nat → Int32} {P : Nat} {g : Int32} : ∀ E, ppS kin god amo oth t P g E = owS (numC kin mak god amo oth its) P g E + jsS kin oth t P E
  | 0 => by simp [ppS, owS, jsS]
  | E + 1 => by
    rw [ppS, owS, jsS, pp_split (mak := mak) (its := its) E]
    simp only [nc0, nc2, nc3]
    ac_rfl
section ANW
variable {kin mak god amo oth its : Nat → Int32} {man wen : Nat → Nat} {gor n : Nat} {tol : Nat → Int32} {g : Int32}
theorem tl_tree (hj : jnO kin oth man wen gor) (hn : ∀ i, i < gor → wen i < n) : ∀ (d i : Nat), i < d → i < gor → tlS kin god amo oth man wen tol g gor (wen i) = stS kin oth man (fun k => owS (numC kin mak god amo oth its) k g (man k)) n (wen i)
  | 0, i, h, _ => by omega
  | d + 1, i, h, hi => by
    rw [tl_fix hj hi, st_rec hj (hn i hi), ppC, pp_split (mak := mak) (its := its)]
    refine congrArg _ (js_congr _ (fun e he hk => ?_))
    obtain ⟨i', h1, h2, h3⟩ := hj.2.2.1 _ e he hk
    have h4 := h3 i hi rfl
    have := hj.1 i' h1
    rw [h2, nI_clamp (by omega)]
    exact tl_tree hj hn d i' (by omega) h1
theorem pp_tree (hj : jnO kin oth man wen gor) (hn : ∀ i, i < gor → wen i < n) {P : Nat} (hP : P < n) : ppC kin god amo oth man (tlS kin god amo oth man wen tol g gor) P g = stS kin oth man (fun k => owS (numC kin mak god amo oth its) k g (man k)) n P := by
  rw [st_rec hj hP, ppC, pp_split (mak := mak) (its := its)]
  refine congrArg _ (js_congr _ (fun e he hk => ?_))
  obtain ⟨i', h1, h2, h3⟩ := hj.2.2.1 _ e he hk
  have := hj.1 i' h1
  rw [h2, nI_clamp (by omega)]
  exact tl_tree hj hn (i' + 1) i' (by omega) h1
theorem tb_sm {P : Nat} (hoth : othK kin oth 14) (hP : P < 14) : ∀ m, m ≤ 14 → tbS man (numC kin mak god amo oth its) P g m = stS kin oth man (fun k => owS (numC kin mak god amo oth its) k g (man k)) m P
  | 0, _ => rfl
  | m + 1, hm => by
    have ih := tb_sm hoth hP m (by omega)
    unfold stS at ih ⊢
    rw [tbS, smS, ih]
    refine congrArg _ ?_
    rw [isB_bt (by omega)]
    have h := rch_bt (mak := mak) (god := god) (amo := amo) (its := its) (man := man) (wc := false) hoth hP (i := m) (by omega)
    by_cases q : Rch (aJ kin oth man) P m
    · rw [if_pos (h.mpr q), cif_y q]
    · rw [if_neg (fun z => q (h.mp z)), cif_n q]
end ANW
