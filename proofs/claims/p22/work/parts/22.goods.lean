/-! goods and trucks stay in their bounds -/
section GDS
variable {hol : Nat → Nat} {goo : Nat → Int32} {n : Nat}
theorem T_make (h : okT hol goo n) {d : Nat} (hd : d < 4) : okT (va_up hol n d) goo (n + 1) := by
  refine ⟨h.1, fun r hr => h.2.1 r (by omega), fun hd' h4 => ?_⟩
  have h9 := h.2.2 hd' h4
  unfold tI at h9 ⊢
  rw [smI, smI_congr (g := tf hol goo hd') n (fun k hk => by unfold tf; rw [va_up_ne _ _ (by omega)]), tf, va_up_self, if_neg (by omega)]
  omega
theorem nI1 (k : Nat) : nI (k + 1) = nI k + 1 := (nI_1 k).symm
theorem ld_int {a : Int32} {G : Nat} (hG : G < 6) (h1 : -99 ≤ a.toInt) (h2 : a.toInt ≤ 99) : (a * nI (G + 1)).toInt = a.toInt * ((G : Int) + 1) := by
  rw [nI1, i_mul hG (by omega) (by omega)]
theorem ld_b {x : Int} {G : Nat} (hG : G < 6) (h1 : -99 ≤ x) (h2 : x ≤ 99) : -594 ≤ x * ((G : Int) + 1) ∧ x * ((G : Int) + 1) ≤ 594 ∧ (x < 0 → x * ((G : Int) + 1) ≤ 0) := by
  rcases (show G = 0 ∨ G = 1 ∨ G = 2 ∨ G = 3 ∨ G = 4 ∨ G = 5 by omega) with rfl | rfl | rfl | rfl | rfl | rfl <;> refine ⟨?_, ?_, ?_⟩ <;> omega
theorem mr_le (h : okW goo) (hn : n ≤ 14) {hd : Nat} (h4 : 4 ≤ hd) {more : Int32} (h1 : -100000 ≤ more.toInt) (h2 : more.toInt ≤ 100000) : mrS hol goo hd more n = true ↔ more.toInt + tI hol goo hd n ≤ 200 := by
  unfold mrS
  rw [Bool.or_eq_true, decide_eq_true_iff, rS_le h hn h1 h2]
  constructor
  · rintro (q | q)
    · omega
    · exact q
  · exact Or.inr
theorem T_load (h : okT hol goo n) (hn : n ≤ 14) {P G : Nat} (hP : P < n) (hG : G < 6) {a : Int32} (a1 : -99 ≤ a.toInt) (a2 : a.toInt ≤ 99) (hv : 0 ≤ (goo (P * 6 + G) + a).toInt ∧ (goo (P * 6 + G) + a).toInt ≤ 999) (hs : a.toInt < 0 ∨ mrS hol goo (hol P) (a * nI (G + 1)) n = true) : okT hol (va_up goo (P * 6 + G) (goo (P * 6 + G) + a)) n := by
  have hb := h.1 (P * 6 + G)
  have ht : (goo (P * 6 + G) + a).toInt = (goo (P * 6 + G)).toInt + a.toInt := i_add (by omega) (by omega)
  have hm := ld_int hG a1 a2
  have hmb := ld_b hG a1 a2
  refine ⟨okW_up h.1 hv.1 hv.2, fun r hr => ?_, fun hd h4 => ?_⟩
  · rw [va_up_ne _ _ (by omega)]; exact h.2.1 r hr
  · have h9 := h.2.2 hd h4
    unfold tI at h9 ⊢
    rw [smI_up (g := tf hol goo hd) n hP (fun k hk hne => by unfold tf; rw [w6_ne hG hne])]
    unfold tf at h9 ⊢
    by_cases q : hol P = hd
    · rw [if_pos q, if_pos q, w6_up hG, ht]
      have e : (goo (P * 6 + G)).toInt + a.toInt - (goo (P * 6 + G)).toInt = a.toInt := by omega
      rw [e]
      rcases hs with z | z
      · have := hmb.2.2 z; omega
      · rw [q, mr_le h.1 hn h4 (by omega) (by omega), hm] at z
        unfold tI tf at z
        omega
    · rw [if_neg q, if_neg q]; omega
theorem hr_load (h : okT hol goo n) (hn : n ≤ 14) {hd G : Nat} (hG : G < 6) {a : Int32} (a1 : -99 ≤ a.toInt) (a2 : a.toInt ≤ 99) : (decide (a < 0) || mrS hol goo hd (a * nI (G + 1)) n) = mrS hol goo hd (a * nI (G + 1)) n := by
  by_cases q : a < 0
  · rw [decide_eq_true q, Bool.true_or]
    rw [Int32.lt_iff_toInt_lt, show (0 : Int32).toInt = 0 by decide] at q
    rcases Nat.lt_or_ge hd 4 with z | z
    · unfold mrS; rw [decide_eq_true z]; rfl
    · have hm := ld_int hG a1 a2
      have hmb := ld_b hG a1 a2
      have := hmb.2.2 q
      have := h.2.2 hd z
      exact ((mr_le h.1 hn z (by omega) (by omega)).mpr (by omega)).symm
  · rw [decide_eq_false q, Bool.false_or]
theorem T_part (h : okT hol goo n) {P G : Nat} (hP : P < n) (hG : G < 6) {a : Int32} (a1 : 1 ≤ a.toInt) (a2 : a.toInt ≤ 99) (hx : a.toInt ≤ (goo (P * 6 + G)).toInt) : okT (va_up hol n (hol P)) (va_up (va_up goo (P * 6 + G) (goo (P * 6 + G) - a)) (n * 6 + G) a) (n + 1) := by
  have hb := h.1 (P * 6 + G)
  have ht : (goo (P * 6 + G) - a).toInt = (goo (P * 6 + G)).toInt - a.toInt := i_sub (by omega) (by omega)
  refine ⟨okW_up (okW_up h.1 (by omega) (by omega)) (by omega) (by omega), fun r hr => ?_, fun hd h4 => ?_⟩
  · rw [va_up_ne _ _ (by omega), va_up_ne _ _ (by omega)]; exact h.2.1 r (by omega)
  · have h9 := h.2.2 hd h4
    unfold tI at h9 ⊢
    rw [smI, smI_up (g := tf hol goo hd) n hP (fun k hk hne => by unfold tf; rw [va_up_ne _ _ (by omega), w6_ne hG (by omega), w6_ne hG hne])]
    unfold tf at h9 ⊢
    rw [va_up_ne _ _ (by omega), va_up_self]
    by_cases q : hol P = hd
    · rw [if_pos q, if_pos q, if_pos q, w6_ne hG (by omega), w6_up hG, w6_up hG, w6_ne hG (by omega), ht, va_up_ne _ _ (by omega), h.2.1 (n * 6 + G) (by omega), w6_z (fun g hg => h.2.1 (n * 6 + g) (by omega)), show (0 : Int32).toInt = 0 by decide]
      have e : (goo (P * 6 + G)).toInt - a.toInt - (goo (P * 6 + G)).toInt = -a.toInt := by omega
      rw [e, Int.neg_mul, Int.sub_zero]
      omega
    · rw [if_neg q, if_neg q, if_neg q]; omega
theorem T_move (h : okT hol goo n) (hn : n ≤ 14) {P H : Nat} (hP : P < n) (hne : hol P ≠ H) (hs : mrS hol goo H (wS goo P 6) n = true) : okT (va_up hol P H) goo n := by
  refine ⟨h.1, h.2.1, fun hd h4 => ?_⟩
  have h9 := h.2.2 hd h4
  have hw := w6_b h.1 P
  have hwi := wS_int h.1 P
  unfold tI at h9 ⊢
  rw [smI_up (g := tf hol goo hd) n hP (fun k hk hq => by unfold tf; rw [va_up_ne _ _ hq])]
  unfold tf at h9 ⊢
  rw [va_up_self]
  by_cases q : H = hd
  · subst q
    rw [if_neg hne, if_pos rfl]
    rw [mr_le h.1 hn h4 (by omega) (by omega), hwi] at hs
    unfold tI tf at hs
    omega
  · rw [if_neg q]
    split <;> omega
theorem jn_s {P O k : Nat} : (jnS P O goo (k + 1)).1 = va_up (va_up (jnS P O goo k).1 (O * 6 + k) ((jnS P O goo k).1 (O * 6 + k) + (jnS P O goo k).1 (P * 6 + k))) (P * 6 + k) 0 := rfl
theorem jn_val {P O : Nat} (hne : P ≠ O) : ∀ k, k ≤ 6 → (∀ g, g < 6 → (jnS P O goo k).1 (P * 6 + g) = if g < k then 0 else goo (P * 6 + g)) ∧ (∀ g, g < 6 → (jnS P O goo k).1 (O * 6 + g) = if g < k then goo (O * 6 + g) + goo (P * 6 + g) else goo (O * 6 + g)) ∧ ∀ r, (∀ g, g < 6 → r ≠ P * 6 + g ∧ r ≠ O * 6 + g) → (jnS P O goo k).1 r = goo r
  | 0, _ => ⟨fun g _ => by rw [if_neg (by omega)]; rfl, fun g _ => by rw [if_neg (by omega)]; rfl, fun r _ => rfl⟩
  | k + 1, hk => by
    obtain ⟨h1, h2, h3⟩ := jn_val hne k (by omega)
    refine ⟨fun g hg => ?_, fun g hg => ?_, fun r hr => ?_⟩
    · rw [jn_s]
      by_cases q : g = k
      · subst q
        rw [va_up_self, if_pos (by omega)]
      · rw [va_up_ne _ _ (by omega), va_up_ne _ _ (by omega), h1 g hg]
        by_cases z : g < k
        · rw [if_pos z, if_pos (by omega)]
        · rw [if_neg z, if_neg (by omega)]
    · rw [jn_s]
      by_cases q : g = k
      · subst q
        rw [va_up_ne _ _ (by omega), va_up_self, h2 g hg, h1 g hg, if_neg (by omega), if_neg (by omega), if_pos (by omega)]
      · rw [va_up_ne _ _ (by omega), va_up_ne _ _ (by omega), h2 g hg]
        by_cases z : g < k
        · rw [if_pos z, if_pos (by omega)]
        · rw [if_neg z, if_neg (by omega)]
    · rw [jn_s, va_up_ne _ _ (hr k (by omega)).1, va_up_ne _ _ (hr k (by omega)).2, h3 r hr]
theorem T_join (h : okT hol goo n) {P O : Nat} (hP : P < n) (hO : O < n) (hne : P ≠ O) (hh : hol P = hol O) (hc : ∀ g, g < 6 → (goo (O * 6 + g)).toInt + (goo (P * 6 + g)).toInt ≤ 999) : okT hol (jnS P O goo 6).1 n := by
  obtain ⟨v1, v2, v3⟩ := jn_val (goo := goo) hne 6 (Nat.le_refl _)
  have hsum : ∀ g, g < 6 → ((jnS P O goo 6).1 (O * 6 + g)).toInt = (goo (O * 6 + g)).toInt + (goo (P * 6 + g)).toInt := fun g hg => by
    have := h.1 (O * 6 + g); have := h.1 (P * 6 + g); have := hc g hg
    rw [v2 g hg, if_pos hg, i_add (by omega) (by omega)]
  have hzer : ∀ g, g < 6 → ((jnS P O goo 6).1 (P * 6 + g)).toInt = 0 := fun g hg => by
    rw [v1 g hg, if_pos hg]; decide
  have hoth : ∀ Q, Q ≠ P → Q ≠ O → ∀ g, g < 6 → (jnS P O goo 6).1 (Q * 6 + g) = goo (Q * 6 + g) := fun Q q1 q2 g hg => v3 _ (fun g' hg' => ⟨by omega, by omega⟩)
  have hwP : w6 (jnS P O goo 6).1 P = 0 := by
    unfold w6
    rw [hzer 0 (by omega), hzer 1 (by omega), hzer 2 (by omega), hzer 3 (by omega), hzer 4 (by omega), hzer 5 (by omega)]; decide
  have hwO : w6 (jnS P O goo 6).1 O = w6 goo O + w6 goo P := by
    unfold w6
    rw [hsum 0 (by omega), hsum 1 (by omega), hsum 2 (by omega), hsum 3 (by omega), hsum 4 (by omega), hsum 5 (by omega)]; omega
  have hwQ : ∀ Q, Q ≠ P → Q ≠ O → w6 (jnS P O goo 6).1 Q = w6 goo Q := fun Q q1 q2 => by
    unfold w6
    rw [hoth Q q1 q2 0 (by omega), hoth Q q1 q2 1 (by omega), hoth Q q1 q2 2 (by omega), hoth Q q1 q2 3 (by omega), hoth Q q1 q2 4 (by omega), hoth Q q1 q2 5 (by omega)]
  refine ⟨fun r => ?_, fun r hr => ?_, fun hd h4 => ?_⟩
  · rcases Nat.lt_or_ge (r % 6) 6 with z | z
    · have er : r = r / 6 * 6 + r % 6 := by omega
      by_cases q1 : r / 6 = P
      · rw [er, q1, hzer _ z]; omega
      · by_cases q2 : r / 6 = O
        · have := h.1 (O * 6 + r % 6); have := h.1 (P * 6 + r % 6)
          rw [er, q2, hsum _ z]
          have := hc (r % 6) z
          omega
        · have := h.1 (r / 6 * 6 + r % 6)
          rw [er, hoth _ q1 q2 _ z]; exact this
    · omega
  · rw [v3 r (fun g hg => ⟨by omega, by omega⟩)]; exact h.2.1 r hr
  · have h9 := h.2.2 hd h4
    unfold tI at h9 ⊢
    rw [smI_up (g := fun k => if k = P then tf hol (jnS P O goo 6).1 hd P else tf hol goo hd k) n hO (fun k hk q => by
        by_cases z : k = P
        · rw [if_pos z, z]
        · rw [if_neg z]; unfold tf; rw [hwQ k z q]),
      smI_up (g := tf hol goo hd) n hP (fun k hk q => if_neg q)]
    rw [if_pos rfl, if_neg (fun z => hne z.symm)]
    unfold tf at h9 ⊢
    rw [hwP, hwO, hh]
    split <;> omega
end GDS
