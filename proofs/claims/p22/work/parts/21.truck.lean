/-! what is on the trucks, counted in whole numbers -/
theorem i_bm {x : Int} (h1 : -2147483648 ≤ x) (h2 : x < 2147483648) : x.bmod (2 ^ 32) = x := Int.bmod_eq_of_le (by omega) (by omega)
theorem i_add {a b : Int32} (h1 : -2147483648 ≤ a.toInt + b.toInt) (h2 : a.toInt + b.toInt < 2147483648) : (a + b).toInt = a.toInt + b.toInt := by rw [Int32.toInt_add]; exact i_bm h1 h2
theorem i_sub {a b : Int32} (h1 : -2147483648 ≤ a.toInt - b.toInt) (h2 : a.toInt - b.toInt < 2147483648) : (a - b).toInt = a.toInt - b.toInt := by rw [Int32.toInt_sub]; exact i_bm h1 h2
theorem i_mul {a : Int32} {k : Nat} (hk : k < 6) (h1 : -999 ≤ a.toInt) (h2 : a.toInt ≤ 999) : (a * (nI k + 1)).toInt = a.toInt * ((k : Int) + 1) := by
  rw [Int32.toInt_mul]
  rcases (show k = 0 ∨ k = 1 ∨ k = 2 ∨ k = 3 ∨ k = 4 ∨ k = 5 by omega) with rfl | rfl | rfl | rfl | rfl | rfl
  · rw [show (nI 0 + 1).toInt = 1 by decide]; exact i_bm (by omega) (by omega)
  · rw [show (nI 1 + 1).toInt = 2 by decide]; exact i_bm (by omega) (by omega)
  · rw [show (nI 2 + 1).toInt = 3 by decide]; exact i_bm (by omega) (by omega)
  · rw [show (nI 3 + 1).toInt = 4 by decide]; exact i_bm (by omega) (by omega)
  · rw [show (nI 4 + 1).toInt = 5 by decide]; exact i_bm (by omega) (by omega)
  · rw [show (nI 5 + 1).toInt = 6 by decide]; exact i_bm (by omega) (by omega)
def okW (goo : Nat → Int32) : Prop := ∀ r, 0 ≤ (goo r).toInt ∧ (goo r).toInt ≤ 999
def w6 (goo : Nat → Int32) (P : Nat) : Int := (goo (P * 6 + 0)).toInt + (goo (P * 6 + 1)).toInt * 2 + (goo (P * 6 + 2)).toInt * 3 + (goo (P * 6 + 3)).toInt * 4 + (goo (P * 6 + 4)).toInt * 5 + (goo (P * 6 + 5)).toInt * 6
theorem w6_b {goo : Nat → Int32} (h : okW goo) (P : Nat) : 0 ≤ w6 goo P ∧ w6 goo P ≤ 20979 := by
  unfold w6
  have := h (P * 6 + 0); have := h (P * 6 + 1); have := h (P * 6 + 2); have := h (P * 6 + 3); have := h (P * 6 + 4); have := h (P * 6 + 5)
  omega
theorem wS_int {goo : Nat → Int32} (h : okW goo) (P : Nat) : (wS goo P 6).toInt = w6 goo P := by
  have a0 := h (P * 6 + 0); have a1 := h (P * 6 + 1); have a2 := h (P * 6 + 2); have a3 := h (P * 6 + 3); have a4 := h (P * 6 + 4); have a5 := h (P * 6 + 5)
  have m0 := i_mul (k := 0) (by decide) (by omega : -999 ≤ (goo (P * 6 + 0)).toInt) a0.2
  have m1 := i_mul (k := 1) (by decide) (by omega : -999 ≤ (goo (P * 6 + 1)).toInt) a1.2
  have m2 := i_mul (k := 2) (by decide) (by omega : -999 ≤ (goo (P * 6 + 2)).toInt) a2.2
  have m3 := i_mul (k := 3) (by decide) (by omega : -999 ≤ (goo (P * 6 + 3)).toInt) a3.2
  have m4 := i_mul (k := 4) (by decide) (by omega : -999 ≤ (goo (P * 6 + 4)).toInt) a4.2
  have m5 := i_mul (k := 5) (by decide) (by omega : -999 ≤ (goo (P * 6 + 5)).toInt) a5.2
  have s1 : (wS goo P 1).toInt = (goo (P * 6 + 0)).toInt := by
    rw [wS, wS, Int32.zero_add, m0]; omega
  have s2 : (wS goo P 2).toInt = (goo (P * 6 + 0)).toInt + (goo (P * 6 + 1)).toInt * 2 := by
    rw [wS, i_add (by omega) (by omega), m1, s1]; omega
  have s3 : (wS goo P 3).toInt = (goo (P * 6 + 0)).toInt + (goo (P * 6 + 1)).toInt * 2 + (goo (P * 6 + 2)).toInt * 3 := by
    rw [wS, i_add (by omega) (by omega), m2, s2]; omega
  have s4 : (wS goo P 4).toInt = (goo (P * 6 + 0)).toInt + (goo (P * 6 + 1)).toInt * 2 + (goo (P * 6 + 2)).toInt * 3 + (goo (P * 6 + 3)).toInt * 4 := by
    rw [wS, i_add (by omega) (by omega), m3, s3]; omega
  have s5 : (wS goo P 5).toInt = (goo (P * 6 + 0)).toInt + (goo (P * 6 + 1)).toInt * 2 + (goo (P * 6 + 2)).toInt * 3 + (goo (P * 6 + 3)).toInt * 4 + (goo (P * 6 + 4)).toInt * 5 := by
    rw [wS, i_add (by omega) (by omega), m4, s4]; omega
  rw [wS, i_add (by omega) (by omega), m5, s5]
  unfold w6
  omega
def smI (f : Nat → Int) : Nat → Int
  | 0 => 0
  | k + 1 => smI f k + f k
theorem smI_congr {f g : Nat → Int} : ∀ n, (∀ k, k < n → f k = g k) → smI f n = smI g n
  | 0, _ => rfl
  | n + 1, h => by rw [smI, smI, smI_congr n (fun k hk => h k (by omega)), h n (by omega)]
theorem smI_up {f g : Nat → Int} {j : Nat} : ∀ n, j < n → (∀ k, k < n → k ≠ j → f k = g k) → smI f n = smI g n - g j + f j
  | 0, h, _ => by omega
  | n + 1, hj, h => by
    rw [smI, smI]
    by_cases q : n = j
    · subst q
      rw [smI_congr (g := g) n (fun k hk => h k (by omega) (by omega))]
      omega
    · rw [smI_up n (by omega) (fun k hk hn => h k (by omega) hn), h n (by omega) q]
      omega
theorem smI_b {f : Nat → Int} {B : Int} (h : ∀ k, 0 ≤ f k ∧ f k ≤ B) : ∀ n, 0 ≤ smI f n ∧ smI f n ≤ B * n
  | 0 => ⟨Int.le_refl _, by simp [smI]⟩
  | n + 1 => by
    have ih := smI_b h n
    have := h n
    rw [smI]
    refine ⟨by omega, ?_⟩
    have e : B * ((n + 1 : Nat) : Int) = B * n + B := by rw [Int.natCast_add, Int.mul_add]; simp
    omega
def tf (hol : Nat → Nat) (goo : Nat → Int32) (hd k : Nat) : Int := if hol k = hd then w6 goo k else 0
def tI (hol : Nat → Nat) (goo : Nat → Int32) (hd n : Nat) : Int := smI (tf hol goo hd) n
theorem tf_b {hol : Nat → Nat} {goo : Nat → Int32} (h : okW goo) (hd k : Nat) : 0 ≤ tf hol goo hd k ∧ tf hol goo hd k ≤ 20979 := by
  unfold tf
  split
  · exact w6_b h k
  · omega
theorem rS_int {hol : Nat → Nat} {goo : Nat → Int32} (h : okW goo) {hd : Nat} {more : Int32} (h1 : -100000 ≤ more.toInt) (h2 : more.toInt ≤ 100000) : ∀ n, n ≤ 14 → (rS hol goo hd more n).toInt = more.toInt + tI hol goo hd n
  | 0, _ => by simp [rS, tI, smI]
  | n + 1, hn => by
    have ih := rS_int (hol := hol) (hd := hd) h h1 h2 n (by omega)
    have hb := smI_b (tf_b (hol := hol) h hd) n
    have hw := wS_int h n
    have hw6 := w6_b h n
    have hnn : (20979 : Int) * n ≤ 20979 * 14 := by omega
    unfold tI at ih ⊢
    rw [rS, smI]
    by_cases q : hol n = hd
    · rw [if_pos q, i_add (by rw [ih, hw]; omega) (by rw [ih, hw]; omega), ih, hw, tf, if_pos q]; omega
    · rw [if_neg q, Int32.add_zero, ih, tf, if_neg q]; omega
theorem rS_le {hol : Nat → Nat} {goo : Nat → Int32} (h : okW goo) {hd n : Nat} (hn : n ≤ 14) {more : Int32} (h1 : -100000 ≤ more.toInt) (h2 : more.toInt ≤ 100000) : decide (¬ 200 < rS hol goo hd more n) = true ↔ more.toInt + tI hol goo hd n ≤ 200 := by
  rw [decide_eq_true_iff, Int32.lt_iff_toInt_lt, rS_int h h1 h2 n hn, show (200 : Int32).toInt = 200 by decide]
  omega
/-- goods and trucks: what stays -/
def okT (hol : Nat → Nat) (goo : Nat → Int32) (n : Nat) : Prop := okW goo ∧ (∀ r, n * 6 ≤ r → goo r = 0) ∧ ∀ hd, 4 ≤ hd → tI hol goo hd n ≤ 200
theorem w6_up {goo : Nat → Int32} {P G : Nat} {v : Int32} (hG : G < 6) : w6 (va_up goo (P * 6 + G) v) P = w6 goo P + (v.toInt - (goo (P * 6 + G)).toInt) * ((G : Int) + 1) := by
  unfold w6
  simp only [up_if]
  rcases (show G = 0 ∨ G = 1 ∨ G = 2 ∨ G = 3 ∨ G = 4 ∨ G = 5 by omega) with rfl | rfl | rfl | rfl | rfl | rfl
  · rw [if_pos rfl, if_neg (by omega), if_neg (by omega), if_neg (by omega), if_neg (by omega), if_neg (by omega)]; omega
  · rw [if_neg (by omega), if_pos rfl, if_neg (by omega), if_neg (by omega), if_neg (by omega), if_neg (by omega)]; omega
  · rw [if_neg (by omega), if_neg (by omega), if_pos rfl, if_neg (by omega), if_neg (by omega), if_neg (by omega)]; omega
  · rw [if_neg (by omega), if_neg (by omega), if_neg (by omega), if_pos rfl, if_neg (by omega), if_neg (by omega)]; omega
  · rw [if_neg (by omega), if_neg (by omega), if_neg (by omega), if_neg (by omega), if_pos rfl, if_neg (by omega)]; omega
  · rw [if_neg (by omega), if_neg (by omega), if_neg (by omega), if_neg (by omega), if_neg (by omega), if_pos rfl]; omega
theorem w6_ne {goo : Nat → Int32} {P Q G : Nat} {v : Int32} (hG : G < 6) (h : Q ≠ P) : w6 (va_up goo (P * 6 + G) v) Q = w6 goo Q := by
  unfold w6
  rw [va_up_ne _ _ (by omega), va_up_ne _ _ (by omega), va_up_ne _ _ (by omega), va_up_ne _ _ (by omega), va_up_ne _ _ (by omega), va_up_ne _ _ (by omega)]
theorem w6_z {goo : Nat → Int32} {P : Nat} (h : ∀ g, g < 6 → goo (P * 6 + g) = 0) : w6 goo P = 0 := by
  unfold w6
  rw [h 0 (by omega), h 1 (by omega), h 2 (by omega), h 3 (by omega), h 4 (by omega), h 5 (by omega)]; decide
theorem okW_up {goo : Nat → Int32} (h : okW goo) {k : Nat} {v : Int32} (h1 : 0 ≤ v.toInt) (h2 : v.toInt ≤ 999) : okW (va_up goo k v) := fun r => by
  rw [up_if]
  split
  · exact ⟨h1, h2⟩
  · exact h r
theorem inB_int {x lo hi : Int32} : inB x lo hi = true ↔ lo.toInt ≤ x.toInt ∧ x.toInt ≤ hi.toInt := by
  unfold inB
  rw [Bool.and_eq_true, decide_eq_true_iff, decide_eq_true_iff, Int32.lt_iff_toInt_lt, Int32.lt_iff_toInt_lt]
  omega
