/-! the copies: what stays, and what is lost -/
def okC (cop : Nat → Int32) (n : Nat) : Prop := (∀ r i, 7 ≤ i → i < 32 → bt (cop r) i = false) ∧ ∀ r, n * 30 ≤ r → cop r = 0
theorem b64 : ∀ i, i < 32 → 7 ≤ i → bt 64 i = false := by decide +kernel
theorem C_new {cop : Nat → Int32} {n : Nat} (h : okC cop n) : okC cop (n + 1) := ⟨h.1, fun r hr => h.2 r (by omega)⟩
theorem C_app {cop : Nat → Int32} {n P E kd w : Nat} {a : Int32} (h : okC cop n) (hP : P < n) (hE : E < 30) (hw : w < 7) (ha : kd = 7 → ∃ b : Nat, b < 6 ∧ a = nI b) : okC (va_up cop (P * 30 + E) (((1 : Int32) <<< (nI w &&& 31)) ||| cwF kd a)) n := by
  refine ⟨fun r i h7 hi => ?_, fun r hr => ?_⟩
  · rw [up_if]
    split
    · rw [b_or, b_sh1 (by omega) hi, decide_eq_false (by omega), Bool.false_or]
      unfold cwF
      split
      · obtain ⟨b, hb, rfl⟩ := ha (by assumption)
        rw [b_sh1 (by omega) hi, decide_eq_false (by omega)]
      · split
        · exact b64 i hi h7
        · exact b_0 i
    · exact h.1 r i h7 hi
  · rw [va_up_ne _ _ (by omega)]; exact h.2 r hr
theorem and_one (x : Int32) : x &&& 1 = 0 ∨ x &&& 1 = 1 := by
  cases h : bt x 0
  · refine Or.inl (b_zero.mpr (fun i hi => ?_))
    rw [b_and, b_one i hi]
    by_cases q : i = 0
    · rw [q, h]; rfl
    · rw [decide_eq_false q, Bool.and_false]
  · refine Or.inr (b_ext (fun i hi => ?_))
    rw [b_and, b_one i hi]
    by_cases q : i = 0
    · rw [q, h]; rfl
    · rw [decide_eq_false q, Bool.and_false]
theorem clr_no {x : Int32} {k : Nat} (hk : k < 32) (h : isB x (nI k) = false) : x &&& (((1 : Int32) <<< (nI k &&& 31)) ^^^ (-1)) = x := by
  rw [isB_bt hk] at h
  refine b_ext (fun i hi => ?_)
  rw [b_and, b_not hi, b_sh1 hk hi]
  by_cases q : i = k
  · rw [q, h]; rfl
  · rw [decide_eq_false q]; simp
theorem dc_ls {w : Nat} (hw : w < 32) {cop : Nat → Int32} : ∀ k, dcS (nI w) cop k = lsS (nI w) cop k
  | 0 => rfl
  | k + 1 => by
    rw [dcS, lsS, dc_ls hw k]
    by_cases h : isB ((lsS (nI w) cop k).1 k) (nI w) = true
    · rw [if_pos h]
      have h2 := h
      unfold isB at h2
      rw [decide_eq_true_iff] at h2
      rw [(and_one _).resolve_left h2]
    · rw [if_neg h]
      have h1 : isB ((lsS (nI w) cop k).1 k) (nI w) = false := by
        cases hq : isB ((lsS (nI w) cop k).1 k) (nI w)
        · rfl
        · exact absurd hq h
      have h2 := h1
      unfold isB at h2
      rw [decide_eq_false_iff_not, Classical.not_not] at h2
      rw [h2, clr_no hw h1, Int32.add_zero]
      refine Prod.ext ?_ rfl
      funext j
      show (lsS (nI w) cop k).1 j = va_up _ _ _ j
      rw [up_if]
      split
      · rename_i z; rw [z]
      · rfl
theorem ls_at {w : Int32} {cop : Nat → Int32} {j : Nat} : ∀ k, k ≤ j → (lsS w cop k).1 j = cop j
  | 0, _ => rfl
  | k + 1, h => by
    show va_up (lsS w cop k).1 k _ j = cop j
    rw [va_up_ne _ _ (by omega)]; exact ls_at k (by omega)
theorem ls_more {w : Nat} (hw : w < 32) {cop : Nat → Int32} {m : Nat} (hz : ∀ r, m ≤ r → cop r = 0) : ∀ d, lsS (nI w) cop (m + d) = lsS (nI w) cop m
  | 0 => rfl
  | d + 1 => by
    rw [show m + (d + 1) = (m + d) + 1 by omega, lsS]
    have h0 : (lsS (nI w) cop (m + d)).1 (m + d) = 0 := by rw [ls_at _ (Nat.le_refl _)]; exact hz _ (by omega)
    have h1 : isB 0 (nI w) = false := by rw [isB_bt hw, b_0]
    have h2 := h1
    unfold isB at h2
    rw [decide_eq_false_iff_not, Classical.not_not] at h2
    rw [h0, clr_no hw h1, h2, Int32.add_zero, ← ls_more hw hz d]
    refine Prod.ext ?_ rfl
    funext j
    show va_up _ _ _ j = (lsS (nI w) cop (m + d)).1 j
    rw [up_if]
    split
    · rename_i z; rw [z, h0]
    · rfl
theorem dc_eq {w : Nat} (hw : w < 32) {cop : Nat → Int32} {n : Nat} (hn : n ≤ 14) (h : okC cop n) : dcS (nI w) cop 420 = lsS (nI w) cop (n * 30) := by
  rw [dc_ls hw, show 420 = n * 30 + (420 - n * 30) by omega]
  exact ls_more hw h.2 _
theorem ls_val {w : Int32} {cop : Nat → Int32} {j : Nat} : ∀ k, (lsS w cop k).1 j = cop j ∨ ∃ y, (lsS w cop k).1 j = cop j &&& y
  | 0 => Or.inl rfl
  | k + 1 => by
    have e : (lsS w cop (k + 1)).1 = va_up (lsS w cop k).1 k ((lsS w cop k).1 k &&& (((1 : Int32) <<< (w &&& 31)) ^^^ (-1))) := rfl
    rw [e, up_if]
    split
    · rename_i z
      subst z
      rw [ls_at j (Nat.le_refl _)]
      exact Or.inr ⟨_, rfl⟩
    · exact ls_val k
theorem C_lose {w : Int32} {cop : Nat → Int32} {n k : Nat} (h : okC cop n) : okC (lsS w cop k).1 n := by
  refine ⟨fun r i h7 hi => ?_, fun r hr => ?_⟩
  · rcases ls_val (w := w) (cop := cop) (j := r) k with q | ⟨y, q⟩
    · rw [q]; exact h.1 r i h7 hi
    · rw [q, b_and, h.1 r i h7 hi]; rfl
  · rcases ls_val (w := w) (cop := cop) (j := r) k with q | ⟨y, q⟩
    · rw [q]; exact h.2 r hr
    · rw [q, h.2 r hr]
      exact b_zero.mpr (fun i hi => by rw [b_and, b_0]; rfl)
theorem lo_iff {x : Int32} (h7 : ∀ i, 7 ≤ i → i < 32 → bt x i = false) : loF x = -1 ↔ x = 0 := by
  constructor
  · intro h
    exact Classical.byContradiction (fun z => loF_ne z h7 h)
  · intro h
    rw [h]; decide +kernel
