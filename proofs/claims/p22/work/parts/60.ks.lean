/-! the state behind k makes at dock 0, k ≤ 14, and what the class answers there -/
def C17 : Int32 := 31 * (31 * (31 * (31 * (31 * (31 * 17)))))
def kS (k : Nat) : SG := (fun _ => 0, fun _ => 0, fun _ => 0, fI 10, fun j => if j = 0 then nI k else 0, fun P => if P < k then 1 else 0, fun _ => 0, fun r => if r % 30 = 0 ∧ r / 30 < k then C17 else 0, fun r => if r % 30 = 0 ∧ r / 30 < k then 1 else 0, fun _ => 0, k)
theorem kS_0 : kS 0 = G0 := sgEq rfl rfl rfl rfl (funext fun j => by show (if j = 0 then nI 0 else 0) = 0; split <;> rfl) (funext fun P => if_neg (Nat.not_lt_zero _)) rfl (funext fun r => if_neg (fun z => Nat.not_lt_zero _ z.2)) (funext fun r => if_neg (fun z => Nat.not_lt_zero _ z.2)) rfl rfl
theorem ok_kS {k : Nat} (hk : k ≤ 14) : okG (kS k) := ⟨hk, fun _ => by show 0 < 6; decide, fun P => by show (if P < k then 1 else 0) ≤ 30; split <;> omega⟩
theorem hz_kS {k : Nat} : ∀ P, gN (kS k) ≤ P → gLen (kS k) P = 0 := fun P h => if_neg (Nat.not_lt.mpr h)
theorem up_c {α : Type} {k : Nat} {v : α} : va_up (fun _ => v) k v = fun _ => v := by
  funext j; rw [up_if]; split <;> rfl
theorem ks_make {k : Nat} : wrF (stF (kS k) 0) k 0 0 0 0 0 = kS (k + 1) := by
  have h0 : gLen (kS k) k = 0 := if_neg (Nat.lt_irrefl k)
  have hn6 : va_up (va_up (va_up (va_up (va_up (va_up (gNum (kS k)) ((k * 30 + 0) * 6) (nI 0)) ((k * 30 + 0) * 6 + 1) (nI 0)) ((k * 30 + 0) * 6 + 2) 0) ((k * 30 + 0) * 6 + 3) 0) ((k * 30 + 0) * 6 + 4) 0) ((k * 30 + 0) * 6 + 5) 0 = fun _ => 0 := by
    show va_up (va_up (va_up (va_up (va_up (va_up (fun _ => (0 : Int32)) ((k * 30 + 0) * 6) 0) ((k * 30 + 0) * 6 + 1) 0) ((k * 30 + 0) * 6 + 2) 0) ((k * 30 + 0) * 6 + 3) 0) ((k * 30 + 0) * 6 + 4) 0) ((k * 30 + 0) * 6 + 5) 0 = _
    simp only [up_c]
  have hp : pmS (gPrf (kS k)) (fun _ => 0) k 0 6 = C17 := by
    simp only [pmS, pm0, if_true]
    decide
  have e1 : wrF (stF (kS k) 0) k 0 0 0 0 0 = (va_up (fun _ => 0) k 0, fun _ => 0, fun _ => 0, fI 10, va_up (gDeb (kS k)) 0 (gDeb (kS k) 0 + fI 10 0), va_up (gLen (kS k)) k (gLen (kS k) k + 1), va_up (va_up (va_up (va_up (va_up (va_up (gNum (kS k)) ((k * 30 + gLen (kS k) k) * 6) (nI 0)) ((k * 30 + gLen (kS k) k) * 6 + 1) (nI (va_up (fun _ => 0) k 0 k))) ((k * 30 + gLen (kS k) k) * 6 + 2) 0) ((k * 30 + gLen (kS k) k) * 6 + 3) 0) ((k * 30 + gLen (kS k) k) * 6 + 4) 0) ((k * 30 + gLen (kS k) k) * 6 + 5) 0,
      va_up (gPrf (kS k)) (k * 30 + gLen (kS k) k) (pmS (gPrf (kS k)) (va_up (va_up (va_up (va_up (va_up (va_up (gNum (kS k)) ((k * 30 + gLen (kS k) k) * 6) (nI 0)) ((k * 30 + gLen (kS k) k) * 6 + 1) (nI (va_up (fun _ => 0) k 0 k))) ((k * 30 + gLen (kS k) k) * 6 + 2) 0) ((k * 30 + gLen (kS k) k) * 6 + 3) 0) ((k * 30 + gLen (kS k) k) * 6 + 4) 0) ((k * 30 + gLen (kS k) k) * 6 + 5) 0) k (gLen (kS k) k) 6), va_up (gCop (kS k)) (k * 30 + gLen (kS k) k) (witF (nI 0) (nI (va_up (fun _ => 0) k 0 k)) 0), va_up (fun _ => 0) (k * 30 + gLen (kS k) k) 0, k + 1) := by
    have hm : mkF 0 (gHol (stF (kS k) 0) k) = va_up (fun _ => 0) k 0 k := rfl
    have hz : va_up (fun _ => 0) k 0 k = 0 := va_up_self _ _ _
    unfold wrF
    rw [hm, hz]
    rfl
  rw [e1, va_up_self, h0, hn6, hp, up_c, up_c]
  refine sgEq rfl rfl rfl rfl (funext fun j => ?_) (funext fun P => ?_) rfl (funext fun r => ?_) (funext fun r => ?_) rfl rfl
  · show va_up (gDeb (kS k)) 0 (nI k + nI 1) j = if j = 0 then nI (k + 1) else 0
    rw [up_if, nI_add]
    split
    · rfl
    · rename_i h; exact if_neg h
  · show va_up (gLen (kS k)) k 1 P = if P < k + 1 then 1 else 0
    rw [up_if]
    show (if P = k then 1 else if P < k then 1 else 0) = _
    by_cases h : P = k
    · rw [if_pos h, if_pos (by omega)]
    · rw [if_neg h]
      by_cases h2 : P < k
      · rw [if_pos h2, if_pos (by omega)]
      · rw [if_neg h2, if_neg (by omega)]
  · show va_up (gPrf (kS k)) (k * 30 + 0) C17 r = if r % 30 = 0 ∧ r / 30 < k + 1 then C17 else 0
    rw [up_if]
    show (if r = k * 30 + 0 then C17 else if r % 30 = 0 ∧ r / 30 < k then C17 else 0) = _
    by_cases h : r = k * 30 + 0
    · rw [if_pos h, if_pos (by omega)]
    · rw [if_neg h]
      by_cases h2 : r % 30 = 0 ∧ r / 30 < k
      · rw [if_pos h2, if_pos (by omega)]
      · rw [if_neg h2, if_neg (by omega)]
  · show va_up (gCop (kS k)) (k * 30 + 0) (witF (nI 0) (nI 0) 0) r = if r % 30 = 0 ∧ r / 30 < k + 1 then 1 else 0
    rw [up_if, show witF (nI 0) (nI 0) 0 = 1 by decide]
    show (if r = k * 30 + 0 then 1 else if r % 30 = 0 ∧ r / 30 < k then 1 else 0) = _
    by_cases h : r = k * 30 + 0
    · rw [if_pos h, if_pos (by omega)]
    · rw [if_neg h]
      by_cases h2 : r % 30 = 0 ∧ r / 30 < k
      · rw [if_pos h2, if_pos (by omega)]
      · rw [if_neg h2, if_neg (by omega)]
section KV
variable {k j : Nat}
theorem ks_pal (hk : k ≤ 14) (hj : j < k) : palC (kS k) (nI j) = true := by
  show rngB 0 (nI k) (nI j) = true
  rw [rngN0 (by omega) (by omega)]; exact decide_eq_true hj
theorem ks_pn (hk : k ≤ 14) (hj : j < k) : pN (nI j) = j := nI_clamp (by omega)
theorem ks_good {g : Nat} (hg : g < 6) : rngB 0 6 (nI g) = true := by
  show rngB 0 (nI 6) (nI g) = true
  rw [rngN0 (by omega) (by omega)]; exact decide_eq_true hg
theorem ks_lk {P : Nat} : ¬ lkF (gLen (kS k)) (gNum (kS k)) P = 6 := by
  unfold lkF
  split
  · show ¬ (0 : Int32) = 6; decide
  · decide
theorem ks_w {P : Nat} : ∀ m, wS (gGoo (kS k)) P m = 0
  | 0 => rfl
  | m + 1 => by
    rw [wS, ks_w m]
    show (0 : Int32) + 0 * (nI m + 1) = 0
    rw [Int32.zero_mul, Int32.zero_add]
theorem ks_ow {P : Nat} {g : Int32} : ∀ m, owS (gNum (kS k)) P g m = 0
  | 0 => rfl
  | m + 1 => by
    rw [owS, ks_ow m]
    split
    · show (0 : Int32) + sgnF 0 * 0 = 0
      rw [Int32.mul_zero, Int32.zero_add]
    · rfl
theorem ks_tb {P : Nat} {g : Int32} : ∀ m, tbS (gLen (kS k)) (gNum (kS k)) P g m = 0
  | 0 => rfl
  | m + 1 => by
    rw [tbS, ks_tb m, ks_ow]
    split <;> rfl
theorem ks_told {P : Nat} {g : Int32} {n : Nat} : tbF n (gLen (kS k)) (gNum (kS k)) P g = 0 := by
  unfold tbF
  rw [if_neg ks_lk, ks_tb]
theorem ks_tt {t : Nat} {g : Int32} {n : Nat} : ∀ m, ttS n (gHol (kS k)) (gLen (kS k)) (gNum (kS k)) t g m = 0
  | 0 => rfl
  | m + 1 => by
    rw [ttS, ks_tt m, ks_told]
    split <;> rfl
theorem ks_cm {t : Nat} {n : Nat} : ∀ m, cmS n (gHol (kS k)) (gLen (kS k)) (gNum (kS k)) (gDec (kS k)) t m = 0
  | 0 => rfl
  | m + 1 => by
    rw [cmS, ks_cm m, ks_tt]
    show (0 : Int32) + absI (0 - 0) = 0
    decide
theorem evP0 (hk : k ≤ 14) (hj : j < k) : cPallet (kS k) (nI j) 0 = (0, 0, kS k) := by
  unfold cPallet
  rw [if_pos (ks_pal hk hj), if_pos (by decide), if_pos rfl]
  rfl
theorem evP1 (hk : k ≤ 14) (hj : j < k) : cPallet (kS k) (nI j) 1 = (0, 1, kS k) := by
  unfold cPallet
  rw [if_pos (ks_pal hk hj), if_pos (by decide), if_neg (by decide), if_pos rfl, ks_pn hk hj]
  show (0, nI (if j < k then 1 else 0), kS k) = (0, 1, kS k)
  rw [if_pos hj]; rfl
theorem evP2 (hk : k ≤ 14) (hj : j < k) : cPallet (kS k) (nI j) 2 = (0, 0, kS k) := by
  unfold cPallet
  rw [if_pos (ks_pal hk hj), if_pos (by decide), if_neg (by decide), if_neg (by decide), if_pos rfl, ks_w]
theorem evP4 (hk : k ≤ 14) (hj : j < k) : cPallet (kS k) (nI j) 4 = (0, 0, kS k) := by
  unfold cPallet
  rw [if_pos (ks_pal hk hj), if_pos (by decide), if_neg (by decide), if_neg (by decide), if_neg (by decide), if_neg (by decide)]
  unfold lkC
  rw [decide_eq_false ks_lk]; rfl
theorem ks_pm {n : Nat} : pmS (gPrf (kS k)) (gNum (kS k)) 0 0 6 = C17 := by
  have e : gNum (kS k) = fun _ => 0 := rfl
  rw [e]
  simp only [pmS, pm0, if_true]
  decide
theorem ks_prf (h : 0 < k) : gPrf (kS k) 0 = C17 := if_pos ⟨rfl, by simpa using h⟩
theorem evB (hk : k ≤ 14) (h : 0 < k) : cBroken (kS k) (nI 0) = (0, -1, kS k) := by
  unfold cBroken
  rw [if_pos (ks_pal hk h), ks_pn hk h]
  have h1 : gLen (kS k) 0 = 1 := if_pos h
  have h2 : brkB (gPrf (kS k)) (gNum (kS k)) 0 0 = false := by
    unfold brkB
    rw [ks_pm (n := 0), show gPrf (kS k) (0 * 30 + 0) = C17 from ks_prf h]
    simp
  unfold fbF
  rw [h1]
  show (0, (if brkB (gPrf (kS k)) (gNum (kS k)) 0 0 then nI 0 else fstF (brkB (gPrf (kS k)) (gNum (kS k)) 0) 0 1), kS k) = _
  rw [h2]; rfl
theorem ks_ent (hk : k ≤ 14) (h : 0 < k) : entC (kS k) (nI 0) (nI 0) = true := by
  unfold entC
  rw [ks_pal hk h, ks_pn hk h]
  show rngB 0 (nI (if 0 < k then 1 else 0)) (nI 0) = true
  rw [if_pos h]; decide
theorem evE (hk : k ≤ 14) (h : 0 < k) {w : Nat} (hw : w < 6) : cEntry (kS k) (nI 0) (nI 0) (nI w) = (0, 0, kS k) := by
  have hi : inB (nI w) 0 7 = true := by rcases (show w = 0 ∨ w = 1 ∨ w = 2 ∨ w = 3 ∨ w = 4 ∨ w = 5 by omega) with rfl | rfl | rfl | rfl | rfl | rfl <;> decide
  unfold cEntry
  rw [if_pos (ks_ent hk h), if_pos hi, show pN (nI w) = w from nI_clamp (by omega), if_pos hw]
  rfl
theorem evE6 (hk : k ≤ 14) (h : 0 < k) : cEntry (kS k) (nI 0) (nI 0) (nI 6) = (0, C17, kS k) := by
  unfold cEntry
  rw [if_pos (ks_ent hk h), if_pos (by decide), show pN (nI 6) = 6 from nI_clamp (by omega), if_neg (by decide), if_pos rfl, ks_pn hk h]
  rw [show gPrf (kS k) (0 * 30 + 0) = C17 from ks_prf h]
theorem evC (hk : k ≤ 14) (hj : j < k) {g : Nat} (hg : g < 6) : cContents (kS k) (nI j) (nI g) = (0, 0, kS k) := by
  unfold cContents
  rw [ks_pal hk hj, ks_good hg]; rfl
theorem evA (hk : k ≤ 14) (hj : j < k) {g : Nat} (hg : g < 6) : cAnew (kS k) (nI j) (nI g) = (0, 0, kS k) := by
  unfold cAnew
  rw [ks_pal hk hj, ks_good hg, ks_told]; rfl
theorem evM4 : cMismatch (kS k) 4 = (0, 0, kS k) := by
  unfold cMismatch
  rw [if_pos (by decide), ks_cm]
theorem evM5 : cMismatch (kS k) 5 = (0, 0, kS k) := by
  unfold cMismatch
  rw [if_pos (by decide), ks_cm]
theorem evO {h : Nat} (hh : h < 7) : cOwed (kS k) (nI h) = (0, if h = 0 then nI k else 0, kS k) := by
  have hi : rngB 0 7 (nI h) = true := by
    show rngB 0 (nI 7) (nI h) = true
    rw [rngN0 (by omega) (by omega)]; exact decide_eq_true hh
  unfold cOwed
  rw [if_pos hi, show pN (nI h) = h from nI_clamp (by omega)]
  rfl
theorem evMk (hk : k < 14) : cMake (kS k) 0 = (0, nI k, kS (k + 1)) := by
  unfold cMake
  rw [if_pos (by decide), if_pos (show gN (kS k) < 14 from hk), ← ks_make]; rfl
theorem evMk14 : cMake (kS 14) 0 = (3, 0, kS 14) := by
  unfold cMake
  rw [if_pos (by decide), if_neg (show ¬ gN (kS 14) < 14 from Nat.lt_irrefl 14)]
theorem zrem : ∀ k, k < 15 → (0 : Int32) - 0 / nI k * nI k = 0 := by decide +kernel
end KV
