/-! the class's public methods: 0 or which exception, the answer, the state behind it -/
def palC (σ : SG) (p : Int32) : Bool := rngB 0 (nI (gN σ)) p
def wkC (σ : SG) (P : Nat) : Bool := wkF (gN σ) (gLen σ) (gPrf σ) (gNum σ) P
def hrC (σ : SG) (h : Nat) (more : Int32) : Bool := hrF (gHol σ) (gGoo σ) (gN σ) h more
def entC (σ : SG) (p e : Int32) : Bool := palC σ p && rngB 0 (nI (gLen σ (pN p))) e
def cMake (σ : SG) (d : Int32) : Nat × Int32 × SG :=
  if rngB 0 4 d then (if gN σ < 14 then (0, nI (gN σ), wrF (stF σ (pN d)) (gN σ) 0 0 0 0 0) else (3, 0, σ)) else (1, 0, σ)
def cLoad1 (σ : SG) (P G : Nat) (a : Int32) : SG := gsGoo σ (va_up (gGoo σ) (P * 6 + G) (gGoo σ (P * 6 + G) + a))
def cLoad (σ : SG) (p g a : Int32) : Nat × Int32 × SG :=
  if palC σ p && rngB 0 6 g then (if decide (¬ a = 0) && inB a (-99) 99 then (if wkC σ (pN p) && (inB (gGoo σ (pN p * 6 + pN g) + a) 0 999 && hrC σ (gHol σ (pN p)) (a * (g + 1))) then
    (0, gGoo σ (pN p * 6 + pN g) + a, if a ≤ 0 then wrF (cLoad1 σ (pN p) (pN g) a) (pN p) 2 g (-a) 0 0 else wrF (cLoad1 σ (pN p) (pN g) a) (pN p) 1 g a 0 0) else (3, 0, σ)) else (2, 0, σ)) else (1, 0, σ)
def cPart1 (σ : SG) (P G : Nat) (a : Int32) : SG := gsGoo (stF σ (gHol σ P)) (va_up (va_up (gGoo σ) (P * 6 + G) (gGoo σ (P * 6 + G) - a)) (gN σ * 6 + G) a)
def cPart2 (σ : SG) (P G : Nat) (a : Int32) : SG := wrF (cPart1 σ P G a) P 3 (nI G) a (nI (gN σ)) 0
def cPart (σ : SG) (p g a : Int32) : Nat × Int32 × SG :=
  if palC σ p && rngB 0 6 g then (if inB a 1 99 then (if wkC σ (pN p) && (decide (¬ gGoo σ (pN p * 6 + pN g) < a) && decide (gN σ < 14)) then
    (0, nI (gN σ), wrF (cPart2 σ (pN p) (pN g) a) (gN σ) 4 g a p (nI (gLen σ (pN p)))) else (3, 0, σ)) else (2, 0, σ)) else (1, 0, σ)
def cJoin1 (σ : SG) (P O : Nat) : SG := wrF (gsGoo σ (jnS P O (gGoo σ) 6).1) P 6 0 0 (nI O) (nI (gLen σ O))
def cJoin2 (σ : SG) (P O : Nat) : SG := wrF (cJoin1 σ P O) O 5 0 0 (nI P) (nI (gLen σ P))
def cJoin (σ : SG) (p o : Int32) : Nat × Int32 × SG :=
  if palC σ p && palC σ o then (if p = o then (2, 0, σ) else if wkC σ (pN p) && (wkC σ (pN o) && (decide (gHol σ (pN p) = gHol σ (pN o)) && ctF (gGoo σ) (pN p) (pN o))) then
    (0, (jnS (pN p) (pN o) (gGoo σ) 6).2, cJoin2 σ (pN p) (pN o)) else (3, 0, σ)) else (1, 0, σ)
def cMove1 (σ : SG) (P H : Nat) : SG := wrF σ P 7 0 (nI H) 0 0
def cMove (σ : SG) (p h : Int32) : Nat × Int32 × SG :=
  if palC σ p && rngB 0 6 h then (if wkC σ (pN p) && (decide (¬ decide (gHol σ (pN p) < 4) = decide (pN h < 4)) && hrC σ (pN h) (wS (gGoo σ) (pN p) 6)) then
    (0, wS (gGoo σ) (pN p) 6, gsHol (cMove1 σ (pN p) (pN h)) (va_up (gHol (cMove1 σ (pN p) (pN h))) (pN p) (pN h))) else (3, 0, σ)) else (1, 0, σ)
def lkC (σ : SG) (P : Nat) : Int32 := lkF (gLen σ) (gNum σ) P
def cHold (σ : SG) (p : Int32) : Nat × Bool × SG :=
  if palC σ p then (if (!decide (lkC σ (pN p) = 6)) && decide (gLen σ (pN p) < 30) then (0, !decide (lkC σ (pN p) = 8), wrF σ (pN p) (hdK (decide (lkC σ (pN p) = 8))) 0 0 0 0) else (3, false, σ)) else (1, false, σ)
def cSpoil (σ : SG) (p e a : Int32) : Nat × Int32 × SG :=
  if entC σ p e then (if inB a (-999) 999 then (0, gNum σ ((pN p * 30 + pN e) * 6 + 3), gsNum σ (va_up (gNum σ) ((pN p * 30 + pN e) * 6 + 3) a)) else (2, 0, σ)) else (1, 0, σ)
def cLose (σ : SG) (h : Int32) : Nat × Int32 × SG := if rngB 0 7 h then (0, (dcS h (gCop σ) 420).2, gsCop σ (dcS h (gCop σ) 420).1) else (1, 0, σ)
def cRep1 (σ : SG) (P E : Nat) : SG := gsNum (gsDeb σ (va_up (gDeb σ) (gHol σ P) (gDeb σ (gHol σ P) + 5))) (va_up (gNum σ) ((P * 30 + E) * 6 + 3) (gMad σ (P * 30 + E)))
def cRepair (σ : SG) (p e : Int32) : Nat × Int32 × SG :=
  if entC σ p e then (if brkB (gPrf σ) (gNum σ) (pN p) (pN e) && decide (¬ loF (gCop σ (pN p * 30 + pN e)) = -1) then (0, loF (gCop σ (pN p * 30 + pN e)), cRep1 σ (pN p) (pN e)) else (3, 0, σ)) else (1, 0, σ)
def cBroken (σ : SG) (p : Int32) : Nat × Int32 × SG := if palC σ p then (0, fbF (gLen σ) (gPrf σ) (gNum σ) (pN p), σ) else (1, 0, σ)
def cSound (σ : SG) (p : Int32) : Nat × Bool × SG := if palC σ p then (0, auF (gN σ) (gLen σ) (gPrf σ) (gNum σ) (pN p), σ) else (1, false, σ)
def cPallet (σ : SG) (p w : Int32) : Nat × Int32 × SG :=
  if palC σ p then (if inB w 0 4 then (0, if w = 0 then nI (gHol σ (pN p)) else if w = 1 then nI (gLen σ (pN p)) else if w = 2 then wS (gGoo σ) (pN p) 6 else if w = 3 then bI (decide (lkC σ (pN p) = 8)) else bI (decide (lkC σ (pN p) = 6)), σ) else (2, 0, σ)) else (1, 0, σ)
def cEntry (σ : SG) (p e w : Int32) : Nat × Int32 × SG :=
  if entC σ p e then (if inB w 0 7 then (0, if pN w < 6 then gNum σ ((pN p * 30 + pN e) * 6 + pN w) else if pN w = 6 then gPrf σ (pN p * 30 + pN e) else gCop σ (pN p * 30 + pN e), σ) else (2, 0, σ)) else (1, 0, σ)
def cContents (σ : SG) (p g : Int32) : Nat × Int32 × SG := if palC σ p && rngB 0 6 g then (0, gGoo σ (pN p * 6 + pN g), σ) else (1, 0, σ)
def cAnew (σ : SG) (p g : Int32) : Nat × Int32 × SG := if palC σ p && rngB 0 6 g then (0, tbF (gN σ) (gLen σ) (gNum σ) (pN p) g, σ) else (1, 0, σ)
def cDeclare (σ : SG) (t g a : Int32) : Nat × Int32 × SG :=
  if rngB 4 6 t && rngB 0 6 g then (if inB a 0 9999 then (0, gDec σ ((pN t - 4) * 6 + pN g), gsDec σ (va_up (gDec σ) ((pN t - 4) * 6 + pN g) a)) else (2, 0, σ)) else (1, 0, σ)
def cmS (n : Nat) (hol len : Nat → Nat) (num dec : Nat → Int32) (t : Nat) : Nat → Int32
  | 0 => 0
  | g + 1 => cmS n hol len num dec t g + absI (dec ((t - 4) * 6 + g) - ttS n hol len num t (nI g) n)
def cMismatch (σ : SG) (t : Int32) : Nat × Int32 × SG := if rngB 4 6 t then (0, cmS (gN σ) (gHol σ) (gLen σ) (gNum σ) (gDec σ) (pN t) 6, σ) else (1, 0, σ)
def cFeeF (σ : SG) (k f : Int32) : Nat × Int32 × SG := if inB k 0 9 && inB f 0 99 then (0, gFee σ (pN k), gsFee σ (va_up (gFee σ) (pN k) f)) else (2, 0, σ)
def cOwed (σ : SG) (h : Int32) : Nat × Int32 × SG := if rngB 0 7 h then (0, gDeb σ (pN h), σ) else (1, 0, σ)
theorem rngB_nat {lo hi : Nat} (hlo : lo < 2 ^ 30) (hhi : hi < 2 ^ 30) {x : Int32} (h : rngB (nI lo) (nI hi) x = true) : ∃ X, lo ≤ X ∧ X < hi ∧ x = nI X := by
  simp only [rngB, Bool.and_eq_true, decide_eq_true_eq] at h
  obtain ⟨h1, h2⟩ := h
  have h0 : ¬ x < 0 := by
    intro z
    rw [Int32.lt_iff_toInt_lt] at z h1
    rw [nI_toInt (by omega)] at h1
    have : (0 : Int32).toInt = 0 := rfl
    omega
  obtain ⟨X, hX, rfl⟩ := nI_of h0
  exact ⟨X, Nat.le_of_not_lt (fun z => h1 (nI_lt z (by omega))), Nat.lt_of_not_le (fun z => h2 (nI_le z hX)), rfl⟩
theorem wkF_len {n : Nat} {len : Nat → Nat} {prf num : Nat → Int32} {P : Nat} (h : wkF n len prf num P = true) : len P < 30 := by
  simp only [wkF, Bool.and_eq_true, decide_eq_true_eq] at h
  exact h.2.2.1
theorem abs_eq {x : Int32} : (if 0 ≤ x then x else 0 - x) = absI x := by
  unfold absI
  by_cases h : 0 ≤ x
  · rw [if_pos h, if_neg (Int32.not_lt.mpr h)]
  · rw [if_neg h, if_pos (Int32.not_le.mp h), Int32.zero_sub]
theorem ok_st {σ : SG} {h : Nat} (ok : okG σ) (hh : h < 6) (hn : gN σ < 14) : okG (stF σ h) := ⟨hn, hol_up ok.2.1 hh, ok.2.2⟩
theorem ok_wr {σ : SG} {P kd : Nat} {g a o oe : Int32} (ok : okG σ) (hl : gLen σ P < 30) : okG (wrF σ P kd g a o oe) := by
  refine ⟨ok.1, ok.2.1, fun x => ?_⟩
  show va_up (gLen σ) P (gLen σ P + 1) x ≤ 30
  by_cases q : x = P
  · rw [q, va_up_self]; exact hl
  · rw [va_up_ne _ _ q]; exact ok.2.2 x
theorem gg_Hol {σ : SG} {a b : Nat → Nat} : gsHol (gsHol σ a) b = gsHol σ b := rfl
theorem gg_Goo {σ : SG} {a b : Nat → Int32} : gsGoo (gsGoo σ a) b = gsGoo σ b := rfl
theorem gg_Dec {σ : SG} {a b : Nat → Int32} : gsDec (gsDec σ a) b = gsDec σ b := rfl
theorem gg_Fee {σ : SG} {a b : Nat → Int32} : gsFee (gsFee σ a) b = gsFee σ b := rfl
theorem gg_Deb {σ : SG} {a b : Nat → Int32} : gsDeb (gsDeb σ a) b = gsDeb σ b := rfl
theorem gg_Len {σ : SG} {a b : Nat → Nat} : gsLen (gsLen σ a) b = gsLen σ b := rfl
theorem gg_Num {σ : SG} {a b : Nat → Int32} : gsNum (gsNum σ a) b = gsNum σ b := rfl
theorem gg_Prf {σ : SG} {a b : Nat → Int32} : gsPrf (gsPrf σ a) b = gsPrf σ b := rfl
theorem gg_Cop {σ : SG} {a b : Nat → Int32} : gsCop (gsCop σ a) b = gsCop σ b := rfl
theorem gg_Mad {σ : SG} {a b : Nat → Int32} : gsMad (gsMad σ a) b = gsMad σ b := rfl
theorem gg_N {σ : SG} {a b : Nat} : gsN (gsN σ a) b = gsN σ b := rfl
theorem nIc6 : (nI 6).toNatClampNeg = 6 := by decide
theorem inB6 : inB (nI 6) 0 7 = true := by decide
