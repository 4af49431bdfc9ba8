/-! what the class's private methods compute, as functions of what is held -/
def rngB (lo hi x : Int32) : Bool := decide (¬ x < lo) && decide (¬ hi ≤ x)
def inB (x lo hi : Int32) : Bool := decide (¬ x < lo) && decide (¬ hi < x)
def isB (set k : Int32) : Bool := decide (¬ ((set >>> (k &&& 31)) &&& 1) = 0)
def fstF (P : Nat → Bool) : Nat → Nat → Int32
  | 0, _ => -1
  | d + 1, k => if P k then nI k else fstF P d (k + 1)
theorem fstF_yes {P : Nat → Bool} {n k : Nat} (h : k < n) (hp : P k = true) : fstF P (n - k) k = nI k := by
  rw [show n - k = (n - (k + 1)) + 1 by omega, fstF, if_pos hp]
theorem fstF_no {P : Nat → Bool} {n k : Nat} (h : k < n) (hp : P k = false) : fstF P (n - k) k = fstF P (n - (k + 1)) (k + 1) := by
  rw [show n - k = (n - (k + 1)) + 1 by omega, fstF, if_neg (by rw [hp]; decide)]
theorem fstF_end {P : Nat → Bool} {n k : Nat} (h : n ≤ k) : fstF P (n - k) k = -1 := by
  rw [show n - k = 0 by omega, fstF]
def allF (P : Nat → Bool) : Nat → Nat → Bool
  | 0, _ => true
  | d + 1, k => if P k then allF P d (k + 1) else false
theorem allF_yes {P : Nat → Bool} {n k : Nat} (h : k < n) (hp : P k = true) : allF P (n - k) k = allF P (n - (k + 1)) (k + 1) := by
  rw [show n - k = (n - (k + 1)) + 1 by omega, allF, if_pos hp]
theorem allF_no {P : Nat → Bool} {n k : Nat} (h : k < n) (hp : P k = false) : allF P (n - k) k = false := by
  rw [show n - k = (n - (k + 1)) + 1 by omega, allF, if_neg (by rw [hp]; decide)]
theorem allF_end {P : Nat → Bool} {n k : Nat} (h : n ≤ k) : allF P (n - k) k = true := by
  rw [show n - k = 0 by omega, allF]
def okG (σ : SG) : Prop := gN σ ≤ 14 ∧ (∀ P, gHol σ P < 6) ∧ (∀ P, gLen σ P ≤ 30)
-- Chains
def pm0 (prf : Nat → Int32) (P E : Nat) : Int32 := if E = 0 then 17 else prf (P * 30 + E - 1)
def pmS (prf num : Nat → Int32) (P E : Nat) : Nat → Int32
  | 0 => pm0 prf P E
  | k + 1 => 31 * pmS prf num P E k + num ((P * 30 + E) * 6 + k)
def brkB (prf num : Nat → Int32) (P E : Nat) : Bool := decide (¬ prf (P * 30 + E) = pmS prf num P E 6)
def fbF (len : Nat → Nat) (prf num : Nat → Int32) (P : Nat) : Int32 := fstF (brkB prf num P) (len P) 0
def lkF (len : Nat → Nat) (num : Nat → Int32) (P : Nat) : Int32 := if 0 < len P then num ((P * 30 + (len P - 1)) * 6) else -1
def witF (k mk a : Int32) : Int32 :=
  if k = 5 ∨ k = 3 then (if k = 7 then (((1 : Int32) <<< (mk &&& 31)) ||| ((1 : Int32) <<< (a &&& 31))) else ((1 : Int32) <<< (mk &&& 31))) ||| 64 else (if k = 7 then (((1 : Int32) <<< (mk &&& 31)) ||| ((1 : Int32) <<< (a &&& 31))) else ((1 : Int32) <<< (mk &&& 31)))
def adF (σ : SG) (P kd mk : Nat) (g a o oe : Int32) : SG :=
  let E := gLen σ P
  let num6 := va_up (va_up (va_up (va_up (va_up (va_up (gNum σ) ((P * 30 + E) * 6) (nI kd)) ((P * 30 + E) * 6 + 1) (nI mk)) ((P * 30 + E) * 6 + 2) g) ((P * 30 + E) * 6 + 3) a) ((P * 30 + E) * 6 + 4) o) ((P * 30 + E) * 6 + 5) oe
  (gHol σ, gGoo σ, gDec σ, gFee σ, gDeb σ, va_up (gLen σ) P (E + 1), num6, va_up (gPrf σ) (P * 30 + E) (pmS (gPrf σ) num6 P E 6), va_up (gCop σ) (P * 30 + E) (witF (nI kd) (nI mk) a), va_up (gMad σ) (P * 30 + E) a, gN σ)
def dcS (w : Int32) (cop : Nat → Int32) : Nat → (Nat → Int32) × Int32
  | 0 => (cop, 0)
  | k + 1 => if isB ((dcS w cop k).1 k) w then (va_up (dcS w cop k).1 k ((dcS w cop k).1 k &&& (((1 : Int32) <<< (w &&& 31)) ^^^ (-1))), (dcS w cop k).2 + 1) else dcS w cop k
def tpS (num : Nat → Int32) (P : Nat) (wc : Bool) : Nat → Int32
  | 0 => 0
  | e + 1 => if (decide (num ((P * 30 + e) * 6) = 5) || (decide (num ((P * 30 + e) * 6) = 4) && wc)) then tpS num P wc e ||| ((1 : Int32) <<< (num ((P * 30 + e) * 6 + 4) &&& 31)) else tpS num P wc e
def rcS (tp : Nat → Int32) (x : Int32 × Int32) : Nat → Int32 × Int32
  | 0 => x
  | k + 1 => if isB (rcS tp x k).1 (nI k) && !isB (rcS tp x k).2 (nI k) then ((rcS tp x k).1 ||| tp k, (rcS tp x k).2 ||| ((1 : Int32) <<< (nI k &&& 31))) else rcS tp x k
def rcR (tp : Nat → Int32) : Nat → Int32 × Int32 → Int32 × Int32
  | 0, x => x
  | d + 1, x => if x.2 = x.1 then x else rcR tp d (rcS tp x 14)
def tpF (len : Nat → Nat) (num : Nat → Int32) (wc : Bool) : Nat → Int32 := fun k => tpS num k wc (len k)
def rchF (len : Nat → Nat) (num : Nat → Int32) (P : Nat) (wc : Bool) : Int32 := (rcR (tpF len num wc) 14 (((1 : Int32) <<< (nI P &&& 31)), 0)).1
theorem rcR_eq {tp : Nat → Int32} {d : Nat} {a b : Int32} (h : b = a) : rcR tp d (a, b) = (a, b) := by
  cases d with
  | zero => rfl
  | succ d => rw [rcR, if_pos h]
theorem rcR_step {tp : Nat → Int32} {r : Nat} {a b : Int32} (h : r < 14) (hn : ¬ b = a) : rcR tp (14 - r) (a, b) = rcR tp (14 - (r + 1)) (rcS tp (a, b) 14) := by
  rw [show 14 - r = (14 - (r + 1)) + 1 by omega, rcR, if_neg hn]
def sgnF (k : Int32) : Int32 := if k = 1 ∨ k = 4 then 1 else if k = 2 ∨ k = 3 then -1 else 0
def owS (num : Nat → Int32) (P : Nat) (g : Int32) : Nat → Int32
  | 0 => 0
  | e + 1 => owS num P g e + (if num ((P * 30 + e) * 6 + 2) = g then sgnF (num ((P * 30 + e) * 6)) * num ((P * 30 + e) * 6 + 3) else 0)
-- PalletGram
def wS (goo : Nat → Int32) (P : Nat) : Nat → Int32
  | 0 => 0
  | k + 1 => wS goo P k + goo (P * 6 + k) * (nI k + 1)
def rS (hol : Nat → Nat) (goo : Nat → Int32) (hd : Nat) (more : Int32) : Nat → Int32
  | 0 => more
  | k + 1 => rS hol goo hd more k + (if hol k = hd then wS goo k 6 else 0)
def hrF (hol : Nat → Nat) (goo : Nat → Int32) (n hd : Nat) (more : Int32) : Bool := decide (hd < 4) || decide (¬ 200 < rS hol goo hd more n)
def loF (set : Int32) : Int32 := fstF (fun k => isB set (nI k)) 7 0
def auF (n : Nat) (len : Nat → Nat) (prf num : Nat → Int32) (P : Nat) : Bool := allF (fun k => !(isB (rchF len num P true) (nI k) && decide (¬ fbF len prf num k = -1))) n 0
def wkF (n : Nat) (len : Nat → Nat) (prf num : Nat → Int32) (P : Nat) : Bool := (!decide (lkF len num P = 8)) && ((!decide (lkF len num P = 6)) && (decide (len P < 30) && auF n len prf num P))
def ctF (goo : Nat → Int32) (P O : Nat) : Bool := allF (fun g => decide (¬ 999 < goo (P * 6 + g) + goo (O * 6 + g))) 6 0
def tbS (len : Nat → Nat) (num : Nat → Int32) (P : Nat) (g : Int32) : Nat → Int32
  | 0 => 0
  | k + 1 => tbS len num P g k + (if isB (rchF len num P false) (nI k) then owS num k g (len k) else 0)
def tbF (n : Nat) (len : Nat → Nat) (num : Nat → Int32) (P : Nat) (g : Int32) : Int32 := if lkF len num P = 6 then 0 else tbS len num P g n
def ttS (n : Nat) (hol len : Nat → Nat) (num : Nat → Int32) (t : Nat) (g : Int32) : Nat → Int32
  | 0 => 0
  | k + 1 => ttS n hol len num t g k + (if hol k = t then tbF n len num k g else 0)
def stF (σ : SG) (h : Nat) : SG := (va_up (gHol σ) (gN σ) h, gGoo σ, gDec σ, gFee σ, gDeb σ, gLen σ, gNum σ, gPrf σ, gCop σ, gMad σ, gN σ + 1)
def mkF (kd h : Nat) : Nat := if kd = 8 ∨ kd = 9 then 6 else h
def wrF (σ : SG) (P kd : Nat) (g a o oe : Int32) : SG :=
  gsDeb (adF σ P kd (mkF kd (gHol σ P)) g a o oe) (va_up (gDeb σ) (mkF kd (gHol σ P)) (gDeb σ (mkF kd (gHol σ P)) + gFee σ kd))
theorem mkF_lt {kd h : Nat} (hh : h < 6) : mkF kd h < 7 := by unfold mkF; split <;> omega
theorem rngN0 {a b : Nat} (ha : a < 2 ^ 31) (hb : b < 2 ^ 31) : rngB 0 (nI b) (nI a) = decide (a < b) := by
  have h1 : ¬ nI a < 0 := nI_pos ha
  by_cases h : a < b
  · simp [rngB, h1, h, nI_leI hb ha]
  · simp [rngB, h1, h, nI_leI hb ha] <;> omega
