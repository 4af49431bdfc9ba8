/-! what is read off: the first broken entry, what is sound; debts -/
section RDS
variable {τ τ' : SM} {sp : Nat → Int32} {P O : Nat}
theorem mb_iff (h : JEs τ sp) {E : Nat} (hE : E < mMan τ P) : mbB τ P E = true ↔ sp P = nI (E + 1) := by
  unfold mbB mpF
  rw [decide_eq_true_iff]
  exact JE_brk h hE
theorem mf_0 (h : JEs τ sp) (hm : ∀ Q, mMan τ Q ≤ 30) (hs : sp P = 0) : mfF τ P = -1 := by
  unfold mfF
  have hmP := hm P
  refine fst_all (m := mMan τ P) (fun j hj => ?_) _ 0 (Nat.zero_add _)
  cases q : mbB τ P j
  · rfl
  · have := (mb_iff h hj).mp q
    rw [hs] at this
    exact absurd ((nI_eq (a := 0) (by omega) (by omega)).mp this) (by omega)
theorem mf_1 (h : JEs τ sp) (hm : ∀ Q, mMan τ Q ≤ 30) {E : Nat} (hE : E < mMan τ P) (hs : sp P = nI (E + 1)) : mfF τ P = nI E := by
  unfold mfF
  have hmP := hm P
  refine fst_one hE (fun j hj => (mb_iff h hj).trans ⟨fun z => ?_, fun z => by rw [z]; exact hs⟩) _ 0 (Nat.zero_add _) (Nat.zero_le _)
  have := (nI_eq (by omega) (by omega)).mp (hs.symm.trans z)
  omega
theorem nI_ne_m1 {E : Nat} (hE : E < 2 ^ 30) : nI E ≠ -1 := by
  intro z
  have := congrArg Int32.toInt z
  rw [nI_toInt (by omega)] at this
  have h9 : (-1 : Int32).toInt = -1 := by decide
  omega
theorem mf_iff (h : JEs τ sp) (hm : ∀ Q, mMan τ Q ≤ 30) : mfF τ P = -1 ↔ sp P = 0 := by
  constructor
  · intro z
    rcases h.2.2.1 P with q | ⟨E, q1, q2⟩
    · exact q
    · have hmP := hm P
      exact absurd ((mf_1 h hm q1 q2).symm.trans z) (nI_ne_m1 (by omega))
  · exact mf_0 h hm
theorem ms_iff (h : JEs τ sp) (hm : ∀ Q, mMan τ Q ≤ 30) : msF τ P = true ↔ ∀ j, Rch (adjM τ) P j → sp j = 0 := by
  unfold msF sndB
  rw [@decide_eq_true_iff _ (Classical.propDecidable _)]
  exact ⟨fun z j hj => (mf_iff h hm).mp (z j hj), fun z j hj => (mf_iff h hm).mpr (z j hj)⟩
theorem ms_sp (h : JEs τ sp) (hm : ∀ Q, mMan τ Q ≤ 30) (hs : msF τ P = true) : sp P = 0 := (ms_iff h hm).mp hs P Rch_refl
/-- parting: the new pallet is sound -/
theorem ms_part (h : JEs τ sp) (h' : JEs τ' sp) (hm : ∀ Q, mMan τ Q ≤ 30) (hm' : ∀ Q, mMan τ' Q ≤ 30) {N : Nat} (hN : sp N = 0) (hs : msF τ P = true) (hP14 : P < 14)
    (hadj : ∀ x y, adjM τ' x y ↔ adjM τ x y ∨ (x = N ∧ y = P)) (hN0 : ∀ y, ¬ adjM τ N y) : msF τ' N = true := by
  rw [ms_iff h' hm']
  intro j hj
  have hsj := (ms_iff h hm).mp hs
  rcases (Rj_new hadj).mp hj with z | z
  · have : j = N := z (fun j => j = N) rfl (fun a b ha hab => absurd (show adjM τ N b from ha ▸ hab) (hN0 b))
    rw [this]; exact hN
  · exact hsj j z
/-- joining: both are sound -/
theorem ms_join (h : JEs τ sp) (h' : JEs τ' sp) (hm : ∀ Q, mMan τ Q ≤ 30) (hm' : ∀ Q, mMan τ' Q ≤ 30) (hsP : msF τ P = true) (hsO : msF τ O = true)
    (hadj : ∀ x y, adjM τ' x y ↔ adjM τ x y ∨ (x = O ∧ y = P)) : msF τ' P = true ∧ msF τ' O = true := by
  have p0 := (ms_iff h hm).mp hsP
  have o0 := (ms_iff h hm).mp hsO
  have key : ∀ Q, (∀ j, Rch (adjM τ) Q j → sp j = 0) → msF τ' Q = true := fun Q hQ => by
    rw [ms_iff h' hm']
    intro j hj
    refine (hj (fun j => Rch (adjM τ) Q j ∨ Rch (adjM τ) P j) (Or.inl Rch_refl) (fun a b ha hab => ?_)).elim (hQ j) (p0 j)
    rcases (hadj a b).mp hab with q | ⟨_, rfl⟩
    · exact ha.elim (fun y => Or.inl (Rch_step y q)) (fun y => Or.inr (Rch_step y q))
    · exact Or.inr Rch_refl
  exact ⟨key P p0, key O o0⟩
end RDS
/-- debts: none is below 0, none above B -/
def OW (ow : Nat → Int32) (B : Int) : Prop := ∀ k, 0 ≤ (ow k).toInt ∧ (ow k).toInt ≤ B
def GE (ow ow' : Nat → Int32) : Prop := ∀ k, (ow k).toInt ≤ (ow' k).toInt
theorem ow_up {ow : Nat → Int32} {B : Int} {w : Nat} {x : Int32} {d : Int} (h : OW ow B) (hB : B ≤ 100000) (h0 : 0 ≤ x.toInt) (hd : x.toInt ≤ d) (hd2 : d ≤ 1000) : OW (va_up ow w (ow w + x)) (B + d) ∧ GE ow (va_up ow w (ow w + x)) := by
  have hw := h w
  have e : (ow w + x).toInt = (ow w).toInt + x.toInt := i_add (by omega) (by omega)
  refine ⟨fun k => ?_, fun k => ?_⟩
  · rw [up_if]; split
    · rw [e]; omega
    · have := h k; omega
  · rw [up_if]; split
    · rename_i z; rw [e, z]; omega
    · exact Int.le_refl _
theorem ge_tr {a b c : Nat → Int32} (h1 : GE a b) (h2 : GE b c) : GE a c := fun k => Int.le_trans (h1 k) (h2 k)
theorem ge_rf {a : Nat → Int32} : GE a a := fun _ => Int.le_refl _
theorem ow_le {ow : Nat → Int32} {B C : Int} (h : OW ow B) (hBC : B ≤ C) : OW ow C := fun k => ⟨(h k).1, Int.le_trans (h k).2 hBC⟩
theorem ow_mw {τ : SM} {P kd : Nat} {g a o i : Int32} {B : Int} (h : OW (mOwe τ) B) (hB : B ≤ 100000) (hf : ∀ kd, kd < 10 → mFee τ kd = nI (kd + 1)) (hk : kd < 10) : OW (mOwe (mwF τ P kd g a o i)) (B + 10) ∧ GE (mOwe τ) (mOwe (mwF τ P kd g a o i)) := by
  have e : (mFee τ kd).toInt = ((kd + 1 : Nat) : Int) := by rw [hf kd hk, nI_toInt (by omega)]
  exact ow_up h hB (by rw [e]; omega) (by rw [e]; omega) (by decide)
