/-! the calls that write -/
theorem Inv_mt {τ : SM} (h : Inv τ) (hn : mN τ < 14) {d : Nat} (hd : d < 4) : Inv (mtF τ d) :=
  ⟨B_new h.1, T_make h.2.1 hd, C_new h.2.2.1, hn, hol_up h.2.2.2.2.1 (by omega), h.2.2.2.2.2⟩
theorem Inv_goo {τ : SM} (h : Inv τ) {goo : Nat → Int32} (hT : okT (mHol τ) goo (mN τ)) : Inv (msGoo τ goo) := ⟨h.1, hT, h.2.2⟩
theorem t_make {τ : SM} (h : Inv τ) (d : Int32) : OKI kB (cMake (gOf τ) d) (mMake τ d) := by
  unfold cMake mMake
  rw [rb4]
  have hn := h.2.2.2.1
  by_cases c : inB d 0 3 = true
  · rw [if_pos c, if_pos c]
    by_cases c2 : mN τ = 14
    · rw [if_pos c2, if_neg (show ¬ gN (gOf τ) < 14 from fun z => by have z : mN τ < 14 := z; omega)]
      exact ok_no h rfl (by decide) (by decide) (by decide)
    · have c3 : mN τ < 14 := by omega
      rw [if_neg c2, if_pos (show gN (gOf τ) < 14 from c3)]
      obtain ⟨D, -, hD, rfl⟩ := inB_nat (lo := 0) (hi := 3) (by decide) (by decide) c
      have hpd : pN (nI D) < 4 := by show (nI D).toNatClampNeg < 4; rw [nI_clamp (by omega)]; omega
      have h1 : Inv (mtF (msThr τ 0) (pN (nI D))) := Inv_mt (τ := msThr τ 0) h c3 hpd
      obtain ⟨z1, z2, z3⟩ := new_no h
      exact ok_go rfl rfl rfl (wr_eq (τ := mtF (msThr τ 0) (pN (nI D))) (by decide)) (Inv_mw h1 (Nat.lt_succ_self (mN τ)) (by show mMan τ (mN τ) < 30; omega) z2 z3 (by decide) (by decide) (by decide) (by decide) (fun z => absurd z (by decide)) (fun z => absurd z (by decide)))
  · rw [if_neg c, if_neg c]; exact ok_no h rfl (by decide) (by decide) (by decide)
theorem t_load {τ : SM} (h : Inv τ) (p g a : Int32) : OKI (fun z => z) (cLoad (gOf τ) p g a) (mLoad τ p g a) := by
  unfold cLoad mLoad
  have hn := h.2.2.2.1
  rw [pal_eq hn, rb6, Bool.and_comm (decide (¬ a = 0))]
  by_cases c : (palM τ p && inB g 0 5) = true
  · rw [if_pos c, if_pos c]
    by_cases c2 : (inB a (-99) 99 && decide (¬ a = 0)) = true
    · rw [if_pos c2, if_pos c2]
      rw [Bool.and_eq_true] at c c2
      have hP := pal_lt h c.1
      obtain ⟨G, -, hG, rfl⟩ := inB_nat (lo := 0) (hi := 5) (by decide) (by decide) c.2
      have hpg : pN (nI G) = G := nI_clamp (by omega)
      have ha := inB_int.mp c2.1
      rw [show (-99 : Int32).toInt = -99 by decide, show (99 : Int32).toInt = 99 by decide] at ha
      have e : (wkC (gOf τ) (pN p) && (inB (gGoo (gOf τ) (pN p * 6 + pN (nI G)) + a) 0 999 && hrC (gOf τ) (gHol (gOf τ) (pN p)) (a * (nI G + 1)))) = clF τ (pN p) (pN (nI G)) a := by
        unfold clF
        rw [wk_eq h hP, hpg, hr_load h.2.1 hn (by omega) ha.1 ha.2, nI1]
        rfl
      rw [e]
      by_cases c3 : clF τ (pN p) (pN (nI G)) a = true
      · rw [if_pos c3, if_pos c3]
        have hs : (if a ≤ 0 then wrF (cLoad1 (gOf τ) (pN p) (pN (nI G)) a) (pN p) 2 (nI G) (-a) 0 0 else wrF (cLoad1 (gOf τ) (pN p) (pN (nI G)) a) (pN p) 1 (nI G) a 0 0) = gOf (mwF (msGoo (msThr τ 0) (va_up (mGoo τ) (pN p * 6 + pN (nI G)) (mGoo τ (pN p * 6 + pN (nI G)) + a))) (pN p) (ldK a) (nI G) (ldA a) 0 0) := by
          unfold ldK ldA
          by_cases z : a ≤ 0
          · rw [if_pos z, if_pos z, if_pos z]; exact wr_eq (τ := msGoo (msThr τ 0) (va_up (mGoo τ) (pN p * 6 + pN (nI G)) (mGoo τ (pN p * 6 + pN (nI G)) + a))) (by decide)
          · rw [if_neg z, if_neg z, if_neg z]; exact wr_eq (τ := msGoo (msThr τ 0) (va_up (mGoo τ) (pN p * 6 + pN (nI G)) (mGoo τ (pN p * 6 + pN (nI G)) + a))) (by decide)
        have hk := ldK_lt a
        refine ok_go rfl rfl rfl hs ?_
        unfold clF at c3
        simp only [Bool.and_eq_true, Bool.or_eq_true, decide_eq_true_eq] at c3
        obtain ⟨d1, d2, d3⟩ := c3
        obtain ⟨u1, u2, u3⟩ := mc_un d1
        rw [hpg] at d2 d3 ⊢
        have hT := T_load h.2.1 hn hP (G := G) (by omega) ha.1 ha.2 (by have := inB_int.mp d2; rw [show (0 : Int32).toInt = 0 by decide, show (999 : Int32).toInt = 999 by decide] at this; exact this) (d3.imp (fun z => by rw [Int32.lt_iff_toInt_lt, show (0 : Int32).toInt = 0 by decide] at z; exact z) id)
        exact Inv_mw (τ := msGoo (msThr τ 0) (va_up (mGoo τ) (pN p * 6 + G) (mGoo τ (pN p * 6 + G) + a))) (Inv_goo (τ := msThr τ 0) h hT) hP u3 u1 u2 (by omega) (by omega) (by omega) (by omega) (fun z => by omega) (fun z => by omega)
      · rw [if_neg c3, if_neg c3]; exact ok_no h rfl (by decide) (by decide) (by decide)
    · rw [if_neg c2, if_neg c2]; exact ok_no h rfl (by decide) (by decide) (by decide)
  · rw [if_neg c, if_neg c]; exact ok_no h rfl (by decide) (by decide) (by decide)
theorem t_part {τ : SM} (h : Inv τ) (p g a : Int32) : OKI (fun z => z) (cPart (gOf τ) p g a) (mPart τ p g a) := by
  unfold cPart mPart
  have hn := h.2.2.2.1
  rw [pal_eq hn, rb6]
  by_cases c : (palM τ p && inB g 0 5) = true
  · rw [if_pos c, if_pos c]
    by_cases c2 : inB a 1 99 = true
    · rw [if_pos c2, if_pos c2]
      rw [Bool.and_eq_true] at c
      obtain ⟨P, hP, rfl⟩ := inB_pal (n := mN τ) (by omega) c.1
      obtain ⟨G, -, hG, rfl⟩ := inB_nat (lo := 0) (hi := 5) (by decide) (by decide) c.2
      have hpg : pN (nI G) = G := nI_clamp (by omega)
      have hpp : pN (nI P) = P := nI_clamp (by omega)
      rw [hpg, hpp]
      have ha := inB_int.mp c2
      rw [show (1 : Int32).toInt = 1 by decide, show (99 : Int32).toInt = 99 by decide] at ha
      have e : (wkC (gOf τ) P && (decide (¬ gGoo (gOf τ) (P * 6 + G) < a) && decide (gN (gOf τ) < 14))) = (decide (¬ mGoo τ (P * 6 + G) < a) && (decide (mN τ < 14) && mcF τ P)) := by
        rw [wk_eq h hP, Bool.and_comm, Bool.and_assoc]
      rw [e]
      by_cases c3 : (decide (¬ mGoo τ (P * 6 + G) < a) && (decide (mN τ < 14) && mcF τ P)) = true
      · rw [if_pos c3, if_pos c3]
        simp only [Bool.and_eq_true, decide_eq_true_eq] at c3
        obtain ⟨d1, d2, d3⟩ := c3
        obtain ⟨u1, u2, u3⟩ := mc_un d3
        have hx : a.toInt ≤ (mGoo τ (P * 6 + G)).toInt := by rw [Int32.lt_iff_toInt_lt] at d1; omega
        have s1 : cPart2 (gOf τ) P G a = gOf (mPart2 τ P G a) := wr_eq (τ := mPart1 τ P G a) (by decide)
        have m2 : mMan (mPart2 τ P G a) P = mMan τ P + 1 := va_up_self _ _ _
        have i1 : Inv (mPart1 τ P G a) := ⟨B_new h.1, T_part h.2.1 hP (by omega) ha.1 ha.2 hx, C_new h.2.2.1, d2, hol_up h.2.2.2.2.1 (h.2.2.2.2.1 P), h.2.2.2.2.2⟩
        have i2 : Inv (mPart2 τ P G a) := Inv_mw i1 (Nat.lt_succ_of_lt hP) u3 u1 u2 (by decide) (by decide) (by decide) (by decide) (fun z => absurd z (by decide)) (fun z => absurd z (by decide))
        obtain ⟨z1, z2, z3⟩ := new_no h
        have m3 : mMan (mPart2 τ P G a) (mN τ) = mMan τ (mN τ) := va_up_ne _ _ (by omega)
        refine ok_go rfl rfl rfl ?_ (Inv_mw i2 (Nat.lt_succ_self (mN τ)) (by rw [m3]; omega) z2 z3 (by decide) (by decide) (by decide) (by decide) (fun _ => ⟨P, Nat.lt_succ_of_lt hP, rfl⟩) (fun z => absurd z (by decide)))
        rw [s1, m2, Nat.add_sub_cancel]
        exact wr_eq (by decide)
      · rw [if_neg c3, if_neg c3]; exact ok_no h rfl (by decide) (by decide) (by decide)
    · rw [if_neg c2, if_neg c2]; exact ok_no h rfl (by decide) (by decide) (by decide)
  · rw [if_neg c, if_neg c]; exact ok_no h rfl (by decide) (by decide) (by decide)
theorem t_move {τ : SM} (h : Inv τ) (p x : Int32) : OKI kB (cMove (gOf τ) p x) (mMove τ p x) := by
  unfold cMove mMove
  have hn := h.2.2.2.1
  rw [pal_eq hn, rb6]
  by_cases c : (palM τ p && inB x 0 5) = true
  · rw [if_pos c, if_pos c]
    rw [Bool.and_eq_true] at c
    have hP := pal_lt h c.1
    obtain ⟨X, -, hX, rfl⟩ := inB_nat (lo := 0) (hi := 5) (by decide) (by decide) c.2
    have hpx : pN (nI X) = X := nI_clamp (by omega)
    rw [hpx]
    have e : (wkC (gOf τ) (pN p) && (decide (¬ decide (gHol (gOf τ) (pN p) < 4) = decide (X < 4)) && hrC (gOf τ) X (wS (gGoo (gOf τ)) (pN p) 6))) = (decide (¬ decide (mHol τ (pN p) < 4) = decide (X < 4)) && (mcF τ (pN p) && mrS (mHol τ) (mGoo τ) X (wS (mGoo τ) (pN p) 6) (mN τ))) := by
      rw [wk_eq h hP, Bool.and_left_comm]; rfl
    rw [e]
    by_cases c3 : (decide (¬ decide (mHol τ (pN p) < 4) = decide (X < 4)) && (mcF τ (pN p) && mrS (mHol τ) (mGoo τ) X (wS (mGoo τ) (pN p) 6) (mN τ))) = true
    · rw [if_pos c3, if_pos c3]
      simp only [Bool.and_eq_true, decide_eq_true_eq] at c3
      obtain ⟨d1, d2, d3⟩ := c3
      obtain ⟨u1, u2, u3⟩ := mc_un d2
      have s1 : cMove1 (gOf τ) (pN p) X = gOf (mMove1 τ (pN p) X) := wr_eq (τ := msThr τ 0) (by decide)
      have i1 : Inv (mMove1 τ (pN p) X) := Inv_mw (τ := msThr τ 0) h hP u3 u1 u2 (by decide) (by decide) (by decide) (by decide) (fun z => absurd z (by decide)) (fun _ => ⟨X, by omega, rfl⟩)
      refine ok_go rfl rfl rfl (by rw [s1]) ?_
      exact ⟨i1.1, T_move h.2.1 hn hP (fun z => d1 (by rw [z])) d3, i1.2.2.1, hn, hol_up h.2.2.2.2.1 (by omega), h.2.2.2.2.2⟩
    · rw [if_neg c3, if_neg c3]; exact ok_no h rfl (by decide) (by decide) (by decide)
  · rw [if_neg c, if_neg c]; exact ok_no h rfl (by decide) (by decide) (by decide)
theorem t_hold {τ : SM} (h : Inv τ) (p : Int32) : OKZ kB (cHold (gOf τ) p) (mHold τ p) := by
  unfold cHold mHold
  have hn := h.2.2.2.1
  rw [pal_eq hn]
  by_cases c : palM τ p = true
  · rw [if_pos c, if_pos c, gon_eq h, hel_eq h]
    have hP := pal_lt h c
    have hm := h.1.2.1 (pN p)
    by_cases c2 : (mGon τ (pN p) || decide (mMan τ (pN p) = 30)) = true
    · rw [if_pos c2, if_neg]
      · exact ok_noZ h rfl (by decide) (by decide) (by decide)
      · intro z
        rw [Bool.and_eq_true, Bool.not_eq_true', decide_eq_true_eq] at z
        rw [Bool.or_eq_true, decide_eq_true_eq] at c2
        have z2 : mMan τ (pN p) < 30 := z.2
        rcases c2 with q | q
        · rw [z.1] at q; cases q
        · omega
    · rw [if_neg c2]
      rw [Bool.or_eq_true, decide_eq_true_eq] at c2
      have u2 : mGon τ (pN p) = false := by
        cases q : mGon τ (pN p)
        · rfl
        · exact absurd (Or.inl q) c2
      have u3 : mMan τ (pN p) < 30 := by
        have : ¬ mMan τ (pN p) = 30 := fun q => c2 (Or.inr q)
        omega
      rw [if_pos (by rw [u2]; exact (Bool.and_eq_true _ _).mpr ⟨rfl, decide_eq_true u3⟩)]
      have h7 : hdK (mHel τ (pN p)) = 7 → ∃ b : Nat, b < 6 ∧ (0 : Int32) = nI b := fun z => by
        cases q : mHel τ (pN p) <;> rw [q] at z <;> exact absurd z (by decide)
      refine ok_goZ rfl rfl rfl (wr_eq (τ := mHold1 τ (pN p)) (hdK_lt _)) ?_
      exact ⟨B_hold h.1 hP u3 u2, h.2.1, C_app h.2.2.1 hP u3 (mkF_lt (h.2.2.2.2.1 (pN p))) h7, h.2.2.2⟩
  · rw [if_neg c, if_neg c]; exact ok_noZ h rfl (by decide) (by decide) (by decide)
