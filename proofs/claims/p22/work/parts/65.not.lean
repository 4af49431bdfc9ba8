/-! the claim doesn't hold at a start whose script is 170 zeros and where there is room for 200 new cells -/
def zs : List Int32 := List.replicate 170 0
theorem rep_0 : ∀ (n j : Nat), (List.replicate n (0 : Int32)).getD j 0 = 0
  | 0, _ => rfl
  | n + 1, 0 => rfl
  | n + 1, j + 1 => rep_0 n j
theorem zs_0 (j : Nat) : zs.getD j 0 = 0 := rep_0 170 j
set_option maxHeartbeats 4000000 in
theorem lw_walkM (l : Launch) (hflags : l.flags = flags0) (b : Addr) : MetFree l x (headSpec (Jvm.Cond.code x code maxLocals ret :: tables_1) R200) (lw_P b zs) (fun _ _ _ _ _ => True) (fun _ s _ t => s.heap.size + 156 ≤ t.heap.size) := by
  refine MetFree.of_bodyS (code := code) (maxLocals := maxLocals) (ret := ret) (by decide) ?_ ?_
  · intro args s m h hn
    obtain ⟨meth, c, h1, h2, h3, h4, h5, h6, -, -⟩ := Cond.code_spec hn (atoms_spec (ws := Jvm.Cond.code x code maxLocals ret :: tables_1) h _ List.mem_cons_self)
    exact ⟨meth, c, h1, h2, h3, h4, h5, h6⟩
  · intro p e s m args below meth c s₁ B hml0 hP _
    obtain ⟨rfl, hx, hbd, hgv⟩ := hP
    obtain ⟨scr, harrAt, hlist, hof, hsmall⟩ := hx
    obtain ⟨hcb, hkn, -, -⟩ := State.arrayAt?_spec harrAt
    have hown : s.vm.findClass R_law = some m.cls := findClass_of_methodNamed B.named
    have hts0 : ∀ c ∈ (Jvm.Cond.code x code maxLocals ret :: tables_1), c.before #[Value.ref b] s = true := atoms_spec (ws := Jvm.Cond.code x code maxLocals ret :: tables_1) B.pre
    have hts : ∀ w ∈ lw_tbl, w.before #[Value.ref b] s = true := k2_hts_sels lw_privs (fun w hw => hts0 w (List.mem_cons_of_mem _ hw)) lw_privs_ok
    have hml : c.maxLocals = 20 := B.maxLocals_eq (hts0 _ List.mem_cons_self)
    have X₀ : Stand p l e R200 s m #[Value.ref b] below meth c s₁ [] 0 0 := Stand.of_body B
    have hh0 : s₁.heap = s.heap := by rw [B.state]; rfl
    have hsz : scr.slots.size = zs.length := by rw [← Array.length_toList, hlist, List.length_map]
    have hval : ∀ j : Nat, j < zs.length → scr.slots[j]? = some (.int (zs.getD j 0)) := fun j hj => by
      rw [← Array.getElem?_toList, hlist]
      simp [hj]
    have hbl : b < s.heap.size := (Array.getElem?_eq_some_iff.mp hcb).1
    have hX : va_X b zs.length (fun j => zs.getD j 0) s s.heap := ⟨scr, hcb, hof, hkn, hsz, hval⟩
    have hlen : zs.length = 170 := List.length_replicate
    have K : W p l e R200 s m #[Value.ref b] below meth c s₁.heap [] 0 0 (lw_M below s) (entryFrame m ([Value.ref b] : List Value).toArray 20) := by
      rw [hh0]
      exact law_long l hflags (L := zs.length) (xs := fun j => zs.getD j 0) (by omega) (by omega) (fun j _ => zs_0 j) ⟨B.exec, B.bytes, B.returns, hml, hown, hts, hX, hbl, B.notSynchronized, hgv⟩
    obtain ⟨t, a1, o, b1, b2, b3⟩ := K s₁ rfl X₀
    exact ⟨t, o, a1, b1, b2, b3⟩
/-- at such a start the run ends with at least 156 new cells; the claim allows 147 -/
theorem p22_not (l : Launch) (hflags : l.flags = flags0) (p : Program) (e : Env) (s : State) (m : MethodId) (b : Addr) (below : List Frame)
    (hA : AtStart classFile x code maxLocals ret World_1 tables_1 room_1 Calls_1 rest_1 Pre_1 l p e s m #[.ref b] below)
    (hroom : (headSpec (Jvm.Cond.code x code maxLocals ret :: tables_1) R200).applies x e.platform s = true) (hz : s.IntsAt b zs) : ¬ Claimed_1_1 := by
  intro h
  obtain ⟨hLists, hW, hadm, hleast, hcas, hclock, hfr, hfit, hheap, happ, hcalls, hrest, hpre⟩ := hA
  obtain ⟨n1, o1, w1, r1, e1, q1⟩ := h l hflags hLists hW p e hadm hcas hclock s m #[.ref b] below hfr hfit hheap happ ⟨hcalls, hrest, hpre⟩
  obtain ⟨n2, o2, w2, r2, e2, q2⟩ := lw_walkM l hflags b p e hadm hcas hclock s m #[.ref b] below hfr ((Spec.applies_iff_loose hfr).mp hroom).1 ⟨rfl, hz, by rw [show zs.length = 170 from List.length_replicate]; decide, hpre⟩ trivial
  have hn : n1 = n2 := by
    rcases Nat.lt_trichotomy n1 n2 with z | z | z
    · exact absurd (w2 n1 z) e1.not_within
    · exact z
    · exact absurd (w1 n2 z) e2.not_within
  subst hn
  obtain ⟨-, -, -, hsame⟩ := q1
  have h3 := hsame.2.2.1
  have h4 : (stepsAlone p.tables e n1 s).heap.size ≤ s.heap.size + 147 := h3
  have h5 : s.heap.size + 156 ≤ (stepsAlone p.tables e n1 s).heap.size := q2
  omega
/-- .. nor, so, what is owed -/
theorem p22_not_owed (l : Launch) (hflags : l.flags = flags0) (p : Program) (e : Env) (s : State) (m : MethodId) (b : Addr) (below : List Frame)
    (hA : AtStart classFile x code maxLocals ret World_1 tables_1 room_1 Calls_1 rest_1 Pre_1 l p e s m #[.ref b] below)
    (hroom : (headSpec (Jvm.Cond.code x code maxLocals ret :: tables_1) R200).applies x e.platform s = true) (hz : s.IntsAt b zs) : ¬ (Claimed_1_1 ∧ Claimed_1_2) := fun h => p22_not l hflags p e s m b below hA hroom hz h.1
